/-! 367 act -/
set_option maxHeartbeats 4000000 in
theorem s367 {G : GH} {h : JH} (g : Gd G h) {a1 : Int} (la1 : (-2147483648) ≤ a1) (ua1 : a1 ≤ 2147483647) {a2 : Int} (la2 : (-2147483648) ≤ a2) (ua2 : a2 ≤ 2147483647) {a3 : Int} (la3 : (-2147483648) ≤ a3) (ua3 : a3 ≤ 2147483647) : jOk 10 0 0 367 [(2, 42), (0, a1), (0, a2), (0, a3)] h (PI G [(42, 61), (78, 0)] h 0 (-2147483648) 2147483647) := by
  refine ⟨by decide, by rw [ml367]; exact Nat.le_of_ble_eq_true rfl, ?_⟩
  rw [ml367, pp367]
  show jEv _ none _ c367_0 0 0 _ (c367_0, [(2, 42), (0, a1), (0, a2), (0, a3)], [], h, 0, 0)
  have k0 := Kp.rf [(42, 61), (78, 0)] h
  refine ev_aload_n rfl ?_
  refine ev_iconst ?_
  refine g_putf (r := 42) g ad42 (by decide) ft12_60 (by decide) (fun e => absurd e nz12_60) rf42_60 (by decide) (by omega) (by omega) (fun h51487 e51487 g51487 => ?_)
  have k51487 := k0.wr e51487 rfl
  refine ev_aload_n rfl ?_
  refine ev_iload_n rfl ?_
  refine ev_in (d := 8) (a := 0) (b := 0) (cd' := c284_0) (m := 2) (L0 := [(2, 42), (0, a1)]) (jcall_v (A := [(0, a1)]) (S' := []) (r := 42) rfl (g51487.lt ad42) (g51487.tg ad42) (Nat.le_of_ble_eq_true rfl)) (by decide) ml284 pp284 (Nat.le_of_ble_eq_true rfl) rfl (by decide) (by decide) ?_
  refine ev_iload_n rfl ?_
  refine ev_iconst ?_
  refine ev_aload_n rfl ?_
  obtain ⟨v51488, ev51488, lv51488, uv51488⟩ := g51487.rd ad42 (show 28 < 66 by decide) rf42_28
  refine g_getv (r := 42) (v := v51488) g51487 ad42 (by decide) ft12_28 ev51488 ?_
  refine ev_iconst ?_
  refine ev_isub (r := (v51488 - 1)) (by unfold w32; omega) ?_
  refine ev_in (d := 7) (a := 0) (b := 0) (cd' := c242_0) (m := 3) (L0 := [(0, a1), (0, 0), (0, (v51488 - 1))]) (jcall_s (A := [(0, (v51488 - 1)), (0, 0), (0, a1)]) (S' := []) (by decide) rfl (Nat.le_of_ble_eq_true rfl)) (by decide) ml242 pp242 (Nat.le_of_ble_eq_true rfl) rfl (by decide) (by decide) ?_
  refine ev_iload_n rfl ?_
  refine ev_iload_n rfl ?_
  refine ev_icmplt f242_14 (fun c51489 => ?_) (fun c51489 => ?_)
  · refine ev_iconst ?_
    refine ev_ret rfl (by decide) (by decide) ?_
    show jEv _ _ _ _ _ _ _ (_, [(2, 42), (0, a1)], [(0, 0)], _, _, _)
    refine ev_ret rfl (by decide) (by decide) ?_
    show jEv _ _ _ _ _ _ _ (_, [(2, 42), (0, a1), (0, a2), (0, a3)], [(0, 0)], _, _, _)
    refine ev_ifeq f367_22 (fun c51490 => ?_) (fun c51490 => absurd c51490 (by omega))
    refine ev_iconst ?_
    exact ev_ret rfl (by decide) (by decide) ⟨_, rfl, by omega, by omega, g51487, k51487⟩
  · refine ev_iload_n rfl ?_
    refine ev_iload_n rfl ?_
    refine ev_icmpgt f242_14 (fun c51491 => ?_) (fun c51491 => ?_)
    · refine ev_iconst ?_
      refine ev_ret rfl (by decide) (by decide) ?_
      show jEv _ _ _ _ _ _ _ (_, [(2, 42), (0, a1)], [(0, 0)], _, _, _)
      refine ev_ret rfl (by decide) (by decide) ?_
      show jEv _ _ _ _ _ _ _ (_, [(2, 42), (0, a1), (0, a2), (0, a3)], [(0, 0)], _, _, _)
      refine ev_ifeq f367_22 (fun c51492 => ?_) (fun c51492 => absurd c51492 (by omega))
      refine ev_iconst ?_
      exact ev_ret rfl (by decide) (by decide) ⟨_, rfl, by omega, by omega, g51487, k51487⟩
    · refine ev_iconst ?_
      refine ev_goto f242_15 ?_
      refine ev_ret rfl (by decide) (by decide) ?_
      show jEv _ _ _ _ _ _ _ (_, [(2, 42), (0, a1)], [(0, 1)], _, _, _)
      refine ev_ret rfl (by decide) (by decide) ?_
      show jEv _ _ _ _ _ _ _ (_, [(2, 42), (0, a1), (0, a2), (0, a3)], [(0, 1)], _, _, _)
      refine ev_ifeq f367_22 (fun c51493 => absurd c51493 (by omega)) (fun c51493 => ?_)
      refine ev_iload_n rfl ?_
      refine ev_iconst ?_
      refine ev_iconst ?_
      refine ev_in (d := 8) (a := 0) (b := 0) (cd' := c242_0) (m := 3) (L0 := [(0, a2), (0, 0), (0, 3)]) (jcall_s (A := [(0, 3), (0, 0), (0, a2)]) (S' := []) (by decide) rfl (Nat.le_of_ble_eq_true rfl)) (by decide) ml242 pp242 (Nat.le_of_ble_eq_true rfl) rfl (by decide) (by decide) ?_
      refine ev_iload_n rfl ?_
      refine ev_iload_n rfl ?_
      refine ev_icmplt f242_14 (fun c51494 => ?_) (fun c51494 => ?_)
      · refine ev_iconst ?_
        refine ev_ret rfl (by decide) (by decide) ?_
        show jEv _ _ _ _ _ _ _ (_, [(2, 42), (0, a1), (0, a2), (0, a3)], [(0, 0)], _, _, _)
        refine ev_ifne f367_24 (fun c51495 => absurd c51495 (by omega)) (fun c51495 => ?_)
        refine ev_iconst ?_
        exact ev_ret rfl (by decide) (by decide) ⟨_, rfl, by omega, by omega, g51487, k51487⟩
      · refine ev_iload_n rfl ?_
        refine ev_iload_n rfl ?_
        refine ev_icmpgt f242_14 (fun c51496 => ?_) (fun c51496 => ?_)
        · refine ev_iconst ?_
          refine ev_ret rfl (by decide) (by decide) ?_
          show jEv _ _ _ _ _ _ _ (_, [(2, 42), (0, a1), (0, a2), (0, a3)], [(0, 0)], _, _, _)
          refine ev_ifne f367_24 (fun c51497 => absurd c51497 (by omega)) (fun c51497 => ?_)
          refine ev_iconst ?_
          exact ev_ret rfl (by decide) (by decide) ⟨_, rfl, by omega, by omega, g51487, k51487⟩
        · refine ev_iconst ?_
          refine ev_goto f242_15 ?_
          refine ev_ret rfl (by decide) (by decide) ?_
          show jEv _ _ _ _ _ _ _ (_, [(2, 42), (0, a1), (0, a2), (0, a3)], [(0, 1)], _, _, _)
          refine ev_ifne f367_24 (fun c51498 => ?_) (fun c51498 => absurd c51498 (by omega))
          refine ev_iload_n rfl ?_
          refine ev_ifne f367_37 (fun c51499 => ?_) (fun c51499 => ?_)
          · refine ev_iload_n rfl ?_
            refine ev_iconst ?_
            refine ev_icmpne f367_51 (fun c51500 => ?_) (fun c51500 => ?_)
            · refine ev_iload_n rfl ?_
              refine ev_iconst ?_
              refine ev_icmpne f367_65 (fun c51501 => ?_) (fun c51501 => ?_)
              · refine ev_aload_n rfl ?_
                refine ev_iload_n rfl ?_
                refine ev_iload_n rfl ?_
                refine ev_call (jcall_v (A := [(0, a3), (0, a1)]) (S' := []) (r := 42) rfl (g51487.lt ad42) (g51487.tg ad42) (Nat.le_of_ble_eq_true rfl)) (jOk_le (by decide) (s366 g51487 (by omega) (by omega) (by omega) (by omega) ((jw_eq e51487)) (by omega) (by omega))) (by decide) (by decide) (fun w51502 h51502 q51502 => ?_)
                obtain ⟨q51502, fp51502⟩ := q51502
                obtain ⟨v51503, rfl, lv51503, uv51503, g51502, kk51502⟩ := q51502
                have k51502 := k51487.tr kk51502 (by decide)
                obtain ⟨v51504, ev51504, lv51504, uv51504⟩ := g51502.rd ad42 (show 60 < 66 by decide) rf42_60
                rw [ev51504] at fp51502
                show jEv _ _ _ _ _ _ _ (_, [(2, 42), (0, a1), (0, a2), (0, a3)], [(0, v51503)], _, _, _)
                exact ev_ret rfl (by decide) (by decide) ⟨_, rfl, by omega, by omega, g51502, k51502⟩
              · refine ev_aload_n rfl ?_
                refine ev_iload_n rfl ?_
                refine ev_iload_n rfl ?_
                refine ev_call (jcall_v (A := [(0, a3), (0, a1)]) (S' := []) (r := 42) rfl (g51487.lt ad42) (g51487.tg ad42) (Nat.le_of_ble_eq_true rfl)) (jOk_le (by decide) (s364 g51487 (by omega) (by omega) (by omega) (by omega) ((jw_eq e51487)) (by omega) (by omega))) (by decide) (by decide) (fun w51505 h51505 q51505 => ?_)
                obtain ⟨q51505, fp51505⟩ := q51505
                obtain ⟨v51506, rfl, lv51506, uv51506, g51505, kk51505⟩ := q51505
                have k51505 := k51487.tr kk51505 (by decide)
                obtain ⟨v51507, ev51507, lv51507, uv51507⟩ := g51505.rd ad42 (show 60 < 66 by decide) rf42_60
                rw [ev51507] at fp51505
                show jEv _ _ _ _ _ _ _ (_, [(2, 42), (0, a1), (0, a2), (0, a3)], [(0, v51506)], _, _, _)
                refine ev_goto f367_71 ?_
                exact ev_ret rfl (by decide) (by decide) ⟨_, rfl, by omega, by omega, g51505, k51505⟩
            · refine ev_aload_n rfl ?_
              refine ev_iload_n rfl ?_
              refine ev_iload_n rfl ?_
              refine ev_call (jcall_v (A := [(0, a3), (0, a1)]) (S' := []) (r := 42) rfl (g51487.lt ad42) (g51487.tg ad42) (Nat.le_of_ble_eq_true rfl)) (jOk_le (by decide) (s362 g51487 (by omega) (by omega) (by omega) (by omega) ((jw_eq e51487)) (by omega) (by omega))) (by decide) (by decide) (fun w51508 h51508 q51508 => ?_)
              obtain ⟨q51508, fp51508⟩ := q51508
              obtain ⟨v51509, rfl, lv51509, uv51509, g51508, kk51508⟩ := q51508
              have k51508 := k51487.tr kk51508 (by decide)
              obtain ⟨v51510, ev51510, lv51510, uv51510⟩ := g51508.rd ad42 (show 60 < 66 by decide) rf42_60
              rw [ev51510] at fp51508
              show jEv _ _ _ _ _ _ _ (_, [(2, 42), (0, a1), (0, a2), (0, a3)], [(0, v51509)], _, _, _)
              refine ev_goto f367_71 ?_
              exact ev_ret rfl (by decide) (by decide) ⟨_, rfl, by omega, by omega, g51508, k51508⟩
          · refine ev_aload_n rfl ?_
            refine ev_iload_n rfl ?_
            refine ev_iload_n rfl ?_
            refine ev_call (jcall_v (A := [(0, a3), (0, a1)]) (S' := []) (r := 42) rfl (g51487.lt ad42) (g51487.tg ad42) (Nat.le_of_ble_eq_true rfl)) (jOk_le (by decide) (s359 g51487 (by omega) (by omega) (by omega) (by omega) ((jw_eq e51487)) (by omega) (by omega))) (by decide) (by decide) (fun w51511 h51511 q51511 => ?_)
            obtain ⟨q51511, fp51511⟩ := q51511
            obtain ⟨v51512, rfl, lv51512, uv51512, g51511, kk51511⟩ := q51511
            have k51511 := k51487.tr kk51511 (by decide)
            obtain ⟨v51513, ev51513, lv51513, uv51513⟩ := g51511.rd ad42 (show 60 < 66 by decide) rf42_60
            rw [ev51513] at fp51511
            show jEv _ _ _ _ _ _ _ (_, [(2, 42), (0, a1), (0, a2), (0, a3)], [(0, v51512)], _, _, _)
            refine ev_goto f367_71 ?_
            exact ev_ret rfl (by decide) (by decide) ⟨_, rfl, by omega, by omega, g51511, k51511⟩
/-! 368 trace -/
set_option maxHeartbeats 4000000 in
theorem s368 {G : GH} {h : JH} (g : Gd G h) {a1 : Int} (la1 : (-2147483648) ≤ a1) (ua1 : a1 ≤ 2147483647) : jOk 1 0 0 368 [(2, 42), (0, a1)] h (PI G [] h 0 (-2147483648) 2147483647) := by
  refine ⟨by decide, by rw [ml368]; exact Nat.le_of_ble_eq_true rfl, ?_⟩
  rw [ml368, pp368]
  show jEv _ none _ c368_0 0 0 _ (c368_0, [(2, 42), (0, a1)], [], h, 0, 0)
  have k0 := Kp.rf [] h
  refine ev_iload_n rfl ?_
  refine ev_iflt f368_27 (fun c51524 => ?_) (fun c51524 => ?_)
  · refine ev_iconst ?_
    exact ev_ret rfl (by decide) (by decide) ⟨_, rfl, by omega, by omega, g, k0⟩
  · refine ev_iload_n rfl ?_
    refine ev_aload_n rfl ?_
    obtain ⟨v51525, ev51525, lv51525, uv51525⟩ := g.rd ad42 (show 60 < 66 by decide) rf42_60
    refine g_getv (r := 42) (v := v51525) g ad42 (by decide) ft12_60 ev51525 ?_
    refine ev_icmpge f368_27 (fun c51526 => ?_) (fun c51526 => ?_)
    · refine ev_iconst ?_
      exact ev_ret rfl (by decide) (by decide) ⟨_, rfl, by omega, by omega, g, k0⟩
    · refine ev_iload_n rfl ?_
      refine ev_bipush ?_
      refine ev_icmpge f368_27 (fun c51527 => ?_) (fun c51527 => ?_)
      · refine ev_iconst ?_
        exact ev_ret rfl (by decide) (by decide) ⟨_, rfl, by omega, by omega, g, k0⟩
      · refine ev_aload_n rfl ?_
        refine g_getp (r := 42) (c := 78) g ad42 (by decide) (by decide) rf42_61 ft12_61 ?_
        refine ev_iload_n rfl ?_
        refine g_iald g ad78 rt78 (by omega) (by omega) (fun v51528 ev51528 lv51528 uv51528 => ?_)
        refine ev_goto f368_28 ?_
        exact ev_ret rfl (by decide) (by decide) ⟨_, rfl, by omega, by omega, g, k0⟩
/-! 369 count -/
set_option maxHeartbeats 4000000 in
theorem s369 {G : GH} {h : JH} (g : Gd G h) {a1 : Int} (la1 : (-2147483648) ≤ a1) (ua1 : a1 ≤ 2147483647) : jOk 1 0 0 369 [(2, 42), (0, a1)] h (PI G [] h 0 (-1) 1000) := by
  refine ⟨by decide, by rw [ml369]; exact Nat.le_of_ble_eq_true rfl, ?_⟩
  rw [ml369, pp369]
  show jEv _ none _ c369_0 0 0 _ (c369_0, [(2, 42), (0, a1)], [], h, 0, 0)
  have k0 := Kp.rf [] h
  refine ev_iload_n rfl ?_
  rcases (show a1 = 0 ∨ a1 = 1 ∨ a1 = 2 ∨ a1 = 3 ∨ a1 = 4 ∨ a1 = 5 ∨ a1 < 0 ∨ 5 < a1 by omega) with c51543 | c51543 | c51543 | c51543 | c51543 | c51543 | c51543 | c51543
  · refine ev_sw (t := 40) (by rw [c51543]; decide) f369_40 ?_
    refine ev_aload_n rfl ?_
    obtain ⟨v51544, ev51544, lv51544, uv51544⟩ := g.rd ad42 (show 1 < 66 by decide) rf42_1
    refine g_getv (r := 42) (v := v51544) g ad42 (by decide) ft12_1 ev51544 ?_
    exact ev_ret rfl (by decide) (by decide) ⟨_, rfl, by omega, by omega, g, k0⟩
  · refine ev_sw (t := 45) (by rw [c51543]; decide) f369_45 ?_
    refine ev_aload_n rfl ?_
    obtain ⟨v51545, ev51545, lv51545, uv51545⟩ := g.rd ad42 (show 9 < 66 by decide) rf42_9
    refine g_getv (r := 42) (v := v51545) g ad42 (by decide) ft12_9 ev51545 ?_
    exact ev_ret rfl (by decide) (by decide) ⟨_, rfl, by omega, by omega, g, k0⟩
  · refine ev_sw (t := 50) (by rw [c51543]; decide) f369_50 ?_
    refine ev_aload_n rfl ?_
    obtain ⟨v51546, ev51546, lv51546, uv51546⟩ := g.rd ad42 (show 17 < 66 by decide) rf42_17
    refine g_getv (r := 42) (v := v51546) g ad42 (by decide) ft12_17 ev51546 ?_
    exact ev_ret rfl (by decide) (by decide) ⟨_, rfl, by omega, by omega, g, k0⟩
  · refine ev_sw (t := 55) (by rw [c51543]; decide) f369_55 ?_
    refine ev_aload_n rfl ?_
    obtain ⟨v51547, ev51547, lv51547, uv51547⟩ := g.rd ad42 (show 28 < 66 by decide) rf42_28
    refine g_getv (r := 42) (v := v51547) g ad42 (by decide) ft12_28 ev51547 ?_
    exact ev_ret rfl (by decide) (by decide) ⟨_, rfl, by omega, by omega, g, k0⟩
  · refine ev_sw (t := 60) (by rw [c51543]; decide) f369_60 ?_
    refine ev_aload_n rfl ?_
    obtain ⟨v51548, ev51548, lv51548, uv51548⟩ := g.rd ad42 (show 22 < 66 by decide) rf42_22
    refine g_getv (r := 42) (v := v51548) g ad42 (by decide) ft12_22 ev51548 ?_
    exact ev_ret rfl (by decide) (by decide) ⟨_, rfl, by omega, by omega, g, k0⟩
  · refine ev_sw (t := 65) (by rw [c51543]; decide) f369_65 ?_
    refine ev_aload_n rfl ?_
    obtain ⟨v51549, ev51549, lv51549, uv51549⟩ := g.rd ad42 (show 60 < 66 by decide) rf42_60
    refine g_getv (r := 42) (v := v51549) g ad42 (by decide) ft12_60 ev51549 ?_
    exact ev_ret rfl (by decide) (by decide) ⟨_, rfl, by omega, by omega, g, k0⟩
  · refine ev_sw (t := 70) (by rw [if_pos (show _ ∨ _ by omega)]; rfl) f369_70 ?_
    refine ev_iconst ?_
    exact ev_ret rfl (by decide) (by decide) ⟨_, rfl, by omega, by omega, g, k0⟩
  · refine ev_sw (t := 70) (by rw [if_pos (show _ ∨ _ by omega)]; rfl) f369_70 ?_
    refine ev_iconst ?_
    exact ev_ret rfl (by decide) (by decide) ⟨_, rfl, by omega, by omega, g, k0⟩
/-! 371 keep -/
set_option maxHeartbeats 4000000 in
theorem s371 {G : GH} {h : JH} (g : Gd G h) {a1 : Int} (la1 : (-2147483648) ≤ a1) (ua1 : a1 ≤ 2147483647) {a2 : Int} (la2 : (-2147483648) ≤ a2) (ua2 : a2 ≤ 2147483647) : jOk 3 0 0 371 [(2, 42), (0, a1), (0, a2)] h (PI G [(79, 0)] h 0 (-1) 1) := by
  refine ⟨by decide, by rw [ml371]; exact Nat.le_of_ble_eq_true rfl, ?_⟩
  rw [ml371, pp371]
  show jEv _ none _ c371_0 0 0 _ (c371_0, [(2, 42), (0, a1), (0, a2)], [], h, 0, 0)
  have k0 := Kp.rf [(79, 0)] h
  refine ev_iload_n rfl ?_
  refine ev_in (d := 1) (a := 0) (b := 0) (cd' := c370_0) (m := 1) (L0 := [(0, a1)]) (jcall_s (A := [(0, a1)]) (S' := []) (by decide) rfl (Nat.le_of_ble_eq_true rfl)) (by decide) ml370 pp370 (Nat.le_of_ble_eq_true rfl) rfl (by decide) (by decide) ?_
  refine ev_iload_n rfl ?_
  refine ev_iconst ?_
  refine ev_iconst ?_
  refine ev_in (d := 0) (a := 0) (b := 0) (cd' := c242_0) (m := 3) (L0 := [(0, a1), (0, 0), (0, 5)]) (jcall_s (A := [(0, 5), (0, 0), (0, a1)]) (S' := []) (by decide) rfl (Nat.le_of_ble_eq_true rfl)) (by decide) ml242 pp242 (Nat.le_of_ble_eq_true rfl) rfl (by decide) (by decide) ?_
  refine ev_iload_n rfl ?_
  refine ev_iload_n rfl ?_
  refine ev_icmplt f242_14 (fun c51578 => ?_) (fun c51578 => ?_)
  · refine ev_iconst ?_
    refine ev_ret rfl (by decide) (by decide) ?_
    show jEv _ _ _ _ _ _ _ (_, [(0, a1)], [(0, 0)], _, _, _)
    refine ev_ret rfl (by decide) (by decide) ?_
    show jEv _ _ _ _ _ _ _ (_, [(2, 42), (0, a1), (0, a2)], [(0, 0)], _, _, _)
    refine ev_ifeq f371_20 (fun c51579 => ?_) (fun c51579 => absurd c51579 (by omega))
    refine ev_iconst ?_
    exact ev_ret rfl (by decide) (by decide) ⟨_, rfl, by omega, by omega, g, k0⟩
  · refine ev_iload_n rfl ?_
    refine ev_iload_n rfl ?_
    refine ev_icmpgt f242_14 (fun c51580 => ?_) (fun c51580 => ?_)
    · refine ev_iconst ?_
      refine ev_ret rfl (by decide) (by decide) ?_
      show jEv _ _ _ _ _ _ _ (_, [(0, a1)], [(0, 0)], _, _, _)
      refine ev_ret rfl (by decide) (by decide) ?_
      show jEv _ _ _ _ _ _ _ (_, [(2, 42), (0, a1), (0, a2)], [(0, 0)], _, _, _)
      refine ev_ifeq f371_20 (fun c51581 => ?_) (fun c51581 => absurd c51581 (by omega))
      refine ev_iconst ?_
      exact ev_ret rfl (by decide) (by decide) ⟨_, rfl, by omega, by omega, g, k0⟩
    · refine ev_iconst ?_
      refine ev_goto f242_15 ?_
      refine ev_ret rfl (by decide) (by decide) ?_
      show jEv _ _ _ _ _ _ _ (_, [(0, a1)], [(0, 1)], _, _, _)
      refine ev_ret rfl (by decide) (by decide) ?_
      show jEv _ _ _ _ _ _ _ (_, [(2, 42), (0, a1), (0, a2)], [(0, 1)], _, _, _)
      refine ev_ifeq f371_20 (fun c51582 => absurd c51582 (by omega)) (fun c51582 => ?_)
      refine ev_iload_n rfl ?_
      refine ev_iconst ?_
      refine ev_icmpeq f371_22 (fun c51583 => ?_) (fun c51583 => ?_)
      · refine ev_aload_n rfl ?_
        refine g_getp (r := 42) (c := 79) g ad42 (by decide) (by decide) rf42_62 ft12_62 ?_
        refine ev_iload_n rfl ?_
        refine ev_iload_n rfl ?_
        refine g_iast g ad79 rt79 (fun _ => rfl) (by omega) (by omega) (by omega) (by omega) (fun h51584 e51584 g51584 => ?_)
        have k51584 := k0.wr e51584 rfl
        refine ev_iconst ?_
        exact ev_ret rfl (by decide) (by decide) ⟨_, rfl, by omega, by omega, g51584, k51584⟩
      · refine ev_aload_n rfl ?_
        refine ev_iload_n rfl ?_
        refine ev_in (d := 1) (a := 0) (b := 0) (cd' := c284_0) (m := 2) (L0 := [(2, 42), (0, a2)]) (jcall_v (A := [(0, a2)]) (S' := []) (r := 42) rfl (g.lt ad42) (g.tg ad42) (Nat.le_of_ble_eq_true rfl)) (by decide) ml284 pp284 (Nat.le_of_ble_eq_true rfl) rfl (by decide) (by decide) ?_
        refine ev_iload_n rfl ?_
        refine ev_iconst ?_
        refine ev_aload_n rfl ?_
        obtain ⟨v51585, ev51585, lv51585, uv51585⟩ := g.rd ad42 (show 28 < 66 by decide) rf42_28
        refine g_getv (r := 42) (v := v51585) g ad42 (by decide) ft12_28 ev51585 ?_
        refine ev_iconst ?_
        refine ev_isub (r := (v51585 - 1)) (by unfold w32; omega) ?_
        refine ev_in (d := 0) (a := 0) (b := 0) (cd' := c242_0) (m := 3) (L0 := [(0, a2), (0, 0), (0, (v51585 - 1))]) (jcall_s (A := [(0, (v51585 - 1)), (0, 0), (0, a2)]) (S' := []) (by decide) rfl (Nat.le_of_ble_eq_true rfl)) (by decide) ml242 pp242 (Nat.le_of_ble_eq_true rfl) rfl (by decide) (by decide) ?_
        refine ev_iload_n rfl ?_
        refine ev_iload_n rfl ?_
        refine ev_icmplt f242_14 (fun c51586 => ?_) (fun c51586 => ?_)
        · refine ev_iconst ?_
          refine ev_ret rfl (by decide) (by decide) ?_
          show jEv _ _ _ _ _ _ _ (_, [(2, 42), (0, a2)], [(0, 0)], _, _, _)
          refine ev_ret rfl (by decide) (by decide) ?_
          show jEv _ _ _ _ _ _ _ (_, [(2, 42), (0, a1), (0, a2)], [(0, 0)], _, _, _)
          refine ev_ifne f371_22 (fun c51587 => absurd c51587 (by omega)) (fun c51587 => ?_)
          refine ev_iconst ?_
          exact ev_ret rfl (by decide) (by decide) ⟨_, rfl, by omega, by omega, g, k0⟩
        · refine ev_iload_n rfl ?_
          refine ev_iload_n rfl ?_
          refine ev_icmpgt f242_14 (fun c51588 => ?_) (fun c51588 => ?_)
          · refine ev_iconst ?_
            refine ev_ret rfl (by decide) (by decide) ?_
            show jEv _ _ _ _ _ _ _ (_, [(2, 42), (0, a2)], [(0, 0)], _, _, _)
            refine ev_ret rfl (by decide) (by decide) ?_
            show jEv _ _ _ _ _ _ _ (_, [(2, 42), (0, a1), (0, a2)], [(0, 0)], _, _, _)
            refine ev_ifne f371_22 (fun c51589 => absurd c51589 (by omega)) (fun c51589 => ?_)
            refine ev_iconst ?_
            exact ev_ret rfl (by decide) (by decide) ⟨_, rfl, by omega, by omega, g, k0⟩
          · refine ev_iconst ?_
            refine ev_goto f242_15 ?_
            refine ev_ret rfl (by decide) (by decide) ?_
            show jEv _ _ _ _ _ _ _ (_, [(2, 42), (0, a2)], [(0, 1)], _, _, _)
            refine ev_ret rfl (by decide) (by decide) ?_
            show jEv _ _ _ _ _ _ _ (_, [(2, 42), (0, a1), (0, a2)], [(0, 1)], _, _, _)
            refine ev_ifne f371_22 (fun c51590 => ?_) (fun c51590 => absurd c51590 (by omega))
            refine ev_aload_n rfl ?_
            refine g_getp (r := 42) (c := 79) g ad42 (by decide) (by decide) rf42_62 ft12_62 ?_
            refine ev_iload_n rfl ?_
            refine ev_iload_n rfl ?_
            refine g_iast g ad79 rt79 (fun _ => rfl) (by omega) (by omega) (by omega) (by omega) (fun h51591 e51591 g51591 => ?_)
            have k51591 := k0.wr e51591 rfl
            refine ev_iconst ?_
            exact ev_ret rfl (by decide) (by decide) ⟨_, rfl, by omega, by omega, g51591, k51591⟩
/-! 372 row -/
set_option maxHeartbeats 4000000 in
theorem s372_l {G : GH} {h : JH} {a1 : Int} (la1 : (-2147483648) ≤ a1) (ua1 : a1 ≤ 2147483647) {a2 : Int} (la2 : (-2147483648) ≤ a2) (ua2 : a2 ≤ 2147483647) {a3 : Int} (la3 : (-2147483648) ≤ a3) (ua3 : a3 ≤ 2147483647) : ∀ N : Nat, (∀ (h1 : JH) (x4 : Int), Gd G h1 → Kp [(79, 0), (80, 0), (81, 0)] h h1 → 0 ≤ a1 → a1 ≤ 5 → 0 ≤ a2 → a2 ≤ 4 → 0 ≤ a3 → a3 ≤ 60 → 0 ≤ x4 → x4 ≤ 360 → ((-x4) + 360) < N → jEv (jOk 2) none (fun _ => 0) c372_0 0 0 (PI G [(79, 0), (80, 0), (81, 0)] h 0 (-14) 1) (c372_54, [(2, 42), (0, a1), (0, a2), (0, a3), (0, x4)], [], h1, 0, 0)) := by
  intro N
  induction N with
  | zero => exact fun h1 x4 g1 k1 b0 b1 b2 b3 b4 b5 b6 b7 hm => absurd hm (by omega)
  | succ N ih =>
    show _
    intro h1 x4 g1 k1 b0 b1 b2 b3 b4 b5 b6 b7 hm
    refine ev_iload rfl ?_
    refine ev_bipush ?_
    refine ev_iload_n rfl ?_
    refine ev_imul (r := (60 * a1)) (by unfold w32; omega) ?_
    refine ev_bipush ?_
    refine ev_iadd (r := (60 * a1 + 60)) (by unfold w32; omega) ?_
    refine ev_icmpge f372_80 (fun c51638 => ?_) (fun c51638 => ?_)
    · refine ev_iconst ?_
      exact ev_ret rfl (by decide) (by decide) ⟨_, rfl, by omega, by omega, g1, k1⟩
    · refine ev_aload_n rfl ?_
      refine g_getp (r := 42) (c := 81) g1 ad42 (by decide) (by decide) rf42_64 ft12_64 ?_
      refine ev_iload rfl ?_
      refine ev_lconst ?_
      refine g_last g1 ad81 rt81 (fun _ => rfl) (by omega) (by omega) (by omega) (by omega) (fun h51639 e51639 g51639 => ?_)
      have k51639 := k1.wr e51639 rfl
      refine ev_iinc (w := (x4 + 1)) (L' := [(2, 42), (0, a1), (0, a2), (0, a3), (0, (x4 + 1))]) rfl (by unfold w32; omega) rfl ?_
      refine ev_goto f372_54 ?_
      exact ih _ _ g51639 k51639 (by omega) (by omega) (by omega) (by omega) (by omega) (by omega) (by omega) (by omega) (by omega)
set_option maxHeartbeats 4000000 in
theorem s372 {G : GH} {h : JH} (g : Gd G h) {a1 : Int} (la1 : (-2147483648) ≤ a1) (ua1 : a1 ≤ 2147483647) {a2 : Int} (la2 : (-2147483648) ≤ a2) (ua2 : a2 ≤ 2147483647) {a3 : Int} (la3 : (-2147483648) ≤ a3) (ua3 : a3 ≤ 2147483647) : jOk 3 0 0 372 [(2, 42), (0, a1), (0, a2), (0, a3)] h (PI G [(79, 0), (80, 0), (81, 0)] h 0 (-14) 1) := by
  refine ⟨by decide, by rw [ml372]; exact Nat.le_of_ble_eq_true rfl, ?_⟩
  rw [ml372, pp372]
  show jEv _ none _ c372_0 0 0 _ (c372_0, [(2, 42), (0, a1), (0, a2), (0, a3), (9, 0)], [], h, 0, 0)
  have k0 := Kp.rf [(79, 0), (80, 0), (81, 0)] h
  refine ev_iload_n rfl ?_
  refine ev_in (d := 1) (a := 0) (b := 0) (cd' := c370_0) (m := 1) (L0 := [(0, a1)]) (jcall_s (A := [(0, a1)]) (S' := []) (by decide) rfl (Nat.le_of_ble_eq_true rfl)) (by decide) ml370 pp370 (Nat.le_of_ble_eq_true rfl) rfl (by decide) (by decide) ?_
  refine ev_iload_n rfl ?_
  refine ev_iconst ?_
  refine ev_iconst ?_
  refine ev_in (d := 0) (a := 0) (b := 0) (cd' := c242_0) (m := 3) (L0 := [(0, a1), (0, 0), (0, 5)]) (jcall_s (A := [(0, 5), (0, 0), (0, a1)]) (S' := []) (by decide) rfl (Nat.le_of_ble_eq_true rfl)) (by decide) ml242 pp242 (Nat.le_of_ble_eq_true rfl) rfl (by decide) (by decide) ?_
  refine ev_iload_n rfl ?_
  refine ev_iload_n rfl ?_
  refine ev_icmplt f242_14 (fun c51640 => ?_) (fun c51640 => ?_)
  · refine ev_iconst ?_
    refine ev_ret rfl (by decide) (by decide) ?_
    show jEv _ _ _ _ _ _ _ (_, [(0, a1)], [(0, 0)], _, _, _)
    refine ev_ret rfl (by decide) (by decide) ?_
    show jEv _ _ _ _ _ _ _ (_, [(2, 42), (0, a1), (0, a2), (0, a3), (9, 0)], [(0, 0)], _, _, _)
    refine ev_ifeq f372_22 (fun c51641 => ?_) (fun c51641 => absurd c51641 (by omega))
    refine ev_iconst ?_
    exact ev_ret rfl (by decide) (by decide) ⟨_, rfl, by omega, by omega, g, k0⟩
  · refine ev_iload_n rfl ?_
    refine ev_iload_n rfl ?_
    refine ev_icmpgt f242_14 (fun c51642 => ?_) (fun c51642 => ?_)
    · refine ev_iconst ?_
      refine ev_ret rfl (by decide) (by decide) ?_
      show jEv _ _ _ _ _ _ _ (_, [(0, a1)], [(0, 0)], _, _, _)
      refine ev_ret rfl (by decide) (by decide) ?_
      show jEv _ _ _ _ _ _ _ (_, [(2, 42), (0, a1), (0, a2), (0, a3), (9, 0)], [(0, 0)], _, _, _)
      refine ev_ifeq f372_22 (fun c51643 => ?_) (fun c51643 => absurd c51643 (by omega))
      refine ev_iconst ?_
      exact ev_ret rfl (by decide) (by decide) ⟨_, rfl, by omega, by omega, g, k0⟩
    · refine ev_iconst ?_
      refine ev_goto f242_15 ?_
      refine ev_ret rfl (by decide) (by decide) ?_
      show jEv _ _ _ _ _ _ _ (_, [(0, a1)], [(0, 1)], _, _, _)
      refine ev_ret rfl (by decide) (by decide) ?_
      show jEv _ _ _ _ _ _ _ (_, [(2, 42), (0, a1), (0, a2), (0, a3), (9, 0)], [(0, 1)], _, _, _)
      refine ev_ifeq f372_22 (fun c51644 => absurd c51644 (by omega)) (fun c51644 => ?_)
      refine ev_iload_n rfl ?_
      refine ev_iconst ?_
      refine ev_iconst ?_
      refine ev_in (d := 1) (a := 0) (b := 0) (cd' := c242_0) (m := 3) (L0 := [(0, a2), (0, 0), (0, 4)]) (jcall_s (A := [(0, 4), (0, 0), (0, a2)]) (S' := []) (by decide) rfl (Nat.le_of_ble_eq_true rfl)) (by decide) ml242 pp242 (Nat.le_of_ble_eq_true rfl) rfl (by decide) (by decide) ?_
      refine ev_iload_n rfl ?_
      refine ev_iload_n rfl ?_
      refine ev_icmplt f242_14 (fun c51645 => ?_) (fun c51645 => ?_)
      · refine ev_iconst ?_
        refine ev_ret rfl (by decide) (by decide) ?_
        show jEv _ _ _ _ _ _ _ (_, [(2, 42), (0, a1), (0, a2), (0, a3), (9, 0)], [(0, 0)], _, _, _)
        refine ev_ifeq f372_22 (fun c51646 => ?_) (fun c51646 => absurd c51646 (by omega))
        refine ev_iconst ?_
        exact ev_ret rfl (by decide) (by decide) ⟨_, rfl, by omega, by omega, g, k0⟩
      · refine ev_iload_n rfl ?_
        refine ev_iload_n rfl ?_
        refine ev_icmpgt f242_14 (fun c51647 => ?_) (fun c51647 => ?_)
        · refine ev_iconst ?_
          refine ev_ret rfl (by decide) (by decide) ?_
          show jEv _ _ _ _ _ _ _ (_, [(2, 42), (0, a1), (0, a2), (0, a3), (9, 0)], [(0, 0)], _, _, _)
          refine ev_ifeq f372_22 (fun c51648 => ?_) (fun c51648 => absurd c51648 (by omega))
          refine ev_iconst ?_
          exact ev_ret rfl (by decide) (by decide) ⟨_, rfl, by omega, by omega, g, k0⟩
        · refine ev_iconst ?_
          refine ev_goto f242_15 ?_
          refine ev_ret rfl (by decide) (by decide) ?_
          show jEv _ _ _ _ _ _ _ (_, [(2, 42), (0, a1), (0, a2), (0, a3), (9, 0)], [(0, 1)], _, _, _)
          refine ev_ifeq f372_22 (fun c51649 => absurd c51649 (by omega)) (fun c51649 => ?_)
          refine ev_iload_n rfl ?_
          refine ev_bipush ?_
          refine ev_icmple f372_24 (fun c51650 => ?_) (fun c51650 => ?_)
          · refine ev_iload_n rfl ?_
            refine ev_ifge f372_31 (fun c51651 => ?_) (fun c51651 => ?_)
            · refine ev_aload_n rfl ?_
              refine g_getp (r := 42) (c := 79) g ad42 (by decide) (by decide) rf42_62 ft12_62 ?_
              refine ev_iload_n rfl ?_
              refine ev_bipush ?_
              refine ev_iload_n rfl ?_
              refine ev_isub (r := ((-a2) - 2)) (by unfold w32; omega) ?_
              refine g_iast g ad79 rt79 (fun _ => rfl) (by omega) (by omega) (by omega) (by omega) (fun h51652 e51652 g51652 => ?_)
              have k51652 := k0.wr e51652 rfl
              refine ev_aload_n rfl ?_
              refine g_getp (r := 42) (c := 80) g51652 ad42 (by decide) (by decide) rf42_63 ft12_63 ?_
              refine ev_iload_n rfl ?_
              refine ev_iload_n rfl ?_
              refine g_iast g51652 ad80 rt80 (fun _ => rfl) (by omega) (by omega) (by omega) (by omega) (fun h51653 e51653 g51653 => ?_)
              have k51653 := k51652.wr e51653 rfl
              refine ev_bipush ?_
              refine ev_iload_n rfl ?_
              refine ev_imul (r := (60 * a1)) (by unfold w32; omega) ?_
              refine ev_istore (L' := [(2, 42), (0, a1), (0, a2), (0, a3), (0, (60 * a1))]) (Nat.le_of_ble_eq_true rfl) rfl ?_
              exact (s372_l la1 ua1 la2 ua2 la3 ua3 722) _ _ g51653 k51653 (by omega) (by omega) (by omega) (by omega) (by omega) (by omega) (by omega) (by omega) (by omega)
            · refine ev_bipush ?_
              exact ev_ret rfl (by decide) (by decide) ⟨_, rfl, by omega, by omega, g, k0⟩
          · refine ev_iconst ?_
            exact ev_ret rfl (by decide) (by decide) ⟨_, rfl, by omega, by omega, g, k0⟩
/-! 374 put -/
set_option maxHeartbeats 4000000 in
theorem s374 {G : GH} {h : JH} (g : Gd G h) {a1 : Int} (la1 : (-2147483648) ≤ a1) (ua1 : a1 ≤ 2147483647) {a2 : Int} (la2 : (-2147483648) ≤ a2) (ua2 : a2 ≤ 2147483647) {a3 : Int} (la3 : (-9223372036854775808) ≤ a3) (ua3 : a3 ≤ 9223372036854775807) : jOk 4 0 0 374 [(2, 42), (0, a1), (0, a2), (1, a3)] h (PI G [(81, 0)] h 0 (-13) 1) := by
  refine ⟨by decide, by rw [ml374]; exact Nat.le_of_ble_eq_true rfl, ?_⟩
  rw [ml374, pp374]
  show jEv _ none _ c374_0 0 0 _ (c374_0, [(2, 42), (0, a1), (0, a2), (1, a3), (9, 0), (9, 0), (9, 0)], [], h, 0, 0)
  have k0 := Kp.rf [(81, 0)] h
  refine ev_aload_n rfl ?_
  refine ev_iload_n rfl ?_
  refine ev_iload_n rfl ?_
  refine ev_in (d := 2) (a := 0) (b := 0) (cd' := c373_0) (m := 3) (L0 := [(2, 42), (0, a1), (0, a2)]) (jcall_v (A := [(0, a2), (0, a1)]) (S' := []) (r := 42) rfl (g.lt ad42) (g.tg ad42) (Nat.le_of_ble_eq_true rfl)) (by decide) ml373 pp373 (Nat.le_of_ble_eq_true rfl) rfl (by decide) (by decide) ?_
  refine ev_iload_n rfl ?_
  refine ev_in (d := 1) (a := 0) (b := 0) (cd' := c370_0) (m := 1) (L0 := [(0, a1)]) (jcall_s (A := [(0, a1)]) (S' := []) (by decide) rfl (Nat.le_of_ble_eq_true rfl)) (by decide) ml370 pp370 (Nat.le_of_ble_eq_true rfl) rfl (by decide) (by decide) ?_
  refine ev_iload_n rfl ?_
  refine ev_iconst ?_
  refine ev_iconst ?_
  refine ev_in (d := 0) (a := 0) (b := 0) (cd' := c242_0) (m := 3) (L0 := [(0, a1), (0, 0), (0, 5)]) (jcall_s (A := [(0, 5), (0, 0), (0, a1)]) (S' := []) (by decide) rfl (Nat.le_of_ble_eq_true rfl)) (by decide) ml242 pp242 (Nat.le_of_ble_eq_true rfl) rfl (by decide) (by decide) ?_
  refine ev_iload_n rfl ?_
  refine ev_iload_n rfl ?_
  refine ev_icmplt f242_14 (fun c51728 => ?_) (fun c51728 => ?_)
  · refine ev_iconst ?_
    refine ev_ret rfl (by decide) (by decide) ?_
    show jEv _ _ _ _ _ _ _ (_, [(0, a1)], [(0, 0)], _, _, _)
    refine ev_ret rfl (by decide) (by decide) ?_
    show jEv _ _ _ _ _ _ _ (_, [(2, 42), (0, a1), (0, a2)], [(0, 0)], _, _, _)
    refine ev_ifne f373_9 (fun c51729 => absurd c51729 (by omega)) (fun c51729 => ?_)
    refine ev_iconst ?_
    refine ev_ret rfl (by decide) (by decide) ?_
    show jEv _ _ _ _ _ _ _ (_, [(2, 42), (0, a1), (0, a2), (1, a3), (9, 0), (9, 0), (9, 0)], [(0, (-1))], _, _, _)
    refine ev_istore (L' := [(2, 42), (0, a1), (0, a2), (1, a3), (9, 0), (0, (-1)), (9, 0)]) (Nat.le_of_ble_eq_true rfl) rfl ?_
    refine ev_iload rfl ?_
    refine ev_ifge f374_16 (fun c51730 => absurd c51730 (by omega)) (fun c51730 => ?_)
    refine ev_iload rfl ?_
    exact ev_ret rfl (by decide) (by decide) ⟨_, rfl, by omega, by omega, g, k0⟩
  · refine ev_iload_n rfl ?_
    refine ev_iload_n rfl ?_
    refine ev_icmpgt f242_14 (fun c51731 => ?_) (fun c51731 => ?_)
    · refine ev_iconst ?_
      refine ev_ret rfl (by decide) (by decide) ?_
      show jEv _ _ _ _ _ _ _ (_, [(0, a1)], [(0, 0)], _, _, _)
      refine ev_ret rfl (by decide) (by decide) ?_
      show jEv _ _ _ _ _ _ _ (_, [(2, 42), (0, a1), (0, a2)], [(0, 0)], _, _, _)
      refine ev_ifne f373_9 (fun c51732 => absurd c51732 (by omega)) (fun c51732 => ?_)
      refine ev_iconst ?_
      refine ev_ret rfl (by decide) (by decide) ?_
      show jEv _ _ _ _ _ _ _ (_, [(2, 42), (0, a1), (0, a2), (1, a3), (9, 0), (9, 0), (9, 0)], [(0, (-1))], _, _, _)
      refine ev_istore (L' := [(2, 42), (0, a1), (0, a2), (1, a3), (9, 0), (0, (-1)), (9, 0)]) (Nat.le_of_ble_eq_true rfl) rfl ?_
      refine ev_iload rfl ?_
      refine ev_ifge f374_16 (fun c51733 => absurd c51733 (by omega)) (fun c51733 => ?_)
      refine ev_iload rfl ?_
      exact ev_ret rfl (by decide) (by decide) ⟨_, rfl, by omega, by omega, g, k0⟩
    · refine ev_iconst ?_
      refine ev_goto f242_15 ?_
      refine ev_ret rfl (by decide) (by decide) ?_
      show jEv _ _ _ _ _ _ _ (_, [(0, a1)], [(0, 1)], _, _, _)
      refine ev_ret rfl (by decide) (by decide) ?_
      show jEv _ _ _ _ _ _ _ (_, [(2, 42), (0, a1), (0, a2)], [(0, 1)], _, _, _)
      refine ev_ifne f373_9 (fun c51734 => ?_) (fun c51734 => absurd c51734 (by omega))
      refine ev_aload_n rfl ?_
      refine g_getp (r := 42) (c := 79) g ad42 (by decide) (by decide) rf42_62 ft12_62 ?_
      refine ev_iload_n rfl ?_
      refine g_iald g ad79 rt79 (by omega) (by omega) (fun v51735 ev51735 lv51735 uv51735 => ?_)
      refine ev_iconst ?_
      refine ev_icmpne f373_22 (fun c51736 => ?_) (fun c51736 => ?_)
      · refine ev_aload_n rfl ?_
        refine g_getp (r := 42) (c := 79) g ad42 (by decide) (by decide) rf42_62 ft12_62 ?_
        refine ev_iload_n rfl ?_
        refine g_ialdv (v := v51735) g ad79 (by omega) (by omega) (ev51735) ?_
        refine ev_iflt f373_34 (fun c51737 => ?_) (fun c51737 => ?_)
        · refine ev_iload_n rfl ?_
          refine ev_iconst ?_
          refine ev_aload_n rfl ?_
          refine g_getp (r := 42) (c := 80) g ad42 (by decide) (by decide) rf42_63 ft12_63 ?_
          refine ev_iload_n rfl ?_
          refine g_iald g ad80 rt80 (by omega) (by omega) (fun v51738 ev51738 lv51738 uv51738 => ?_)
          refine ev_iconst ?_
          refine ev_isub (r := (v51738 - 1)) (by unfold w32; omega) ?_
          refine ev_in (d := 1) (a := 0) (b := 0) (cd' := c242_0) (m := 3) (L0 := [(0, a2), (0, 0), (0, (v51738 - 1))]) (jcall_s (A := [(0, (v51738 - 1)), (0, 0), (0, a2)]) (S' := []) (by decide) rfl (Nat.le_of_ble_eq_true rfl)) (by decide) ml242 pp242 (Nat.le_of_ble_eq_true rfl) rfl (by decide) (by decide) ?_
          refine ev_iload_n rfl ?_
          refine ev_iload_n rfl ?_
          refine ev_icmplt f242_14 (fun c51739 => ?_) (fun c51739 => ?_)
          · refine ev_iconst ?_
            refine ev_ret rfl (by decide) (by decide) ?_
            show jEv _ _ _ _ _ _ _ (_, [(2, 42), (0, a1), (0, a2)], [(0, 0)], _, _, _)
            refine ev_ifeq f373_54 (fun c51740 => ?_) (fun c51740 => absurd c51740 (by omega))
            refine ev_bipush ?_
            refine ev_ret rfl (by decide) (by decide) ?_
            show jEv _ _ _ _ _ _ _ (_, [(2, 42), (0, a1), (0, a2), (1, a3), (9, 0), (9, 0), (9, 0)], [(0, (-13))], _, _, _)
            refine ev_istore (L' := [(2, 42), (0, a1), (0, a2), (1, a3), (9, 0), (0, (-13)), (9, 0)]) (Nat.le_of_ble_eq_true rfl) rfl ?_
            refine ev_iload rfl ?_
            refine ev_ifge f374_16 (fun c51741 => absurd c51741 (by omega)) (fun c51741 => ?_)
            refine ev_iload rfl ?_
            exact ev_ret rfl (by decide) (by decide) ⟨_, rfl, by omega, by omega, g, k0⟩
          · refine ev_iload_n rfl ?_
            refine ev_iload_n rfl ?_
            refine ev_icmpgt f242_14 (fun c51742 => ?_) (fun c51742 => ?_)
            · refine ev_iconst ?_
              refine ev_ret rfl (by decide) (by decide) ?_
              show jEv _ _ _ _ _ _ _ (_, [(2, 42), (0, a1), (0, a2)], [(0, 0)], _, _, _)
              refine ev_ifeq f373_54 (fun c51743 => ?_) (fun c51743 => absurd c51743 (by omega))
              refine ev_bipush ?_
              refine ev_ret rfl (by decide) (by decide) ?_
              show jEv _ _ _ _ _ _ _ (_, [(2, 42), (0, a1), (0, a2), (1, a3), (9, 0), (9, 0), (9, 0)], [(0, (-13))], _, _, _)
              refine ev_istore (L' := [(2, 42), (0, a1), (0, a2), (1, a3), (9, 0), (0, (-13)), (9, 0)]) (Nat.le_of_ble_eq_true rfl) rfl ?_
              refine ev_iload rfl ?_
              refine ev_ifge f374_16 (fun c51744 => absurd c51744 (by omega)) (fun c51744 => ?_)
              refine ev_iload rfl ?_
              exact ev_ret rfl (by decide) (by decide) ⟨_, rfl, by omega, by omega, g, k0⟩
            · refine ev_iconst ?_
              refine ev_goto f242_15 ?_
              refine ev_ret rfl (by decide) (by decide) ?_
              show jEv _ _ _ _ _ _ _ (_, [(2, 42), (0, a1), (0, a2)], [(0, 1)], _, _, _)
              refine ev_ifeq f373_54 (fun c51745 => absurd c51745 (by omega)) (fun c51745 => ?_)
              refine ev_iconst ?_
              refine ev_goto f373_56 ?_
              refine ev_ret rfl (by decide) (by decide) ?_
              show jEv _ _ _ _ _ _ _ (_, [(2, 42), (0, a1), (0, a2), (1, a3), (9, 0), (9, 0), (9, 0)], [(0, 0)], _, _, _)
              refine ev_istore (L' := [(2, 42), (0, a1), (0, a2), (1, a3), (9, 0), (0, 0), (9, 0)]) (Nat.le_of_ble_eq_true rfl) rfl ?_
              refine ev_iload rfl ?_
              refine ev_ifge f374_16 (fun c51746 => ?_) (fun c51746 => absurd c51746 (by omega))
              refine ev_bipush ?_
              refine ev_aload_n rfl ?_
              refine g_getp (r := 42) (c := 79) g ad42 (by decide) (by decide) rf42_62 ft12_62 ?_
              refine ev_iload_n rfl ?_
              refine g_ialdv (v := v51735) g ad79 (by omega) (by omega) (ev51735) ?_
              refine ev_isub (r := ((-v51735) - 2)) (by unfold w32; omega) ?_
              refine ev_istore (L' := [(2, 42), (0, a1), (0, a2), (1, a3), (9, 0), (0, 0), (0, ((-v51735) - 2))]) (Nat.le_of_ble_eq_true rfl) rfl ?_
              refine ev_aload_n rfl ?_
              refine g_getp (r := 42) (c := 81) g ad42 (by decide) (by decide) rf42_64 ft12_64 ?_
              refine ev_bipush ?_
              refine ev_iload_n rfl ?_
              refine ev_imul (r := (60 * a1)) (by unfold w32; omega) ?_
              refine ev_iload_n rfl ?_
              refine ev_iadd (r := (60 * a1 + a2)) (by unfold w32; omega) ?_
              refine ev_iload rfl ?_
              refine ev_ifne f374_49 (fun c51747 => ?_) (fun c51747 => ?_)
              · refine ev_iload rfl ?_
                refine ev_iconst ?_
                refine ev_icmpne f374_62 (fun c51748 => ?_) (fun c51748 => ?_)
                · refine ev_iload rfl ?_
                  refine ev_iconst ?_
                  refine ev_icmpne f374_74 (fun c51749 => ?_) (fun c51749 => ?_)
                  · refine ev_iload rfl ?_
                    refine ev_iconst ?_
                    refine ev_icmpne f374_84 (fun c51750 => ?_) (fun c51750 => ?_)
                    · refine ev_lload_n rfl ?_
                      refine ev_lconst ?_
                      refine ev_lcmp ?_
                      refine ev_ifeq f374_94 (fun c51751 => ?_) (fun c51751 => ?_)
                      · have c51751b := jcmpL_eq c51751
                        refine ev_lconst ?_
                        refine g_last g ad81 rt81 (fun _ => rfl) (by omega) (by omega) (by omega) (by omega) (fun h51752 e51752 g51752 => ?_)
                        have k51752 := k0.wr e51752 rfl
                        refine ev_iconst ?_
                        exact ev_ret rfl (by decide) (by decide) ⟨_, rfl, by omega, by omega, g51752, k51752⟩
                      · have c51751b := jcmpL_eqN c51751
                        refine ev_lconst ?_
                        refine ev_goto f374_95 ?_
                        refine g_last g ad81 rt81 (fun _ => rfl) (by omega) (by omega) (by omega) (by omega) (fun h51753 e51753 g51753 => ?_)
                        have k51753 := k0.wr e51753 rfl
                        refine ev_iconst ?_
                        exact ev_ret rfl (by decide) (by decide) ⟨_, rfl, by omega, by omega, g51753, k51753⟩
                    · refine ev_lload_n rfl ?_
                      refine ev_goto f374_95 ?_
                      refine g_last g ad81 rt81 (fun _ => rfl) (by omega) (by omega) (by omega) (by omega) (fun h51754 e51754 g51754 => ?_)
                      have k51754 := k0.wr e51754 rfl
                      refine ev_iconst ?_
                      exact ev_ret rfl (by decide) (by decide) ⟨_, rfl, by omega, by omega, g51754, k51754⟩
                  · refine ev_lload_n rfl ?_
                    refine g_l2iG (fun v51755 ev51755 lv51755 uv51755 => ?_)
                    refine ev_i2l ?_
                    refine ev_goto f374_95 ?_
                    refine g_last g ad81 rt81 (fun _ => rfl) (by omega) (by omega) (by omega) (by omega) (fun h51756 e51756 g51756 => ?_)
                    have k51756 := k0.wr e51756 rfl
                    refine ev_iconst ?_
                    exact ev_ret rfl (by decide) (by decide) ⟨_, rfl, by omega, by omega, g51756, k51756⟩
                · refine ev_lload_n rfl ?_
                  refine g_l2iG (fun v51757 ev51757 lv51757 uv51757 => ?_)
                  refine g_i2sG (fun v51758 ev51758 lv51758 uv51758 => ?_)
                  refine ev_i2l ?_
                  refine ev_goto f374_95 ?_
                  refine g_last g ad81 rt81 (fun _ => rfl) (by omega) (by omega) (by omega) (by omega) (fun h51759 e51759 g51759 => ?_)
                  have k51759 := k0.wr e51759 rfl
                  refine ev_iconst ?_
                  exact ev_ret rfl (by decide) (by decide) ⟨_, rfl, by omega, by omega, g51759, k51759⟩
              · refine ev_lload_n rfl ?_
                refine g_l2iG (fun v51760 ev51760 lv51760 uv51760 => ?_)
                refine g_i2bG (fun v51761 ev51761 lv51761 uv51761 => ?_)
                refine ev_i2l ?_
                refine ev_goto f374_95 ?_
                refine g_last g ad81 rt81 (fun _ => rfl) (by omega) (by omega) (by omega) (by omega) (fun h51762 e51762 g51762 => ?_)
                have k51762 := k0.wr e51762 rfl
                refine ev_iconst ?_
                exact ev_ret rfl (by decide) (by decide) ⟨_, rfl, by omega, by omega, g51762, k51762⟩
        · refine ev_bipush ?_
          refine ev_ret rfl (by decide) (by decide) ?_
          show jEv _ _ _ _ _ _ _ (_, [(2, 42), (0, a1), (0, a2), (1, a3), (9, 0), (9, 0), (9, 0)], [(0, (-12))], _, _, _)
          refine ev_istore (L' := [(2, 42), (0, a1), (0, a2), (1, a3), (9, 0), (0, (-12)), (9, 0)]) (Nat.le_of_ble_eq_true rfl) rfl ?_
          refine ev_iload rfl ?_
          refine ev_ifge f374_16 (fun c51763 => absurd c51763 (by omega)) (fun c51763 => ?_)
          refine ev_iload rfl ?_
          exact ev_ret rfl (by decide) (by decide) ⟨_, rfl, by omega, by omega, g, k0⟩
      · refine ev_bipush ?_
        refine ev_ret rfl (by decide) (by decide) ?_
        show jEv _ _ _ _ _ _ _ (_, [(2, 42), (0, a1), (0, a2), (1, a3), (9, 0), (9, 0), (9, 0)], [(0, (-11))], _, _, _)
        refine ev_istore (L' := [(2, 42), (0, a1), (0, a2), (1, a3), (9, 0), (0, (-11)), (9, 0)]) (Nat.le_of_ble_eq_true rfl) rfl ?_
        refine ev_iload rfl ?_
        refine ev_ifge f374_16 (fun c51764 => absurd c51764 (by omega)) (fun c51764 => ?_)
        refine ev_iload rfl ?_
        exact ev_ret rfl (by decide) (by decide) ⟨_, rfl, by omega, by omega, g, k0⟩
/-! 375 element -/
set_option maxHeartbeats 4000000 in
theorem s375 {G : GH} {h : JH} (g : Gd G h) {a1 : Int} (la1 : (-2147483648) ≤ a1) (ua1 : a1 ≤ 2147483647) {a2 : Int} (la2 : (-2147483648) ≤ a2) (ua2 : a2 ≤ 2147483647) : jOk 4 0 0 375 [(2, 42), (0, a1), (0, a2)] h (PI G [] h 1 (-9223372036854775808) 9223372036854775807) := by
  refine ⟨by decide, by rw [ml375]; exact Nat.le_of_ble_eq_true rfl, ?_⟩
  rw [ml375, pp375]
  show jEv _ none _ c375_0 0 0 _ (c375_0, [(2, 42), (0, a1), (0, a2)], [], h, 0, 0)
  have k0 := Kp.rf [] h
  refine ev_aload_n rfl ?_
  refine ev_iload_n rfl ?_
  refine ev_iload_n rfl ?_
  refine ev_in (d := 2) (a := 0) (b := 0) (cd' := c373_0) (m := 3) (L0 := [(2, 42), (0, a1), (0, a2)]) (jcall_v (A := [(0, a2), (0, a1)]) (S' := []) (r := 42) rfl (g.lt ad42) (g.tg ad42) (Nat.le_of_ble_eq_true rfl)) (by decide) ml373 pp373 (Nat.le_of_ble_eq_true rfl) rfl (by decide) (by decide) ?_
  refine ev_iload_n rfl ?_
  refine ev_in (d := 1) (a := 0) (b := 0) (cd' := c370_0) (m := 1) (L0 := [(0, a1)]) (jcall_s (A := [(0, a1)]) (S' := []) (by decide) rfl (Nat.le_of_ble_eq_true rfl)) (by decide) ml370 pp370 (Nat.le_of_ble_eq_true rfl) rfl (by decide) (by decide) ?_
  refine ev_iload_n rfl ?_
  refine ev_iconst ?_
  refine ev_iconst ?_
  refine ev_in (d := 0) (a := 0) (b := 0) (cd' := c242_0) (m := 3) (L0 := [(0, a1), (0, 0), (0, 5)]) (jcall_s (A := [(0, 5), (0, 0), (0, a1)]) (S' := []) (by decide) rfl (Nat.le_of_ble_eq_true rfl)) (by decide) ml242 pp242 (Nat.le_of_ble_eq_true rfl) rfl (by decide) (by decide) ?_
  refine ev_iload_n rfl ?_
  refine ev_iload_n rfl ?_
  refine ev_icmplt f242_14 (fun c51809 => ?_) (fun c51809 => ?_)
  · refine ev_iconst ?_
    refine ev_ret rfl (by decide) (by decide) ?_
    show jEv _ _ _ _ _ _ _ (_, [(0, a1)], [(0, 0)], _, _, _)
    refine ev_ret rfl (by decide) (by decide) ?_
    show jEv _ _ _ _ _ _ _ (_, [(2, 42), (0, a1), (0, a2)], [(0, 0)], _, _, _)
    refine ev_ifne f373_9 (fun c51810 => absurd c51810 (by omega)) (fun c51810 => ?_)
    refine ev_iconst ?_
    refine ev_ret rfl (by decide) (by decide) ?_
    show jEv _ _ _ _ _ _ _ (_, [(2, 42), (0, a1), (0, a2)], [(0, (-1))], _, _, _)
    refine ev_ifge f375_15 (fun c51811 => absurd c51811 (by omega)) (fun c51811 => ?_)
    refine ev_ldc2_w ?_
    refine ev_goto f375_26 ?_
    exact ev_ret rfl (by decide) (by decide) ⟨_, rfl, by omega, by omega, g, k0⟩
  · refine ev_iload_n rfl ?_
    refine ev_iload_n rfl ?_
    refine ev_icmpgt f242_14 (fun c51812 => ?_) (fun c51812 => ?_)
    · refine ev_iconst ?_
      refine ev_ret rfl (by decide) (by decide) ?_
      show jEv _ _ _ _ _ _ _ (_, [(0, a1)], [(0, 0)], _, _, _)
      refine ev_ret rfl (by decide) (by decide) ?_
      show jEv _ _ _ _ _ _ _ (_, [(2, 42), (0, a1), (0, a2)], [(0, 0)], _, _, _)
      refine ev_ifne f373_9 (fun c51813 => absurd c51813 (by omega)) (fun c51813 => ?_)
      refine ev_iconst ?_
      refine ev_ret rfl (by decide) (by decide) ?_
      show jEv _ _ _ _ _ _ _ (_, [(2, 42), (0, a1), (0, a2)], [(0, (-1))], _, _, _)
      refine ev_ifge f375_15 (fun c51814 => absurd c51814 (by omega)) (fun c51814 => ?_)
      refine ev_ldc2_w ?_
      refine ev_goto f375_26 ?_
      exact ev_ret rfl (by decide) (by decide) ⟨_, rfl, by omega, by omega, g, k0⟩
    · refine ev_iconst ?_
      refine ev_goto f242_15 ?_
      refine ev_ret rfl (by decide) (by decide) ?_
      show jEv _ _ _ _ _ _ _ (_, [(0, a1)], [(0, 1)], _, _, _)
      refine ev_ret rfl (by decide) (by decide) ?_
      show jEv _ _ _ _ _ _ _ (_, [(2, 42), (0, a1), (0, a2)], [(0, 1)], _, _, _)
      refine ev_ifne f373_9 (fun c51815 => ?_) (fun c51815 => absurd c51815 (by omega))
      refine ev_aload_n rfl ?_
      refine g_getp (r := 42) (c := 79) g ad42 (by decide) (by decide) rf42_62 ft12_62 ?_
      refine ev_iload_n rfl ?_
      refine g_iald g ad79 rt79 (by omega) (by omega) (fun v51816 ev51816 lv51816 uv51816 => ?_)
      refine ev_iconst ?_
      refine ev_icmpne f373_22 (fun c51817 => ?_) (fun c51817 => ?_)
      · refine ev_aload_n rfl ?_
        refine g_getp (r := 42) (c := 79) g ad42 (by decide) (by decide) rf42_62 ft12_62 ?_
        refine ev_iload_n rfl ?_
        refine g_ialdv (v := v51816) g ad79 (by omega) (by omega) (ev51816) ?_
        refine ev_iflt f373_34 (fun c51818 => ?_) (fun c51818 => ?_)
        · refine ev_iload_n rfl ?_
          refine ev_iconst ?_
          refine ev_aload_n rfl ?_
          refine g_getp (r := 42) (c := 80) g ad42 (by decide) (by decide) rf42_63 ft12_63 ?_
          refine ev_iload_n rfl ?_
          refine g_iald g ad80 rt80 (by omega) (by omega) (fun v51819 ev51819 lv51819 uv51819 => ?_)
          refine ev_iconst ?_
          refine ev_isub (r := (v51819 - 1)) (by unfold w32; omega) ?_
          refine ev_in (d := 1) (a := 0) (b := 0) (cd' := c242_0) (m := 3) (L0 := [(0, a2), (0, 0), (0, (v51819 - 1))]) (jcall_s (A := [(0, (v51819 - 1)), (0, 0), (0, a2)]) (S' := []) (by decide) rfl (Nat.le_of_ble_eq_true rfl)) (by decide) ml242 pp242 (Nat.le_of_ble_eq_true rfl) rfl (by decide) (by decide) ?_
          refine ev_iload_n rfl ?_
          refine ev_iload_n rfl ?_
          refine ev_icmplt f242_14 (fun c51820 => ?_) (fun c51820 => ?_)
          · refine ev_iconst ?_
            refine ev_ret rfl (by decide) (by decide) ?_
            show jEv _ _ _ _ _ _ _ (_, [(2, 42), (0, a1), (0, a2)], [(0, 0)], _, _, _)
            refine ev_ifeq f373_54 (fun c51821 => ?_) (fun c51821 => absurd c51821 (by omega))
            refine ev_bipush ?_
            refine ev_ret rfl (by decide) (by decide) ?_
            show jEv _ _ _ _ _ _ _ (_, [(2, 42), (0, a1), (0, a2)], [(0, (-13))], _, _, _)
            refine ev_ifge f375_15 (fun c51822 => absurd c51822 (by omega)) (fun c51822 => ?_)
            refine ev_ldc2_w ?_
            refine ev_goto f375_26 ?_
            exact ev_ret rfl (by decide) (by decide) ⟨_, rfl, by omega, by omega, g, k0⟩
          · refine ev_iload_n rfl ?_
            refine ev_iload_n rfl ?_
            refine ev_icmpgt f242_14 (fun c51823 => ?_) (fun c51823 => ?_)
            · refine ev_iconst ?_
              refine ev_ret rfl (by decide) (by decide) ?_
              show jEv _ _ _ _ _ _ _ (_, [(2, 42), (0, a1), (0, a2)], [(0, 0)], _, _, _)
              refine ev_ifeq f373_54 (fun c51824 => ?_) (fun c51824 => absurd c51824 (by omega))
              refine ev_bipush ?_
              refine ev_ret rfl (by decide) (by decide) ?_
              show jEv _ _ _ _ _ _ _ (_, [(2, 42), (0, a1), (0, a2)], [(0, (-13))], _, _, _)
              refine ev_ifge f375_15 (fun c51825 => absurd c51825 (by omega)) (fun c51825 => ?_)
              refine ev_ldc2_w ?_
              refine ev_goto f375_26 ?_
              exact ev_ret rfl (by decide) (by decide) ⟨_, rfl, by omega, by omega, g, k0⟩
            · refine ev_iconst ?_
              refine ev_goto f242_15 ?_
              refine ev_ret rfl (by decide) (by decide) ?_
              show jEv _ _ _ _ _ _ _ (_, [(2, 42), (0, a1), (0, a2)], [(0, 1)], _, _, _)
              refine ev_ifeq f373_54 (fun c51826 => absurd c51826 (by omega)) (fun c51826 => ?_)
              refine ev_iconst ?_
              refine ev_goto f373_56 ?_
              refine ev_ret rfl (by decide) (by decide) ?_
              show jEv _ _ _ _ _ _ _ (_, [(2, 42), (0, a1), (0, a2)], [(0, 0)], _, _, _)
              refine ev_ifge f375_15 (fun c51827 => ?_) (fun c51827 => absurd c51827 (by omega))
              refine ev_aload_n rfl ?_
              refine g_getp (r := 42) (c := 81) g ad42 (by decide) (by decide) rf42_64 ft12_64 ?_
              refine ev_bipush ?_
              refine ev_iload_n rfl ?_
              refine ev_imul (r := (60 * a1)) (by unfold w32; omega) ?_
              refine ev_iload_n rfl ?_
              refine ev_iadd (r := (60 * a1 + a2)) (by unfold w32; omega) ?_
              refine g_lald g ad81 rt81 (by omega) (by omega) (fun v51828 ev51828 lv51828 uv51828 => ?_)
              exact ev_ret rfl (by decide) (by decide) ⟨_, rfl, by omega, by omega, g, k0⟩
        · refine ev_bipush ?_
          refine ev_ret rfl (by decide) (by decide) ?_
          show jEv _ _ _ _ _ _ _ (_, [(2, 42), (0, a1), (0, a2)], [(0, (-12))], _, _, _)
          refine ev_ifge f375_15 (fun c51829 => absurd c51829 (by omega)) (fun c51829 => ?_)
          refine ev_ldc2_w ?_
          refine ev_goto f375_26 ?_
          exact ev_ret rfl (by decide) (by decide) ⟨_, rfl, by omega, by omega, g, k0⟩
      · refine ev_bipush ?_
        refine ev_ret rfl (by decide) (by decide) ?_
        show jEv _ _ _ _ _ _ _ (_, [(2, 42), (0, a1), (0, a2)], [(0, (-11))], _, _, _)
        refine ev_ifge f375_15 (fun c51830 => absurd c51830 (by omega)) (fun c51830 => ?_)
        refine ev_ldc2_w ?_
        refine ev_goto f375_26 ?_
        exact ev_ret rfl (by decide) (by decide) ⟨_, rfl, by omega, by omega, g, k0⟩
/-! 376 shift -/
set_option maxHeartbeats 4000000 in
theorem s376_l {G : GH} {h : JH} {a1 : Int} (la1 : (-2147483648) ≤ a1) (ua1 : a1 ≤ 2147483647) {a2 : Int} (la2 : (-2147483648) ≤ a2) (ua2 : a2 ≤ 2147483647) {a3 : Int} (la3 : (-2147483648) ≤ a3) (ua3 : a3 ≤ 2147483647) {a4 : Int} (la4 : (-2147483648) ≤ a4) (ua4 : a4 ≤ 2147483647) {a5 : Int} (la5 : (-2147483648) ≤ a5) (ua5 : a5 ≤ 2147483647) : ∀ N : Nat, (∀ (h1 : JH) (x6 : Int), Gd G h1 → Kp [(81, 0), (82, 0)] h h1 → 0 ≤ a1 → a1 ≤ 5 → 0 ≤ a2 → a2 ≤ 60 → 0 ≤ a3 → a3 ≤ 5 → 0 ≤ a4 → a4 ≤ 60 → 0 ≤ a5 → a5 ≤ 60 → 0 ≤ x6 → x6 ≤ 60 → (a2 + a5) ≤ 60 → (a4 + a5) ≤ 60 → ((-x6) + 121) < N → jEv (jOk 2) none (fun _ => 0) c376_0 0 0 (PI G [(81, 0), (82, 0)] h 0 (-13) 60) (c376_113, [(2, 42), (0, a1), (0, a2), (0, a3), (0, a4), (0, a5), (0, x6)], [], h1, 0, 0)) ∧ (∀ (h1 : JH) (x6 : Int), Gd G h1 → Kp [(81, 0), (82, 0)] h h1 → 0 ≤ a1 → a1 ≤ 5 → 0 ≤ a2 → a2 ≤ 60 → 0 ≤ a3 → a3 ≤ 5 → 0 ≤ a4 → a4 ≤ 60 → 0 ≤ a5 → a5 ≤ 60 → 0 ≤ x6 → x6 ≤ 60 → (a2 + a5) ≤ 60 → (a4 + a5) ≤ 60 → ((-x6) + 60) < N → jEv (jOk 2) none (fun _ => 0) c376_0 0 0 (PI G [(81, 0), (82, 0)] h 0 (-13) 60) (c376_150, [(2, 42), (0, a1), (0, a2), (0, a3), (0, a4), (0, a5), (0, x6)], [], h1, 0, 0)) := by
  intro N
  induction N with
  | zero => exact ⟨fun h1 x6 g1 k1 b0 b1 b2 b3 b4 b5 b6 b7 b8 b9 b10 b11 b12 b13 hm => absurd hm (by omega), fun h1 x6 g1 k1 b0 b1 b2 b3 b4 b5 b6 b7 b8 b9 b10 b11 b12 b13 hm => absurd hm (by omega)⟩
  | succ N ih =>
    refine ⟨?_, ?_⟩
    · intro h1 x6 g1 k1 b0 b1 b2 b3 b4 b5 b6 b7 b8 b9 b10 b11 b12 b13 hm
      refine ev_iload rfl ?_
      refine ev_iload rfl ?_
      refine ev_icmpge f376_147 (fun c52057 => ?_) (fun c52057 => ?_)
      · refine ev_iconst ?_
        refine ev_istore (L' := [(2, 42), (0, a1), (0, a2), (0, a3), (0, a4), (0, a5), (0, 0)]) (Nat.le_of_ble_eq_true rfl) rfl ?_
        exact ih.2 _ _ g1 k1 (by omega) (by omega) (by omega) (by omega) (by omega) (by omega) (by omega) (by omega) (by omega) (by omega) (by omega) (by omega) (by omega) (by omega) (by omega)
      · refine ev_aload_n rfl ?_
        refine g_getp (r := 42) (c := 82) g1 ad42 (by decide) (by decide) rf42_65 ft12_65 ?_
        refine ev_iload rfl ?_
        refine ev_aload_n rfl ?_
        refine g_getp (r := 42) (c := 81) g1 ad42 (by decide) (by decide) rf42_64 ft12_64 ?_
        refine ev_bipush ?_
        refine ev_iload_n rfl ?_
        refine ev_imul (r := (60 * a1)) (by unfold w32; omega) ?_
        refine ev_iload_n rfl ?_
        refine ev_iadd (r := (60 * a1 + a2)) (by unfold w32; omega) ?_
        refine ev_iload rfl ?_
        refine ev_iadd (r := (60 * a1 + a2 + x6)) (by unfold w32; omega) ?_
        refine g_lald g1 ad81 rt81 (by omega) (by omega) (fun v52058 ev52058 lv52058 uv52058 => ?_)
        refine g_last g1 ad82 rt82 (fun _ => rfl) (by omega) (by omega) (by omega) (by omega) (fun h52059 e52059 g52059 => ?_)
        have k52059 := k1.wr e52059 rfl
        refine ev_iinc (w := (x6 + 1)) (L' := [(2, 42), (0, a1), (0, a2), (0, a3), (0, a4), (0, a5), (0, (x6 + 1))]) rfl (by unfold w32; omega) rfl ?_
        refine ev_goto f376_113 ?_
        exact ih.1 _ _ g52059 k52059 (by omega) (by omega) (by omega) (by omega) (by omega) (by omega) (by omega) (by omega) (by omega) (by omega) (by omega) (by omega) (by omega) (by omega) (by omega)
    · intro h1 x6 g1 k1 b0 b1 b2 b3 b4 b5 b6 b7 b8 b9 b10 b11 b12 b13 hm
      refine ev_iload rfl ?_
      refine ev_iload rfl ?_
      refine ev_icmpge f376_185 (fun c52060 => ?_) (fun c52060 => ?_)
      · refine ev_iload rfl ?_
        exact ev_ret rfl (by decide) (by decide) ⟨_, rfl, by omega, by omega, g1, k1⟩
      · refine ev_aload_n rfl ?_
        refine g_getp (r := 42) (c := 81) g1 ad42 (by decide) (by decide) rf42_64 ft12_64 ?_
        refine ev_bipush ?_
        refine ev_iload_n rfl ?_
        refine ev_imul (r := (60 * a3)) (by unfold w32; omega) ?_
        refine ev_iload rfl ?_
        refine ev_iadd (r := (60 * a3 + a4)) (by unfold w32; omega) ?_
        refine ev_iload rfl ?_
        refine ev_iadd (r := (60 * a3 + a4 + x6)) (by unfold w32; omega) ?_
        refine ev_aload_n rfl ?_
        refine g_getp (r := 42) (c := 82) g1 ad42 (by decide) (by decide) rf42_65 ft12_65 ?_
        refine ev_iload rfl ?_
        refine g_lald g1 ad82 rt82 (by omega) (by omega) (fun v52061 ev52061 lv52061 uv52061 => ?_)
        refine g_last g1 ad81 rt81 (fun _ => rfl) (by omega) (by omega) (by omega) (by omega) (fun h52062 e52062 g52062 => ?_)
        have k52062 := k1.wr e52062 rfl
        refine ev_iinc (w := (x6 + 1)) (L' := [(2, 42), (0, a1), (0, a2), (0, a3), (0, a4), (0, a5), (0, (x6 + 1))]) rfl (by unfold w32; omega) rfl ?_
        refine ev_goto f376_150 ?_
        exact ih.2 _ _ g52062 k52062 (by omega) (by omega) (by omega) (by omega) (by omega) (by omega) (by omega) (by omega) (by omega) (by omega) (by omega) (by omega) (by omega) (by omega) (by omega)
set_option maxHeartbeats 4000000 in
theorem s376 {G : GH} {h : JH} (g : Gd G h) {a1 : Int} (la1 : (-2147483648) ≤ a1) (ua1 : a1 ≤ 2147483647) {a2 : Int} (la2 : (-2147483648) ≤ a2) (ua2 : a2 ≤ 2147483647) {a3 : Int} (la3 : (-2147483648) ≤ a3) (ua3 : a3 ≤ 2147483647) {a4 : Int} (la4 : (-2147483648) ≤ a4) (ua4 : a4 ≤ 2147483647) {a5 : Int} (la5 : (-2147483648) ≤ a5) (ua5 : a5 ≤ 2147483647) : jOk 3 0 0 376 [(2, 42), (0, a1), (0, a2), (0, a3), (0, a4), (0, a5)] h (PI G [(81, 0), (82, 0)] h 0 (-13) 60) := by
  refine ⟨by decide, by rw [ml376]; exact Nat.le_of_ble_eq_true rfl, ?_⟩
  rw [ml376, pp376]
  show jEv _ none _ c376_0 0 0 _ (c376_0, [(2, 42), (0, a1), (0, a2), (0, a3), (0, a4), (0, a5), (9, 0)], [], h, 0, 0)
  have k0 := Kp.rf [(81, 0), (82, 0)] h
  refine ev_iload_n rfl ?_
  refine ev_in (d := 1) (a := 0) (b := 0) (cd' := c370_0) (m := 1) (L0 := [(0, a1)]) (jcall_s (A := [(0, a1)]) (S' := []) (by decide) rfl (Nat.le_of_ble_eq_true rfl)) (by decide) ml370 pp370 (Nat.le_of_ble_eq_true rfl) rfl (by decide) (by decide) ?_
  refine ev_iload_n rfl ?_
  refine ev_iconst ?_
  refine ev_iconst ?_
  refine ev_in (d := 0) (a := 0) (b := 0) (cd' := c242_0) (m := 3) (L0 := [(0, a1), (0, 0), (0, 5)]) (jcall_s (A := [(0, 5), (0, 0), (0, a1)]) (S' := []) (by decide) rfl (Nat.le_of_ble_eq_true rfl)) (by decide) ml242 pp242 (Nat.le_of_ble_eq_true rfl) rfl (by decide) (by decide) ?_
  refine ev_iload_n rfl ?_
  refine ev_iload_n rfl ?_
  refine ev_icmplt f242_14 (fun c52063 => ?_) (fun c52063 => ?_)
  · refine ev_iconst ?_
    refine ev_ret rfl (by decide) (by decide) ?_
    show jEv _ _ _ _ _ _ _ (_, [(0, a1)], [(0, 0)], _, _, _)
    refine ev_ret rfl (by decide) (by decide) ?_
    show jEv _ _ _ _ _ _ _ (_, [(2, 42), (0, a1), (0, a2), (0, a3), (0, a4), (0, a5), (9, 0)], [(0, 0)], _, _, _)
    refine ev_ifeq f376_14 (fun c52064 => ?_) (fun c52064 => absurd c52064 (by omega))
    refine ev_iconst ?_
    exact ev_ret rfl (by decide) (by decide) ⟨_, rfl, by omega, by omega, g, k0⟩
  · refine ev_iload_n rfl ?_
    refine ev_iload_n rfl ?_
    refine ev_icmpgt f242_14 (fun c52065 => ?_) (fun c52065 => ?_)
    · refine ev_iconst ?_
      refine ev_ret rfl (by decide) (by decide) ?_
      show jEv _ _ _ _ _ _ _ (_, [(0, a1)], [(0, 0)], _, _, _)
      refine ev_ret rfl (by decide) (by decide) ?_
      show jEv _ _ _ _ _ _ _ (_, [(2, 42), (0, a1), (0, a2), (0, a3), (0, a4), (0, a5), (9, 0)], [(0, 0)], _, _, _)
      refine ev_ifeq f376_14 (fun c52066 => ?_) (fun c52066 => absurd c52066 (by omega))
      refine ev_iconst ?_
      exact ev_ret rfl (by decide) (by decide) ⟨_, rfl, by omega, by omega, g, k0⟩
    · refine ev_iconst ?_
      refine ev_goto f242_15 ?_
      refine ev_ret rfl (by decide) (by decide) ?_
      show jEv _ _ _ _ _ _ _ (_, [(0, a1)], [(0, 1)], _, _, _)
      refine ev_ret rfl (by decide) (by decide) ?_
      show jEv _ _ _ _ _ _ _ (_, [(2, 42), (0, a1), (0, a2), (0, a3), (0, a4), (0, a5), (9, 0)], [(0, 1)], _, _, _)
      refine ev_ifeq f376_14 (fun c52067 => absurd c52067 (by omega)) (fun c52067 => ?_)
      refine ev_iload_n rfl ?_
      refine ev_in (d := 1) (a := 0) (b := 0) (cd' := c370_0) (m := 1) (L0 := [(0, a3)]) (jcall_s (A := [(0, a3)]) (S' := []) (by decide) rfl (Nat.le_of_ble_eq_true rfl)) (by decide) ml370 pp370 (Nat.le_of_ble_eq_true rfl) rfl (by decide) (by decide) ?_
      refine ev_iload_n rfl ?_
      refine ev_iconst ?_
      refine ev_iconst ?_
      refine ev_in (d := 0) (a := 0) (b := 0) (cd' := c242_0) (m := 3) (L0 := [(0, a3), (0, 0), (0, 5)]) (jcall_s (A := [(0, 5), (0, 0), (0, a3)]) (S' := []) (by decide) rfl (Nat.le_of_ble_eq_true rfl)) (by decide) ml242 pp242 (Nat.le_of_ble_eq_true rfl) rfl (by decide) (by decide) ?_
      refine ev_iload_n rfl ?_
      refine ev_iload_n rfl ?_
      refine ev_icmplt f242_14 (fun c52068 => ?_) (fun c52068 => ?_)
      · refine ev_iconst ?_
        refine ev_ret rfl (by decide) (by decide) ?_
        show jEv _ _ _ _ _ _ _ (_, [(0, a3)], [(0, 0)], _, _, _)
        refine ev_ret rfl (by decide) (by decide) ?_
        show jEv _ _ _ _ _ _ _ (_, [(2, 42), (0, a1), (0, a2), (0, a3), (0, a4), (0, a5), (9, 0)], [(0, 0)], _, _, _)
        refine ev_ifne f376_16 (fun c52069 => absurd c52069 (by omega)) (fun c52069 => ?_)
        refine ev_iconst ?_
        exact ev_ret rfl (by decide) (by decide) ⟨_, rfl, by omega, by omega, g, k0⟩
      · refine ev_iload_n rfl ?_
        refine ev_iload_n rfl ?_
        refine ev_icmpgt f242_14 (fun c52070 => ?_) (fun c52070 => ?_)
        · refine ev_iconst ?_
          refine ev_ret rfl (by decide) (by decide) ?_
          show jEv _ _ _ _ _ _ _ (_, [(0, a3)], [(0, 0)], _, _, _)
          refine ev_ret rfl (by decide) (by decide) ?_
          show jEv _ _ _ _ _ _ _ (_, [(2, 42), (0, a1), (0, a2), (0, a3), (0, a4), (0, a5), (9, 0)], [(0, 0)], _, _, _)
          refine ev_ifne f376_16 (fun c52071 => absurd c52071 (by omega)) (fun c52071 => ?_)
          refine ev_iconst ?_
          exact ev_ret rfl (by decide) (by decide) ⟨_, rfl, by omega, by omega, g, k0⟩
        · refine ev_iconst ?_
          refine ev_goto f242_15 ?_
          refine ev_ret rfl (by decide) (by decide) ?_
          show jEv _ _ _ _ _ _ _ (_, [(0, a3)], [(0, 1)], _, _, _)
          refine ev_ret rfl (by decide) (by decide) ?_
          show jEv _ _ _ _ _ _ _ (_, [(2, 42), (0, a1), (0, a2), (0, a3), (0, a4), (0, a5), (9, 0)], [(0, 1)], _, _, _)
          refine ev_ifne f376_16 (fun c52072 => ?_) (fun c52072 => absurd c52072 (by omega))
          refine ev_aload_n rfl ?_
          refine g_getp (r := 42) (c := 79) g ad42 (by decide) (by decide) rf42_62 ft12_62 ?_
          refine ev_iload_n rfl ?_
          refine g_iald g ad79 rt79 (by omega) (by omega) (fun v52073 ev52073 lv52073 uv52073 => ?_)
          refine ev_iconst ?_
          refine ev_icmpeq f376_36 (fun c52074 => ?_) (fun c52074 => ?_)
          · refine ev_bipush ?_
            exact ev_ret rfl (by decide) (by decide) ⟨_, rfl, by omega, by omega, g, k0⟩
          · refine ev_aload_n rfl ?_
            refine g_getp (r := 42) (c := 79) g ad42 (by decide) (by decide) rf42_62 ft12_62 ?_
            refine ev_iload_n rfl ?_
            refine g_iald g ad79 rt79 (by omega) (by omega) (fun v52075 ev52075 lv52075 uv52075 => ?_)
            refine ev_iconst ?_
            refine ev_icmpne f376_39 (fun c52076 => ?_) (fun c52076 => ?_)
            · refine ev_aload_n rfl ?_
              refine g_getp (r := 42) (c := 79) g ad42 (by decide) (by decide) rf42_62 ft12_62 ?_
              refine ev_iload_n rfl ?_
              refine g_ialdv (v := v52073) g ad79 (by omega) (by omega) (ev52073) ?_
              refine ev_ifge f376_63 (fun c52077 => ?_) (fun c52077 => ?_)
              · refine ev_bipush ?_
                exact ev_ret rfl (by decide) (by decide) ⟨_, rfl, by omega, by omega, g, k0⟩
              · refine ev_aload_n rfl ?_
                refine g_getp (r := 42) (c := 79) g ad42 (by decide) (by decide) rf42_62 ft12_62 ?_
                refine ev_iload_n rfl ?_
                refine g_ialdv (v := v52073) g ad79 (by omega) (by omega) (ev52073) ?_
                refine ev_aload_n rfl ?_
                refine g_getp (r := 42) (c := 79) g ad42 (by decide) (by decide) rf42_62 ft12_62 ?_
                refine ev_iload_n rfl ?_
                refine g_ialdv (v := v52075) g ad79 (by omega) (by omega) (ev52075) ?_
                refine ev_icmpeq f376_66 (fun c52078 => ?_) (fun c52078 => ?_)
                · refine ev_iload rfl ?_
                  refine ev_iflt f376_107 (fun c52079 => ?_) (fun c52079 => ?_)
                  · refine ev_bipush ?_
                    exact ev_ret rfl (by decide) (by decide) ⟨_, rfl, by omega, by omega, g, k0⟩
                  · refine ev_iload_n rfl ?_
                    refine ev_iflt f376_107 (fun c52080 => ?_) (fun c52080 => ?_)
                    · refine ev_bipush ?_
                      exact ev_ret rfl (by decide) (by decide) ⟨_, rfl, by omega, by omega, g, k0⟩
                    · refine ev_iload rfl ?_
                      refine ev_iflt f376_107 (fun c52081 => ?_) (fun c52081 => ?_)
                      · refine ev_bipush ?_
                        exact ev_ret rfl (by decide) (by decide) ⟨_, rfl, by omega, by omega, g, k0⟩
                      · refine ev_iload_n rfl ?_
                        refine ev_aload_n rfl ?_
                        refine g_getp (r := 42) (c := 80) g ad42 (by decide) (by decide) rf42_63 ft12_63 ?_
                        refine ev_iload_n rfl ?_
                        refine g_iald g ad80 rt80 (by omega) (by omega) (fun v52082 ev52082 lv52082 uv52082 => ?_)
                        refine ev_iload rfl ?_
                        refine ev_isub (r := ((-a5) + v52082)) (by unfold w32; omega) ?_
                        refine ev_icmpgt f376_107 (fun c52083 => ?_) (fun c52083 => ?_)
                        · refine ev_bipush ?_
                          exact ev_ret rfl (by decide) (by decide) ⟨_, rfl, by omega, by omega, g, k0⟩
                        · refine ev_iload rfl ?_
                          refine ev_aload_n rfl ?_
                          refine g_getp (r := 42) (c := 80) g ad42 (by decide) (by decide) rf42_63 ft12_63 ?_
                          refine ev_iload_n rfl ?_
                          refine g_iald g ad80 rt80 (by omega) (by omega) (fun v52084 ev52084 lv52084 uv52084 => ?_)
                          refine ev_iload rfl ?_
                          refine ev_isub (r := ((-a5) + v52084)) (by unfold w32; omega) ?_
                          refine ev_icmple f376_110 (fun c52085 => ?_) (fun c52085 => ?_)
                          · refine ev_iconst ?_
                            refine ev_istore (L' := [(2, 42), (0, a1), (0, a2), (0, a3), (0, a4), (0, a5), (0, 0)]) (Nat.le_of_ble_eq_true rfl) rfl ?_
                            exact (s376_l la1 ua1 la2 ua2 la3 ua3 la4 ua4 la5 ua5 183).1 _ _ g k0 (by omega) (by omega) (by omega) (by omega) (by omega) (by omega) (by omega) (by omega) (by omega) (by omega) (by omega) (by omega) (by omega) (by omega) (by omega)
                          · refine ev_bipush ?_
                            exact ev_ret rfl (by decide) (by decide) ⟨_, rfl, by omega, by omega, g, k0⟩
                · refine ev_bipush ?_
                  exact ev_ret rfl (by decide) (by decide) ⟨_, rfl, by omega, by omega, g, k0⟩
            · refine ev_bipush ?_
              exact ev_ret rfl (by decide) (by decide) ⟨_, rfl, by omega, by omega, g, k0⟩
/-! 377 taken -/
set_option maxHeartbeats 4000000 in
theorem s377 {G : GH} {h : JH} (g : Gd G h) {a1 : Int} (la1 : (-2147483648) ≤ a1) (ua1 : a1 ≤ 2147483647) {a2 : Int} (la2 : (-2147483648) ≤ a2) (ua2 : a2 ≤ 2147483647) : jOk 3 0 0 377 [(2, 42), (0, a1), (0, a2)] h (PI G [] h 0 (-12) 5) := by
  refine ⟨by decide, by rw [ml377]; exact Nat.le_of_ble_eq_true rfl, ?_⟩
  rw [ml377, pp377]
  show jEv _ none _ c377_0 0 0 _ (c377_0, [(2, 42), (0, a1), (0, a2)], [], h, 0, 0)
  have k0 := Kp.rf [] h
  refine ev_iload_n rfl ?_
  refine ev_in (d := 1) (a := 0) (b := 0) (cd' := c370_0) (m := 1) (L0 := [(0, a1)]) (jcall_s (A := [(0, a1)]) (S' := []) (by decide) rfl (Nat.le_of_ble_eq_true rfl)) (by decide) ml370 pp370 (Nat.le_of_ble_eq_true rfl) rfl (by decide) (by decide) ?_
  refine ev_iload_n rfl ?_
  refine ev_iconst ?_
  refine ev_iconst ?_
  refine ev_in (d := 0) (a := 0) (b := 0) (cd' := c242_0) (m := 3) (L0 := [(0, a1), (0, 0), (0, 5)]) (jcall_s (A := [(0, 5), (0, 0), (0, a1)]) (S' := []) (by decide) rfl (Nat.le_of_ble_eq_true rfl)) (by decide) ml242 pp242 (Nat.le_of_ble_eq_true rfl) rfl (by decide) (by decide) ?_
  refine ev_iload_n rfl ?_
  refine ev_iload_n rfl ?_
  refine ev_icmplt f242_14 (fun c52142 => ?_) (fun c52142 => ?_)
  · refine ev_iconst ?_
    refine ev_ret rfl (by decide) (by decide) ?_
    show jEv _ _ _ _ _ _ _ (_, [(0, a1)], [(0, 0)], _, _, _)
    refine ev_ret rfl (by decide) (by decide) ?_
    show jEv _ _ _ _ _ _ _ (_, [(2, 42), (0, a1), (0, a2)], [(0, 0)], _, _, _)
    refine ev_ifeq f377_16 (fun c52143 => ?_) (fun c52143 => absurd c52143 (by omega))
    refine ev_iconst ?_
    exact ev_ret rfl (by decide) (by decide) ⟨_, rfl, by omega, by omega, g, k0⟩
  · refine ev_iload_n rfl ?_
    refine ev_iload_n rfl ?_
    refine ev_icmpgt f242_14 (fun c52144 => ?_) (fun c52144 => ?_)
    · refine ev_iconst ?_
      refine ev_ret rfl (by decide) (by decide) ?_
      show jEv _ _ _ _ _ _ _ (_, [(0, a1)], [(0, 0)], _, _, _)
      refine ev_ret rfl (by decide) (by decide) ?_
      show jEv _ _ _ _ _ _ _ (_, [(2, 42), (0, a1), (0, a2)], [(0, 0)], _, _, _)
      refine ev_ifeq f377_16 (fun c52145 => ?_) (fun c52145 => absurd c52145 (by omega))
      refine ev_iconst ?_
      exact ev_ret rfl (by decide) (by decide) ⟨_, rfl, by omega, by omega, g, k0⟩
    · refine ev_iconst ?_
      refine ev_goto f242_15 ?_
      refine ev_ret rfl (by decide) (by decide) ?_
      show jEv _ _ _ _ _ _ _ (_, [(0, a1)], [(0, 1)], _, _, _)
      refine ev_ret rfl (by decide) (by decide) ?_
      show jEv _ _ _ _ _ _ _ (_, [(2, 42), (0, a1), (0, a2)], [(0, 1)], _, _, _)
      refine ev_ifeq f377_16 (fun c52146 => absurd c52146 (by omega)) (fun c52146 => ?_)
      refine ev_iload_n rfl ?_
      refine ev_iconst ?_
      refine ev_iconst ?_
      refine ev_in (d := 1) (a := 0) (b := 0) (cd' := c242_0) (m := 3) (L0 := [(0, a2), (0, 0), (0, 5)]) (jcall_s (A := [(0, 5), (0, 0), (0, a2)]) (S' := []) (by decide) rfl (Nat.le_of_ble_eq_true rfl)) (by decide) ml242 pp242 (Nat.le_of_ble_eq_true rfl) rfl (by decide) (by decide) ?_
      refine ev_iload_n rfl ?_
      refine ev_iload_n rfl ?_
      refine ev_icmplt f242_14 (fun c52147 => ?_) (fun c52147 => ?_)
      · refine ev_iconst ?_
        refine ev_ret rfl (by decide) (by decide) ?_
        show jEv _ _ _ _ _ _ _ (_, [(2, 42), (0, a1), (0, a2)], [(0, 0)], _, _, _)
        refine ev_ifne f377_18 (fun c52148 => absurd c52148 (by omega)) (fun c52148 => ?_)
        refine ev_iconst ?_
        exact ev_ret rfl (by decide) (by decide) ⟨_, rfl, by omega, by omega, g, k0⟩
      · refine ev_iload_n rfl ?_
        refine ev_iload_n rfl ?_
        refine ev_icmpgt f242_14 (fun c52149 => ?_) (fun c52149 => ?_)
        · refine ev_iconst ?_
          refine ev_ret rfl (by decide) (by decide) ?_
          show jEv _ _ _ _ _ _ _ (_, [(2, 42), (0, a1), (0, a2)], [(0, 0)], _, _, _)
          refine ev_ifne f377_18 (fun c52150 => absurd c52150 (by omega)) (fun c52150 => ?_)
          refine ev_iconst ?_
          exact ev_ret rfl (by decide) (by decide) ⟨_, rfl, by omega, by omega, g, k0⟩
        · refine ev_iconst ?_
          refine ev_goto f242_15 ?_
          refine ev_ret rfl (by decide) (by decide) ?_
          show jEv _ _ _ _ _ _ _ (_, [(2, 42), (0, a1), (0, a2)], [(0, 1)], _, _, _)
          refine ev_ifne f377_18 (fun c52151 => ?_) (fun c52151 => absurd c52151 (by omega))
          refine ev_aload_n rfl ?_
          refine g_getp (r := 42) (c := 79) g ad42 (by decide) (by decide) rf42_62 ft12_62 ?_
          refine ev_iload_n rfl ?_
          refine g_iald g ad79 rt79 (by omega) (by omega) (fun v52152 ev52152 lv52152 uv52152 => ?_)
          refine ev_iconst ?_
          refine ev_icmpne f377_31 (fun c52153 => ?_) (fun c52153 => ?_)
          · refine ev_aload_n rfl ?_
            refine g_getp (r := 42) (c := 79) g ad42 (by decide) (by decide) rf42_62 ft12_62 ?_
            refine ev_iload_n rfl ?_
            refine g_ialdv (v := v52152) g ad79 (by omega) (by omega) (ev52152) ?_
            refine ev_iflt f377_72 (fun c52154 => ?_) (fun c52154 => ?_)
            · refine ev_bipush ?_
              exact ev_ret rfl (by decide) (by decide) ⟨_, rfl, by omega, by omega, g, k0⟩
            · refine ev_aload_n rfl ?_
              refine g_getp (r := 42) (c := 60) g ad42 (by decide) (by decide) rf42_29 ft12_29 ?_
              refine ev_aload_n rfl ?_
              refine g_getp (r := 42) (c := 79) g ad42 (by decide) (by decide) rf42_62 ft12_62 ?_
              refine ev_iload_n rfl ?_
              refine g_ialdv (v := v52152) g ad79 (by omega) (by omega) (ev52152) ?_
              refine g_iald g ad60 rt60 (by omega) (by omega) (fun v52155 ev52155 lv52155 uv52155 => ?_)
              refine ev_iload_n rfl ?_
              refine ev_in (d := 1) (a := 0) (b := 0) (cd' := c355_0) (m := 2) (L0 := [(0, v52155), (0, a2)]) (jcall_s (A := [(0, a2), (0, v52155)]) (S' := []) (by decide) rfl (Nat.le_of_ble_eq_true rfl)) (by decide) ml355 pp355 (Nat.le_of_ble_eq_true rfl) rfl (by decide) (by decide) ?_
              refine ev_iload_n rfl ?_
              refine ev_ifeq f355_29 (fun c52156 => ?_) (fun c52156 => ?_)
              · refine ev_iconst ?_
                refine ev_goto f355_34 ?_
                refine ev_ret rfl (by decide) (by decide) ?_
                show jEv _ _ _ _ _ _ _ (_, [(2, 42), (0, a1), (0, a2)], [(0, 1)], _, _, _)
                refine ev_ifeq f377_72 (fun c52157 => absurd c52157 (by omega)) (fun c52157 => ?_)
                refine ev_aload_n rfl ?_
                refine g_getp (r := 42) (c := 60) g ad42 (by decide) (by decide) rf42_29 ft12_29 ?_
                refine ev_aload_n rfl ?_
                refine g_getp (r := 42) (c := 79) g ad42 (by decide) (by decide) rf42_62 ft12_62 ?_
                refine ev_iload_n rfl ?_
                refine g_ialdv (v := v52152) g ad79 (by omega) (by omega) (ev52152) ?_
                refine g_ialdv (v := v52155) g ad60 (by omega) (by omega) (ev52155) ?_
                refine ev_goto f377_74 ?_
                exact ev_ret rfl (by decide) (by decide) ⟨_, rfl, by omega, by omega, g, k0⟩
              · refine ev_iload_n rfl ?_
                refine ev_iload_n rfl ?_
                refine ev_icmpeq f355_29 (fun c52158 => ?_) (fun c52158 => ?_)
                · refine ev_iconst ?_
                  refine ev_goto f355_34 ?_
                  refine ev_ret rfl (by decide) (by decide) ?_
                  show jEv _ _ _ _ _ _ _ (_, [(2, 42), (0, a1), (0, a2)], [(0, 1)], _, _, _)
                  refine ev_ifeq f377_72 (fun c52159 => absurd c52159 (by omega)) (fun c52159 => ?_)
                  refine ev_aload_n rfl ?_
                  refine g_getp (r := 42) (c := 60) g ad42 (by decide) (by decide) rf42_29 ft12_29 ?_
                  refine ev_aload_n rfl ?_
                  refine g_getp (r := 42) (c := 79) g ad42 (by decide) (by decide) rf42_62 ft12_62 ?_
                  refine ev_iload_n rfl ?_
                  refine g_ialdv (v := v52152) g ad79 (by omega) (by omega) (ev52152) ?_
                  refine g_ialdv (v := v52155) g ad60 (by omega) (by omega) (ev52155) ?_
                  refine ev_goto f377_74 ?_
                  exact ev_ret rfl (by decide) (by decide) ⟨_, rfl, by omega, by omega, g, k0⟩
                · refine ev_iload_n rfl ?_
                  refine ev_iconst ?_
                  refine ev_icmpne f355_19 (fun c52160 => ?_) (fun c52160 => ?_)
                  · refine ev_iload_n rfl ?_
                    refine ev_iconst ?_
                    refine ev_icmpne f355_33 (fun c52161 => ?_) (fun c52161 => ?_)
                    · refine ev_iconst ?_
                      refine ev_ret rfl (by decide) (by decide) ?_
                      show jEv _ _ _ _ _ _ _ (_, [(2, 42), (0, a1), (0, a2)], [(0, 0)], _, _, _)
                      refine ev_ifeq f377_72 (fun c52162 => ?_) (fun c52162 => absurd c52162 (by omega))
                      refine ev_bipush ?_
                      exact ev_ret rfl (by decide) (by decide) ⟨_, rfl, by omega, by omega, g, k0⟩
                    · refine ev_iload_n rfl ?_
                      refine ev_iconst ?_
                      refine ev_icmpne f355_33 (fun c52163 => ?_) (fun c52163 => ?_)
                      · refine ev_iconst ?_
                        refine ev_ret rfl (by decide) (by decide) ?_
                        show jEv _ _ _ _ _ _ _ (_, [(2, 42), (0, a1), (0, a2)], [(0, 0)], _, _, _)
                        refine ev_ifeq f377_72 (fun c52164 => ?_) (fun c52164 => absurd c52164 (by omega))
                        refine ev_bipush ?_
                        exact ev_ret rfl (by decide) (by decide) ⟨_, rfl, by omega, by omega, g, k0⟩
                      · refine ev_iconst ?_
                        refine ev_goto f355_34 ?_
                        refine ev_ret rfl (by decide) (by decide) ?_
                        show jEv _ _ _ _ _ _ _ (_, [(2, 42), (0, a1), (0, a2)], [(0, 1)], _, _, _)
                        refine ev_ifeq f377_72 (fun c52165 => absurd c52165 (by omega)) (fun c52165 => ?_)
                        refine ev_aload_n rfl ?_
                        refine g_getp (r := 42) (c := 60) g ad42 (by decide) (by decide) rf42_29 ft12_29 ?_
                        refine ev_aload_n rfl ?_
                        refine g_getp (r := 42) (c := 79) g ad42 (by decide) (by decide) rf42_62 ft12_62 ?_
                        refine ev_iload_n rfl ?_
                        refine g_ialdv (v := v52152) g ad79 (by omega) (by omega) (ev52152) ?_
                        refine g_ialdv (v := v52155) g ad60 (by omega) (by omega) (ev52155) ?_
                        refine ev_goto f377_74 ?_
                        exact ev_ret rfl (by decide) (by decide) ⟨_, rfl, by omega, by omega, g, k0⟩
                  · refine ev_iload_n rfl ?_
                    refine ev_iconst ?_
                    refine ev_icmpeq f355_29 (fun c52166 => ?_) (fun c52166 => ?_)
                    · refine ev_iconst ?_
                      refine ev_goto f355_34 ?_
                      refine ev_ret rfl (by decide) (by decide) ?_
                      show jEv _ _ _ _ _ _ _ (_, [(2, 42), (0, a1), (0, a2)], [(0, 1)], _, _, _)
                      refine ev_ifeq f377_72 (fun c52167 => absurd c52167 (by omega)) (fun c52167 => ?_)
                      refine ev_aload_n rfl ?_
                      refine g_getp (r := 42) (c := 60) g ad42 (by decide) (by decide) rf42_29 ft12_29 ?_
                      refine ev_aload_n rfl ?_
                      refine g_getp (r := 42) (c := 79) g ad42 (by decide) (by decide) rf42_62 ft12_62 ?_
                      refine ev_iload_n rfl ?_
                      refine g_ialdv (v := v52152) g ad79 (by omega) (by omega) (ev52152) ?_
                      refine g_ialdv (v := v52155) g ad60 (by omega) (by omega) (ev52155) ?_
                      refine ev_goto f377_74 ?_
                      exact ev_ret rfl (by decide) (by decide) ⟨_, rfl, by omega, by omega, g, k0⟩
                    · refine ev_iload_n rfl ?_
                      refine ev_iconst ?_
                      refine ev_icmpne f355_33 (fun c52168 => ?_) (fun c52168 => absurd c52168 (by omega))
                      refine ev_iconst ?_
                      refine ev_ret rfl (by decide) (by decide) ?_
                      show jEv _ _ _ _ _ _ _ (_, [(2, 42), (0, a1), (0, a2)], [(0, 0)], _, _, _)
                      refine ev_ifeq f377_72 (fun c52169 => ?_) (fun c52169 => absurd c52169 (by omega))
                      refine ev_bipush ?_
                      exact ev_ret rfl (by decide) (by decide) ⟨_, rfl, by omega, by omega, g, k0⟩
          · refine ev_bipush ?_
            exact ev_ret rfl (by decide) (by decide) ⟨_, rfl, by omega, by omega, g, k0⟩
/-! 263 feed -/
set_option maxHeartbeats 4000000 in
theorem s263_l {G : GH} {h : JH} {a1 : Int} (la1 : (-2147483648) ≤ a1) (ua1 : a1 ≤ 2147483647) {a2 : Int} (la2 : (-2147483648) ≤ a2) (ua2 : a2 ≤ 2147483647) : ∀ N : Nat, (∀ (h1 : JH) (x3 y0 : Int), Gd G h1 → Kp [(42, 18), (54, 0)] h h1 → 1 ≤ a1 → a1 ≤ 4 → (-2147483648) ≤ a2 → a2 ≤ 2147483647 → 0 ≤ x3 → x3 ≤ 4 → (a1 + (-x3) + y0) ≤ 200 → h1.2.2 42 17 = y0 → 0 ≤ y0 → y0 ≤ 200 → ((-x3) + 4) < N → jEv (jOk 1) none (fun _ => 0) c263_0 0 0 (PI G [(42, 18), (54, 0)] h 0 (-3) 200) (c263_28, [(2, 42), (0, a1), (0, a2), (0, x3)], [], h1, 0, 0)) := by
  intro N
  induction N with
  | zero => exact fun h1 x3 y0 g1 k1 b0 b1 b2 b3 b4 b5 b6 b7 b8 b9 hm => absurd hm (by omega)
  | succ N ih =>
    show _
    intro h1 x3 y0 g1 k1 b0 b1 b2 b3 b4 b5 b6 ey0 ly0 uy0 hm
    refine ev_iload_n rfl ?_
    refine ev_iload_n rfl ?_
    refine ev_icmpge f263_65 (fun c52213 => ?_) (fun c52213 => ?_)
    · refine ev_aload_n rfl ?_
      refine g_getv (r := 42) (v := y0) g1 ad42 (by decide) ft12_17 (ey0) ?_
      exact ev_ret rfl (by decide) (by decide) ⟨_, rfl, by omega, by omega, g1, k1⟩
    · refine ev_aload_n rfl ?_
      refine g_getp (r := 42) (c := 54) g1 ad42 (by decide) (by decide) rf42_16 ft12_16 ?_
      refine ev_aload_n rfl ?_
      refine g_getv (r := 42) (v := y0) g1 ad42 (by decide) ft12_17 (ey0) ?_
      refine ev_iload_n rfl ?_
      refine ev_bipush ?_
      refine ev_iload_n rfl ?_
      refine ev_imul (r := (8 * x3)) (by unfold w32; omega) ?_
      refine g_ishrG (fun v52214 ev52214 lv52214 uv52214 => ?_)
      refine g_i2bG (fun v52215 ev52215 lv52215 uv52215 => ?_)
      refine g_bast (w := v52215) g1 ad54 rt54 (fun _ => rfl) (by omega) (by omega) (by unfold w8; omega) (by omega) (by omega) (fun h52216 e52216 g52216 => ?_)
      have k52216 := k1.wr e52216 rfl
      refine ev_aload_n rfl ?_
      refine ev_dup (by decide) ?_
      refine g_getv (r := 42) (v := y0) g52216 ad42 (by decide) ft12_17 (((jw_ne e52216 (Or.inl (by decide))).trans ey0)) ?_
      refine ev_iconst ?_
      refine ev_iadd (r := (y0 + 1)) (by unfold w32; omega) ?_
      refine g_putf (r := 42) g52216 ad42 (by decide) ft12_17 (by decide) (fun e => absurd e nz12_17) rf42_17 (by decide) (by omega) (by omega) (fun h52217 e52217 g52217 => ?_)
      have k52217 := k52216.wr e52217 rfl
      refine ev_iinc (w := (x3 + 1)) (L' := [(2, 42), (0, a1), (0, a2), (0, (x3 + 1))]) rfl (by unfold w32; omega) rfl ?_
      refine ev_goto f263_28 ?_
      exact ih _ _ _ g52217 k52217 (by omega) (by omega) (by omega) (by omega) (by omega) (by omega) (by omega) ((jw_eq e52217)) (by omega) (by omega) (by omega)
set_option maxHeartbeats 4000000 in
theorem s263 {G : GH} {h : JH} (g : Gd G h) {a1 : Int} (la1 : (-2147483648) ≤ a1) (ua1 : a1 ≤ 2147483647) {a2 : Int} (la2 : (-2147483648) ≤ a2) (ua2 : a2 ≤ 2147483647) : jOk 2 0 0 263 [(2, 42), (0, a1), (0, a2)] h (PI G [(42, 18), (54, 0)] h 0 (-3) 200) := by
  refine ⟨by decide, by rw [ml263]; exact Nat.le_of_ble_eq_true rfl, ?_⟩
  rw [ml263, pp263]
  show jEv _ none _ c263_0 0 0 _ (c263_0, [(2, 42), (0, a1), (0, a2), (9, 0)], [], h, 0, 0)
  have k0 := Kp.rf [(42, 18), (54, 0)] h
  refine ev_iload_n rfl ?_
  refine ev_iconst ?_
  refine ev_iconst ?_
  refine ev_in (d := 0) (a := 0) (b := 0) (cd' := c242_0) (m := 3) (L0 := [(0, a1), (0, 1), (0, 4)]) (jcall_s (A := [(0, 4), (0, 1), (0, a1)]) (S' := []) (by decide) rfl (Nat.le_of_ble_eq_true rfl)) (by decide) ml242 pp242 (Nat.le_of_ble_eq_true rfl) rfl (by decide) (by decide) ?_
  refine ev_iload_n rfl ?_
  refine ev_iload_n rfl ?_
  refine ev_icmplt f242_14 (fun c52218 => ?_) (fun c52218 => ?_)
  · refine ev_iconst ?_
    refine ev_ret rfl (by decide) (by decide) ?_
    show jEv _ _ _ _ _ _ _ (_, [(2, 42), (0, a1), (0, a2), (9, 0)], [(0, 0)], _, _, _)
    refine ev_ifne f263_11 (fun c52219 => absurd c52219 (by omega)) (fun c52219 => ?_)
    refine ev_iconst ?_
    exact ev_ret rfl (by decide) (by decide) ⟨_, rfl, by omega, by omega, g, k0⟩
  · refine ev_iload_n rfl ?_
    refine ev_iload_n rfl ?_
    refine ev_icmpgt f242_14 (fun c52220 => ?_) (fun c52220 => ?_)
    · refine ev_iconst ?_
      refine ev_ret rfl (by decide) (by decide) ?_
      show jEv _ _ _ _ _ _ _ (_, [(2, 42), (0, a1), (0, a2), (9, 0)], [(0, 0)], _, _, _)
      refine ev_ifne f263_11 (fun c52221 => absurd c52221 (by omega)) (fun c52221 => ?_)
      refine ev_iconst ?_
      exact ev_ret rfl (by decide) (by decide) ⟨_, rfl, by omega, by omega, g, k0⟩
    · refine ev_iconst ?_
      refine ev_goto f242_15 ?_
      refine ev_ret rfl (by decide) (by decide) ?_
      show jEv _ _ _ _ _ _ _ (_, [(2, 42), (0, a1), (0, a2), (9, 0)], [(0, 1)], _, _, _)
      refine ev_ifne f263_11 (fun c52222 => ?_) (fun c52222 => absurd c52222 (by omega))
      refine ev_aload_n rfl ?_
      obtain ⟨v52223, ev52223, lv52223, uv52223⟩ := g.rd ad42 (show 17 < 66 by decide) rf42_17
      refine g_getv (r := 42) (v := v52223) g ad42 (by decide) ft12_17 ev52223 ?_
      refine ev_iload_n rfl ?_
      refine ev_iadd (r := (a1 + v52223)) (by unfold w32; omega) ?_
      refine ev_sipush ?_
      refine ev_icmple f263_26 (fun c52224 => ?_) (fun c52224 => ?_)
      · refine ev_iconst ?_
        refine ev_istore_n (L' := [(2, 42), (0, a1), (0, a2), (0, 0)]) (Nat.le_of_ble_eq_true rfl) rfl ?_
        exact (s263_l la1 ua1 la2 ua2 10) _ _ _ g k0 (by omega) (by omega) (by omega) (by omega) (by omega) (by omega) (by omega) (ev52223) (by omega) (by omega) (by omega)
      · refine ev_bipush ?_
        exact ev_ret rfl (by decide) (by decide) ⟨_, rfl, by omega, by omega, g, k0⟩
/-! s279_w  -/
set_option maxHeartbeats 4000000 in
theorem s279_w_l {G : GH} {h : JH} {a2 : Int} (la2 : 0 ≤ a2) (ua2 : a2 ≤ 35) {a3 : Int} (la3 : 1 ≤ a3) (ua3 : a3 ≤ 99) {a4 : Int} (la4 : 1 ≤ a4) (ua4 : a4 ≤ 99) : ∀ N : Nat, (∀ (h1 : JH) (x5 y0 y1 : Int), Gd G h1 → Kp [(42, 23), (42, 24), (56, 0), (57, 0), (58, 0), (59, 0)] h h1 → 0 ≤ a2 → a2 ≤ 35 → 1 ≤ a3 → a3 ≤ 99 → 1 ≤ a4 → a4 ≤ 99 → 1 ≤ x5 → x5 ≤ 40 → h1.2.2 42 22 = y0 → 40 ≤ y0 → y0 ≤ 40 → h1.2.2 42 23 = y1 → 0 ≤ y1 → y1 ≤ 0 → ((-x5) + 40) < N → jEv (jOk 0) none (fun _ => 0) c279_0 0 0 (PV G [(42, 23), (42, 24), (56, 0), (57, 0), (58, 0), (59, 0)] h) (c279_17, [(2, 42), (0, (-1)), (0, a2), (0, a3), (0, a4), (0, x5)], [], h1, 0, 0)) := by
  intro N
  induction N with
  | zero => exact fun h1 x5 y0 y1 g1 k1 b0 b1 b2 b3 b4 b5 b6 b7 b8 b9 b10 b11 b12 b13 hm => absurd hm (by omega)
  | succ N ih =>
    show _
    intro h1 x5 y0 y1 g1 k1 b0 b1 b2 b3 b4 b5 b6 b7 ey0 ly0 uy0 ey1 ly1 uy1 hm
    refine ev_iload rfl ?_
    refine ev_bipush ?_
    refine ev_icmpge f279_94 (fun c52411 => ?_) (fun c52411 => ?_)
    · refine ev_aload_n rfl ?_
      refine ev_dup (by decide) ?_
      refine g_getv (r := 42) (v := y0) g1 ad42 (by decide) ft12_22 (ey0) ?_
      refine ev_iconst ?_
      refine ev_isub (r := (y0 - 1)) (by unfold w32; omega) ?_
      refine ev_putfG (r := 42) (g1.lt ad42) (g1.fam ad42 (by decide)) ft12_22 (fun e => absurd e nz12_22) (fun e => absurd e (by decide)) (fun h52412 e52412 => ?_)
      have g52412 := g1.less22 e52412 (by omega) (by rw [(ey0)]; omega)
      have k52412 := k1.wr e52412 rfl
      refine ev_aload_n rfl ?_
      refine g_getp (r := 42) (c := 56) g52412 ad42 (by decide) (by decide) rf42_24 ft12_24 ?_
      refine ev_aload_n rfl ?_
      refine g_getv (r := 42) (v := (y0 - 1)) g52412 ad42 (by decide) ft12_22 ((jw_eq e52412)) ?_
      refine ev_iload_n rfl ?_
      refine ev_iastG (r := 56) (j := ((y0 - 1)).toNat) (g52412.lt ad56) (g52412.tg ad56) (by omega) (by rw [g52412.ln ad56]; omega) (fun h52413 e52413 => ?_)
      have g52413 := g52412.sNt e52413 ad56 (by decide) (by rw [((jw_eq e52412)), (((jw_ne e52412 (Or.inr (by decide))).trans ey1))]; omega) (rt56 _) (by omega) (by omega)
      have k52413 := k52412.wr e52413 rfl
      refine ev_aload_n rfl ?_
      refine g_getp (r := 42) (c := 57) g52413 ad42 (by decide) (by decide) rf42_25 ft12_25 ?_
      refine ev_aload_n rfl ?_
      refine g_getv (r := 42) (v := (y0 - 1)) g52413 ad42 (by decide) ft12_22 (((jw_ne e52413 (Or.inl (by decide))).trans (jw_eq e52412))) ?_
      refine ev_iload_n rfl ?_
      refine ev_iastG (r := 57) (j := ((y0 - 1)).toNat) (g52413.lt ad57) (g52413.tg ad57) (by omega) (by rw [g52413.ln ad57]; omega) (fun h52414 e52414 => ?_)
      have g52414 := g52413.sNt e52414 ad57 (by decide) (by rw [(((jw_ne e52413 (Or.inl (by decide))).trans (jw_eq e52412))), (((jw_ne e52413 (Or.inl (by decide))).trans ((jw_ne e52412 (Or.inr (by decide))).trans ey1)))]; omega) (rt57 _) (by omega) (by omega)
      have k52414 := k52413.wr e52414 rfl
      refine ev_aload_n rfl ?_
      refine g_getp (r := 42) (c := 58) g52414 ad42 (by decide) (by decide) rf42_26 ft12_26 ?_
      refine ev_aload_n rfl ?_
      refine g_getv (r := 42) (v := (y0 - 1)) g52414 ad42 (by decide) ft12_22 (((jw_ne e52414 (Or.inl (by decide))).trans ((jw_ne e52413 (Or.inl (by decide))).trans (jw_eq e52412)))) ?_
      refine ev_iload_n rfl ?_
      refine ev_iastG (r := 58) (j := ((y0 - 1)).toNat) (g52414.lt ad58) (g52414.tg ad58) (by omega) (by rw [g52414.ln ad58]; omega) (fun h52415 e52415 => ?_)
      have g52415 := g52414.sNt e52415 ad58 (by decide) (by rw [(((jw_ne e52414 (Or.inl (by decide))).trans ((jw_ne e52413 (Or.inl (by decide))).trans (jw_eq e52412)))), (((jw_ne e52414 (Or.inl (by decide))).trans ((jw_ne e52413 (Or.inl (by decide))).trans ((jw_ne e52412 (Or.inr (by decide))).trans ey1))))]; omega) (rt58 _) (by omega) (by omega)
      have k52415 := k52414.wr e52415 rfl
      refine ev_aload_n rfl ?_
      refine g_getp (r := 42) (c := 59) g52415 ad42 (by decide) (by decide) rf42_27 ft12_27 ?_
      refine ev_aload_n rfl ?_
      refine g_getv (r := 42) (v := (y0 - 1)) g52415 ad42 (by decide) ft12_22 (((jw_ne e52415 (Or.inl (by decide))).trans ((jw_ne e52414 (Or.inl (by decide))).trans ((jw_ne e52413 (Or.inl (by decide))).trans (jw_eq e52412))))) ?_
      refine ev_iload rfl ?_
      refine ev_iastG (r := 59) (j := ((y0 - 1)).toNat) (g52415.lt ad59) (g52415.tg ad59) (by omega) (by rw [g52415.ln ad59]; omega) (fun h52416 e52416 => ?_)
      have g52416 := g52415.sNt e52416 ad59 (by decide) (by rw [(((jw_ne e52415 (Or.inl (by decide))).trans ((jw_ne e52414 (Or.inl (by decide))).trans ((jw_ne e52413 (Or.inl (by decide))).trans (jw_eq e52412))))), (((jw_ne e52415 (Or.inl (by decide))).trans ((jw_ne e52414 (Or.inl (by decide))).trans ((jw_ne e52413 (Or.inl (by decide))).trans ((jw_ne e52412 (Or.inr (by decide))).trans ey1)))))]; omega) (rt59 _) (by omega) (by omega)
      have k52416 := k52415.wr e52416 rfl
      refine ev_aload_n rfl ?_
      refine ev_dup (by decide) ?_
      refine g_getv (r := 42) (v := (y0 - 1)) g52416 ad42 (by decide) ft12_22 (((jw_ne e52416 (Or.inl (by decide))).trans ((jw_ne e52415 (Or.inl (by decide))).trans ((jw_ne e52414 (Or.inl (by decide))).trans ((jw_ne e52413 (Or.inl (by decide))).trans (jw_eq e52412)))))) ?_
      refine ev_iconst ?_
      refine ev_iadd (r := y0) (by unfold w32; omega) ?_
      refine ev_putfG (r := 42) (g52416.lt ad42) (g52416.fam ad42 (by decide)) ft12_22 (fun e => absurd e nz12_22) (fun e => absurd e (by decide)) (fun h52417 e52417 => ?_)
      have g52417 := g52416.more22 e52417 (by have q := (((jw_ne e52416 (Or.inl (by decide))).trans ((jw_ne e52415 (Or.inl (by decide))).trans ((jw_ne e52414 (Or.inl (by decide))).trans ((jw_ne e52413 (Or.inl (by decide))).trans (jw_eq e52412)))))); omega) (by rw [(((jw_ne e52416 (Or.inl (by decide))).trans ((jw_ne e52415 (Or.inl (by decide))).trans ((jw_ne e52414 (Or.inl (by decide))).trans ((jw_ne e52413 (Or.inl (by decide))).trans ((jw_ne e52412 (Or.inr (by decide))).trans ey1))))))]; omega) (by omega) (by rw [(((jw_ne e52416 (Or.inl (by decide))).trans ((jw_ne e52415 (Or.inl (by decide))).trans ((jw_ne e52414 (Or.inl (by decide))).trans ((jw_ne e52413 (Or.inl (by decide))).trans (jw_eq e52412))))))]; exact NtOk.w (((jw_ne e52416 (Or.inl (by decide))).trans ((jw_ne e52415 (Or.inl (by decide))).trans ((jw_ne e52414 (Or.inl (by decide))).trans (jw_eq e52413))))) (((jw_ne e52416 (Or.inl (by decide))).trans ((jw_ne e52415 (Or.inl (by decide))).trans (jw_eq e52414)))) (((jw_ne e52416 (Or.inl (by decide))).trans (jw_eq e52415))) ((jw_eq e52416)) (by omega) (by omega) (by omega) (by omega) (by omega))
      have k52417 := k52416.wr e52417 rfl
      exact ev_ret rfl (by decide) (by decide) ⟨rfl, g52417, k52417⟩
    · refine ev_aload_n rfl ?_
      refine ev_getf (r := 42) (v := 56) (g1.lt ad42) (g1.fam ad42 (by decide)) ft12_24 (g1.pt ad42 (i := 24) (by decide) rf42_24) ?_
      refine ev_iload rfl ?_
      refine ev_iconst ?_
      refine ev_isub (r := (x5 - 1)) (by unfold w32; omega) ?_
      refine ev_aload_n rfl ?_
      refine ev_getf (r := 42) (v := 56) (g1.lt ad42) (g1.fam ad42 (by decide)) ft12_24 (g1.pt ad42 (i := 24) (by decide) rf42_24) ?_
      refine ev_iload rfl ?_
      obtain ⟨v52419, ev52419⟩ : ∃ x : Int, h1.2.2 56 (x5).toNat = x := ⟨_, rfl⟩
      refine ev_iald (r := 56) (j := (x5).toNat) (v := v52419) (g1.lt ad56) (g1.tg ad56) (by omega) (by rw [g1.ln ad56]; omega) ev52419 ?_
      refine ev_iastG (r := 56) (j := (x5).toNat - 1) (g1.lt ad56) (g1.tg ad56) (by omega) (by rw [g1.ln ad56]; omega) (fun h52418a e52418a => ?_)
      refine ev_aload_n rfl ?_
      refine ev_getf (r := 42) (v := 57) (by rw [(jwr_ty e52418a).1]; exact g1.lt ad42) (by rw [(jwr_ty e52418a).2]; exact g1.fam ad42 (by decide)) ft12_25 ((jw_ne e52418a (Or.inl (by decide))).trans (g1.pt ad42 (i := 25) (by decide) rf42_25)) ?_
      refine ev_iload rfl ?_
      refine ev_iconst ?_
      refine ev_isub (r := (x5 - 1)) (by unfold w32; omega) ?_
      refine ev_aload_n rfl ?_
      refine ev_getf (r := 42) (v := 57) (by rw [(jwr_ty e52418a).1]; exact g1.lt ad42) (by rw [(jwr_ty e52418a).2]; exact g1.fam ad42 (by decide)) ft12_25 ((jw_ne e52418a (Or.inl (by decide))).trans (g1.pt ad42 (i := 25) (by decide) rf42_25)) ?_
      refine ev_iload rfl ?_
      obtain ⟨v52420, ev52420⟩ : ∃ x : Int, h1.2.2 57 (x5).toNat = x := ⟨_, rfl⟩
      refine ev_iald (r := 57) (j := (x5).toNat) (v := v52420) (by rw [(jwr_ty e52418a).1]; exact g1.lt ad57) (by rw [(jwr_ty e52418a).2]; exact g1.tg ad57) (by omega) (by rw [(jwr_ty e52418a).2, g1.ln ad57]; omega) ((jw_ne e52418a (Or.inl (by decide))).trans ev52420) ?_
      refine ev_iastG (r := 57) (j := (x5).toNat - 1) (by rw [(jwr_ty e52418a).1]; exact g1.lt ad57) (by rw [(jwr_ty e52418a).2]; exact g1.tg ad57) (by omega) (by rw [(jwr_ty e52418a).2, g1.ln ad57]; omega) (fun h52418b e52418b => ?_)
      refine ev_aload_n rfl ?_
      refine ev_getf (r := 42) (v := 58) (by rw [(jwr_ty e52418b).1, (jwr_ty e52418a).1]; exact g1.lt ad42) (by rw [(jwr_ty e52418b).2, (jwr_ty e52418a).2]; exact g1.fam ad42 (by decide)) ft12_26 ((jw_ne e52418b (Or.inl (by decide))).trans ((jw_ne e52418a (Or.inl (by decide))).trans (g1.pt ad42 (i := 26) (by decide) rf42_26))) ?_
      refine ev_iload rfl ?_
      refine ev_iconst ?_
      refine ev_isub (r := (x5 - 1)) (by unfold w32; omega) ?_
      refine ev_aload_n rfl ?_
      refine ev_getf (r := 42) (v := 58) (by rw [(jwr_ty e52418b).1, (jwr_ty e52418a).1]; exact g1.lt ad42) (by rw [(jwr_ty e52418b).2, (jwr_ty e52418a).2]; exact g1.fam ad42 (by decide)) ft12_26 ((jw_ne e52418b (Or.inl (by decide))).trans ((jw_ne e52418a (Or.inl (by decide))).trans (g1.pt ad42 (i := 26) (by decide) rf42_26))) ?_
      refine ev_iload rfl ?_
      obtain ⟨v52421, ev52421⟩ : ∃ x : Int, h1.2.2 58 (x5).toNat = x := ⟨_, rfl⟩
      refine ev_iald (r := 58) (j := (x5).toNat) (v := v52421) (by rw [(jwr_ty e52418b).1, (jwr_ty e52418a).1]; exact g1.lt ad58) (by rw [(jwr_ty e52418b).2, (jwr_ty e52418a).2]; exact g1.tg ad58) (by omega) (by rw [(jwr_ty e52418b).2, (jwr_ty e52418a).2, g1.ln ad58]; omega) ((jw_ne e52418b (Or.inl (by decide))).trans ((jw_ne e52418a (Or.inl (by decide))).trans ev52421)) ?_
      refine ev_iastG (r := 58) (j := (x5).toNat - 1) (by rw [(jwr_ty e52418b).1, (jwr_ty e52418a).1]; exact g1.lt ad58) (by rw [(jwr_ty e52418b).2, (jwr_ty e52418a).2]; exact g1.tg ad58) (by omega) (by rw [(jwr_ty e52418b).2, (jwr_ty e52418a).2, g1.ln ad58]; omega) (fun h52418c e52418c => ?_)
      refine ev_aload_n rfl ?_
      refine ev_getf (r := 42) (v := 59) (by rw [(jwr_ty e52418c).1, (jwr_ty e52418b).1, (jwr_ty e52418a).1]; exact g1.lt ad42) (by rw [(jwr_ty e52418c).2, (jwr_ty e52418b).2, (jwr_ty e52418a).2]; exact g1.fam ad42 (by decide)) ft12_27 ((jw_ne e52418c (Or.inl (by decide))).trans ((jw_ne e52418b (Or.inl (by decide))).trans ((jw_ne e52418a (Or.inl (by decide))).trans (g1.pt ad42 (i := 27) (by decide) rf42_27)))) ?_
      refine ev_iload rfl ?_
      refine ev_iconst ?_
      refine ev_isub (r := (x5 - 1)) (by unfold w32; omega) ?_
      refine ev_aload_n rfl ?_
      refine ev_getf (r := 42) (v := 59) (by rw [(jwr_ty e52418c).1, (jwr_ty e52418b).1, (jwr_ty e52418a).1]; exact g1.lt ad42) (by rw [(jwr_ty e52418c).2, (jwr_ty e52418b).2, (jwr_ty e52418a).2]; exact g1.fam ad42 (by decide)) ft12_27 ((jw_ne e52418c (Or.inl (by decide))).trans ((jw_ne e52418b (Or.inl (by decide))).trans ((jw_ne e52418a (Or.inl (by decide))).trans (g1.pt ad42 (i := 27) (by decide) rf42_27)))) ?_
      refine ev_iload rfl ?_
      obtain ⟨v52422, ev52422⟩ : ∃ x : Int, h1.2.2 59 (x5).toNat = x := ⟨_, rfl⟩
      refine ev_iald (r := 59) (j := (x5).toNat) (v := v52422) (by rw [(jwr_ty e52418c).1, (jwr_ty e52418b).1, (jwr_ty e52418a).1]; exact g1.lt ad59) (by rw [(jwr_ty e52418c).2, (jwr_ty e52418b).2, (jwr_ty e52418a).2]; exact g1.tg ad59) (by omega) (by rw [(jwr_ty e52418c).2, (jwr_ty e52418b).2, (jwr_ty e52418a).2, g1.ln ad59]; omega) ((jw_ne e52418c (Or.inl (by decide))).trans ((jw_ne e52418b (Or.inl (by decide))).trans ((jw_ne e52418a (Or.inl (by decide))).trans ev52422))) ?_
      refine ev_iastG (r := 59) (j := (x5).toNat - 1) (by rw [(jwr_ty e52418c).1, (jwr_ty e52418b).1, (jwr_ty e52418a).1]; exact g1.lt ad59) (by rw [(jwr_ty e52418c).2, (jwr_ty e52418b).2, (jwr_ty e52418a).2]; exact g1.tg ad59) (by omega) (by rw [(jwr_ty e52418c).2, (jwr_ty e52418b).2, (jwr_ty e52418a).2, g1.ln ad59]; omega) (fun h52418d e52418d => ?_)
      have g52418 := g1.shift (k := (x5).toNat) (by rw [(ey0)]; omega) (by omega) (by omega) e52418a e52418b e52418c e52418d ev52419 ev52420 ev52421 ev52422
      have k52418 := (((k1.wr e52418a rfl).wr e52418b rfl).wr e52418c rfl).wr e52418d rfl
      refine ev_iinc (w := (x5 + 1)) (L' := [(2, 42), (0, (-1)), (0, a2), (0, a3), (0, a4), (0, (x5 + 1))]) rfl (by unfold w32; omega) rfl ?_
      refine ev_goto f279_17 ?_
      exact ih _ _ _ _ g52418 k52418 (by omega) (by omega) (by omega) (by omega) (by omega) (by omega) (by omega) (by omega) (((jw_ne e52418d (Or.inl (by decide))).trans ((jw_ne e52418c (Or.inl (by decide))).trans ((jw_ne e52418b (Or.inl (by decide))).trans ((jw_ne e52418a (Or.inl (by decide))).trans ey0))))) (by omega) (by omega) (((jw_ne e52418d (Or.inl (by decide))).trans ((jw_ne e52418c (Or.inl (by decide))).trans ((jw_ne e52418b (Or.inl (by decide))).trans ((jw_ne e52418a (Or.inl (by decide))).trans ey1))))) (by omega) (by omega) (by omega)
set_option maxHeartbeats 4000000 in
theorem s279_w {G : GH} {h : JH} (g : Gd G h) {a2 : Int} (la2 : 0 ≤ a2) (ua2 : a2 ≤ 35) {a3 : Int} (la3 : 1 ≤ a3) (ua3 : a3 ≤ 99) {a4 : Int} (la4 : 1 ≤ a4) (ua4 : a4 ≤ 99) : jOk 1 0 0 279 [(2, 42), (0, (-1)), (0, a2), (0, a3), (0, a4)] h (PV G [(42, 23), (42, 24), (56, 0), (57, 0), (58, 0), (59, 0)] h) := by
  refine ⟨by decide, by rw [ml279]; exact Nat.le_of_ble_eq_true rfl, ?_⟩
  rw [ml279, pp279]
  show jEv _ none _ c279_0 0 0 _ (c279_0, [(2, 42), (0, (-1)), (0, a2), (0, a3), (0, a4), (9, 0)], [], h, 0, 0)
  have k0 := Kp.rf [(42, 23), (42, 24), (56, 0), (57, 0), (58, 0), (59, 0)] h
  refine ev_aload_n rfl ?_
  refine ev_iconst ?_
  obtain ⟨v52424, ev52424, lv52424, uv52424⟩ := g.rd ad42 (show 23 < 66 by decide) rf42_23
  refine ev_putfG (r := 42) (g.lt ad42) (g.fam ad42 (by decide)) ft12_23 (fun e => absurd e nz12_23) (fun e => absurd e (by decide)) (fun h52423 e52423 => ?_)
  have g52423 := g.less23 e52423 (by omega) (by rw [ev52424]; omega)
  have k52423 := k0.wr e52423 rfl
  refine ev_aload_n rfl ?_
  obtain ⟨v52425, ev52425, lv52425, uv52425⟩ := g52423.rd ad42 (show 22 < 66 by decide) rf42_22
  refine g_getv (r := 42) (v := v52425) g52423 ad42 (by decide) ft12_22 ev52425 ?_
  refine ev_bipush ?_
  refine ev_icmpne f279_104 (fun c52426 => ?_) (fun c52426 => ?_)
  · refine ev_aload_n rfl ?_
    refine g_getp (r := 42) (c := 56) g52423 ad42 (by decide) (by decide) rf42_24 ft12_24 ?_
    refine ev_aload_n rfl ?_
    refine g_getv (r := 42) (v := v52425) g52423 ad42 (by decide) ft12_22 (ev52425) ?_
    refine ev_iload_n rfl ?_
    refine ev_iastG (r := 56) (j := (v52425).toNat) (g52423.lt ad56) (g52423.tg ad56) (by omega) (by rw [g52423.ln ad56]; omega) (fun h52427 e52427 => ?_)
    have g52427 := g52423.sNt e52427 ad56 (by decide) (by rw [(ev52425), ((jw_eq e52423))]; omega) (rt56 _) (by omega) (by omega)
    have k52427 := k52423.wr e52427 rfl
    refine ev_aload_n rfl ?_
    refine g_getp (r := 42) (c := 57) g52427 ad42 (by decide) (by decide) rf42_25 ft12_25 ?_
    refine ev_aload_n rfl ?_
    refine g_getv (r := 42) (v := v52425) g52427 ad42 (by decide) ft12_22 (((jw_ne e52427 (Or.inl (by decide))).trans ev52425)) ?_
    refine ev_iload_n rfl ?_
    refine ev_iastG (r := 57) (j := (v52425).toNat) (g52427.lt ad57) (g52427.tg ad57) (by omega) (by rw [g52427.ln ad57]; omega) (fun h52428 e52428 => ?_)
    have g52428 := g52427.sNt e52428 ad57 (by decide) (by rw [(((jw_ne e52427 (Or.inl (by decide))).trans ev52425)), (((jw_ne e52427 (Or.inl (by decide))).trans (jw_eq e52423)))]; omega) (rt57 _) (by omega) (by omega)
    have k52428 := k52427.wr e52428 rfl
    refine ev_aload_n rfl ?_
    refine g_getp (r := 42) (c := 58) g52428 ad42 (by decide) (by decide) rf42_26 ft12_26 ?_
    refine ev_aload_n rfl ?_
    refine g_getv (r := 42) (v := v52425) g52428 ad42 (by decide) ft12_22 (((jw_ne e52428 (Or.inl (by decide))).trans ((jw_ne e52427 (Or.inl (by decide))).trans ev52425))) ?_
    refine ev_iload_n rfl ?_
    refine ev_iastG (r := 58) (j := (v52425).toNat) (g52428.lt ad58) (g52428.tg ad58) (by omega) (by rw [g52428.ln ad58]; omega) (fun h52429 e52429 => ?_)
    have g52429 := g52428.sNt e52429 ad58 (by decide) (by rw [(((jw_ne e52428 (Or.inl (by decide))).trans ((jw_ne e52427 (Or.inl (by decide))).trans ev52425))), (((jw_ne e52428 (Or.inl (by decide))).trans ((jw_ne e52427 (Or.inl (by decide))).trans (jw_eq e52423))))]; omega) (rt58 _) (by omega) (by omega)
    have k52429 := k52428.wr e52429 rfl
    refine ev_aload_n rfl ?_
    refine g_getp (r := 42) (c := 59) g52429 ad42 (by decide) (by decide) rf42_27 ft12_27 ?_
    refine ev_aload_n rfl ?_
    refine g_getv (r := 42) (v := v52425) g52429 ad42 (by decide) ft12_22 (((jw_ne e52429 (Or.inl (by decide))).trans ((jw_ne e52428 (Or.inl (by decide))).trans ((jw_ne e52427 (Or.inl (by decide))).trans ev52425)))) ?_
    refine ev_iload rfl ?_
    refine ev_iastG (r := 59) (j := (v52425).toNat) (g52429.lt ad59) (g52429.tg ad59) (by omega) (by rw [g52429.ln ad59]; omega) (fun h52430 e52430 => ?_)
    have g52430 := g52429.sNt e52430 ad59 (by decide) (by rw [(((jw_ne e52429 (Or.inl (by decide))).trans ((jw_ne e52428 (Or.inl (by decide))).trans ((jw_ne e52427 (Or.inl (by decide))).trans ev52425)))), (((jw_ne e52429 (Or.inl (by decide))).trans ((jw_ne e52428 (Or.inl (by decide))).trans ((jw_ne e52427 (Or.inl (by decide))).trans (jw_eq e52423)))))]; omega) (rt59 _) (by omega) (by omega)
    have k52430 := k52429.wr e52430 rfl
    refine ev_aload_n rfl ?_
    refine ev_dup (by decide) ?_
    refine g_getv (r := 42) (v := v52425) g52430 ad42 (by decide) ft12_22 (((jw_ne e52430 (Or.inl (by decide))).trans ((jw_ne e52429 (Or.inl (by decide))).trans ((jw_ne e52428 (Or.inl (by decide))).trans ((jw_ne e52427 (Or.inl (by decide))).trans ev52425))))) ?_
    refine ev_iconst ?_
    refine ev_iadd (r := (v52425 + 1)) (by unfold w32; omega) ?_
    refine ev_putfG (r := 42) (g52430.lt ad42) (g52430.fam ad42 (by decide)) ft12_22 (fun e => absurd e nz12_22) (fun e => absurd e (by decide)) (fun h52431 e52431 => ?_)
    have g52431 := g52430.more22 e52431 (by have q := (((jw_ne e52430 (Or.inl (by decide))).trans ((jw_ne e52429 (Or.inl (by decide))).trans ((jw_ne e52428 (Or.inl (by decide))).trans ((jw_ne e52427 (Or.inl (by decide))).trans ev52425))))); omega) (((jw_ne e52430 (Or.inl (by decide))).trans ((jw_ne e52429 (Or.inl (by decide))).trans ((jw_ne e52428 (Or.inl (by decide))).trans ((jw_ne e52427 (Or.inl (by decide))).trans (jw_eq e52423)))))) (by omega) (by rw [(((jw_ne e52430 (Or.inl (by decide))).trans ((jw_ne e52429 (Or.inl (by decide))).trans ((jw_ne e52428 (Or.inl (by decide))).trans ((jw_ne e52427 (Or.inl (by decide))).trans ev52425)))))]; exact NtOk.w (((jw_ne e52430 (Or.inl (by decide))).trans ((jw_ne e52429 (Or.inl (by decide))).trans ((jw_ne e52428 (Or.inl (by decide))).trans (jw_eq e52427))))) (((jw_ne e52430 (Or.inl (by decide))).trans ((jw_ne e52429 (Or.inl (by decide))).trans (jw_eq e52428)))) (((jw_ne e52430 (Or.inl (by decide))).trans (jw_eq e52429))) ((jw_eq e52430)) (by omega) (by omega) (by omega) (by omega) (by omega))
    have k52431 := k52430.wr e52431 rfl
    exact ev_ret rfl (by decide) (by decide) ⟨rfl, g52431, k52431⟩
  · refine ev_iconst ?_
    refine ev_istore (L' := [(2, 42), (0, (-1)), (0, a2), (0, a3), (0, a4), (0, 1)]) (Nat.le_of_ble_eq_true rfl) rfl ?_
    exact (s279_w_l la2 ua2 la3 ua3 la4 ua4 80) _ _ _ _ g52423 k52423 (by omega) (by omega) (by omega) (by omega) (by omega) (by omega) (by omega) (by omega) (ev52425) (by omega) (by omega) ((jw_eq e52423)) (by omega) (by omega) (by omega)
/-! s279_c  -/
set_option maxHeartbeats 4000000 in
theorem s279_c_l {G : GH} {h : JH} {a2 : Int} (la2 : 0 ≤ a2) (ua2 : a2 ≤ 2799) {a3 : Int} (la3 : 0 ≤ a3) (ua3 : a3 ≤ 99) {a4 : Int} (la4 : 0 ≤ a4) (ua4 : a4 ≤ 99) : ∀ N : Nat, (∀ (h1 : JH) (x5 y0 y1 : Int), Gd G h1 → Kp [(42, 23), (42, 24), (56, 0), (57, 0), (58, 0), (59, 0)] h h1 → 0 ≤ a2 → a2 ≤ 2799 → 0 ≤ a3 → a3 ≤ 99 → 0 ≤ a4 → a4 ≤ 99 → 1 ≤ x5 → x5 ≤ 40 → h1.2.2 42 22 = y0 → 40 ≤ y0 → y0 ≤ 40 → h1.2.2 42 23 = y1 → 0 ≤ y1 → y1 ≤ 0 → ((-x5) + 40) < N → jEv (jOk 0) none (fun _ => 0) c279_0 0 0 (PV G [(42, 23), (42, 24), (56, 0), (57, 0), (58, 0), (59, 0)] h) (c279_17, [(2, 42), (0, 1), (0, a2), (0, a3), (0, a4), (0, x5)], [], h1, 0, 0)) := by
  intro N
  induction N with
  | zero => exact fun h1 x5 y0 y1 g1 k1 b0 b1 b2 b3 b4 b5 b6 b7 b8 b9 b10 b11 b12 b13 hm => absurd hm (by omega)
  | succ N ih =>
    show _
    intro h1 x5 y0 y1 g1 k1 b0 b1 b2 b3 b4 b5 b6 b7 ey0 ly0 uy0 ey1 ly1 uy1 hm
    refine ev_iload rfl ?_
    refine ev_bipush ?_
    refine ev_icmpge f279_94 (fun c52618 => ?_) (fun c52618 => ?_)
    · refine ev_aload_n rfl ?_
      refine ev_dup (by decide) ?_
      refine g_getv (r := 42) (v := y0) g1 ad42 (by decide) ft12_22 (ey0) ?_
      refine ev_iconst ?_
      refine ev_isub (r := (y0 - 1)) (by unfold w32; omega) ?_
      refine ev_putfG (r := 42) (g1.lt ad42) (g1.fam ad42 (by decide)) ft12_22 (fun e => absurd e nz12_22) (fun e => absurd e (by decide)) (fun h52619 e52619 => ?_)
      have g52619 := g1.less22 e52619 (by omega) (by rw [(ey0)]; omega)
      have k52619 := k1.wr e52619 rfl
      refine ev_aload_n rfl ?_
      refine g_getp (r := 42) (c := 56) g52619 ad42 (by decide) (by decide) rf42_24 ft12_24 ?_
      refine ev_aload_n rfl ?_
      refine g_getv (r := 42) (v := (y0 - 1)) g52619 ad42 (by decide) ft12_22 ((jw_eq e52619)) ?_
      refine ev_iload_n rfl ?_
      refine ev_iastG (r := 56) (j := ((y0 - 1)).toNat) (g52619.lt ad56) (g52619.tg ad56) (by omega) (by rw [g52619.ln ad56]; omega) (fun h52620 e52620 => ?_)
      have g52620 := g52619.sNt e52620 ad56 (by decide) (by rw [((jw_eq e52619)), (((jw_ne e52619 (Or.inr (by decide))).trans ey1))]; omega) (rt56 _) (by omega) (by omega)
      have k52620 := k52619.wr e52620 rfl
      refine ev_aload_n rfl ?_
      refine g_getp (r := 42) (c := 57) g52620 ad42 (by decide) (by decide) rf42_25 ft12_25 ?_
      refine ev_aload_n rfl ?_
      refine g_getv (r := 42) (v := (y0 - 1)) g52620 ad42 (by decide) ft12_22 (((jw_ne e52620 (Or.inl (by decide))).trans (jw_eq e52619))) ?_
      refine ev_iload_n rfl ?_
      refine ev_iastG (r := 57) (j := ((y0 - 1)).toNat) (g52620.lt ad57) (g52620.tg ad57) (by omega) (by rw [g52620.ln ad57]; omega) (fun h52621 e52621 => ?_)
      have g52621 := g52620.sNt e52621 ad57 (by decide) (by rw [(((jw_ne e52620 (Or.inl (by decide))).trans (jw_eq e52619))), (((jw_ne e52620 (Or.inl (by decide))).trans ((jw_ne e52619 (Or.inr (by decide))).trans ey1)))]; omega) (rt57 _) (by omega) (by omega)
      have k52621 := k52620.wr e52621 rfl
      refine ev_aload_n rfl ?_
      refine g_getp (r := 42) (c := 58) g52621 ad42 (by decide) (by decide) rf42_26 ft12_26 ?_
      refine ev_aload_n rfl ?_
      refine g_getv (r := 42) (v := (y0 - 1)) g52621 ad42 (by decide) ft12_22 (((jw_ne e52621 (Or.inl (by decide))).trans ((jw_ne e52620 (Or.inl (by decide))).trans (jw_eq e52619)))) ?_
      refine ev_iload_n rfl ?_
      refine ev_iastG (r := 58) (j := ((y0 - 1)).toNat) (g52621.lt ad58) (g52621.tg ad58) (by omega) (by rw [g52621.ln ad58]; omega) (fun h52622 e52622 => ?_)
      have g52622 := g52621.sNt e52622 ad58 (by decide) (by rw [(((jw_ne e52621 (Or.inl (by decide))).trans ((jw_ne e52620 (Or.inl (by decide))).trans (jw_eq e52619)))), (((jw_ne e52621 (Or.inl (by decide))).trans ((jw_ne e52620 (Or.inl (by decide))).trans ((jw_ne e52619 (Or.inr (by decide))).trans ey1))))]; omega) (rt58 _) (by omega) (by omega)
      have k52622 := k52621.wr e52622 rfl
      refine ev_aload_n rfl ?_
      refine g_getp (r := 42) (c := 59) g52622 ad42 (by decide) (by decide) rf42_27 ft12_27 ?_
      refine ev_aload_n rfl ?_
      refine g_getv (r := 42) (v := (y0 - 1)) g52622 ad42 (by decide) ft12_22 (((jw_ne e52622 (Or.inl (by decide))).trans ((jw_ne e52621 (Or.inl (by decide))).trans ((jw_ne e52620 (Or.inl (by decide))).trans (jw_eq e52619))))) ?_
      refine ev_iload rfl ?_
      refine ev_iastG (r := 59) (j := ((y0 - 1)).toNat) (g52622.lt ad59) (g52622.tg ad59) (by omega) (by rw [g52622.ln ad59]; omega) (fun h52623 e52623 => ?_)
      have g52623 := g52622.sNt e52623 ad59 (by decide) (by rw [(((jw_ne e52622 (Or.inl (by decide))).trans ((jw_ne e52621 (Or.inl (by decide))).trans ((jw_ne e52620 (Or.inl (by decide))).trans (jw_eq e52619))))), (((jw_ne e52622 (Or.inl (by decide))).trans ((jw_ne e52621 (Or.inl (by decide))).trans ((jw_ne e52620 (Or.inl (by decide))).trans ((jw_ne e52619 (Or.inr (by decide))).trans ey1)))))]; omega) (rt59 _) (by omega) (by omega)
      have k52623 := k52622.wr e52623 rfl
      refine ev_aload_n rfl ?_
      refine ev_dup (by decide) ?_
      refine g_getv (r := 42) (v := (y0 - 1)) g52623 ad42 (by decide) ft12_22 (((jw_ne e52623 (Or.inl (by decide))).trans ((jw_ne e52622 (Or.inl (by decide))).trans ((jw_ne e52621 (Or.inl (by decide))).trans ((jw_ne e52620 (Or.inl (by decide))).trans (jw_eq e52619)))))) ?_
      refine ev_iconst ?_
      refine ev_iadd (r := y0) (by unfold w32; omega) ?_
      refine ev_putfG (r := 42) (g52623.lt ad42) (g52623.fam ad42 (by decide)) ft12_22 (fun e => absurd e nz12_22) (fun e => absurd e (by decide)) (fun h52624 e52624 => ?_)
      have g52624 := g52623.more22 e52624 (by have q := (((jw_ne e52623 (Or.inl (by decide))).trans ((jw_ne e52622 (Or.inl (by decide))).trans ((jw_ne e52621 (Or.inl (by decide))).trans ((jw_ne e52620 (Or.inl (by decide))).trans (jw_eq e52619)))))); omega) (by rw [(((jw_ne e52623 (Or.inl (by decide))).trans ((jw_ne e52622 (Or.inl (by decide))).trans ((jw_ne e52621 (Or.inl (by decide))).trans ((jw_ne e52620 (Or.inl (by decide))).trans ((jw_ne e52619 (Or.inr (by decide))).trans ey1))))))]; omega) (by omega) (by rw [(((jw_ne e52623 (Or.inl (by decide))).trans ((jw_ne e52622 (Or.inl (by decide))).trans ((jw_ne e52621 (Or.inl (by decide))).trans ((jw_ne e52620 (Or.inl (by decide))).trans (jw_eq e52619))))))]; exact NtOk.c (((jw_ne e52623 (Or.inl (by decide))).trans ((jw_ne e52622 (Or.inl (by decide))).trans ((jw_ne e52621 (Or.inl (by decide))).trans (jw_eq e52620))))) (((jw_ne e52623 (Or.inl (by decide))).trans (jw_eq e52622))) ((jw_eq e52623)) (by omega) (by omega) (by omega) (by omega))
      have k52624 := k52623.wr e52624 rfl
      exact ev_ret rfl (by decide) (by decide) ⟨rfl, g52624, k52624⟩
    · refine ev_aload_n rfl ?_
      refine ev_getf (r := 42) (v := 56) (g1.lt ad42) (g1.fam ad42 (by decide)) ft12_24 (g1.pt ad42 (i := 24) (by decide) rf42_24) ?_
      refine ev_iload rfl ?_
      refine ev_iconst ?_
      refine ev_isub (r := (x5 - 1)) (by unfold w32; omega) ?_
      refine ev_aload_n rfl ?_
      refine ev_getf (r := 42) (v := 56) (g1.lt ad42) (g1.fam ad42 (by decide)) ft12_24 (g1.pt ad42 (i := 24) (by decide) rf42_24) ?_
      refine ev_iload rfl ?_
      obtain ⟨v52626, ev52626⟩ : ∃ x : Int, h1.2.2 56 (x5).toNat = x := ⟨_, rfl⟩
      refine ev_iald (r := 56) (j := (x5).toNat) (v := v52626) (g1.lt ad56) (g1.tg ad56) (by omega) (by rw [g1.ln ad56]; omega) ev52626 ?_
      refine ev_iastG (r := 56) (j := (x5).toNat - 1) (g1.lt ad56) (g1.tg ad56) (by omega) (by rw [g1.ln ad56]; omega) (fun h52625a e52625a => ?_)
      refine ev_aload_n rfl ?_
      refine ev_getf (r := 42) (v := 57) (by rw [(jwr_ty e52625a).1]; exact g1.lt ad42) (by rw [(jwr_ty e52625a).2]; exact g1.fam ad42 (by decide)) ft12_25 ((jw_ne e52625a (Or.inl (by decide))).trans (g1.pt ad42 (i := 25) (by decide) rf42_25)) ?_
      refine ev_iload rfl ?_
      refine ev_iconst ?_
      refine ev_isub (r := (x5 - 1)) (by unfold w32; omega) ?_
      refine ev_aload_n rfl ?_
      refine ev_getf (r := 42) (v := 57) (by rw [(jwr_ty e52625a).1]; exact g1.lt ad42) (by rw [(jwr_ty e52625a).2]; exact g1.fam ad42 (by decide)) ft12_25 ((jw_ne e52625a (Or.inl (by decide))).trans (g1.pt ad42 (i := 25) (by decide) rf42_25)) ?_
      refine ev_iload rfl ?_
      obtain ⟨v52627, ev52627⟩ : ∃ x : Int, h1.2.2 57 (x5).toNat = x := ⟨_, rfl⟩
      refine ev_iald (r := 57) (j := (x5).toNat) (v := v52627) (by rw [(jwr_ty e52625a).1]; exact g1.lt ad57) (by rw [(jwr_ty e52625a).2]; exact g1.tg ad57) (by omega) (by rw [(jwr_ty e52625a).2, g1.ln ad57]; omega) ((jw_ne e52625a (Or.inl (by decide))).trans ev52627) ?_
      refine ev_iastG (r := 57) (j := (x5).toNat - 1) (by rw [(jwr_ty e52625a).1]; exact g1.lt ad57) (by rw [(jwr_ty e52625a).2]; exact g1.tg ad57) (by omega) (by rw [(jwr_ty e52625a).2, g1.ln ad57]; omega) (fun h52625b e52625b => ?_)
      refine ev_aload_n rfl ?_
      refine ev_getf (r := 42) (v := 58) (by rw [(jwr_ty e52625b).1, (jwr_ty e52625a).1]; exact g1.lt ad42) (by rw [(jwr_ty e52625b).2, (jwr_ty e52625a).2]; exact g1.fam ad42 (by decide)) ft12_26 ((jw_ne e52625b (Or.inl (by decide))).trans ((jw_ne e52625a (Or.inl (by decide))).trans (g1.pt ad42 (i := 26) (by decide) rf42_26))) ?_
      refine ev_iload rfl ?_
      refine ev_iconst ?_
      refine ev_isub (r := (x5 - 1)) (by unfold w32; omega) ?_
      refine ev_aload_n rfl ?_
      refine ev_getf (r := 42) (v := 58) (by rw [(jwr_ty e52625b).1, (jwr_ty e52625a).1]; exact g1.lt ad42) (by rw [(jwr_ty e52625b).2, (jwr_ty e52625a).2]; exact g1.fam ad42 (by decide)) ft12_26 ((jw_ne e52625b (Or.inl (by decide))).trans ((jw_ne e52625a (Or.inl (by decide))).trans (g1.pt ad42 (i := 26) (by decide) rf42_26))) ?_
      refine ev_iload rfl ?_
      obtain ⟨v52628, ev52628⟩ : ∃ x : Int, h1.2.2 58 (x5).toNat = x := ⟨_, rfl⟩
      refine ev_iald (r := 58) (j := (x5).toNat) (v := v52628) (by rw [(jwr_ty e52625b).1, (jwr_ty e52625a).1]; exact g1.lt ad58) (by rw [(jwr_ty e52625b).2, (jwr_ty e52625a).2]; exact g1.tg ad58) (by omega) (by rw [(jwr_ty e52625b).2, (jwr_ty e52625a).2, g1.ln ad58]; omega) ((jw_ne e52625b (Or.inl (by decide))).trans ((jw_ne e52625a (Or.inl (by decide))).trans ev52628)) ?_
      refine ev_iastG (r := 58) (j := (x5).toNat - 1) (by rw [(jwr_ty e52625b).1, (jwr_ty e52625a).1]; exact g1.lt ad58) (by rw [(jwr_ty e52625b).2, (jwr_ty e52625a).2]; exact g1.tg ad58) (by omega) (by rw [(jwr_ty e52625b).2, (jwr_ty e52625a).2, g1.ln ad58]; omega) (fun h52625c e52625c => ?_)
      refine ev_aload_n rfl ?_
      refine ev_getf (r := 42) (v := 59) (by rw [(jwr_ty e52625c).1, (jwr_ty e52625b).1, (jwr_ty e52625a).1]; exact g1.lt ad42) (by rw [(jwr_ty e52625c).2, (jwr_ty e52625b).2, (jwr_ty e52625a).2]; exact g1.fam ad42 (by decide)) ft12_27 ((jw_ne e52625c (Or.inl (by decide))).trans ((jw_ne e52625b (Or.inl (by decide))).trans ((jw_ne e52625a (Or.inl (by decide))).trans (g1.pt ad42 (i := 27) (by decide) rf42_27)))) ?_
      refine ev_iload rfl ?_
      refine ev_iconst ?_
      refine ev_isub (r := (x5 - 1)) (by unfold w32; omega) ?_
      refine ev_aload_n rfl ?_
      refine ev_getf (r := 42) (v := 59) (by rw [(jwr_ty e52625c).1, (jwr_ty e52625b).1, (jwr_ty e52625a).1]; exact g1.lt ad42) (by rw [(jwr_ty e52625c).2, (jwr_ty e52625b).2, (jwr_ty e52625a).2]; exact g1.fam ad42 (by decide)) ft12_27 ((jw_ne e52625c (Or.inl (by decide))).trans ((jw_ne e52625b (Or.inl (by decide))).trans ((jw_ne e52625a (Or.inl (by decide))).trans (g1.pt ad42 (i := 27) (by decide) rf42_27)))) ?_
      refine ev_iload rfl ?_
      obtain ⟨v52629, ev52629⟩ : ∃ x : Int, h1.2.2 59 (x5).toNat = x := ⟨_, rfl⟩
      refine ev_iald (r := 59) (j := (x5).toNat) (v := v52629) (by rw [(jwr_ty e52625c).1, (jwr_ty e52625b).1, (jwr_ty e52625a).1]; exact g1.lt ad59) (by rw [(jwr_ty e52625c).2, (jwr_ty e52625b).2, (jwr_ty e52625a).2]; exact g1.tg ad59) (by omega) (by rw [(jwr_ty e52625c).2, (jwr_ty e52625b).2, (jwr_ty e52625a).2, g1.ln ad59]; omega) ((jw_ne e52625c (Or.inl (by decide))).trans ((jw_ne e52625b (Or.inl (by decide))).trans ((jw_ne e52625a (Or.inl (by decide))).trans ev52629))) ?_
      refine ev_iastG (r := 59) (j := (x5).toNat - 1) (by rw [(jwr_ty e52625c).1, (jwr_ty e52625b).1, (jwr_ty e52625a).1]; exact g1.lt ad59) (by rw [(jwr_ty e52625c).2, (jwr_ty e52625b).2, (jwr_ty e52625a).2]; exact g1.tg ad59) (by omega) (by rw [(jwr_ty e52625c).2, (jwr_ty e52625b).2, (jwr_ty e52625a).2, g1.ln ad59]; omega) (fun h52625d e52625d => ?_)
      have g52625 := g1.shift (k := (x5).toNat) (by rw [(ey0)]; omega) (by omega) (by omega) e52625a e52625b e52625c e52625d ev52626 ev52627 ev52628 ev52629
      have k52625 := (((k1.wr e52625a rfl).wr e52625b rfl).wr e52625c rfl).wr e52625d rfl
      refine ev_iinc (w := (x5 + 1)) (L' := [(2, 42), (0, 1), (0, a2), (0, a3), (0, a4), (0, (x5 + 1))]) rfl (by unfold w32; omega) rfl ?_
      refine ev_goto f279_17 ?_
      exact ih _ _ _ _ g52625 k52625 (by omega) (by omega) (by omega) (by omega) (by omega) (by omega) (by omega) (by omega) (((jw_ne e52625d (Or.inl (by decide))).trans ((jw_ne e52625c (Or.inl (by decide))).trans ((jw_ne e52625b (Or.inl (by decide))).trans ((jw_ne e52625a (Or.inl (by decide))).trans ey0))))) (by omega) (by omega) (((jw_ne e52625d (Or.inl (by decide))).trans ((jw_ne e52625c (Or.inl (by decide))).trans ((jw_ne e52625b (Or.inl (by decide))).trans ((jw_ne e52625a (Or.inl (by decide))).trans ey1))))) (by omega) (by omega) (by omega)
set_option maxHeartbeats 4000000 in
theorem s279_c {G : GH} {h : JH} (g : Gd G h) {a2 : Int} (la2 : 0 ≤ a2) (ua2 : a2 ≤ 2799) {a3 : Int} (la3 : 0 ≤ a3) (ua3 : a3 ≤ 99) {a4 : Int} (la4 : 0 ≤ a4) (ua4 : a4 ≤ 99) : jOk 1 0 0 279 [(2, 42), (0, 1), (0, a2), (0, a3), (0, a4)] h (PV G [(42, 23), (42, 24), (56, 0), (57, 0), (58, 0), (59, 0)] h) := by
  refine ⟨by decide, by rw [ml279]; exact Nat.le_of_ble_eq_true rfl, ?_⟩
  rw [ml279, pp279]
  show jEv _ none _ c279_0 0 0 _ (c279_0, [(2, 42), (0, 1), (0, a2), (0, a3), (0, a4), (9, 0)], [], h, 0, 0)
  have k0 := Kp.rf [(42, 23), (42, 24), (56, 0), (57, 0), (58, 0), (59, 0)] h
  refine ev_aload_n rfl ?_
  refine ev_iconst ?_
  obtain ⟨v52631, ev52631, lv52631, uv52631⟩ := g.rd ad42 (show 23 < 66 by decide) rf42_23
  refine ev_putfG (r := 42) (g.lt ad42) (g.fam ad42 (by decide)) ft12_23 (fun e => absurd e nz12_23) (fun e => absurd e (by decide)) (fun h52630 e52630 => ?_)
  have g52630 := g.less23 e52630 (by omega) (by rw [ev52631]; omega)
  have k52630 := k0.wr e52630 rfl
  refine ev_aload_n rfl ?_
  obtain ⟨v52632, ev52632, lv52632, uv52632⟩ := g52630.rd ad42 (show 22 < 66 by decide) rf42_22
  refine g_getv (r := 42) (v := v52632) g52630 ad42 (by decide) ft12_22 ev52632 ?_
  refine ev_bipush ?_
  refine ev_icmpne f279_104 (fun c52633 => ?_) (fun c52633 => ?_)
  · refine ev_aload_n rfl ?_
    refine g_getp (r := 42) (c := 56) g52630 ad42 (by decide) (by decide) rf42_24 ft12_24 ?_
    refine ev_aload_n rfl ?_
    refine g_getv (r := 42) (v := v52632) g52630 ad42 (by decide) ft12_22 (ev52632) ?_
    refine ev_iload_n rfl ?_
    refine ev_iastG (r := 56) (j := (v52632).toNat) (g52630.lt ad56) (g52630.tg ad56) (by omega) (by rw [g52630.ln ad56]; omega) (fun h52634 e52634 => ?_)
    have g52634 := g52630.sNt e52634 ad56 (by decide) (by rw [(ev52632), ((jw_eq e52630))]; omega) (rt56 _) (by omega) (by omega)
    have k52634 := k52630.wr e52634 rfl
    refine ev_aload_n rfl ?_
    refine g_getp (r := 42) (c := 57) g52634 ad42 (by decide) (by decide) rf42_25 ft12_25 ?_
    refine ev_aload_n rfl ?_
    refine g_getv (r := 42) (v := v52632) g52634 ad42 (by decide) ft12_22 (((jw_ne e52634 (Or.inl (by decide))).trans ev52632)) ?_
    refine ev_iload_n rfl ?_
    refine ev_iastG (r := 57) (j := (v52632).toNat) (g52634.lt ad57) (g52634.tg ad57) (by omega) (by rw [g52634.ln ad57]; omega) (fun h52635 e52635 => ?_)
    have g52635 := g52634.sNt e52635 ad57 (by decide) (by rw [(((jw_ne e52634 (Or.inl (by decide))).trans ev52632)), (((jw_ne e52634 (Or.inl (by decide))).trans (jw_eq e52630)))]; omega) (rt57 _) (by omega) (by omega)
    have k52635 := k52634.wr e52635 rfl
    refine ev_aload_n rfl ?_
    refine g_getp (r := 42) (c := 58) g52635 ad42 (by decide) (by decide) rf42_26 ft12_26 ?_
    refine ev_aload_n rfl ?_
    refine g_getv (r := 42) (v := v52632) g52635 ad42 (by decide) ft12_22 (((jw_ne e52635 (Or.inl (by decide))).trans ((jw_ne e52634 (Or.inl (by decide))).trans ev52632))) ?_
    refine ev_iload_n rfl ?_
    refine ev_iastG (r := 58) (j := (v52632).toNat) (g52635.lt ad58) (g52635.tg ad58) (by omega) (by rw [g52635.ln ad58]; omega) (fun h52636 e52636 => ?_)
    have g52636 := g52635.sNt e52636 ad58 (by decide) (by rw [(((jw_ne e52635 (Or.inl (by decide))).trans ((jw_ne e52634 (Or.inl (by decide))).trans ev52632))), (((jw_ne e52635 (Or.inl (by decide))).trans ((jw_ne e52634 (Or.inl (by decide))).trans (jw_eq e52630))))]; omega) (rt58 _) (by omega) (by omega)
    have k52636 := k52635.wr e52636 rfl
    refine ev_aload_n rfl ?_
    refine g_getp (r := 42) (c := 59) g52636 ad42 (by decide) (by decide) rf42_27 ft12_27 ?_
    refine ev_aload_n rfl ?_
    refine g_getv (r := 42) (v := v52632) g52636 ad42 (by decide) ft12_22 (((jw_ne e52636 (Or.inl (by decide))).trans ((jw_ne e52635 (Or.inl (by decide))).trans ((jw_ne e52634 (Or.inl (by decide))).trans ev52632)))) ?_
    refine ev_iload rfl ?_
    refine ev_iastG (r := 59) (j := (v52632).toNat) (g52636.lt ad59) (g52636.tg ad59) (by omega) (by rw [g52636.ln ad59]; omega) (fun h52637 e52637 => ?_)
    have g52637 := g52636.sNt e52637 ad59 (by decide) (by rw [(((jw_ne e52636 (Or.inl (by decide))).trans ((jw_ne e52635 (Or.inl (by decide))).trans ((jw_ne e52634 (Or.inl (by decide))).trans ev52632)))), (((jw_ne e52636 (Or.inl (by decide))).trans ((jw_ne e52635 (Or.inl (by decide))).trans ((jw_ne e52634 (Or.inl (by decide))).trans (jw_eq e52630)))))]; omega) (rt59 _) (by omega) (by omega)
    have k52637 := k52636.wr e52637 rfl
    refine ev_aload_n rfl ?_
    refine ev_dup (by decide) ?_
    refine g_getv (r := 42) (v := v52632) g52637 ad42 (by decide) ft12_22 (((jw_ne e52637 (Or.inl (by decide))).trans ((jw_ne e52636 (Or.inl (by decide))).trans ((jw_ne e52635 (Or.inl (by decide))).trans ((jw_ne e52634 (Or.inl (by decide))).trans ev52632))))) ?_
    refine ev_iconst ?_
    refine ev_iadd (r := (v52632 + 1)) (by unfold w32; omega) ?_
    refine ev_putfG (r := 42) (g52637.lt ad42) (g52637.fam ad42 (by decide)) ft12_22 (fun e => absurd e nz12_22) (fun e => absurd e (by decide)) (fun h52638 e52638 => ?_)
    have g52638 := g52637.more22 e52638 (by have q := (((jw_ne e52637 (Or.inl (by decide))).trans ((jw_ne e52636 (Or.inl (by decide))).trans ((jw_ne e52635 (Or.inl (by decide))).trans ((jw_ne e52634 (Or.inl (by decide))).trans ev52632))))); omega) (((jw_ne e52637 (Or.inl (by decide))).trans ((jw_ne e52636 (Or.inl (by decide))).trans ((jw_ne e52635 (Or.inl (by decide))).trans ((jw_ne e52634 (Or.inl (by decide))).trans (jw_eq e52630)))))) (by omega) (by rw [(((jw_ne e52637 (Or.inl (by decide))).trans ((jw_ne e52636 (Or.inl (by decide))).trans ((jw_ne e52635 (Or.inl (by decide))).trans ((jw_ne e52634 (Or.inl (by decide))).trans ev52632)))))]; exact NtOk.c (((jw_ne e52637 (Or.inl (by decide))).trans ((jw_ne e52636 (Or.inl (by decide))).trans ((jw_ne e52635 (Or.inl (by decide))).trans (jw_eq e52634))))) (((jw_ne e52637 (Or.inl (by decide))).trans (jw_eq e52636))) ((jw_eq e52637)) (by omega) (by omega) (by omega) (by omega))
    have k52638 := k52637.wr e52638 rfl
    exact ev_ret rfl (by decide) (by decide) ⟨rfl, g52638, k52638⟩
  · refine ev_iconst ?_
    refine ev_istore (L' := [(2, 42), (0, 1), (0, a2), (0, a3), (0, a4), (0, 1)]) (Nat.le_of_ble_eq_true rfl) rfl ?_
    exact (s279_c_l la2 ua2 la3 ua3 la4 ua4 80) _ _ _ _ g52630 k52630 (by omega) (by omega) (by omega) (by omega) (by omega) (by omega) (by omega) (by omega) (ev52632) (by omega) (by omega) ((jw_eq e52630)) (by omega) (by omega) (by omega)
/-! s279_e  -/
set_option maxHeartbeats 4000000 in
theorem s279_e_l {G : GH} {h : JH} {a2 : Int} (la2 : 0 ≤ a2) (ua2 : a2 ≤ 699) {a3 : Int} (la3 : (-999) ≤ a3) (ua3 : a3 ≤ 999) {a4 : Int} (la4 : (-999) ≤ a4) (ua4 : a4 ≤ 999) {w0 : Int} (ew0 : h.2.2 42 9 = w0) (lw0 : 0 ≤ w0) (uw0 : w0 ≤ 6) (F0 : (a2 + (-100) * w0) ≤ (-1)) (hk : h.2.2 49 (a2).toNat = 0) : ∀ N : Nat, (∀ (h1 : JH) (x5 y0 y1 y2 : Int), Gd G h1 → Kp [(42, 23), (42, 24), (56, 0), (57, 0), (58, 0), (59, 0)] h h1 → 0 ≤ a2 → a2 ≤ 599 → (-999) ≤ a3 → a3 ≤ 999 → (-999) ≤ a4 → a4 ≤ 999 → 1 ≤ x5 → x5 ≤ 40 → (a2 + (-100) * y0) ≤ (-1) → h1.2.2 42 9 = y0 → 0 ≤ y0 → y0 ≤ 6 → h1.2.2 42 22 = y1 → 40 ≤ y1 → y1 ≤ 40 → h1.2.2 42 23 = y2 → 0 ≤ y2 → y2 ≤ 0 → ((-x5) + 40) < N → jEv (jOk 0) none (fun _ => 0) c279_0 0 0 (PV G [(42, 23), (42, 24), (56, 0), (57, 0), (58, 0), (59, 0)] h) (c279_17, [(2, 42), (0, 0), (0, a2), (0, a3), (0, a4), (0, x5)], [], h1, 0, 0)) := by
  intro N
  induction N with
  | zero => exact fun h1 x5 y0 y1 y2 g1 k1 b0 b1 b2 b3 b4 b5 b6 b7 b8 b9 b10 b11 b12 b13 b14 b15 b16 b17 hm => absurd hm (by omega)
  | succ N ih =>
    show _
    intro h1 x5 y0 y1 y2 g1 k1 b0 b1 b2 b3 b4 b5 b6 b7 b8 ey0 ly0 uy0 ey1 ly1 uy1 ey2 ly2 uy2 hm
    refine ev_iload rfl ?_
    refine ev_bipush ?_
    refine ev_icmpge f279_94 (fun c52825 => ?_) (fun c52825 => ?_)
    · refine ev_aload_n rfl ?_
      refine ev_dup (by decide) ?_
      refine g_getv (r := 42) (v := y1) g1 ad42 (by decide) ft12_22 (ey1) ?_
      refine ev_iconst ?_
      refine ev_isub (r := (y1 - 1)) (by unfold w32; omega) ?_
      refine ev_putfG (r := 42) (g1.lt ad42) (g1.fam ad42 (by decide)) ft12_22 (fun e => absurd e nz12_22) (fun e => absurd e (by decide)) (fun h52826 e52826 => ?_)
      have g52826 := g1.less22 e52826 (by omega) (by rw [(ey1)]; omega)
      have k52826 := k1.wr e52826 rfl
      refine ev_aload_n rfl ?_
      refine g_getp (r := 42) (c := 56) g52826 ad42 (by decide) (by decide) rf42_24 ft12_24 ?_
      refine ev_aload_n rfl ?_
      refine g_getv (r := 42) (v := (y1 - 1)) g52826 ad42 (by decide) ft12_22 ((jw_eq e52826)) ?_
      refine ev_iload_n rfl ?_
      refine ev_iastG (r := 56) (j := ((y1 - 1)).toNat) (g52826.lt ad56) (g52826.tg ad56) (by omega) (by rw [g52826.ln ad56]; omega) (fun h52827 e52827 => ?_)
      have g52827 := g52826.sNt e52827 ad56 (by decide) (by rw [((jw_eq e52826)), (((jw_ne e52826 (Or.inr (by decide))).trans ey2))]; omega) (rt56 _) (by omega) (by omega)
      have k52827 := k52826.wr e52827 rfl
      refine ev_aload_n rfl ?_
      refine g_getp (r := 42) (c := 57) g52827 ad42 (by decide) (by decide) rf42_25 ft12_25 ?_
      refine ev_aload_n rfl ?_
      refine g_getv (r := 42) (v := (y1 - 1)) g52827 ad42 (by decide) ft12_22 (((jw_ne e52827 (Or.inl (by decide))).trans (jw_eq e52826))) ?_
      refine ev_iload_n rfl ?_
      refine ev_iastG (r := 57) (j := ((y1 - 1)).toNat) (g52827.lt ad57) (g52827.tg ad57) (by omega) (by rw [g52827.ln ad57]; omega) (fun h52828 e52828 => ?_)
      have g52828 := g52827.sNt e52828 ad57 (by decide) (by rw [(((jw_ne e52827 (Or.inl (by decide))).trans (jw_eq e52826))), (((jw_ne e52827 (Or.inl (by decide))).trans ((jw_ne e52826 (Or.inr (by decide))).trans ey2)))]; omega) (rt57 _) (by omega) (by omega)
      have k52828 := k52827.wr e52828 rfl
      refine ev_aload_n rfl ?_
      refine g_getp (r := 42) (c := 58) g52828 ad42 (by decide) (by decide) rf42_26 ft12_26 ?_
      refine ev_aload_n rfl ?_
      refine g_getv (r := 42) (v := (y1 - 1)) g52828 ad42 (by decide) ft12_22 (((jw_ne e52828 (Or.inl (by decide))).trans ((jw_ne e52827 (Or.inl (by decide))).trans (jw_eq e52826)))) ?_
      refine ev_iload_n rfl ?_
      refine ev_iastG (r := 58) (j := ((y1 - 1)).toNat) (g52828.lt ad58) (g52828.tg ad58) (by omega) (by rw [g52828.ln ad58]; omega) (fun h52829 e52829 => ?_)
      have g52829 := g52828.sNt e52829 ad58 (by decide) (by rw [(((jw_ne e52828 (Or.inl (by decide))).trans ((jw_ne e52827 (Or.inl (by decide))).trans (jw_eq e52826)))), (((jw_ne e52828 (Or.inl (by decide))).trans ((jw_ne e52827 (Or.inl (by decide))).trans ((jw_ne e52826 (Or.inr (by decide))).trans ey2))))]; omega) (rt58 _) (by omega) (by omega)
      have k52829 := k52828.wr e52829 rfl
      refine ev_aload_n rfl ?_
      refine g_getp (r := 42) (c := 59) g52829 ad42 (by decide) (by decide) rf42_27 ft12_27 ?_
      refine ev_aload_n rfl ?_
      refine g_getv (r := 42) (v := (y1 - 1)) g52829 ad42 (by decide) ft12_22 (((jw_ne e52829 (Or.inl (by decide))).trans ((jw_ne e52828 (Or.inl (by decide))).trans ((jw_ne e52827 (Or.inl (by decide))).trans (jw_eq e52826))))) ?_
      refine ev_iload rfl ?_
      refine ev_iastG (r := 59) (j := ((y1 - 1)).toNat) (g52829.lt ad59) (g52829.tg ad59) (by omega) (by rw [g52829.ln ad59]; omega) (fun h52830 e52830 => ?_)
      have g52830 := g52829.sNt e52830 ad59 (by decide) (by rw [(((jw_ne e52829 (Or.inl (by decide))).trans ((jw_ne e52828 (Or.inl (by decide))).trans ((jw_ne e52827 (Or.inl (by decide))).trans (jw_eq e52826))))), (((jw_ne e52829 (Or.inl (by decide))).trans ((jw_ne e52828 (Or.inl (by decide))).trans ((jw_ne e52827 (Or.inl (by decide))).trans ((jw_ne e52826 (Or.inr (by decide))).trans ey2)))))]; omega) (rt59 _) (by omega) (by omega)
      have k52830 := k52829.wr e52830 rfl
      refine ev_aload_n rfl ?_
      refine ev_dup (by decide) ?_
      refine g_getv (r := 42) (v := (y1 - 1)) g52830 ad42 (by decide) ft12_22 (((jw_ne e52830 (Or.inl (by decide))).trans ((jw_ne e52829 (Or.inl (by decide))).trans ((jw_ne e52828 (Or.inl (by decide))).trans ((jw_ne e52827 (Or.inl (by decide))).trans (jw_eq e52826)))))) ?_
      refine ev_iconst ?_
      refine ev_iadd (r := y1) (by unfold w32; omega) ?_
      refine ev_putfG (r := 42) (g52830.lt ad42) (g52830.fam ad42 (by decide)) ft12_22 (fun e => absurd e nz12_22) (fun e => absurd e (by decide)) (fun h52831 e52831 => ?_)
      have g52831 := g52830.more22 e52831 (by have q := (((jw_ne e52830 (Or.inl (by decide))).trans ((jw_ne e52829 (Or.inl (by decide))).trans ((jw_ne e52828 (Or.inl (by decide))).trans ((jw_ne e52827 (Or.inl (by decide))).trans (jw_eq e52826)))))); omega) (by rw [(((jw_ne e52830 (Or.inl (by decide))).trans ((jw_ne e52829 (Or.inl (by decide))).trans ((jw_ne e52828 (Or.inl (by decide))).trans ((jw_ne e52827 (Or.inl (by decide))).trans ((jw_ne e52826 (Or.inr (by decide))).trans ey2))))))]; omega) (by omega) (by rw [(((jw_ne e52830 (Or.inl (by decide))).trans ((jw_ne e52829 (Or.inl (by decide))).trans ((jw_ne e52828 (Or.inl (by decide))).trans ((jw_ne e52827 (Or.inl (by decide))).trans (jw_eq e52826))))))]; exact NtOk.e (((jw_ne e52830 (Or.inl (by decide))).trans ((jw_ne e52829 (Or.inl (by decide))).trans ((jw_ne e52828 (Or.inl (by decide))).trans (jw_eq e52827))))) (((jw_ne e52830 (Or.inl (by decide))).trans ((jw_ne e52829 (Or.inl (by decide))).trans (jw_eq e52828)))) (by omega) (by rw [(((jw_ne e52830 (Or.inl (by decide))).trans ((jw_ne e52829 (Or.inl (by decide))).trans ((jw_ne e52828 (Or.inl (by decide))).trans ((jw_ne e52827 (Or.inl (by decide))).trans ((jw_ne e52826 (Or.inr (by decide))).trans ey0))))))]; omega) (((jw_ne e52830 (Or.inl (by decide))).trans ((jw_ne e52829 (Or.inl (by decide))).trans ((jw_ne e52828 (Or.inl (by decide))).trans ((jw_ne e52827 (Or.inl (by decide))).trans ((jw_ne e52826 (Or.inl (by decide))).trans ((k1.v rfl).trans hk))))))))
      have k52831 := k52830.wr e52831 rfl
      exact ev_ret rfl (by decide) (by decide) ⟨rfl, g52831, k52831⟩
    · refine ev_aload_n rfl ?_
      refine ev_getf (r := 42) (v := 56) (g1.lt ad42) (g1.fam ad42 (by decide)) ft12_24 (g1.pt ad42 (i := 24) (by decide) rf42_24) ?_
      refine ev_iload rfl ?_
      refine ev_iconst ?_
      refine ev_isub (r := (x5 - 1)) (by unfold w32; omega) ?_
      refine ev_aload_n rfl ?_
      refine ev_getf (r := 42) (v := 56) (g1.lt ad42) (g1.fam ad42 (by decide)) ft12_24 (g1.pt ad42 (i := 24) (by decide) rf42_24) ?_
      refine ev_iload rfl ?_
      obtain ⟨v52833, ev52833⟩ : ∃ x : Int, h1.2.2 56 (x5).toNat = x := ⟨_, rfl⟩
      refine ev_iald (r := 56) (j := (x5).toNat) (v := v52833) (g1.lt ad56) (g1.tg ad56) (by omega) (by rw [g1.ln ad56]; omega) ev52833 ?_
      refine ev_iastG (r := 56) (j := (x5).toNat - 1) (g1.lt ad56) (g1.tg ad56) (by omega) (by rw [g1.ln ad56]; omega) (fun h52832a e52832a => ?_)
      refine ev_aload_n rfl ?_
      refine ev_getf (r := 42) (v := 57) (by rw [(jwr_ty e52832a).1]; exact g1.lt ad42) (by rw [(jwr_ty e52832a).2]; exact g1.fam ad42 (by decide)) ft12_25 ((jw_ne e52832a (Or.inl (by decide))).trans (g1.pt ad42 (i := 25) (by decide) rf42_25)) ?_
      refine ev_iload rfl ?_
      refine ev_iconst ?_
      refine ev_isub (r := (x5 - 1)) (by unfold w32; omega) ?_
      refine ev_aload_n rfl ?_
      refine ev_getf (r := 42) (v := 57) (by rw [(jwr_ty e52832a).1]; exact g1.lt ad42) (by rw [(jwr_ty e52832a).2]; exact g1.fam ad42 (by decide)) ft12_25 ((jw_ne e52832a (Or.inl (by decide))).trans (g1.pt ad42 (i := 25) (by decide) rf42_25)) ?_
      refine ev_iload rfl ?_
      obtain ⟨v52834, ev52834⟩ : ∃ x : Int, h1.2.2 57 (x5).toNat = x := ⟨_, rfl⟩
      refine ev_iald (r := 57) (j := (x5).toNat) (v := v52834) (by rw [(jwr_ty e52832a).1]; exact g1.lt ad57) (by rw [(jwr_ty e52832a).2]; exact g1.tg ad57) (by omega) (by rw [(jwr_ty e52832a).2, g1.ln ad57]; omega) ((jw_ne e52832a (Or.inl (by decide))).trans ev52834) ?_
      refine ev_iastG (r := 57) (j := (x5).toNat - 1) (by rw [(jwr_ty e52832a).1]; exact g1.lt ad57) (by rw [(jwr_ty e52832a).2]; exact g1.tg ad57) (by omega) (by rw [(jwr_ty e52832a).2, g1.ln ad57]; omega) (fun h52832b e52832b => ?_)
      refine ev_aload_n rfl ?_
      refine ev_getf (r := 42) (v := 58) (by rw [(jwr_ty e52832b).1, (jwr_ty e52832a).1]; exact g1.lt ad42) (by rw [(jwr_ty e52832b).2, (jwr_ty e52832a).2]; exact g1.fam ad42 (by decide)) ft12_26 ((jw_ne e52832b (Or.inl (by decide))).trans ((jw_ne e52832a (Or.inl (by decide))).trans (g1.pt ad42 (i := 26) (by decide) rf42_26))) ?_
      refine ev_iload rfl ?_
      refine ev_iconst ?_
      refine ev_isub (r := (x5 - 1)) (by unfold w32; omega) ?_
      refine ev_aload_n rfl ?_
      refine ev_getf (r := 42) (v := 58) (by rw [(jwr_ty e52832b).1, (jwr_ty e52832a).1]; exact g1.lt ad42) (by rw [(jwr_ty e52832b).2, (jwr_ty e52832a).2]; exact g1.fam ad42 (by decide)) ft12_26 ((jw_ne e52832b (Or.inl (by decide))).trans ((jw_ne e52832a (Or.inl (by decide))).trans (g1.pt ad42 (i := 26) (by decide) rf42_26))) ?_
      refine ev_iload rfl ?_
      obtain ⟨v52835, ev52835⟩ : ∃ x : Int, h1.2.2 58 (x5).toNat = x := ⟨_, rfl⟩
      refine ev_iald (r := 58) (j := (x5).toNat) (v := v52835) (by rw [(jwr_ty e52832b).1, (jwr_ty e52832a).1]; exact g1.lt ad58) (by rw [(jwr_ty e52832b).2, (jwr_ty e52832a).2]; exact g1.tg ad58) (by omega) (by rw [(jwr_ty e52832b).2, (jwr_ty e52832a).2, g1.ln ad58]; omega) ((jw_ne e52832b (Or.inl (by decide))).trans ((jw_ne e52832a (Or.inl (by decide))).trans ev52835)) ?_
      refine ev_iastG (r := 58) (j := (x5).toNat - 1) (by rw [(jwr_ty e52832b).1, (jwr_ty e52832a).1]; exact g1.lt ad58) (by rw [(jwr_ty e52832b).2, (jwr_ty e52832a).2]; exact g1.tg ad58) (by omega) (by rw [(jwr_ty e52832b).2, (jwr_ty e52832a).2, g1.ln ad58]; omega) (fun h52832c e52832c => ?_)
      refine ev_aload_n rfl ?_
      refine ev_getf (r := 42) (v := 59) (by rw [(jwr_ty e52832c).1, (jwr_ty e52832b).1, (jwr_ty e52832a).1]; exact g1.lt ad42) (by rw [(jwr_ty e52832c).2, (jwr_ty e52832b).2, (jwr_ty e52832a).2]; exact g1.fam ad42 (by decide)) ft12_27 ((jw_ne e52832c (Or.inl (by decide))).trans ((jw_ne e52832b (Or.inl (by decide))).trans ((jw_ne e52832a (Or.inl (by decide))).trans (g1.pt ad42 (i := 27) (by decide) rf42_27)))) ?_
      refine ev_iload rfl ?_
      refine ev_iconst ?_
      refine ev_isub (r := (x5 - 1)) (by unfold w32; omega) ?_
      refine ev_aload_n rfl ?_
      refine ev_getf (r := 42) (v := 59) (by rw [(jwr_ty e52832c).1, (jwr_ty e52832b).1, (jwr_ty e52832a).1]; exact g1.lt ad42) (by rw [(jwr_ty e52832c).2, (jwr_ty e52832b).2, (jwr_ty e52832a).2]; exact g1.fam ad42 (by decide)) ft12_27 ((jw_ne e52832c (Or.inl (by decide))).trans ((jw_ne e52832b (Or.inl (by decide))).trans ((jw_ne e52832a (Or.inl (by decide))).trans (g1.pt ad42 (i := 27) (by decide) rf42_27)))) ?_
      refine ev_iload rfl ?_
      obtain ⟨v52836, ev52836⟩ : ∃ x : Int, h1.2.2 59 (x5).toNat = x := ⟨_, rfl⟩
      refine ev_iald (r := 59) (j := (x5).toNat) (v := v52836) (by rw [(jwr_ty e52832c).1, (jwr_ty e52832b).1, (jwr_ty e52832a).1]; exact g1.lt ad59) (by rw [(jwr_ty e52832c).2, (jwr_ty e52832b).2, (jwr_ty e52832a).2]; exact g1.tg ad59) (by omega) (by rw [(jwr_ty e52832c).2, (jwr_ty e52832b).2, (jwr_ty e52832a).2, g1.ln ad59]; omega) ((jw_ne e52832c (Or.inl (by decide))).trans ((jw_ne e52832b (Or.inl (by decide))).trans ((jw_ne e52832a (Or.inl (by decide))).trans ev52836))) ?_
      refine ev_iastG (r := 59) (j := (x5).toNat - 1) (by rw [(jwr_ty e52832c).1, (jwr_ty e52832b).1, (jwr_ty e52832a).1]; exact g1.lt ad59) (by rw [(jwr_ty e52832c).2, (jwr_ty e52832b).2, (jwr_ty e52832a).2]; exact g1.tg ad59) (by omega) (by rw [(jwr_ty e52832c).2, (jwr_ty e52832b).2, (jwr_ty e52832a).2, g1.ln ad59]; omega) (fun h52832d e52832d => ?_)
      have g52832 := g1.shift (k := (x5).toNat) (by rw [(ey1)]; omega) (by omega) (by omega) e52832a e52832b e52832c e52832d ev52833 ev52834 ev52835 ev52836
      have k52832 := (((k1.wr e52832a rfl).wr e52832b rfl).wr e52832c rfl).wr e52832d rfl
      refine ev_iinc (w := (x5 + 1)) (L' := [(2, 42), (0, 0), (0, a2), (0, a3), (0, a4), (0, (x5 + 1))]) rfl (by unfold w32; omega) rfl ?_
      refine ev_goto f279_17 ?_
      exact ih _ _ _ _ _ g52832 k52832 (by omega) (by omega) (by omega) (by omega) (by omega) (by omega) (by omega) (by omega) (by omega) (((jw_ne e52832d (Or.inl (by decide))).trans ((jw_ne e52832c (Or.inl (by decide))).trans ((jw_ne e52832b (Or.inl (by decide))).trans ((jw_ne e52832a (Or.inl (by decide))).trans ey0))))) (by omega) (by omega) (((jw_ne e52832d (Or.inl (by decide))).trans ((jw_ne e52832c (Or.inl (by decide))).trans ((jw_ne e52832b (Or.inl (by decide))).trans ((jw_ne e52832a (Or.inl (by decide))).trans ey1))))) (by omega) (by omega) (((jw_ne e52832d (Or.inl (by decide))).trans ((jw_ne e52832c (Or.inl (by decide))).trans ((jw_ne e52832b (Or.inl (by decide))).trans ((jw_ne e52832a (Or.inl (by decide))).trans ey2))))) (by omega) (by omega) (by omega)
set_option maxHeartbeats 4000000 in
theorem s279_e {G : GH} {h : JH} (g : Gd G h) {a2 : Int} (la2 : 0 ≤ a2) (ua2 : a2 ≤ 699) {a3 : Int} (la3 : (-999) ≤ a3) (ua3 : a3 ≤ 999) {a4 : Int} (la4 : (-999) ≤ a4) (ua4 : a4 ≤ 999) {w0 : Int} (ew0 : h.2.2 42 9 = w0) (lw0 : 0 ≤ w0) (uw0 : w0 ≤ 6) (F0 : (a2 + (-100) * w0) ≤ (-1)) (hk : h.2.2 49 (a2).toNat = 0) : jOk 1 0 0 279 [(2, 42), (0, 0), (0, a2), (0, a3), (0, a4)] h (PV G [(42, 23), (42, 24), (56, 0), (57, 0), (58, 0), (59, 0)] h) := by
  refine ⟨by decide, by rw [ml279]; exact Nat.le_of_ble_eq_true rfl, ?_⟩
  rw [ml279, pp279]
  show jEv _ none _ c279_0 0 0 _ (c279_0, [(2, 42), (0, 0), (0, a2), (0, a3), (0, a4), (9, 0)], [], h, 0, 0)
  have k0 := Kp.rf [(42, 23), (42, 24), (56, 0), (57, 0), (58, 0), (59, 0)] h
  refine ev_aload_n rfl ?_
  refine ev_iconst ?_
  obtain ⟨v52838, ev52838, lv52838, uv52838⟩ := g.rd ad42 (show 23 < 66 by decide) rf42_23
  refine ev_putfG (r := 42) (g.lt ad42) (g.fam ad42 (by decide)) ft12_23 (fun e => absurd e nz12_23) (fun e => absurd e (by decide)) (fun h52837 e52837 => ?_)
  have g52837 := g.less23 e52837 (by omega) (by rw [ev52838]; omega)
  have k52837 := k0.wr e52837 rfl
  refine ev_aload_n rfl ?_
  obtain ⟨v52839, ev52839, lv52839, uv52839⟩ := g52837.rd ad42 (show 22 < 66 by decide) rf42_22
  refine g_getv (r := 42) (v := v52839) g52837 ad42 (by decide) ft12_22 ev52839 ?_
  refine ev_bipush ?_
  refine ev_icmpne f279_104 (fun c52840 => ?_) (fun c52840 => ?_)
  · refine ev_aload_n rfl ?_
    refine g_getp (r := 42) (c := 56) g52837 ad42 (by decide) (by decide) rf42_24 ft12_24 ?_
    refine ev_aload_n rfl ?_
    refine g_getv (r := 42) (v := v52839) g52837 ad42 (by decide) ft12_22 (ev52839) ?_
    refine ev_iload_n rfl ?_
    refine ev_iastG (r := 56) (j := (v52839).toNat) (g52837.lt ad56) (g52837.tg ad56) (by omega) (by rw [g52837.ln ad56]; omega) (fun h52841 e52841 => ?_)
    have g52841 := g52837.sNt e52841 ad56 (by decide) (by rw [(ev52839), ((jw_eq e52837))]; omega) (rt56 _) (by omega) (by omega)
    have k52841 := k52837.wr e52841 rfl
    refine ev_aload_n rfl ?_
    refine g_getp (r := 42) (c := 57) g52841 ad42 (by decide) (by decide) rf42_25 ft12_25 ?_
    refine ev_aload_n rfl ?_
    refine g_getv (r := 42) (v := v52839) g52841 ad42 (by decide) ft12_22 (((jw_ne e52841 (Or.inl (by decide))).trans ev52839)) ?_
    refine ev_iload_n rfl ?_
    refine ev_iastG (r := 57) (j := (v52839).toNat) (g52841.lt ad57) (g52841.tg ad57) (by omega) (by rw [g52841.ln ad57]; omega) (fun h52842 e52842 => ?_)
    have g52842 := g52841.sNt e52842 ad57 (by decide) (by rw [(((jw_ne e52841 (Or.inl (by decide))).trans ev52839)), (((jw_ne e52841 (Or.inl (by decide))).trans (jw_eq e52837)))]; omega) (rt57 _) (by omega) (by omega)
    have k52842 := k52841.wr e52842 rfl
    refine ev_aload_n rfl ?_
    refine g_getp (r := 42) (c := 58) g52842 ad42 (by decide) (by decide) rf42_26 ft12_26 ?_
    refine ev_aload_n rfl ?_
    refine g_getv (r := 42) (v := v52839) g52842 ad42 (by decide) ft12_22 (((jw_ne e52842 (Or.inl (by decide))).trans ((jw_ne e52841 (Or.inl (by decide))).trans ev52839))) ?_
    refine ev_iload_n rfl ?_
    refine ev_iastG (r := 58) (j := (v52839).toNat) (g52842.lt ad58) (g52842.tg ad58) (by omega) (by rw [g52842.ln ad58]; omega) (fun h52843 e52843 => ?_)
    have g52843 := g52842.sNt e52843 ad58 (by decide) (by rw [(((jw_ne e52842 (Or.inl (by decide))).trans ((jw_ne e52841 (Or.inl (by decide))).trans ev52839))), (((jw_ne e52842 (Or.inl (by decide))).trans ((jw_ne e52841 (Or.inl (by decide))).trans (jw_eq e52837))))]; omega) (rt58 _) (by omega) (by omega)
    have k52843 := k52842.wr e52843 rfl
    refine ev_aload_n rfl ?_
    refine g_getp (r := 42) (c := 59) g52843 ad42 (by decide) (by decide) rf42_27 ft12_27 ?_
    refine ev_aload_n rfl ?_
    refine g_getv (r := 42) (v := v52839) g52843 ad42 (by decide) ft12_22 (((jw_ne e52843 (Or.inl (by decide))).trans ((jw_ne e52842 (Or.inl (by decide))).trans ((jw_ne e52841 (Or.inl (by decide))).trans ev52839)))) ?_
    refine ev_iload rfl ?_
    refine ev_iastG (r := 59) (j := (v52839).toNat) (g52843.lt ad59) (g52843.tg ad59) (by omega) (by rw [g52843.ln ad59]; omega) (fun h52844 e52844 => ?_)
    have g52844 := g52843.sNt e52844 ad59 (by decide) (by rw [(((jw_ne e52843 (Or.inl (by decide))).trans ((jw_ne e52842 (Or.inl (by decide))).trans ((jw_ne e52841 (Or.inl (by decide))).trans ev52839)))), (((jw_ne e52843 (Or.inl (by decide))).trans ((jw_ne e52842 (Or.inl (by decide))).trans ((jw_ne e52841 (Or.inl (by decide))).trans (jw_eq e52837)))))]; omega) (rt59 _) (by omega) (by omega)
    have k52844 := k52843.wr e52844 rfl
    refine ev_aload_n rfl ?_
    refine ev_dup (by decide) ?_
    refine g_getv (r := 42) (v := v52839) g52844 ad42 (by decide) ft12_22 (((jw_ne e52844 (Or.inl (by decide))).trans ((jw_ne e52843 (Or.inl (by decide))).trans ((jw_ne e52842 (Or.inl (by decide))).trans ((jw_ne e52841 (Or.inl (by decide))).trans ev52839))))) ?_
    refine ev_iconst ?_
    refine ev_iadd (r := (v52839 + 1)) (by unfold w32; omega) ?_
    refine ev_putfG (r := 42) (g52844.lt ad42) (g52844.fam ad42 (by decide)) ft12_22 (fun e => absurd e nz12_22) (fun e => absurd e (by decide)) (fun h52845 e52845 => ?_)
    have g52845 := g52844.more22 e52845 (by have q := (((jw_ne e52844 (Or.inl (by decide))).trans ((jw_ne e52843 (Or.inl (by decide))).trans ((jw_ne e52842 (Or.inl (by decide))).trans ((jw_ne e52841 (Or.inl (by decide))).trans ev52839))))); omega) (((jw_ne e52844 (Or.inl (by decide))).trans ((jw_ne e52843 (Or.inl (by decide))).trans ((jw_ne e52842 (Or.inl (by decide))).trans ((jw_ne e52841 (Or.inl (by decide))).trans (jw_eq e52837)))))) (by omega) (by rw [(((jw_ne e52844 (Or.inl (by decide))).trans ((jw_ne e52843 (Or.inl (by decide))).trans ((jw_ne e52842 (Or.inl (by decide))).trans ((jw_ne e52841 (Or.inl (by decide))).trans ev52839)))))]; exact NtOk.e (((jw_ne e52844 (Or.inl (by decide))).trans ((jw_ne e52843 (Or.inl (by decide))).trans ((jw_ne e52842 (Or.inl (by decide))).trans (jw_eq e52841))))) (((jw_ne e52844 (Or.inl (by decide))).trans ((jw_ne e52843 (Or.inl (by decide))).trans (jw_eq e52842)))) (by omega) (by rw [(((jw_ne e52844 (Or.inl (by decide))).trans ((jw_ne e52843 (Or.inl (by decide))).trans ((jw_ne e52842 (Or.inl (by decide))).trans ((jw_ne e52841 (Or.inl (by decide))).trans ((jw_ne e52837 (Or.inr (by decide))).trans ew0))))))]; omega) (((jw_ne e52844 (Or.inl (by decide))).trans ((jw_ne e52843 (Or.inl (by decide))).trans ((jw_ne e52842 (Or.inl (by decide))).trans ((jw_ne e52841 (Or.inl (by decide))).trans ((jw_ne e52837 (Or.inl (by decide))).trans hk)))))))
    have k52845 := k52844.wr e52845 rfl
    exact ev_ret rfl (by decide) (by decide) ⟨rfl, g52845, k52845⟩
  · refine ev_iconst ?_
    refine ev_istore (L' := [(2, 42), (0, 0), (0, a2), (0, a3), (0, a4), (0, 1)]) (Nat.le_of_ble_eq_true rfl) rfl ?_
    exact (s279_e_l la2 ua2 la3 ua3 la4 ua4 ew0 lw0 uw0 F0 hk 80) _ _ _ _ _ g52837 k52837 (by omega) (by omega) (by omega) (by omega) (by omega) (by omega) (by omega) (by omega) (by omega) (((jw_ne e52837 (Or.inr (by decide))).trans ew0)) (by omega) (by omega) (ev52839) (by omega) (by omega) ((jw_eq e52837)) (by omega) (by omega) (by omega)
/-! 247 thing -/
set_option maxHeartbeats 4000000 in
theorem s247 {G : GH} {h : JH} (g : Gd G h) {a1 : Int} (la1 : (-2147483648) ≤ a1) (ua1 : a1 ≤ 2147483647) : jOk 2 0 0 247 [(2, 42), (0, a1)] h (PI G [(42, 2), (43, 0), (45, 0)] h 0 (-5) 3) := by
  refine ⟨by decide, by rw [ml247]; exact Nat.le_of_ble_eq_true rfl, ?_⟩
  rw [ml247, pp247]
  show jEv _ none _ c247_0 0 0 _ (c247_0, [(2, 42), (0, a1), (9, 0)], [], h, 0, 0)
  have k0 := Kp.rf [(42, 2), (43, 0), (45, 0)] h
  refine ev_iload_n rfl ?_
  refine ev_iconst ?_
  refine ev_iconst ?_
  refine ev_in (d := 0) (a := 0) (b := 0) (cd' := c242_0) (m := 3) (L0 := [(0, a1), (0, 2), (0, 3)]) (jcall_s (A := [(0, 3), (0, 2), (0, a1)]) (S' := []) (by decide) rfl (Nat.le_of_ble_eq_true rfl)) (by decide) ml242 pp242 (Nat.le_of_ble_eq_true rfl) rfl (by decide) (by decide) ?_
  refine ev_iload_n rfl ?_
  refine ev_iload_n rfl ?_
  refine ev_icmplt f242_14 (fun c52906 => ?_) (fun c52906 => ?_)
  · refine ev_iconst ?_
    refine ev_ret rfl (by decide) (by decide) ?_
    show jEv _ _ _ _ _ _ _ (_, [(2, 42), (0, a1), (9, 0)], [(0, 0)], _, _, _)
    refine ev_ifne f247_11 (fun c52907 => absurd c52907 (by omega)) (fun c52907 => ?_)
    refine ev_iconst ?_
    exact ev_ret rfl (by decide) (by decide) ⟨_, rfl, by omega, by omega, g, k0⟩
  · refine ev_iload_n rfl ?_
    refine ev_iload_n rfl ?_
    refine ev_icmpgt f242_14 (fun c52908 => ?_) (fun c52908 => ?_)
    · refine ev_iconst ?_
      refine ev_ret rfl (by decide) (by decide) ?_
      show jEv _ _ _ _ _ _ _ (_, [(2, 42), (0, a1), (9, 0)], [(0, 0)], _, _, _)
      refine ev_ifne f247_11 (fun c52909 => absurd c52909 (by omega)) (fun c52909 => ?_)
      refine ev_iconst ?_
      exact ev_ret rfl (by decide) (by decide) ⟨_, rfl, by omega, by omega, g, k0⟩
    · refine ev_iconst ?_
      refine ev_goto f242_15 ?_
      refine ev_ret rfl (by decide) (by decide) ?_
      show jEv _ _ _ _ _ _ _ (_, [(2, 42), (0, a1), (9, 0)], [(0, 1)], _, _, _)
      refine ev_ifne f247_11 (fun c52910 => ?_) (fun c52910 => absurd c52910 (by omega))
      refine ev_aload_n rfl ?_
      obtain ⟨v52911, ev52911, lv52911, uv52911⟩ := g.rd ad42 (show 9 < 66 by decide) rf42_9
      refine g_getv (r := 42) (v := v52911) g ad42 (by decide) ft12_9 ev52911 ?_
      refine ev_ifle f247_21 (fun c52912 => ?_) (fun c52912 => ?_)
      · refine ev_aload_n rfl ?_
        obtain ⟨v52913, ev52913, lv52913, uv52913⟩ := g.rd ad42 (show 1 < 66 by decide) rf42_1
        refine g_getv (r := 42) (v := v52913) g ad42 (by decide) ft12_1 ev52913 ?_
        refine ev_iconst ?_
        refine ev_icmpne f247_32 (fun c52914 => ?_) (fun c52914 => ?_)
        · refine ev_aload_n rfl ?_
          refine g_getp (r := 42) (c := 43) g ad42 (by decide) (by decide) rf42_2 ft12_2 ?_
          refine ev_aload_n rfl ?_
          refine g_getv (r := 42) (v := v52913) g ad42 (by decide) ft12_1 (ev52913) ?_
          refine ev_iload_n rfl ?_
          refine ev_iastG (r := 43) (j := (v52913).toNat) (g.lt ad43) (g.tg ad43) (by omega) (by rw [g.ln ad43]; omega) (fun h52915 e52915 => ?_)
          have g52915 := g.s43 e52915 (by rw [(ev52913)]; omega) (by omega) (by omega)
          have k52915 := k0.wr e52915 rfl
          refine ev_bipush ?_
          refine ev_aload_n rfl ?_
          refine g_getv (r := 42) (v := v52913) g52915 ad42 (by decide) ft12_1 (((jw_ne e52915 (Or.inl (by decide))).trans ev52913)) ?_
          refine ev_imul (r := (9 * v52913)) (by unfold w32; omega) ?_
          refine ev_istore_n (L' := [(2, 42), (0, a1), (0, (9 * v52913))]) (Nat.le_of_ble_eq_true rfl) rfl ?_
          refine ev_iload_n rfl ?_
          refine ev_bipush ?_
          refine ev_aload_n rfl ?_
          refine g_getv (r := 42) (v := v52913) g52915 ad42 (by decide) ft12_1 (((jw_ne e52915 (Or.inl (by decide))).trans ev52913)) ?_
          refine ev_imul (r := (9 * v52913)) (by unfold w32; omega) ?_
          refine ev_bipush ?_
          refine ev_iadd (r := (9 * v52913 + 9)) (by unfold w32; omega) ?_
          refine ev_icmpge f247_77 (fun c52916 => absurd c52916 (by omega)) (fun c52916 => ?_)
          refine ev_aload_n rfl ?_
          refine g_getp (r := 42) (c := 45) g52915 ad42 (by decide) (by decide) rf42_4 ft12_4 ?_
          refine ev_iload_n rfl ?_
          refine ev_iconst ?_
          refine ev_iastG (r := 45) (j := ((9 * v52913)).toNat) (g52915.lt ad45) (g52915.tg ad45) (by omega) (by rw [g52915.ln ad45]; omega) (fun h52917 e52917 => ?_)
          have g52917 := g52915.s45 e52917 (by omega) (by omega)
          have k52917 := k52915.wr e52917 rfl
          refine ev_iinc (w := (9 * v52913 + 1)) (L' := [(2, 42), (0, a1), (0, (9 * v52913 + 1))]) rfl (by unfold w32; omega) rfl ?_
          refine ev_goto f247_50 ?_
          refine ev_iload_n rfl ?_
          refine ev_bipush ?_
          refine ev_aload_n rfl ?_
          refine g_getv (r := 42) (v := v52913) g52917 ad42 (by decide) ft12_1 (((jw_ne e52917 (Or.inl (by decide))).trans ((jw_ne e52915 (Or.inl (by decide))).trans ev52913))) ?_
          refine ev_imul (r := (9 * v52913)) (by unfold w32; omega) ?_
          refine ev_bipush ?_
          refine ev_iadd (r := (9 * v52913 + 9)) (by unfold w32; omega) ?_
          refine ev_icmpge f247_77 (fun c52918 => absurd c52918 (by omega)) (fun c52918 => ?_)
          refine ev_aload_n rfl ?_
          refine g_getp (r := 42) (c := 45) g52917 ad42 (by decide) (by decide) rf42_4 ft12_4 ?_
          refine ev_iload_n rfl ?_
          refine ev_iconst ?_
          refine ev_iastG (r := 45) (j := ((9 * v52913 + 1)).toNat) (g52917.lt ad45) (g52917.tg ad45) (by omega) (by rw [g52917.ln ad45]; omega) (fun h52919 e52919 => ?_)
          have g52919 := g52917.s45 e52919 (by omega) (by omega)
          have k52919 := k52917.wr e52919 rfl
          refine ev_iinc (w := (9 * v52913 + 2)) (L' := [(2, 42), (0, a1), (0, (9 * v52913 + 2))]) rfl (by unfold w32; omega) rfl ?_
          refine ev_goto f247_50 ?_
          refine ev_iload_n rfl ?_
          refine ev_bipush ?_
          refine ev_aload_n rfl ?_
          refine g_getv (r := 42) (v := v52913) g52919 ad42 (by decide) ft12_1 (((jw_ne e52919 (Or.inl (by decide))).trans ((jw_ne e52917 (Or.inl (by decide))).trans ((jw_ne e52915 (Or.inl (by decide))).trans ev52913)))) ?_
          refine ev_imul (r := (9 * v52913)) (by unfold w32; omega) ?_
          refine ev_bipush ?_
          refine ev_iadd (r := (9 * v52913 + 9)) (by unfold w32; omega) ?_
          refine ev_icmpge f247_77 (fun c52920 => absurd c52920 (by omega)) (fun c52920 => ?_)
          refine ev_aload_n rfl ?_
          refine g_getp (r := 42) (c := 45) g52919 ad42 (by decide) (by decide) rf42_4 ft12_4 ?_
          refine ev_iload_n rfl ?_
          refine ev_iconst ?_
          refine ev_iastG (r := 45) (j := ((9 * v52913 + 2)).toNat) (g52919.lt ad45) (g52919.tg ad45) (by omega) (by rw [g52919.ln ad45]; omega) (fun h52921 e52921 => ?_)
          have g52921 := g52919.s45 e52921 (by omega) (by omega)
          have k52921 := k52919.wr e52921 rfl
          refine ev_iinc (w := (9 * v52913 + 3)) (L' := [(2, 42), (0, a1), (0, (9 * v52913 + 3))]) rfl (by unfold w32; omega) rfl ?_
          refine ev_goto f247_50 ?_
          refine ev_iload_n rfl ?_
          refine ev_bipush ?_
          refine ev_aload_n rfl ?_
          refine g_getv (r := 42) (v := v52913) g52921 ad42 (by decide) ft12_1 (((jw_ne e52921 (Or.inl (by decide))).trans ((jw_ne e52919 (Or.inl (by decide))).trans ((jw_ne e52917 (Or.inl (by decide))).trans ((jw_ne e52915 (Or.inl (by decide))).trans ev52913))))) ?_
          refine ev_imul (r := (9 * v52913)) (by unfold w32; omega) ?_
          refine ev_bipush ?_
          refine ev_iadd (r := (9 * v52913 + 9)) (by unfold w32; omega) ?_
          refine ev_icmpge f247_77 (fun c52922 => absurd c52922 (by omega)) (fun c52922 => ?_)
          refine ev_aload_n rfl ?_
          refine g_getp (r := 42) (c := 45) g52921 ad42 (by decide) (by decide) rf42_4 ft12_4 ?_
          refine ev_iload_n rfl ?_
          refine ev_iconst ?_
          refine ev_iastG (r := 45) (j := ((9 * v52913 + 3)).toNat) (g52921.lt ad45) (g52921.tg ad45) (by omega) (by rw [g52921.ln ad45]; omega) (fun h52923 e52923 => ?_)
          have g52923 := g52921.s45 e52923 (by omega) (by omega)
          have k52923 := k52921.wr e52923 rfl
          refine ev_iinc (w := (9 * v52913 + 4)) (L' := [(2, 42), (0, a1), (0, (9 * v52913 + 4))]) rfl (by unfold w32; omega) rfl ?_
          refine ev_goto f247_50 ?_
          refine ev_iload_n rfl ?_
          refine ev_bipush ?_
          refine ev_aload_n rfl ?_
          refine g_getv (r := 42) (v := v52913) g52923 ad42 (by decide) ft12_1 (((jw_ne e52923 (Or.inl (by decide))).trans ((jw_ne e52921 (Or.inl (by decide))).trans ((jw_ne e52919 (Or.inl (by decide))).trans ((jw_ne e52917 (Or.inl (by decide))).trans ((jw_ne e52915 (Or.inl (by decide))).trans ev52913)))))) ?_
          refine ev_imul (r := (9 * v52913)) (by unfold w32; omega) ?_
          refine ev_bipush ?_
          refine ev_iadd (r := (9 * v52913 + 9)) (by unfold w32; omega) ?_
          refine ev_icmpge f247_77 (fun c52924 => absurd c52924 (by omega)) (fun c52924 => ?_)
          refine ev_aload_n rfl ?_
          refine g_getp (r := 42) (c := 45) g52923 ad42 (by decide) (by decide) rf42_4 ft12_4 ?_
          refine ev_iload_n rfl ?_
          refine ev_iconst ?_
          refine ev_iastG (r := 45) (j := ((9 * v52913 + 4)).toNat) (g52923.lt ad45) (g52923.tg ad45) (by omega) (by rw [g52923.ln ad45]; omega) (fun h52925 e52925 => ?_)
          have g52925 := g52923.s45 e52925 (by omega) (by omega)
          have k52925 := k52923.wr e52925 rfl
          refine ev_iinc (w := (9 * v52913 + 5)) (L' := [(2, 42), (0, a1), (0, (9 * v52913 + 5))]) rfl (by unfold w32; omega) rfl ?_
          refine ev_goto f247_50 ?_
          refine ev_iload_n rfl ?_
          refine ev_bipush ?_
          refine ev_aload_n rfl ?_
          refine g_getv (r := 42) (v := v52913) g52925 ad42 (by decide) ft12_1 (((jw_ne e52925 (Or.inl (by decide))).trans ((jw_ne e52923 (Or.inl (by decide))).trans ((jw_ne e52921 (Or.inl (by decide))).trans ((jw_ne e52919 (Or.inl (by decide))).trans ((jw_ne e52917 (Or.inl (by decide))).trans ((jw_ne e52915 (Or.inl (by decide))).trans ev52913))))))) ?_
          refine ev_imul (r := (9 * v52913)) (by unfold w32; omega) ?_
          refine ev_bipush ?_
          refine ev_iadd (r := (9 * v52913 + 9)) (by unfold w32; omega) ?_
          refine ev_icmpge f247_77 (fun c52926 => absurd c52926 (by omega)) (fun c52926 => ?_)
          refine ev_aload_n rfl ?_
          refine g_getp (r := 42) (c := 45) g52925 ad42 (by decide) (by decide) rf42_4 ft12_4 ?_
          refine ev_iload_n rfl ?_
          refine ev_iconst ?_
          refine ev_iastG (r := 45) (j := ((9 * v52913 + 5)).toNat) (g52925.lt ad45) (g52925.tg ad45) (by omega) (by rw [g52925.ln ad45]; omega) (fun h52927 e52927 => ?_)
          have g52927 := g52925.s45 e52927 (by omega) (by omega)
          have k52927 := k52925.wr e52927 rfl
          refine ev_iinc (w := (9 * v52913 + 6)) (L' := [(2, 42), (0, a1), (0, (9 * v52913 + 6))]) rfl (by unfold w32; omega) rfl ?_
          refine ev_goto f247_50 ?_
          refine ev_iload_n rfl ?_
          refine ev_bipush ?_
          refine ev_aload_n rfl ?_
          refine g_getv (r := 42) (v := v52913) g52927 ad42 (by decide) ft12_1 (((jw_ne e52927 (Or.inl (by decide))).trans ((jw_ne e52925 (Or.inl (by decide))).trans ((jw_ne e52923 (Or.inl (by decide))).trans ((jw_ne e52921 (Or.inl (by decide))).trans ((jw_ne e52919 (Or.inl (by decide))).trans ((jw_ne e52917 (Or.inl (by decide))).trans ((jw_ne e52915 (Or.inl (by decide))).trans ev52913)))))))) ?_
          refine ev_imul (r := (9 * v52913)) (by unfold w32; omega) ?_
          refine ev_bipush ?_
          refine ev_iadd (r := (9 * v52913 + 9)) (by unfold w32; omega) ?_
          refine ev_icmpge f247_77 (fun c52928 => absurd c52928 (by omega)) (fun c52928 => ?_)
          refine ev_aload_n rfl ?_
          refine g_getp (r := 42) (c := 45) g52927 ad42 (by decide) (by decide) rf42_4 ft12_4 ?_
          refine ev_iload_n rfl ?_
          refine ev_iconst ?_
          refine ev_iastG (r := 45) (j := ((9 * v52913 + 6)).toNat) (g52927.lt ad45) (g52927.tg ad45) (by omega) (by rw [g52927.ln ad45]; omega) (fun h52929 e52929 => ?_)
          have g52929 := g52927.s45 e52929 (by omega) (by omega)
          have k52929 := k52927.wr e52929 rfl
          refine ev_iinc (w := (9 * v52913 + 7)) (L' := [(2, 42), (0, a1), (0, (9 * v52913 + 7))]) rfl (by unfold w32; omega) rfl ?_
          refine ev_goto f247_50 ?_
          refine ev_iload_n rfl ?_
          refine ev_bipush ?_
          refine ev_aload_n rfl ?_
          refine g_getv (r := 42) (v := v52913) g52929 ad42 (by decide) ft12_1 (((jw_ne e52929 (Or.inl (by decide))).trans ((jw_ne e52927 (Or.inl (by decide))).trans ((jw_ne e52925 (Or.inl (by decide))).trans ((jw_ne e52923 (Or.inl (by decide))).trans ((jw_ne e52921 (Or.inl (by decide))).trans ((jw_ne e52919 (Or.inl (by decide))).trans ((jw_ne e52917 (Or.inl (by decide))).trans ((jw_ne e52915 (Or.inl (by decide))).trans ev52913))))))))) ?_
          refine ev_imul (r := (9 * v52913)) (by unfold w32; omega) ?_
          refine ev_bipush ?_
          refine ev_iadd (r := (9 * v52913 + 9)) (by unfold w32; omega) ?_
          refine ev_icmpge f247_77 (fun c52930 => absurd c52930 (by omega)) (fun c52930 => ?_)
          refine ev_aload_n rfl ?_
          refine g_getp (r := 42) (c := 45) g52929 ad42 (by decide) (by decide) rf42_4 ft12_4 ?_
          refine ev_iload_n rfl ?_
          refine ev_iconst ?_
          refine ev_iastG (r := 45) (j := ((9 * v52913 + 7)).toNat) (g52929.lt ad45) (g52929.tg ad45) (by omega) (by rw [g52929.ln ad45]; omega) (fun h52931 e52931 => ?_)
          have g52931 := g52929.s45 e52931 (by omega) (by omega)
          have k52931 := k52929.wr e52931 rfl
          refine ev_iinc (w := (9 * v52913 + 8)) (L' := [(2, 42), (0, a1), (0, (9 * v52913 + 8))]) rfl (by unfold w32; omega) rfl ?_
          refine ev_goto f247_50 ?_
          refine ev_iload_n rfl ?_
          refine ev_bipush ?_
          refine ev_aload_n rfl ?_
          refine g_getv (r := 42) (v := v52913) g52931 ad42 (by decide) ft12_1 (((jw_ne e52931 (Or.inl (by decide))).trans ((jw_ne e52929 (Or.inl (by decide))).trans ((jw_ne e52927 (Or.inl (by decide))).trans ((jw_ne e52925 (Or.inl (by decide))).trans ((jw_ne e52923 (Or.inl (by decide))).trans ((jw_ne e52921 (Or.inl (by decide))).trans ((jw_ne e52919 (Or.inl (by decide))).trans ((jw_ne e52917 (Or.inl (by decide))).trans ((jw_ne e52915 (Or.inl (by decide))).trans ev52913)))))))))) ?_
          refine ev_imul (r := (9 * v52913)) (by unfold w32; omega) ?_
          refine ev_bipush ?_
          refine ev_iadd (r := (9 * v52913 + 9)) (by unfold w32; omega) ?_
          refine ev_icmpge f247_77 (fun c52932 => absurd c52932 (by omega)) (fun c52932 => ?_)
          refine ev_aload_n rfl ?_
          refine g_getp (r := 42) (c := 45) g52931 ad42 (by decide) (by decide) rf42_4 ft12_4 ?_
          refine ev_iload_n rfl ?_
          refine ev_iconst ?_
          refine ev_iastG (r := 45) (j := ((9 * v52913 + 8)).toNat) (g52931.lt ad45) (g52931.tg ad45) (by omega) (by rw [g52931.ln ad45]; omega) (fun h52933 e52933 => ?_)
          have g52933 := g52931.s45 e52933 (by omega) (by omega)
          have k52933 := k52931.wr e52933 rfl
          refine ev_iinc (w := (9 * v52913 + 9)) (L' := [(2, 42), (0, a1), (0, (9 * v52913 + 9))]) rfl (by unfold w32; omega) rfl ?_
          refine ev_goto f247_50 ?_
          refine ev_iload_n rfl ?_
          refine ev_bipush ?_
          refine ev_aload_n rfl ?_
          refine g_getv (r := 42) (v := v52913) g52933 ad42 (by decide) ft12_1 (((jw_ne e52933 (Or.inl (by decide))).trans ((jw_ne e52931 (Or.inl (by decide))).trans ((jw_ne e52929 (Or.inl (by decide))).trans ((jw_ne e52927 (Or.inl (by decide))).trans ((jw_ne e52925 (Or.inl (by decide))).trans ((jw_ne e52923 (Or.inl (by decide))).trans ((jw_ne e52921 (Or.inl (by decide))).trans ((jw_ne e52919 (Or.inl (by decide))).trans ((jw_ne e52917 (Or.inl (by decide))).trans ((jw_ne e52915 (Or.inl (by decide))).trans ev52913))))))))))) ?_
          refine ev_imul (r := (9 * v52913)) (by unfold w32; omega) ?_
          refine ev_bipush ?_
          refine ev_iadd (r := (9 * v52913 + 9)) (by unfold w32; omega) ?_
          refine ev_icmpge f247_77 (fun c52934 => ?_) (fun c52934 => absurd c52934 (by omega))
          refine ev_aload_n rfl ?_
          refine ev_dup (by decide) ?_
          refine g_getv (r := 42) (v := v52913) g52933 ad42 (by decide) ft12_1 (((jw_ne e52933 (Or.inl (by decide))).trans ((jw_ne e52931 (Or.inl (by decide))).trans ((jw_ne e52929 (Or.inl (by decide))).trans ((jw_ne e52927 (Or.inl (by decide))).trans ((jw_ne e52925 (Or.inl (by decide))).trans ((jw_ne e52923 (Or.inl (by decide))).trans ((jw_ne e52921 (Or.inl (by decide))).trans ((jw_ne e52919 (Or.inl (by decide))).trans ((jw_ne e52917 (Or.inl (by decide))).trans ((jw_ne e52915 (Or.inl (by decide))).trans ev52913))))))))))) ?_
          refine ev_iconst ?_
          refine ev_iadd (r := (v52913 + 1)) (by unfold w32; omega) ?_
          refine ev_putfG (r := 42) (g52933.lt ad42) (g52933.fam ad42 (by decide)) ft12_1 (fun e => absurd e nz12_1) (fun e => absurd e (by decide)) (fun h52935 e52935 => ?_)
          have g52935 := g52933.things e52935 (((jw_ne e52933 (Or.inl (by decide))).trans ((jw_ne e52931 (Or.inl (by decide))).trans ((jw_ne e52929 (Or.inl (by decide))).trans ((jw_ne e52927 (Or.inl (by decide))).trans ((jw_ne e52925 (Or.inl (by decide))).trans ((jw_ne e52923 (Or.inl (by decide))).trans ((jw_ne e52921 (Or.inl (by decide))).trans ((jw_ne e52919 (Or.inl (by decide))).trans ((jw_ne e52917 (Or.inl (by decide))).trans ((jw_ne e52915 (Or.inl (by decide))).trans ev52913))))))))))) (by omega) (by omega) (by rw [(((jw_ne e52933 (Or.inl (by decide))).trans ((jw_ne e52931 (Or.inl (by decide))).trans ((jw_ne e52929 (Or.inl (by decide))).trans ((jw_ne e52927 (Or.inl (by decide))).trans ((jw_ne e52925 (Or.inl (by decide))).trans ((jw_ne e52923 (Or.inl (by decide))).trans ((jw_ne e52921 (Or.inl (by decide))).trans ((jw_ne e52919 (Or.inl (by decide))).trans ((jw_ne e52917 (Or.inl (by decide))).trans (jw_eq e52915)))))))))))]; omega) (h9_of (by omega) (((jw_ne e52933 (Or.inr (by omega))).trans ((jw_ne e52931 (Or.inr (by omega))).trans ((jw_ne e52929 (Or.inr (by omega))).trans ((jw_ne e52927 (Or.inr (by omega))).trans ((jw_ne e52925 (Or.inr (by omega))).trans ((jw_ne e52923 (Or.inr (by omega))).trans ((jw_ne e52921 (Or.inr (by omega))).trans ((jw_ne e52919 (Or.inr (by omega))).trans (jw_eq e52917)))))))))) (((jw_ne e52933 (Or.inr (by omega))).trans ((jw_ne e52931 (Or.inr (by omega))).trans ((jw_ne e52929 (Or.inr (by omega))).trans ((jw_ne e52927 (Or.inr (by omega))).trans ((jw_ne e52925 (Or.inr (by omega))).trans ((jw_ne e52923 (Or.inr (by omega))).trans ((jw_ne e52921 (Or.inr (by omega))).trans (jw_eq e52919))))))))) (((jw_ne e52933 (Or.inr (by omega))).trans ((jw_ne e52931 (Or.inr (by omega))).trans ((jw_ne e52929 (Or.inr (by omega))).trans ((jw_ne e52927 (Or.inr (by omega))).trans ((jw_ne e52925 (Or.inr (by omega))).trans ((jw_ne e52923 (Or.inr (by omega))).trans (jw_eq e52921)))))))) (((jw_ne e52933 (Or.inr (by omega))).trans ((jw_ne e52931 (Or.inr (by omega))).trans ((jw_ne e52929 (Or.inr (by omega))).trans ((jw_ne e52927 (Or.inr (by omega))).trans ((jw_ne e52925 (Or.inr (by omega))).trans (jw_eq e52923))))))) (((jw_ne e52933 (Or.inr (by omega))).trans ((jw_ne e52931 (Or.inr (by omega))).trans ((jw_ne e52929 (Or.inr (by omega))).trans ((jw_ne e52927 (Or.inr (by omega))).trans (jw_eq e52925)))))) (((jw_ne e52933 (Or.inr (by omega))).trans ((jw_ne e52931 (Or.inr (by omega))).trans ((jw_ne e52929 (Or.inr (by omega))).trans (jw_eq e52927))))) (((jw_ne e52933 (Or.inr (by omega))).trans ((jw_ne e52931 (Or.inr (by omega))).trans (jw_eq e52929)))) (((jw_ne e52933 (Or.inr (by omega))).trans (jw_eq e52931))) ((jw_eq e52933)))
          have k52935 := k52933.wr e52935 rfl
          refine ev_aload_n rfl ?_
          refine g_getv (r := 42) (v := (v52913 + 1)) g52935 ad42 (by decide) ft12_1 ((jw_eq e52935)) ?_
          refine ev_iconst ?_
          refine ev_isub (r := v52913) (by unfold w32; omega) ?_
          exact ev_ret rfl (by decide) (by decide) ⟨_, rfl, by omega, by omega, g52935, k52935⟩
        · refine ev_bipush ?_
          exact ev_ret rfl (by decide) (by decide) ⟨_, rfl, by omega, by omega, g, k0⟩
      · refine ev_bipush ?_
        exact ev_ret rfl (by decide) (by decide) ⟨_, rfl, by omega, by omega, g, k0⟩
/-! 248 hang -/
set_option maxHeartbeats 4000000 in
theorem s248_l {G : GH} {h : JH} {a1 : Int} (la1 : (-2147483648) ≤ a1) (ua1 : a1 ≤ 2147483647) {a2 : Int} (la2 : (-2147483648) ≤ a2) (ua2 : a2 ≤ 2147483647) : ∀ N : Nat, (∀ (h1 : JH) (x3 : Int), Gd G h1 → Kp [(44, 0), (45, 0), (42, 23), (42, 24)] h h1 → 1 ≤ a1 → a1 ≤ 3 → 0 ≤ a2 → a2 ≤ 2 → 9 ≤ x3 → x3 ≤ 36 → ((-x3) + 36) < N → jEv (jOk 2) none (fun _ => 0) c248_0 0 0 (PI G [(44, 0), (45, 0), (42, 23), (42, 24)] h 0 (-5) 1) (c248_52, [(2, 42), (0, a1), (0, a2), (0, x3)], [], h1, 0, 0)) := by
  intro N
  induction N with
  | zero => exact fun h1 x3 g1 k1 b0 b1 b2 b3 b4 b5 hm => absurd hm (by omega)
  | succ N ih =>
    show _
    intro h1 x3 g1 k1 b0 b1 b2 b3 b4 b5 hm
    refine ev_iload_n rfl ?_
    refine ev_bipush ?_
    refine ev_iload_n rfl ?_
    refine ev_imul (r := (9 * a1)) (by unfold w32; omega) ?_
    refine ev_bipush ?_
    refine ev_iadd (r := (9 * a1 + 9)) (by unfold w32; omega) ?_
    refine ev_icmpge f248_76 (fun c53016 => ?_) (fun c53016 => ?_)
    · refine ev_aload_n rfl ?_
      refine ev_iconst ?_
      obtain ⟨v53018, ev53018, lv53018, uv53018⟩ := g1.rd ad42 (show 22 < 66 by decide) rf42_22
      refine ev_putfG (r := 42) (g1.lt ad42) (g1.fam ad42 (by decide)) ft12_22 (fun e => absurd e nz12_22) (fun e => absurd e (by decide)) (fun h53017 e53017 => ?_)
      have g53017 := g1.less22 e53017 (by omega) (by rw [ev53018]; omega)
      have k53017 := k1.wr e53017 rfl
      refine ev_aload_n rfl ?_
      refine ev_iconst ?_
      obtain ⟨v53020, ev53020, lv53020, uv53020⟩ := g53017.rd ad42 (show 23 < 66 by decide) rf42_23
      refine ev_putfG (r := 42) (g53017.lt ad42) (g53017.fam ad42 (by decide)) ft12_23 (fun e => absurd e nz12_23) (fun e => absurd e (by decide)) (fun h53019 e53019 => ?_)
      have g53019 := g53017.less23 e53019 (by omega) (by rw [ev53020]; omega)
      have k53019 := k53017.wr e53019 rfl
      refine ev_iconst ?_
      exact ev_ret rfl (by decide) (by decide) ⟨_, rfl, by omega, by omega, g53019, k53019⟩
    · refine ev_aload_n rfl ?_
      refine g_getp (r := 42) (c := 45) g1 ad42 (by decide) (by decide) rf42_4 ft12_4 ?_
      refine ev_iload_n rfl ?_
      refine ev_iconst ?_
      refine ev_iastG (r := 45) (j := (x3).toNat) (g1.lt ad45) (g1.tg ad45) (by omega) (by rw [g1.ln ad45]; omega) (fun h53021 e53021 => ?_)
      have g53021 := g1.s45 e53021 (by omega) (by omega)
      have k53021 := k1.wr e53021 rfl
      refine ev_iinc (w := (x3 + 1)) (L' := [(2, 42), (0, a1), (0, a2), (0, (x3 + 1))]) rfl (by unfold w32; omega) rfl ?_
      refine ev_goto f248_52 ?_
      exact ih _ _ g53021 k53021 (by omega) (by omega) (by omega) (by omega) (by omega) (by omega) (by omega)
set_option maxHeartbeats 4000000 in
theorem s248 {G : GH} {h : JH} (g : Gd G h) {a1 : Int} (la1 : (-2147483648) ≤ a1) (ua1 : a1 ≤ 2147483647) {a2 : Int} (la2 : (-2147483648) ≤ a2) (ua2 : a2 ≤ 2147483647) : jOk 3 0 0 248 [(2, 42), (0, a1), (0, a2)] h (PI G [(44, 0), (45, 0), (42, 23), (42, 24)] h 0 (-5) 1) := by
  refine ⟨by decide, by rw [ml248]; exact Nat.le_of_ble_eq_true rfl, ?_⟩
  rw [ml248, pp248]
  show jEv _ none _ c248_0 0 0 _ (c248_0, [(2, 42), (0, a1), (0, a2), (9, 0)], [], h, 0, 0)
  have k0 := Kp.rf [(44, 0), (45, 0), (42, 23), (42, 24)] h
  refine ev_aload_n rfl ?_
  refine ev_iload_n rfl ?_
  refine ev_in (d := 1) (a := 0) (b := 0) (cd' := c245_0) (m := 2) (L0 := [(2, 42), (0, a1)]) (jcall_v (A := [(0, a1)]) (S' := []) (r := 42) rfl (g.lt ad42) (g.tg ad42) (Nat.le_of_ble_eq_true rfl)) (by decide) ml245 pp245 (Nat.le_of_ble_eq_true rfl) rfl (by decide) (by decide) ?_
  refine ev_iload_n rfl ?_
  refine ev_iconst ?_
  refine ev_aload_n rfl ?_
  obtain ⟨v53022, ev53022, lv53022, uv53022⟩ := g.rd ad42 (show 1 < 66 by decide) rf42_1
  refine g_getv (r := 42) (v := v53022) g ad42 (by decide) ft12_1 ev53022 ?_
  refine ev_iconst ?_
  refine ev_isub (r := (v53022 - 1)) (by unfold w32; omega) ?_
  refine ev_in (d := 0) (a := 0) (b := 0) (cd' := c242_0) (m := 3) (L0 := [(0, a1), (0, 0), (0, (v53022 - 1))]) (jcall_s (A := [(0, (v53022 - 1)), (0, 0), (0, a1)]) (S' := []) (by decide) rfl (Nat.le_of_ble_eq_true rfl)) (by decide) ml242 pp242 (Nat.le_of_ble_eq_true rfl) rfl (by decide) (by decide) ?_
  refine ev_iload_n rfl ?_
  refine ev_iload_n rfl ?_
  refine ev_icmplt f242_14 (fun c53023 => ?_) (fun c53023 => ?_)
  · refine ev_iconst ?_
    refine ev_ret rfl (by decide) (by decide) ?_
    show jEv _ _ _ _ _ _ _ (_, [(2, 42), (0, a1)], [(0, 0)], _, _, _)
    refine ev_ret rfl (by decide) (by decide) ?_
    show jEv _ _ _ _ _ _ _ (_, [(2, 42), (0, a1), (0, a2), (9, 0)], [(0, 0)], _, _, _)
    refine ev_ifeq f248_19 (fun c53024 => ?_) (fun c53024 => absurd c53024 (by omega))
    refine ev_iconst ?_
    exact ev_ret rfl (by decide) (by decide) ⟨_, rfl, by omega, by omega, g, k0⟩
  · refine ev_iload_n rfl ?_
    refine ev_iload_n rfl ?_
    refine ev_icmpgt f242_14 (fun c53025 => ?_) (fun c53025 => ?_)
    · refine ev_iconst ?_
      refine ev_ret rfl (by decide) (by decide) ?_
      show jEv _ _ _ _ _ _ _ (_, [(2, 42), (0, a1)], [(0, 0)], _, _, _)
      refine ev_ret rfl (by decide) (by decide) ?_
      show jEv _ _ _ _ _ _ _ (_, [(2, 42), (0, a1), (0, a2), (9, 0)], [(0, 0)], _, _, _)
      refine ev_ifeq f248_19 (fun c53026 => ?_) (fun c53026 => absurd c53026 (by omega))
      refine ev_iconst ?_
      exact ev_ret rfl (by decide) (by decide) ⟨_, rfl, by omega, by omega, g, k0⟩
    · refine ev_iconst ?_
      refine ev_goto f242_15 ?_
      refine ev_ret rfl (by decide) (by decide) ?_
      show jEv _ _ _ _ _ _ _ (_, [(2, 42), (0, a1)], [(0, 1)], _, _, _)
      refine ev_ret rfl (by decide) (by decide) ?_
      show jEv _ _ _ _ _ _ _ (_, [(2, 42), (0, a1), (0, a2), (9, 0)], [(0, 1)], _, _, _)
      refine ev_ifeq f248_19 (fun c53027 => absurd c53027 (by omega)) (fun c53027 => ?_)
      refine ev_iload_n rfl ?_
      refine ev_iconst ?_
      refine ev_iload_n rfl ?_
      refine ev_iconst ?_
      refine ev_isub (r := (a1 - 1)) (by unfold w32; omega) ?_
      refine ev_in (d := 1) (a := 0) (b := 0) (cd' := c242_0) (m := 3) (L0 := [(0, a2), (0, 0), (0, (a1 - 1))]) (jcall_s (A := [(0, (a1 - 1)), (0, 0), (0, a2)]) (S' := []) (by decide) rfl (Nat.le_of_ble_eq_true rfl)) (by decide) ml242 pp242 (Nat.le_of_ble_eq_true rfl) rfl (by decide) (by decide) ?_
      refine ev_iload_n rfl ?_
      refine ev_iload_n rfl ?_
      refine ev_icmplt f242_14 (fun c53028 => ?_) (fun c53028 => ?_)
      · refine ev_iconst ?_
        refine ev_ret rfl (by decide) (by decide) ?_
        show jEv _ _ _ _ _ _ _ (_, [(2, 42), (0, a1), (0, a2), (9, 0)], [(0, 0)], _, _, _)
        refine ev_ifne f248_21 (fun c53029 => absurd c53029 (by omega)) (fun c53029 => ?_)
        refine ev_iconst ?_
        exact ev_ret rfl (by decide) (by decide) ⟨_, rfl, by omega, by omega, g, k0⟩
      · refine ev_iload_n rfl ?_
        refine ev_iload_n rfl ?_
        refine ev_icmpgt f242_14 (fun c53030 => ?_) (fun c53030 => ?_)
        · refine ev_iconst ?_
          refine ev_ret rfl (by decide) (by decide) ?_
          show jEv _ _ _ _ _ _ _ (_, [(2, 42), (0, a1), (0, a2), (9, 0)], [(0, 0)], _, _, _)
          refine ev_ifne f248_21 (fun c53031 => absurd c53031 (by omega)) (fun c53031 => ?_)
          refine ev_iconst ?_
          exact ev_ret rfl (by decide) (by decide) ⟨_, rfl, by omega, by omega, g, k0⟩
        · refine ev_iconst ?_
          refine ev_goto f242_15 ?_
          refine ev_ret rfl (by decide) (by decide) ?_
          show jEv _ _ _ _ _ _ _ (_, [(2, 42), (0, a1), (0, a2), (9, 0)], [(0, 1)], _, _, _)
          refine ev_ifne f248_21 (fun c53032 => ?_) (fun c53032 => absurd c53032 (by omega))
          refine ev_aload_n rfl ?_
          refine g_getp (r := 42) (c := 44) g ad42 (by decide) (by decide) rf42_3 ft12_3 ?_
          refine ev_iload_n rfl ?_
          refine g_iald g ad44 rt44 (by omega) (by omega) (fun v53033 ev53033 lv53033 uv53033 => ?_)
          refine ev_ifge f248_37 (fun c53034 => ?_) (fun c53034 => ?_)
          · refine ev_bipush ?_
            exact ev_ret rfl (by decide) (by decide) ⟨_, rfl, by omega, by omega, g, k0⟩
          · refine ev_aload_n rfl ?_
            obtain ⟨v53035, ev53035, lv53035, uv53035⟩ := g.rd ad42 (show 9 < 66 by decide) rf42_9
            refine g_getv (r := 42) (v := v53035) g ad42 (by decide) ft12_9 ev53035 ?_
            refine ev_ifle f248_40 (fun c53036 => ?_) (fun c53036 => ?_)
            · refine ev_aload_n rfl ?_
              refine g_getp (r := 42) (c := 44) g ad42 (by decide) (by decide) rf42_3 ft12_3 ?_
              refine ev_iload_n rfl ?_
              refine ev_iload_n rfl ?_
              refine g_iast g ad44 rt44 (fun _ => rfl) (by omega) (by omega) (by omega) (by omega) (fun h53037 e53037 g53037 => ?_)
              have k53037 := k0.wr e53037 rfl
              refine ev_bipush ?_
              refine ev_iload_n rfl ?_
              refine ev_imul (r := (9 * a1)) (by unfold w32; omega) ?_
              refine ev_istore_n (L' := [(2, 42), (0, a1), (0, a2), (0, (9 * a1))]) (Nat.le_of_ble_eq_true rfl) rfl ?_
              exact (s248_l la1 ua1 la2 ua2 56) _ _ g53037 k53037 (by omega) (by omega) (by omega) (by omega) (by omega) (by omega) (by omega)
            · refine ev_bipush ?_
              exact ev_ret rfl (by decide) (by decide) ⟨_, rfl, by omega, by omega, g, k0⟩
/-! 250 weight -/
set_option maxHeartbeats 4000000 in
theorem s250 {G : GH} {h : JH} (g : Gd G h) {a1 : Int} (la1 : (-2147483648) ≤ a1) (ua1 : a1 ≤ 2147483647) {a2 : Int} (la2 : (-2147483648) ≤ a2) (ua2 : a2 ≤ 2147483647) {a3 : Int} (la3 : (-2147483648) ≤ a3) (ua3 : a3 ≤ 2147483647) {a4 : Int} (la4 : (-2147483648) ≤ a4) (ua4 : a4 ≤ 2147483647) : jOk 4 0 0 250 [(2, 42), (0, a1), (0, a2), (0, a3), (0, a4)] h (PI G [(42, 23), (42, 24), (56, 0), (57, 0), (58, 0), (59, 0), (45, 0)] h 0 (-1) 99) := by
  refine ⟨by decide, by rw [ml250]; exact Nat.le_of_ble_eq_true rfl, ?_⟩
  rw [ml250, pp250]
  show jEv _ none _ c250_0 0 0 _ (c250_0, [(2, 42), (0, a1), (0, a2), (0, a3), (0, a4), (9, 0), (9, 0)], [], h, 0, 0)
  have k0 := Kp.rf [(42, 23), (42, 24), (56, 0), (57, 0), (58, 0), (59, 0), (45, 0)] h
  refine ev_aload_n rfl ?_
  refine ev_iload_n rfl ?_
  refine ev_iload_n rfl ?_
  refine ev_iload_n rfl ?_
  refine ev_in (d := 2) (a := 0) (b := 0) (cd' := c249_0) (m := 4) (L0 := [(2, 42), (0, a1), (0, a2), (0, a3)]) (jcall_v (A := [(0, a3), (0, a2), (0, a1)]) (S' := []) (r := 42) rfl (g.lt ad42) (g.tg ad42) (Nat.le_of_ble_eq_true rfl)) (by decide) ml249 pp249 (Nat.le_of_ble_eq_true rfl) rfl (by decide) (by decide) ?_
  refine ev_aload_n rfl ?_
  refine ev_iload_n rfl ?_
  refine ev_in (d := 1) (a := 0) (b := 0) (cd' := c245_0) (m := 2) (L0 := [(2, 42), (0, a1)]) (jcall_v (A := [(0, a1)]) (S' := []) (r := 42) rfl (g.lt ad42) (g.tg ad42) (Nat.le_of_ble_eq_true rfl)) (by decide) ml245 pp245 (Nat.le_of_ble_eq_true rfl) rfl (by decide) (by decide) ?_
  refine ev_iload_n rfl ?_
  refine ev_iconst ?_
  refine ev_aload_n rfl ?_
  obtain ⟨v53164, ev53164, lv53164, uv53164⟩ := g.rd ad42 (show 1 < 66 by decide) rf42_1
  refine g_getv (r := 42) (v := v53164) g ad42 (by decide) ft12_1 ev53164 ?_
  refine ev_iconst ?_
  refine ev_isub (r := (v53164 - 1)) (by unfold w32; omega) ?_
  refine ev_in (d := 0) (a := 0) (b := 0) (cd' := c242_0) (m := 3) (L0 := [(0, a1), (0, 0), (0, (v53164 - 1))]) (jcall_s (A := [(0, (v53164 - 1)), (0, 0), (0, a1)]) (S' := []) (by decide) rfl (Nat.le_of_ble_eq_true rfl)) (by decide) ml242 pp242 (Nat.le_of_ble_eq_true rfl) rfl (by decide) (by decide) ?_
  refine ev_iload_n rfl ?_
  refine ev_iload_n rfl ?_
  refine ev_icmplt f242_14 (fun c53165 => ?_) (fun c53165 => ?_)
  · refine ev_iconst ?_
    refine ev_ret rfl (by decide) (by decide) ?_
    show jEv _ _ _ _ _ _ _ (_, [(2, 42), (0, a1)], [(0, 0)], _, _, _)
    refine ev_ret rfl (by decide) (by decide) ?_
    show jEv _ _ _ _ _ _ _ (_, [(2, 42), (0, a1), (0, a2), (0, a3)], [(0, 0)], _, _, _)
    refine ev_ifeq f249_43 (fun c53166 => ?_) (fun c53166 => absurd c53166 (by omega))
    refine ev_iconst ?_
    refine ev_ret rfl (by decide) (by decide) ?_
    show jEv _ _ _ _ _ _ _ (_, [(2, 42), (0, a1), (0, a2), (0, a3), (0, a4), (9, 0), (9, 0)], [(0, 0)], _, _, _)
    refine ev_ifeq f250_21 (fun c53167 => ?_) (fun c53167 => absurd c53167 (by omega))
    refine ev_iconst ?_
    exact ev_ret rfl (by decide) (by decide) ⟨_, rfl, by omega, by omega, g, k0⟩
  · refine ev_iload_n rfl ?_
    refine ev_iload_n rfl ?_
    refine ev_icmpgt f242_14 (fun c53168 => ?_) (fun c53168 => ?_)
    · refine ev_iconst ?_
      refine ev_ret rfl (by decide) (by decide) ?_
      show jEv _ _ _ _ _ _ _ (_, [(2, 42), (0, a1)], [(0, 0)], _, _, _)
      refine ev_ret rfl (by decide) (by decide) ?_
      show jEv _ _ _ _ _ _ _ (_, [(2, 42), (0, a1), (0, a2), (0, a3)], [(0, 0)], _, _, _)
      refine ev_ifeq f249_43 (fun c53169 => ?_) (fun c53169 => absurd c53169 (by omega))
      refine ev_iconst ?_
      refine ev_ret rfl (by decide) (by decide) ?_
      show jEv _ _ _ _ _ _ _ (_, [(2, 42), (0, a1), (0, a2), (0, a3), (0, a4), (9, 0), (9, 0)], [(0, 0)], _, _, _)
      refine ev_ifeq f250_21 (fun c53170 => ?_) (fun c53170 => absurd c53170 (by omega))
      refine ev_iconst ?_
      exact ev_ret rfl (by decide) (by decide) ⟨_, rfl, by omega, by omega, g, k0⟩
    · refine ev_iconst ?_
      refine ev_goto f242_15 ?_
      refine ev_ret rfl (by decide) (by decide) ?_
      show jEv _ _ _ _ _ _ _ (_, [(2, 42), (0, a1)], [(0, 1)], _, _, _)
      refine ev_ret rfl (by decide) (by decide) ?_
      show jEv _ _ _ _ _ _ _ (_, [(2, 42), (0, a1), (0, a2), (0, a3)], [(0, 1)], _, _, _)
      refine ev_ifeq f249_43 (fun c53171 => absurd c53171 (by omega)) (fun c53171 => ?_)
      refine ev_iload_n rfl ?_
      refine ev_iconst ?_
      refine ev_aload_n rfl ?_
      refine ev_iload_n rfl ?_
      refine ev_in (d := 1) (a := 0) (b := 0) (cd' := c246_0) (m := 2) (L0 := [(2, 42), (0, a1)]) (jcall_v (A := [(0, a1)]) (S' := [(0, 0), (0, a2)]) (r := 42) rfl (g.lt ad42) (g.tg ad42) (Nat.le_of_ble_eq_true rfl)) (by decide) ml246 pp246 (Nat.le_of_ble_eq_true rfl) rfl (by decide) (by decide) ?_
      refine ev_aload_n rfl ?_
      refine g_getp (r := 42) (c := 44) g ad42 (by decide) (by decide) rf42_3 ft12_3 ?_
      refine ev_iload_n rfl ?_
      refine g_iald g ad44 rt44 (by omega) (by omega) (fun v53172 ev53172 lv53172 uv53172 => ?_)
      refine ev_ifge f246_13 (fun c53173 => ?_) (fun c53173 => ?_)
      · refine ev_aload_n rfl ?_
        refine g_getp (r := 42) (c := 43) g ad42 (by decide) (by decide) rf42_2 ft12_2 ?_
        refine ev_aload_n rfl ?_
        refine g_getp (r := 42) (c := 44) g ad42 (by decide) (by decide) rf42_3 ft12_3 ?_
        refine ev_iload_n rfl ?_
        refine g_ialdv (v := v53172) g ad44 (by omega) (by omega) (ev53172) ?_
        refine g_iald g ad43 rt43 (by omega) (by omega) (fun v53174 ev53174 lv53174 uv53174 => ?_)
        refine ev_ret rfl (by decide) (by decide) ?_
        show jEv _ _ _ _ _ _ _ (_, [(2, 42), (0, a1), (0, a2), (0, a3)], [(0, v53174), (0, 0), (0, a2)], _, _, _)
        refine ev_iconst ?_
        refine ev_isub (r := (v53174 - 1)) (by unfold w32; omega) ?_
        refine ev_in (d := 1) (a := 0) (b := 0) (cd' := c242_0) (m := 3) (L0 := [(0, a2), (0, 0), (0, (v53174 - 1))]) (jcall_s (A := [(0, (v53174 - 1)), (0, 0), (0, a2)]) (S' := []) (by decide) rfl (Nat.le_of_ble_eq_true rfl)) (by decide) ml242 pp242 (Nat.le_of_ble_eq_true rfl) rfl (by decide) (by decide) ?_
        refine ev_iload_n rfl ?_
        refine ev_iload_n rfl ?_
        refine ev_icmplt f242_14 (fun c53175 => ?_) (fun c53175 => ?_)
        · refine ev_iconst ?_
          refine ev_ret rfl (by decide) (by decide) ?_
          show jEv _ _ _ _ _ _ _ (_, [(2, 42), (0, a1), (0, a2), (0, a3)], [(0, 0)], _, _, _)
          refine ev_ifeq f249_43 (fun c53176 => ?_) (fun c53176 => absurd c53176 (by omega))
          refine ev_iconst ?_
          refine ev_ret rfl (by decide) (by decide) ?_
          show jEv _ _ _ _ _ _ _ (_, [(2, 42), (0, a1), (0, a2), (0, a3), (0, a4), (9, 0), (9, 0)], [(0, 0)], _, _, _)
          refine ev_ifeq f250_21 (fun c53177 => ?_) (fun c53177 => absurd c53177 (by omega))
          refine ev_iconst ?_
          exact ev_ret rfl (by decide) (by decide) ⟨_, rfl, by omega, by omega, g, k0⟩
        · refine ev_iload_n rfl ?_
          refine ev_iload_n rfl ?_
          refine ev_icmpgt f242_14 (fun c53178 => ?_) (fun c53178 => ?_)
          · refine ev_iconst ?_
            refine ev_ret rfl (by decide) (by decide) ?_
            show jEv _ _ _ _ _ _ _ (_, [(2, 42), (0, a1), (0, a2), (0, a3)], [(0, 0)], _, _, _)
            refine ev_ifeq f249_43 (fun c53179 => ?_) (fun c53179 => absurd c53179 (by omega))
            refine ev_iconst ?_
            refine ev_ret rfl (by decide) (by decide) ?_
            show jEv _ _ _ _ _ _ _ (_, [(2, 42), (0, a1), (0, a2), (0, a3), (0, a4), (9, 0), (9, 0)], [(0, 0)], _, _, _)
            refine ev_ifeq f250_21 (fun c53180 => ?_) (fun c53180 => absurd c53180 (by omega))
            refine ev_iconst ?_
            exact ev_ret rfl (by decide) (by decide) ⟨_, rfl, by omega, by omega, g, k0⟩
          · refine ev_iconst ?_
            refine ev_goto f242_15 ?_
            refine ev_ret rfl (by decide) (by decide) ?_
            show jEv _ _ _ _ _ _ _ (_, [(2, 42), (0, a1), (0, a2), (0, a3)], [(0, 1)], _, _, _)
            refine ev_ifeq f249_43 (fun c53181 => absurd c53181 (by omega)) (fun c53181 => ?_)
            refine ev_iload_n rfl ?_
            refine ev_iconst ?_
            refine ev_aload_n rfl ?_
            refine g_getp (r := 42) (c := 43) g ad42 (by decide) (by decide) rf42_2 ft12_2 ?_
            refine ev_iload_n rfl ?_
            refine g_iald g ad43 rt43 (by omega) (by omega) (fun v53182 ev53182 lv53182 uv53182 => ?_)
            have xv53182 := (g.ex.2.1 (a1 : Int).toNat (by rw [(ev53164)]; omega))
            rw [ev53182] at xv53182
            refine ev_iconst ?_
            refine ev_isub (r := (v53182 - 1)) (by unfold w32; omega) ?_
            refine ev_in (d := 1) (a := 0) (b := 0) (cd' := c242_0) (m := 3) (L0 := [(0, a3), (0, 0), (0, (v53182 - 1))]) (jcall_s (A := [(0, (v53182 - 1)), (0, 0), (0, a3)]) (S' := []) (by decide) rfl (Nat.le_of_ble_eq_true rfl)) (by decide) ml242 pp242 (Nat.le_of_ble_eq_true rfl) rfl (by decide) (by decide) ?_
            refine ev_iload_n rfl ?_
            refine ev_iload_n rfl ?_
            refine ev_icmplt f242_14 (fun c53183 => ?_) (fun c53183 => ?_)
            · refine ev_iconst ?_
              refine ev_ret rfl (by decide) (by decide) ?_
              show jEv _ _ _ _ _ _ _ (_, [(2, 42), (0, a1), (0, a2), (0, a3)], [(0, 0)], _, _, _)
              refine ev_ifeq f249_43 (fun c53184 => ?_) (fun c53184 => absurd c53184 (by omega))
              refine ev_iconst ?_
              refine ev_ret rfl (by decide) (by decide) ?_
              show jEv _ _ _ _ _ _ _ (_, [(2, 42), (0, a1), (0, a2), (0, a3), (0, a4), (9, 0), (9, 0)], [(0, 0)], _, _, _)
              refine ev_ifeq f250_21 (fun c53185 => ?_) (fun c53185 => absurd c53185 (by omega))
              refine ev_iconst ?_
              exact ev_ret rfl (by decide) (by decide) ⟨_, rfl, by omega, by omega, g, k0⟩
            · refine ev_iload_n rfl ?_
              refine ev_iload_n rfl ?_
              refine ev_icmpgt f242_14 (fun c53186 => ?_) (fun c53186 => ?_)
              · refine ev_iconst ?_
                refine ev_ret rfl (by decide) (by decide) ?_
                show jEv _ _ _ _ _ _ _ (_, [(2, 42), (0, a1), (0, a2), (0, a3)], [(0, 0)], _, _, _)
                refine ev_ifeq f249_43 (fun c53187 => ?_) (fun c53187 => absurd c53187 (by omega))
                refine ev_iconst ?_
                refine ev_ret rfl (by decide) (by decide) ?_
                show jEv _ _ _ _ _ _ _ (_, [(2, 42), (0, a1), (0, a2), (0, a3), (0, a4), (9, 0), (9, 0)], [(0, 0)], _, _, _)
                refine ev_ifeq f250_21 (fun c53188 => ?_) (fun c53188 => absurd c53188 (by omega))
                refine ev_iconst ?_
                exact ev_ret rfl (by decide) (by decide) ⟨_, rfl, by omega, by omega, g, k0⟩
              · refine ev_iconst ?_
                refine ev_goto f242_15 ?_
                refine ev_ret rfl (by decide) (by decide) ?_
                show jEv _ _ _ _ _ _ _ (_, [(2, 42), (0, a1), (0, a2), (0, a3)], [(0, 1)], _, _, _)
                refine ev_ifeq f249_43 (fun c53189 => absurd c53189 (by omega)) (fun c53189 => ?_)
                refine ev_iconst ?_
                refine ev_goto f249_44 ?_
                refine ev_ret rfl (by decide) (by decide) ?_
                show jEv _ _ _ _ _ _ _ (_, [(2, 42), (0, a1), (0, a2), (0, a3), (0, a4), (9, 0), (9, 0)], [(0, 1)], _, _, _)
                refine ev_ifeq f250_21 (fun c53190 => absurd c53190 (by omega)) (fun c53190 => ?_)
                refine ev_iload rfl ?_
                refine ev_iconst ?_
                refine ev_bipush ?_
                refine ev_in (d := 2) (a := 0) (b := 0) (cd' := c242_0) (m := 3) (L0 := [(0, a4), (0, 1), (0, 99)]) (jcall_s (A := [(0, 99), (0, 1), (0, a4)]) (S' := []) (by decide) rfl (Nat.le_of_ble_eq_true rfl)) (by decide) ml242 pp242 (Nat.le_of_ble_eq_true rfl) rfl (by decide) (by decide) ?_
                refine ev_iload_n rfl ?_
                refine ev_iload_n rfl ?_
                refine ev_icmplt f242_14 (fun c53191 => ?_) (fun c53191 => ?_)
                · refine ev_iconst ?_
                  refine ev_ret rfl (by decide) (by decide) ?_
                  show jEv _ _ _ _ _ _ _ (_, [(2, 42), (0, a1), (0, a2), (0, a3), (0, a4), (9, 0), (9, 0)], [(0, 0)], _, _, _)
                  refine ev_ifne f250_23 (fun c53192 => absurd c53192 (by omega)) (fun c53192 => ?_)
                  refine ev_iconst ?_
                  exact ev_ret rfl (by decide) (by decide) ⟨_, rfl, by omega, by omega, g, k0⟩
                · refine ev_iload_n rfl ?_
                  refine ev_iload_n rfl ?_
                  refine ev_icmpgt f242_14 (fun c53193 => ?_) (fun c53193 => ?_)
                  · refine ev_iconst ?_
                    refine ev_ret rfl (by decide) (by decide) ?_
                    show jEv _ _ _ _ _ _ _ (_, [(2, 42), (0, a1), (0, a2), (0, a3), (0, a4), (9, 0), (9, 0)], [(0, 0)], _, _, _)
                    refine ev_ifne f250_23 (fun c53194 => absurd c53194 (by omega)) (fun c53194 => ?_)
                    refine ev_iconst ?_
                    exact ev_ret rfl (by decide) (by decide) ⟨_, rfl, by omega, by omega, g, k0⟩
                  · refine ev_iconst ?_
                    refine ev_goto f242_15 ?_
                    refine ev_ret rfl (by decide) (by decide) ?_
                    show jEv _ _ _ _ _ _ _ (_, [(2, 42), (0, a1), (0, a2), (0, a3), (0, a4), (9, 0), (9, 0)], [(0, 1)], _, _, _)
                    refine ev_ifne f250_23 (fun c53195 => ?_) (fun c53195 => absurd c53195 (by omega))
                    refine ev_bipush ?_
                    refine ev_iload_n rfl ?_
                    refine ev_imul (r := (9 * a1)) (by unfold w32; omega) ?_
                    refine ev_iconst ?_
                    refine ev_iload_n rfl ?_
                    refine ev_imul (r := (3 * a2)) (by unfold w32; omega) ?_
                    refine ev_iadd (r := (9 * a1 + 3 * a2)) (by unfold w32; omega) ?_
                    refine ev_iload_n rfl ?_
                    refine ev_iadd (r := (9 * a1 + 3 * a2 + a3)) (by unfold w32; omega) ?_
                    refine ev_istore (L' := [(2, 42), (0, a1), (0, a2), (0, a3), (0, a4), (0, (9 * a1 + 3 * a2 + a3)), (9, 0)]) (Nat.le_of_ble_eq_true rfl) rfl ?_
                    refine ev_aload_n rfl ?_
                    refine g_getp (r := 42) (c := 45) g ad42 (by decide) (by decide) rf42_4 ft12_4 ?_
                    refine ev_iload rfl ?_
                    refine g_iald g ad45 rt45 (by omega) (by omega) (fun v53196 ev53196 lv53196 uv53196 => ?_)
                    have xv53196 := (g.ex.2.2.1 ((9 * a1 + 3 * a2 + a3) : Int).toNat (by rw [(ev53164)]; omega))
                    rw [ev53196] at xv53196
                    refine ev_istore (L' := [(2, 42), (0, a1), (0, a2), (0, a3), (0, a4), (0, (9 * a1 + 3 * a2 + a3)), (0, v53196)]) (Nat.le_of_ble_eq_true rfl) rfl ?_
                    refine ev_iload rfl ?_
                    refine ev_iload rfl ?_
                    refine ev_icmpeq f250_62 (fun c53197 => ?_) (fun c53197 => ?_)
                    · refine ev_aload_n rfl ?_
                      refine g_getp (r := 42) (c := 45) g ad42 (by decide) (by decide) rf42_4 ft12_4 ?_
                      refine ev_iload rfl ?_
                      refine ev_iload rfl ?_
                      refine ev_iastG (r := 45) (j := ((9 * a1 + 3 * a2 + a3)).toNat) (g.lt ad45) (g.tg ad45) (by omega) (by rw [g.ln ad45]; omega) (fun h53198 e53198 => ?_)
                      have g53198 := g.s45 e53198 (by omega) (by omega)
                      have k53198 := k0.wr e53198 rfl
                      refine ev_iload rfl ?_
                      exact ev_ret rfl (by decide) (by decide) ⟨_, rfl, by omega, by omega, g53198, k53198⟩
                    · refine ev_aload_n rfl ?_
                      refine ev_iconst ?_
                      refine ev_iload rfl ?_
                      refine ev_iload rfl ?_
                      refine ev_iload rfl ?_
                      refine ev_call (jcall_v (A := [(0, a4), (0, v53196), (0, (9 * a1 + 3 * a2 + a3)), (0, (-1))]) (S' := []) (r := 42) rfl (g.lt ad42) (g.tg ad42) (Nat.le_of_ble_eq_true rfl)) (jOk_le (by decide) (s279_w g (by omega) (by omega) (by omega) (by omega) (by omega) (by omega))) (by decide) (by decide) (fun w53199 h53199 q53199 => ?_)
                      obtain ⟨rfl, g53199, kk53199⟩ := q53199
                      have k53199 := k0.tr kk53199 (by decide)
                      show jEv _ _ _ _ _ _ _ (_, [(2, 42), (0, a1), (0, a2), (0, a3), (0, a4), (0, (9 * a1 + 3 * a2 + a3)), (0, v53196)], [], _, _, _)
                      refine ev_aload_n rfl ?_
                      refine g_getp (r := 42) (c := 45) g53199 ad42 (by decide) (by decide) rf42_4 ft12_4 ?_
                      refine ev_iload rfl ?_
                      refine ev_iload rfl ?_
                      refine ev_iastG (r := 45) (j := ((9 * a1 + 3 * a2 + a3)).toNat) (g53199.lt ad45) (g53199.tg ad45) (by omega) (by rw [g53199.ln ad45]; omega) (fun h53200 e53200 => ?_)
                      have g53200 := g53199.s45 e53200 (by omega) (by omega)
                      have k53200 := k53199.wr e53200 rfl
                      refine ev_iload rfl ?_
                      exact ev_ret rfl (by decide) (by decide) ⟨_, rfl, by omega, by omega, g53200, k53200⟩
      · refine ev_iconst ?_
        refine ev_goto f246_24 ?_
        refine ev_ret rfl (by decide) (by decide) ?_
        show jEv _ _ _ _ _ _ _ (_, [(2, 42), (0, a1), (0, a2), (0, a3)], [(0, 1), (0, 0), (0, a2)], _, _, _)
        refine ev_iconst ?_
        refine ev_isub (r := 0) (by decide) ?_
        refine ev_in (d := 1) (a := 0) (b := 0) (cd' := c242_0) (m := 3) (L0 := [(0, a2), (0, 0), (0, 0)]) (jcall_s (A := [(0, 0), (0, 0), (0, a2)]) (S' := []) (by decide) rfl (Nat.le_of_ble_eq_true rfl)) (by decide) ml242 pp242 (Nat.le_of_ble_eq_true rfl) rfl (by decide) (by decide) ?_
        refine ev_iload_n rfl ?_
        refine ev_iload_n rfl ?_
        refine ev_icmplt f242_14 (fun c53201 => ?_) (fun c53201 => ?_)
        · refine ev_iconst ?_
          refine ev_ret rfl (by decide) (by decide) ?_
          show jEv _ _ _ _ _ _ _ (_, [(2, 42), (0, a1), (0, a2), (0, a3)], [(0, 0)], _, _, _)
          refine ev_ifeq f249_43 (fun c53202 => ?_) (fun c53202 => absurd c53202 (by omega))
          refine ev_iconst ?_
          refine ev_ret rfl (by decide) (by decide) ?_
          show jEv _ _ _ _ _ _ _ (_, [(2, 42), (0, a1), (0, a2), (0, a3), (0, a4), (9, 0), (9, 0)], [(0, 0)], _, _, _)
          refine ev_ifeq f250_21 (fun c53203 => ?_) (fun c53203 => absurd c53203 (by omega))
          refine ev_iconst ?_
          exact ev_ret rfl (by decide) (by decide) ⟨_, rfl, by omega, by omega, g, k0⟩
        · refine ev_iload_n rfl ?_
          refine ev_iload_n rfl ?_
          refine ev_icmpgt f242_14 (fun c53204 => ?_) (fun c53204 => ?_)
          · refine ev_iconst ?_
            refine ev_ret rfl (by decide) (by decide) ?_
            show jEv _ _ _ _ _ _ _ (_, [(2, 42), (0, a1), (0, a2), (0, a3)], [(0, 0)], _, _, _)
            refine ev_ifeq f249_43 (fun c53205 => ?_) (fun c53205 => absurd c53205 (by omega))
            refine ev_iconst ?_
            refine ev_ret rfl (by decide) (by decide) ?_
            show jEv _ _ _ _ _ _ _ (_, [(2, 42), (0, a1), (0, a2), (0, a3), (0, a4), (9, 0), (9, 0)], [(0, 0)], _, _, _)
            refine ev_ifeq f250_21 (fun c53206 => ?_) (fun c53206 => absurd c53206 (by omega))
            refine ev_iconst ?_
            exact ev_ret rfl (by decide) (by decide) ⟨_, rfl, by omega, by omega, g, k0⟩
          · refine ev_iconst ?_
            refine ev_goto f242_15 ?_
            refine ev_ret rfl (by decide) (by decide) ?_
            show jEv _ _ _ _ _ _ _ (_, [(2, 42), (0, a1), (0, a2), (0, a3)], [(0, 1)], _, _, _)
            refine ev_ifeq f249_43 (fun c53207 => absurd c53207 (by omega)) (fun c53207 => ?_)
            refine ev_iload_n rfl ?_
            refine ev_iconst ?_
            refine ev_aload_n rfl ?_
            refine g_getp (r := 42) (c := 43) g ad42 (by decide) (by decide) rf42_2 ft12_2 ?_
            refine ev_iload_n rfl ?_
            refine g_iald g ad43 rt43 (by omega) (by omega) (fun v53208 ev53208 lv53208 uv53208 => ?_)
            have xv53208 := (g.ex.2.1 (a1 : Int).toNat (by rw [(ev53164)]; omega))
            rw [ev53208] at xv53208
            refine ev_iconst ?_
            refine ev_isub (r := (v53208 - 1)) (by unfold w32; omega) ?_
            refine ev_in (d := 1) (a := 0) (b := 0) (cd' := c242_0) (m := 3) (L0 := [(0, a3), (0, 0), (0, (v53208 - 1))]) (jcall_s (A := [(0, (v53208 - 1)), (0, 0), (0, a3)]) (S' := []) (by decide) rfl (Nat.le_of_ble_eq_true rfl)) (by decide) ml242 pp242 (Nat.le_of_ble_eq_true rfl) rfl (by decide) (by decide) ?_
            refine ev_iload_n rfl ?_
            refine ev_iload_n rfl ?_
            refine ev_icmplt f242_14 (fun c53209 => ?_) (fun c53209 => ?_)
            · refine ev_iconst ?_
              refine ev_ret rfl (by decide) (by decide) ?_
              show jEv _ _ _ _ _ _ _ (_, [(2, 42), (0, a1), (0, a2), (0, a3)], [(0, 0)], _, _, _)
              refine ev_ifeq f249_43 (fun c53210 => ?_) (fun c53210 => absurd c53210 (by omega))
              refine ev_iconst ?_
              refine ev_ret rfl (by decide) (by decide) ?_
              show jEv _ _ _ _ _ _ _ (_, [(2, 42), (0, a1), (0, a2), (0, a3), (0, a4), (9, 0), (9, 0)], [(0, 0)], _, _, _)
              refine ev_ifeq f250_21 (fun c53211 => ?_) (fun c53211 => absurd c53211 (by omega))
              refine ev_iconst ?_
              exact ev_ret rfl (by decide) (by decide) ⟨_, rfl, by omega, by omega, g, k0⟩
            · refine ev_iload_n rfl ?_
              refine ev_iload_n rfl ?_
              refine ev_icmpgt f242_14 (fun c53212 => ?_) (fun c53212 => ?_)
              · refine ev_iconst ?_
                refine ev_ret rfl (by decide) (by decide) ?_
                show jEv _ _ _ _ _ _ _ (_, [(2, 42), (0, a1), (0, a2), (0, a3)], [(0, 0)], _, _, _)
                refine ev_ifeq f249_43 (fun c53213 => ?_) (fun c53213 => absurd c53213 (by omega))
                refine ev_iconst ?_
                refine ev_ret rfl (by decide) (by decide) ?_
                show jEv _ _ _ _ _ _ _ (_, [(2, 42), (0, a1), (0, a2), (0, a3), (0, a4), (9, 0), (9, 0)], [(0, 0)], _, _, _)
                refine ev_ifeq f250_21 (fun c53214 => ?_) (fun c53214 => absurd c53214 (by omega))
                refine ev_iconst ?_
                exact ev_ret rfl (by decide) (by decide) ⟨_, rfl, by omega, by omega, g, k0⟩
              · refine ev_iconst ?_
                refine ev_goto f242_15 ?_
                refine ev_ret rfl (by decide) (by decide) ?_
                show jEv _ _ _ _ _ _ _ (_, [(2, 42), (0, a1), (0, a2), (0, a3)], [(0, 1)], _, _, _)
                refine ev_ifeq f249_43 (fun c53215 => absurd c53215 (by omega)) (fun c53215 => ?_)
                refine ev_iconst ?_
                refine ev_goto f249_44 ?_
                refine ev_ret rfl (by decide) (by decide) ?_
                show jEv _ _ _ _ _ _ _ (_, [(2, 42), (0, a1), (0, a2), (0, a3), (0, a4), (9, 0), (9, 0)], [(0, 1)], _, _, _)
                refine ev_ifeq f250_21 (fun c53216 => absurd c53216 (by omega)) (fun c53216 => ?_)
                refine ev_iload rfl ?_
                refine ev_iconst ?_
                refine ev_bipush ?_
                refine ev_in (d := 2) (a := 0) (b := 0) (cd' := c242_0) (m := 3) (L0 := [(0, a4), (0, 1), (0, 99)]) (jcall_s (A := [(0, 99), (0, 1), (0, a4)]) (S' := []) (by decide) rfl (Nat.le_of_ble_eq_true rfl)) (by decide) ml242 pp242 (Nat.le_of_ble_eq_true rfl) rfl (by decide) (by decide) ?_
                refine ev_iload_n rfl ?_
                refine ev_iload_n rfl ?_
                refine ev_icmplt f242_14 (fun c53217 => ?_) (fun c53217 => ?_)
                · refine ev_iconst ?_
                  refine ev_ret rfl (by decide) (by decide) ?_
                  show jEv _ _ _ _ _ _ _ (_, [(2, 42), (0, a1), (0, a2), (0, a3), (0, a4), (9, 0), (9, 0)], [(0, 0)], _, _, _)
                  refine ev_ifne f250_23 (fun c53218 => absurd c53218 (by omega)) (fun c53218 => ?_)
                  refine ev_iconst ?_
                  exact ev_ret rfl (by decide) (by decide) ⟨_, rfl, by omega, by omega, g, k0⟩
                · refine ev_iload_n rfl ?_
                  refine ev_iload_n rfl ?_
                  refine ev_icmpgt f242_14 (fun c53219 => ?_) (fun c53219 => ?_)
                  · refine ev_iconst ?_
                    refine ev_ret rfl (by decide) (by decide) ?_
                    show jEv _ _ _ _ _ _ _ (_, [(2, 42), (0, a1), (0, a2), (0, a3), (0, a4), (9, 0), (9, 0)], [(0, 0)], _, _, _)
                    refine ev_ifne f250_23 (fun c53220 => absurd c53220 (by omega)) (fun c53220 => ?_)
                    refine ev_iconst ?_
                    exact ev_ret rfl (by decide) (by decide) ⟨_, rfl, by omega, by omega, g, k0⟩
                  · refine ev_iconst ?_
                    refine ev_goto f242_15 ?_
                    refine ev_ret rfl (by decide) (by decide) ?_
                    show jEv _ _ _ _ _ _ _ (_, [(2, 42), (0, a1), (0, a2), (0, a3), (0, a4), (9, 0), (9, 0)], [(0, 1)], _, _, _)
                    refine ev_ifne f250_23 (fun c53221 => ?_) (fun c53221 => absurd c53221 (by omega))
                    refine ev_bipush ?_
                    refine ev_iload_n rfl ?_
                    refine ev_imul (r := (9 * a1)) (by unfold w32; omega) ?_
                    refine ev_iconst ?_
                    refine ev_iload_n rfl ?_
                    refine ev_imul (r := (3 * a2)) (by unfold w32; omega) ?_
                    refine ev_iadd (r := (9 * a1 + 3 * a2)) (by unfold w32; omega) ?_
                    refine ev_iload_n rfl ?_
                    refine ev_iadd (r := (9 * a1 + 3 * a2 + a3)) (by unfold w32; omega) ?_
                    refine ev_istore (L' := [(2, 42), (0, a1), (0, a2), (0, a3), (0, a4), (0, (9 * a1 + 3 * a2 + a3)), (9, 0)]) (Nat.le_of_ble_eq_true rfl) rfl ?_
                    refine ev_aload_n rfl ?_
                    refine g_getp (r := 42) (c := 45) g ad42 (by decide) (by decide) rf42_4 ft12_4 ?_
                    refine ev_iload rfl ?_
                    refine g_iald g ad45 rt45 (by omega) (by omega) (fun v53222 ev53222 lv53222 uv53222 => ?_)
                    have xv53222 := (g.ex.2.2.1 ((9 * a1 + 3 * a2 + a3) : Int).toNat (by rw [(ev53164)]; omega))
                    rw [ev53222] at xv53222
                    refine ev_istore (L' := [(2, 42), (0, a1), (0, a2), (0, a3), (0, a4), (0, (9 * a1 + 3 * a2 + a3)), (0, v53222)]) (Nat.le_of_ble_eq_true rfl) rfl ?_
                    refine ev_iload rfl ?_
                    refine ev_iload rfl ?_
                    refine ev_icmpeq f250_62 (fun c53223 => ?_) (fun c53223 => ?_)
                    · refine ev_aload_n rfl ?_
                      refine g_getp (r := 42) (c := 45) g ad42 (by decide) (by decide) rf42_4 ft12_4 ?_
                      refine ev_iload rfl ?_
                      refine ev_iload rfl ?_
                      refine ev_iastG (r := 45) (j := ((9 * a1 + 3 * a2 + a3)).toNat) (g.lt ad45) (g.tg ad45) (by omega) (by rw [g.ln ad45]; omega) (fun h53224 e53224 => ?_)
                      have g53224 := g.s45 e53224 (by omega) (by omega)
                      have k53224 := k0.wr e53224 rfl
                      refine ev_iload rfl ?_
                      exact ev_ret rfl (by decide) (by decide) ⟨_, rfl, by omega, by omega, g53224, k53224⟩
                    · refine ev_aload_n rfl ?_
                      refine ev_iconst ?_
                      refine ev_iload rfl ?_
                      refine ev_iload rfl ?_
                      refine ev_iload rfl ?_
                      refine ev_call (jcall_v (A := [(0, a4), (0, v53222), (0, (9 * a1 + 3 * a2 + a3)), (0, (-1))]) (S' := []) (r := 42) rfl (g.lt ad42) (g.tg ad42) (Nat.le_of_ble_eq_true rfl)) (jOk_le (by decide) (s279_w g (by omega) (by omega) (by omega) (by omega) (by omega) (by omega))) (by decide) (by decide) (fun w53225 h53225 q53225 => ?_)
                      obtain ⟨rfl, g53225, kk53225⟩ := q53225
                      have k53225 := k0.tr kk53225 (by decide)
                      show jEv _ _ _ _ _ _ _ (_, [(2, 42), (0, a1), (0, a2), (0, a3), (0, a4), (0, (9 * a1 + 3 * a2 + a3)), (0, v53222)], [], _, _, _)
                      refine ev_aload_n rfl ?_
                      refine g_getp (r := 42) (c := 45) g53225 ad42 (by decide) (by decide) rf42_4 ft12_4 ?_
                      refine ev_iload rfl ?_
                      refine ev_iload rfl ?_
                      refine ev_iastG (r := 45) (j := ((9 * a1 + 3 * a2 + a3)).toNat) (g53225.lt ad45) (g53225.tg ad45) (by omega) (by rw [g53225.ln ad45]; omega) (fun h53226 e53226 => ?_)
                      have g53226 := g53225.s45 e53226 (by omega) (by omega)
                      have k53226 := k53225.wr e53226 rfl
                      refine ev_iload rfl ?_
                      exact ev_ret rfl (by decide) (by decide) ⟨_, rfl, by omega, by omega, g53226, k53226⟩
/-! 281 change -/
set_option maxHeartbeats 4000000 in
theorem s281 {G : GH} {h : JH} (g : Gd G h) {a1 : Int} (la1 : (-2147483648) ≤ a1) (ua1 : a1 ≤ 2147483647) {a2 : Int} (la2 : (-2147483648) ≤ a2) (ua2 : a2 ≤ 2147483647) {a3 : Int} (la3 : (-2147483648) ≤ a3) (ua3 : a3 ≤ 2147483647) {a4 : Int} (la4 : (-2147483648) ≤ a4) (ua4 : a4 ≤ 2147483647) : jOk 6 0 0 281 [(2, 42), (0, a1), (0, a2), (0, a3), (0, a4)] h (PI G [(42, 23), (42, 24), (56, 0), (57, 0), (58, 0), (59, 0), (50, 0), (52, 0)] h 0 (-2000000000) 999) := by
  refine ⟨by decide, by rw [ml281]; exact Nat.le_of_ble_eq_true rfl, ?_⟩
  rw [ml281, pp281]
  show jEv _ none _ c281_0 0 0 _ (c281_0, [(2, 42), (0, a1), (0, a2), (0, a3), (0, a4), (9, 0), (9, 0), (9, 0)], [], h, 0, 0)
  have k0 := Kp.rf [(42, 23), (42, 24), (56, 0), (57, 0), (58, 0), (59, 0), (50, 0), (52, 0)] h
  refine ev_aload_n rfl ?_
  refine ev_iload_n rfl ?_
  refine ev_iload_n rfl ?_
  refine ev_iload_n rfl ?_
  refine ev_in (d := 4) (a := 0) (b := 0) (cd' := c278_0) (m := 4) (L0 := [(2, 42), (0, a1), (0, a2), (0, a3)]) (jcall_v (A := [(0, a3), (0, a2), (0, a1)]) (S' := []) (r := 42) rfl (g.lt ad42) (g.tg ad42) (Nat.le_of_ble_eq_true rfl)) (by decide) ml278 pp278 (Nat.le_of_ble_eq_true rfl) rfl (by decide) (by decide) ?_
  refine ev_iload_n rfl ?_
  refine ev_iconst ?_
  refine ev_icmpne f278_36 (fun c53429 => ?_) (fun c53429 => ?_)
  · refine ev_aload_n rfl ?_
    refine ev_iload_n rfl ?_
    refine ev_iload_n rfl ?_
    refine ev_in (d := 3) (a := 0) (b := 0) (cd' := c277_0) (m := 3) (L0 := [(2, 42), (0, a1), (0, a2)]) (jcall_v (A := [(0, a2), (0, a1)]) (S' := []) (r := 42) rfl (g.lt ad42) (g.tg ad42) (Nat.le_of_ble_eq_true rfl)) (by decide) ml277 pp277 (Nat.le_of_ble_eq_true rfl) rfl (by decide) (by decide) ?_
    refine ev_aload_n rfl ?_
    refine ev_iload_n rfl ?_
    refine ev_iload_n rfl ?_
    refine ev_in (d := 2) (a := 0) (b := 0) (cd' := c262_0) (m := 3) (L0 := [(2, 42), (0, a1), (0, a2)]) (jcall_v (A := [(0, a2), (0, a1)]) (S' := []) (r := 42) rfl (g.lt ad42) (g.tg ad42) (Nat.le_of_ble_eq_true rfl)) (by decide) ml262 pp262 (Nat.le_of_ble_eq_true rfl) rfl (by decide) (by decide) ?_
    refine ev_aload_n rfl ?_
    refine ev_iload_n rfl ?_
    refine ev_in (d := 1) (a := 0) (b := 0) (cd' := c261_0) (m := 2) (L0 := [(2, 42), (0, a1)]) (jcall_v (A := [(0, a1)]) (S' := []) (r := 42) rfl (g.lt ad42) (g.tg ad42) (Nat.le_of_ble_eq_true rfl)) (by decide) ml261 pp261 (Nat.le_of_ble_eq_true rfl) rfl (by decide) (by decide) ?_
    refine ev_iload_n rfl ?_
    refine ev_iconst ?_
    refine ev_aload_n rfl ?_
    obtain ⟨v53430, ev53430, lv53430, uv53430⟩ := g.rd ad42 (show 9 < 66 by decide) rf42_9
    refine g_getv (r := 42) (v := v53430) g ad42 (by decide) ft12_9 ev53430 ?_
    refine ev_iconst ?_
    refine ev_isub (r := (v53430 - 1)) (by unfold w32; omega) ?_
    refine ev_in (d := 0) (a := 0) (b := 0) (cd' := c242_0) (m := 3) (L0 := [(0, a1), (0, 0), (0, (v53430 - 1))]) (jcall_s (A := [(0, (v53430 - 1)), (0, 0), (0, a1)]) (S' := []) (by decide) rfl (Nat.le_of_ble_eq_true rfl)) (by decide) ml242 pp242 (Nat.le_of_ble_eq_true rfl) rfl (by decide) (by decide) ?_
    refine ev_iload_n rfl ?_
    refine ev_iload_n rfl ?_
    refine ev_icmplt f242_14 (fun c53431 => ?_) (fun c53431 => ?_)
    · refine ev_iconst ?_
      refine ev_ret rfl (by decide) (by decide) ?_
      show jEv _ _ _ _ _ _ _ (_, [(2, 42), (0, a1)], [(0, 0)], _, _, _)
      refine ev_ret rfl (by decide) (by decide) ?_
      show jEv _ _ _ _ _ _ _ (_, [(2, 42), (0, a1), (0, a2)], [(0, 0)], _, _, _)
      refine ev_ifeq f262_28 (fun c53432 => ?_) (fun c53432 => absurd c53432 (by omega))
      refine ev_iconst ?_
      refine ev_ret rfl (by decide) (by decide) ?_
      show jEv _ _ _ _ _ _ _ (_, [(2, 42), (0, a1), (0, a2)], [(0, 0)], _, _, _)
      refine ev_ifeq f277_28 (fun c53433 => ?_) (fun c53433 => absurd c53433 (by omega))
      refine ev_iconst ?_
      refine ev_ret rfl (by decide) (by decide) ?_
      show jEv _ _ _ _ _ _ _ (_, [(2, 42), (0, a1), (0, a2), (0, a3)], [(0, 0)], _, _, _)
      refine ev_ifeq f278_70 (fun c53434 => ?_) (fun c53434 => absurd c53434 (by omega))
      refine ev_iconst ?_
      refine ev_ret rfl (by decide) (by decide) ?_
      show jEv _ _ _ _ _ _ _ (_, [(2, 42), (0, a1), (0, a2), (0, a3), (0, a4), (9, 0), (9, 0), (9, 0)], [(0, 0)], _, _, _)
      refine ev_ifeq f281_42 (fun c53435 => ?_) (fun c53435 => absurd c53435 (by omega))
      refine ev_ldc_w ?_
      exact ev_ret rfl (by decide) (by decide) ⟨_, rfl, by omega, by omega, g, k0⟩
    · refine ev_iload_n rfl ?_
      refine ev_iload_n rfl ?_
      refine ev_icmpgt f242_14 (fun c53436 => ?_) (fun c53436 => ?_)
      · refine ev_iconst ?_
        refine ev_ret rfl (by decide) (by decide) ?_
        show jEv _ _ _ _ _ _ _ (_, [(2, 42), (0, a1)], [(0, 0)], _, _, _)
        refine ev_ret rfl (by decide) (by decide) ?_
        show jEv _ _ _ _ _ _ _ (_, [(2, 42), (0, a1), (0, a2)], [(0, 0)], _, _, _)
        refine ev_ifeq f262_28 (fun c53437 => ?_) (fun c53437 => absurd c53437 (by omega))
        refine ev_iconst ?_
        refine ev_ret rfl (by decide) (by decide) ?_
        show jEv _ _ _ _ _ _ _ (_, [(2, 42), (0, a1), (0, a2)], [(0, 0)], _, _, _)
        refine ev_ifeq f277_28 (fun c53438 => ?_) (fun c53438 => absurd c53438 (by omega))
        refine ev_iconst ?_
        refine ev_ret rfl (by decide) (by decide) ?_
        show jEv _ _ _ _ _ _ _ (_, [(2, 42), (0, a1), (0, a2), (0, a3)], [(0, 0)], _, _, _)
        refine ev_ifeq f278_70 (fun c53439 => ?_) (fun c53439 => absurd c53439 (by omega))
        refine ev_iconst ?_
        refine ev_ret rfl (by decide) (by decide) ?_
        show jEv _ _ _ _ _ _ _ (_, [(2, 42), (0, a1), (0, a2), (0, a3), (0, a4), (9, 0), (9, 0), (9, 0)], [(0, 0)], _, _, _)
        refine ev_ifeq f281_42 (fun c53440 => ?_) (fun c53440 => absurd c53440 (by omega))
        refine ev_ldc_w ?_
        exact ev_ret rfl (by decide) (by decide) ⟨_, rfl, by omega, by omega, g, k0⟩
      · refine ev_iconst ?_
        refine ev_goto f242_15 ?_
        refine ev_ret rfl (by decide) (by decide) ?_
        show jEv _ _ _ _ _ _ _ (_, [(2, 42), (0, a1)], [(0, 1)], _, _, _)
        refine ev_ret rfl (by decide) (by decide) ?_
        show jEv _ _ _ _ _ _ _ (_, [(2, 42), (0, a1), (0, a2)], [(0, 1)], _, _, _)
        refine ev_ifeq f262_28 (fun c53441 => absurd c53441 (by omega)) (fun c53441 => ?_)
        refine ev_iload_n rfl ?_
        refine ev_iconst ?_
        refine ev_aload_n rfl ?_
        refine g_getp (r := 42) (c := 48) g ad42 (by decide) (by decide) rf42_10 ft12_10 ?_
        refine ev_iload_n rfl ?_
        refine g_iald g ad48 rt48 (by omega) (by omega) (fun v53442 ev53442 lv53442 uv53442 => ?_)
        refine ev_iconst ?_
        refine ev_isub (r := (v53442 - 1)) (by unfold w32; omega) ?_
        refine ev_in (d := 1) (a := 0) (b := 0) (cd' := c242_0) (m := 3) (L0 := [(0, a2), (0, 0), (0, (v53442 - 1))]) (jcall_s (A := [(0, (v53442 - 1)), (0, 0), (0, a2)]) (S' := []) (by decide) rfl (Nat.le_of_ble_eq_true rfl)) (by decide) ml242 pp242 (Nat.le_of_ble_eq_true rfl) rfl (by decide) (by decide) ?_
        refine ev_iload_n rfl ?_
        refine ev_iload_n rfl ?_
        refine ev_icmplt f242_14 (fun c53443 => ?_) (fun c53443 => ?_)
        · refine ev_iconst ?_
          refine ev_ret rfl (by decide) (by decide) ?_
          show jEv _ _ _ _ _ _ _ (_, [(2, 42), (0, a1), (0, a2)], [(0, 0)], _, _, _)
          refine ev_ifeq f262_28 (fun c53444 => ?_) (fun c53444 => absurd c53444 (by omega))
          refine ev_iconst ?_
          refine ev_ret rfl (by decide) (by decide) ?_
          show jEv _ _ _ _ _ _ _ (_, [(2, 42), (0, a1), (0, a2)], [(0, 0)], _, _, _)
          refine ev_ifeq f277_28 (fun c53445 => ?_) (fun c53445 => absurd c53445 (by omega))
          refine ev_iconst ?_
          refine ev_ret rfl (by decide) (by decide) ?_
          show jEv _ _ _ _ _ _ _ (_, [(2, 42), (0, a1), (0, a2), (0, a3)], [(0, 0)], _, _, _)
          refine ev_ifeq f278_70 (fun c53446 => ?_) (fun c53446 => absurd c53446 (by omega))
          refine ev_iconst ?_
          refine ev_ret rfl (by decide) (by decide) ?_
          show jEv _ _ _ _ _ _ _ (_, [(2, 42), (0, a1), (0, a2), (0, a3), (0, a4), (9, 0), (9, 0), (9, 0)], [(0, 0)], _, _, _)
          refine ev_ifeq f281_42 (fun c53447 => ?_) (fun c53447 => absurd c53447 (by omega))
          refine ev_ldc_w ?_
          exact ev_ret rfl (by decide) (by decide) ⟨_, rfl, by omega, by omega, g, k0⟩
        · refine ev_iload_n rfl ?_
          refine ev_iload_n rfl ?_
          refine ev_icmpgt f242_14 (fun c53448 => ?_) (fun c53448 => ?_)
          · refine ev_iconst ?_
            refine ev_ret rfl (by decide) (by decide) ?_
            show jEv _ _ _ _ _ _ _ (_, [(2, 42), (0, a1), (0, a2)], [(0, 0)], _, _, _)
            refine ev_ifeq f262_28 (fun c53449 => ?_) (fun c53449 => absurd c53449 (by omega))
            refine ev_iconst ?_
            refine ev_ret rfl (by decide) (by decide) ?_
            show jEv _ _ _ _ _ _ _ (_, [(2, 42), (0, a1), (0, a2)], [(0, 0)], _, _, _)
            refine ev_ifeq f277_28 (fun c53450 => ?_) (fun c53450 => absurd c53450 (by omega))
            refine ev_iconst ?_
            refine ev_ret rfl (by decide) (by decide) ?_
            show jEv _ _ _ _ _ _ _ (_, [(2, 42), (0, a1), (0, a2), (0, a3)], [(0, 0)], _, _, _)
            refine ev_ifeq f278_70 (fun c53451 => ?_) (fun c53451 => absurd c53451 (by omega))
            refine ev_iconst ?_
            refine ev_ret rfl (by decide) (by decide) ?_
            show jEv _ _ _ _ _ _ _ (_, [(2, 42), (0, a1), (0, a2), (0, a3), (0, a4), (9, 0), (9, 0), (9, 0)], [(0, 0)], _, _, _)
            refine ev_ifeq f281_42 (fun c53452 => ?_) (fun c53452 => absurd c53452 (by omega))
            refine ev_ldc_w ?_
            exact ev_ret rfl (by decide) (by decide) ⟨_, rfl, by omega, by omega, g, k0⟩
          · refine ev_iconst ?_
            refine ev_goto f242_15 ?_
            refine ev_ret rfl (by decide) (by decide) ?_
            show jEv _ _ _ _ _ _ _ (_, [(2, 42), (0, a1), (0, a2)], [(0, 1)], _, _, _)
            refine ev_ifeq f262_28 (fun c53453 => absurd c53453 (by omega)) (fun c53453 => ?_)
            refine ev_iconst ?_
            refine ev_goto f262_29 ?_
            refine ev_ret rfl (by decide) (by decide) ?_
            show jEv _ _ _ _ _ _ _ (_, [(2, 42), (0, a1), (0, a2)], [(0, 1)], _, _, _)
            refine ev_ifeq f277_28 (fun c53454 => absurd c53454 (by omega)) (fun c53454 => ?_)
            refine ev_aload_n rfl ?_
            refine g_getp (r := 42) (c := 49) g ad42 (by decide) (by decide) rf42_11 ft12_11 ?_
            refine ev_bipush ?_
            refine ev_iload_n rfl ?_
            refine ev_imul (r := (100 * a1)) (by unfold w32; omega) ?_
            refine ev_iload_n rfl ?_
            refine ev_iadd (r := (100 * a1 + a2)) (by unfold w32; omega) ?_
            refine g_bald g ad49 rt49 (by omega) (by omega) (fun v53455 ev53455 lv53455 uv53455 => ?_)
            refine ev_iconst ?_
            refine ev_icmpne f277_28 (fun c53456 => ?_) (fun c53456 => ?_)
            · refine ev_iconst ?_
              refine ev_ret rfl (by decide) (by decide) ?_
              show jEv _ _ _ _ _ _ _ (_, [(2, 42), (0, a1), (0, a2), (0, a3)], [(0, 0)], _, _, _)
              refine ev_ifeq f278_70 (fun c53457 => ?_) (fun c53457 => absurd c53457 (by omega))
              refine ev_iconst ?_
              refine ev_ret rfl (by decide) (by decide) ?_
              show jEv _ _ _ _ _ _ _ (_, [(2, 42), (0, a1), (0, a2), (0, a3), (0, a4), (9, 0), (9, 0), (9, 0)], [(0, 0)], _, _, _)
              refine ev_ifeq f281_42 (fun c53458 => ?_) (fun c53458 => absurd c53458 (by omega))
              refine ev_ldc_w ?_
              exact ev_ret rfl (by decide) (by decide) ⟨_, rfl, by omega, by omega, g, k0⟩
            · refine ev_iconst ?_
              refine ev_goto f277_29 ?_
              refine ev_ret rfl (by decide) (by decide) ?_
              show jEv _ _ _ _ _ _ _ (_, [(2, 42), (0, a1), (0, a2), (0, a3)], [(0, 1)], _, _, _)
              refine ev_ifeq f278_70 (fun c53459 => absurd c53459 (by omega)) (fun c53459 => ?_)
              refine ev_iload_n rfl ?_
              refine ev_iconst ?_
              refine ev_aload_n rfl ?_
              refine g_getp (r := 42) (c := 50) g ad42 (by decide) (by decide) rf42_12 ft12_12 ?_
              refine ev_bipush ?_
              refine ev_iload_n rfl ?_
              refine ev_imul (r := (100 * a1)) (by unfold w32; omega) ?_
              refine ev_iload_n rfl ?_
              refine ev_iadd (r := (100 * a1 + a2)) (by unfold w32; omega) ?_
              refine g_iald g ad50 rt50 (by omega) (by omega) (fun v53460 ev53460 lv53460 uv53460 => ?_)
              have xv53460 := g.nd1 (q := a1) (n := a2) (by omega) (by rw [(ev53430)]; omega) (by omega) (by rw [(ev53442)]; omega) (i := (100 * a1 + a2)) (by omega) (by rw [(ev53455)]; omega) ev53460
              refine ev_iconst ?_
              refine ev_isub (r := (v53460 - 1)) (by unfold w32; omega) ?_
              refine ev_in (d := 3) (a := 0) (b := 0) (cd' := c242_0) (m := 3) (L0 := [(0, a3), (0, 0), (0, (v53460 - 1))]) (jcall_s (A := [(0, (v53460 - 1)), (0, 0), (0, a3)]) (S' := []) (by decide) rfl (Nat.le_of_ble_eq_true rfl)) (by decide) ml242 pp242 (Nat.le_of_ble_eq_true rfl) rfl (by decide) (by decide) ?_
              refine ev_iload_n rfl ?_
              refine ev_iload_n rfl ?_
              refine ev_icmplt f242_14 (fun c53461 => ?_) (fun c53461 => ?_)
              · refine ev_iconst ?_
                refine ev_ret rfl (by decide) (by decide) ?_
                show jEv _ _ _ _ _ _ _ (_, [(2, 42), (0, a1), (0, a2), (0, a3)], [(0, 0)], _, _, _)
                refine ev_ifeq f278_70 (fun c53462 => ?_) (fun c53462 => absurd c53462 (by omega))
                refine ev_iconst ?_
                refine ev_ret rfl (by decide) (by decide) ?_
                show jEv _ _ _ _ _ _ _ (_, [(2, 42), (0, a1), (0, a2), (0, a3), (0, a4), (9, 0), (9, 0), (9, 0)], [(0, 0)], _, _, _)
                refine ev_ifeq f281_42 (fun c53463 => ?_) (fun c53463 => absurd c53463 (by omega))
                refine ev_ldc_w ?_
                exact ev_ret rfl (by decide) (by decide) ⟨_, rfl, by omega, by omega, g, k0⟩
              · refine ev_iload_n rfl ?_
                refine ev_iload_n rfl ?_
                refine ev_icmpgt f242_14 (fun c53464 => ?_) (fun c53464 => ?_)
                · refine ev_iconst ?_
                  refine ev_ret rfl (by decide) (by decide) ?_
                  show jEv _ _ _ _ _ _ _ (_, [(2, 42), (0, a1), (0, a2), (0, a3)], [(0, 0)], _, _, _)
                  refine ev_ifeq f278_70 (fun c53465 => ?_) (fun c53465 => absurd c53465 (by omega))
                  refine ev_iconst ?_
                  refine ev_ret rfl (by decide) (by decide) ?_
                  show jEv _ _ _ _ _ _ _ (_, [(2, 42), (0, a1), (0, a2), (0, a3), (0, a4), (9, 0), (9, 0), (9, 0)], [(0, 0)], _, _, _)
                  refine ev_ifeq f281_42 (fun c53466 => ?_) (fun c53466 => absurd c53466 (by omega))
                  refine ev_ldc_w ?_
                  exact ev_ret rfl (by decide) (by decide) ⟨_, rfl, by omega, by omega, g, k0⟩
                · refine ev_iconst ?_
                  refine ev_goto f242_15 ?_
                  refine ev_ret rfl (by decide) (by decide) ?_
                  show jEv _ _ _ _ _ _ _ (_, [(2, 42), (0, a1), (0, a2), (0, a3)], [(0, 1)], _, _, _)
                  refine ev_ifeq f278_70 (fun c53467 => absurd c53467 (by omega)) (fun c53467 => ?_)
                  refine ev_iconst ?_
                  refine ev_goto f278_71 ?_
                  refine ev_ret rfl (by decide) (by decide) ?_
                  show jEv _ _ _ _ _ _ _ (_, [(2, 42), (0, a1), (0, a2), (0, a3), (0, a4), (9, 0), (9, 0), (9, 0)], [(0, 1)], _, _, _)
                  refine ev_ifeq f281_42 (fun c53468 => absurd c53468 (by omega)) (fun c53468 => ?_)
                  refine ev_iload_n rfl ?_
                  refine ev_ifge f281_31 (fun c53469 => ?_) (fun c53469 => absurd c53469 (by omega))
                  refine ev_iload rfl ?_
                  refine ev_iconst ?_
                  refine ev_bipush ?_
                  refine ev_in (d := 4) (a := 0) (b := 0) (cd' := c242_0) (m := 3) (L0 := [(0, a4), (0, 0), (0, 99)]) (jcall_s (A := [(0, 99), (0, 0), (0, a4)]) (S' := []) (by decide) rfl (Nat.le_of_ble_eq_true rfl)) (by decide) ml242 pp242 (Nat.le_of_ble_eq_true rfl) rfl (by decide) (by decide) ?_
                  refine ev_iload_n rfl ?_
                  refine ev_iload_n rfl ?_
                  refine ev_icmplt f242_14 (fun c53470 => ?_) (fun c53470 => ?_)
                  · refine ev_iconst ?_
                    refine ev_ret rfl (by decide) (by decide) ?_
                    show jEv _ _ _ _ _ _ _ (_, [(2, 42), (0, a1), (0, a2), (0, a3), (0, a4), (9, 0), (9, 0), (9, 0)], [(0, 0)], _, _, _)
                    refine ev_ifne f281_46 (fun c53471 => absurd c53471 (by omega)) (fun c53471 => ?_)
                    refine ev_ldc_w ?_
                    exact ev_ret rfl (by decide) (by decide) ⟨_, rfl, by omega, by omega, g, k0⟩
                  · refine ev_iload_n rfl ?_
                    refine ev_iload_n rfl ?_
                    refine ev_icmpgt f242_14 (fun c53472 => ?_) (fun c53472 => ?_)
                    · refine ev_iconst ?_
                      refine ev_ret rfl (by decide) (by decide) ?_
                      show jEv _ _ _ _ _ _ _ (_, [(2, 42), (0, a1), (0, a2), (0, a3), (0, a4), (9, 0), (9, 0), (9, 0)], [(0, 0)], _, _, _)
                      refine ev_ifne f281_46 (fun c53473 => absurd c53473 (by omega)) (fun c53473 => ?_)
                      refine ev_ldc_w ?_
                      exact ev_ret rfl (by decide) (by decide) ⟨_, rfl, by omega, by omega, g, k0⟩
                    · refine ev_iconst ?_
                      refine ev_goto f242_15 ?_
                      refine ev_ret rfl (by decide) (by decide) ?_
                      show jEv _ _ _ _ _ _ _ (_, [(2, 42), (0, a1), (0, a2), (0, a3), (0, a4), (9, 0), (9, 0), (9, 0)], [(0, 1)], _, _, _)
                      refine ev_ifne f281_46 (fun c53474 => ?_) (fun c53474 => absurd c53474 (by omega))
                      refine ev_iload_n rfl ?_
                      refine ev_ifge f281_54 (fun c53475 => ?_) (fun c53475 => absurd c53475 (by omega))
                      refine ev_iconst ?_
                      refine ev_istore (L' := [(2, 42), (0, a1), (0, a2), (0, a3), (0, a4), (0, 1), (9, 0), (9, 0)]) (Nat.le_of_ble_eq_true rfl) rfl ?_
                      refine ev_iload_n rfl ?_
                      refine ev_ifge f281_70 (fun c53476 => ?_) (fun c53476 => absurd c53476 (by omega))
                      refine ev_iconst ?_
                      refine ev_bipush ?_
                      refine ev_iload_n rfl ?_
                      refine ev_imul (r := (100 * a1)) (by unfold w32; omega) ?_
                      refine ev_iload_n rfl ?_
                      refine ev_iadd (r := (100 * a1 + a2)) (by unfold w32; omega) ?_
                      refine ev_imul (r := (400 * a1 + 4 * a2)) (by unfold w32; omega) ?_
                      refine ev_iload_n rfl ?_
                      refine ev_iadd (r := (400 * a1 + 4 * a2 + a3)) (by unfold w32; omega) ?_
                      refine ev_istore (L' := [(2, 42), (0, a1), (0, a2), (0, a3), (0, a4), (0, 1), (0, (400 * a1 + 4 * a2 + a3)), (9, 0)]) (Nat.le_of_ble_eq_true rfl) rfl ?_
                      refine ev_iload_n rfl ?_
                      refine ev_ifge f281_96 (fun c53477 => ?_) (fun c53477 => absurd c53477 (by omega))
                      refine ev_aload_n rfl ?_
                      refine g_getp (r := 42) (c := 52) g ad42 (by decide) (by decide) rf42_14 ft12_14 ?_
                      refine ev_iload rfl ?_
                      refine g_iald g ad52 rt52 (by omega) (by omega) (fun v53478 ev53478 lv53478 uv53478 => ?_)
                      refine ev_istore (L' := [(2, 42), (0, a1), (0, a2), (0, a3), (0, a4), (0, 1), (0, (400 * a1 + 4 * a2 + a3)), (0, v53478)]) (Nat.le_of_ble_eq_true rfl) rfl ?_
                      refine ev_iload rfl ?_
                      refine ev_iload rfl ?_
                      refine ev_icmpeq f281_124 (fun c53479 => ?_) (fun c53479 => ?_)
                      · refine ev_aload_n rfl ?_
                        refine ev_iload rfl ?_
                        refine ev_iload rfl ?_
                        refine ev_iload rfl ?_
                        refine ev_in (d := 4) (a := 0) (b := 0) (cd' := c280_0) (m := 4) (L0 := [(2, 42), (0, 1), (0, (400 * a1 + 4 * a2 + a3)), (0, a4)]) (jcall_v (A := [(0, a4), (0, (400 * a1 + 4 * a2 + a3)), (0, 1)]) (S' := []) (r := 42) rfl (g.lt ad42) (g.tg ad42) (Nat.le_of_ble_eq_true rfl)) (by decide) ml280 pp280 (Nat.le_of_ble_eq_true rfl) rfl (by decide) (by decide) ?_
                        refine ev_iload_n rfl ?_
                        refine ev_ifge f280_14 (fun c53480 => ?_) (fun c53480 => absurd c53480 (by omega))
                        refine ev_iload_n rfl ?_
                        refine ev_ifne f280_28 (fun c53481 => ?_) (fun c53481 => absurd c53481 (by omega))
                        refine ev_aload_n rfl ?_
                        refine g_getp (r := 42) (c := 52) g ad42 (by decide) (by decide) rf42_14 ft12_14 ?_
                        refine ev_iload_n rfl ?_
                        refine ev_iload_n rfl ?_
                        refine g_iast g ad52 rt52 (fun _ => rfl) (by omega) (by omega) (by omega) (by omega) (fun h53482 e53482 g53482 => ?_)
                        have k53482 := k0.wr e53482 rfl
                        refine ev_ret rfl (by decide) (by decide) ?_
                        show jEv _ _ _ _ _ _ _ (_, [(2, 42), (0, a1), (0, a2), (0, a3), (0, a4), (0, 1), (0, (400 * a1 + 4 * a2 + a3)), (0, v53478)], [], _, _, _)
                        refine ev_iload rfl ?_
                        exact ev_ret rfl (by decide) (by decide) ⟨_, rfl, by omega, by omega, g53482, k53482⟩
                      · refine ev_aload_n rfl ?_
                        refine ev_iload rfl ?_
                        refine ev_iload rfl ?_
                        refine ev_iload rfl ?_
                        refine ev_iload rfl ?_
                        refine ev_call (jcall_v (A := [(0, a4), (0, v53478), (0, (400 * a1 + 4 * a2 + a3)), (0, 1)]) (S' := []) (r := 42) rfl (g.lt ad42) (g.tg ad42) (Nat.le_of_ble_eq_true rfl)) (jOk_le (by decide) (s279_c g (by omega) (by omega) (by omega) (by omega) (by omega) (by omega))) (by decide) (by decide) (fun w53483 h53483 q53483 => ?_)
                        obtain ⟨rfl, g53483, kk53483⟩ := q53483
                        have k53483 := k0.tr kk53483 (by decide)
                        show jEv _ _ _ _ _ _ _ (_, [(2, 42), (0, a1), (0, a2), (0, a3), (0, a4), (0, 1), (0, (400 * a1 + 4 * a2 + a3)), (0, v53478)], [], _, _, _)
                        refine ev_aload_n rfl ?_
                        refine ev_iload rfl ?_
                        refine ev_iload rfl ?_
                        refine ev_iload rfl ?_
                        refine ev_in (d := 4) (a := 0) (b := 0) (cd' := c280_0) (m := 4) (L0 := [(2, 42), (0, 1), (0, (400 * a1 + 4 * a2 + a3)), (0, a4)]) (jcall_v (A := [(0, a4), (0, (400 * a1 + 4 * a2 + a3)), (0, 1)]) (S' := []) (r := 42) rfl (g53483.lt ad42) (g53483.tg ad42) (Nat.le_of_ble_eq_true rfl)) (by decide) ml280 pp280 (Nat.le_of_ble_eq_true rfl) rfl (by decide) (by decide) ?_
                        refine ev_iload_n rfl ?_
                        refine ev_ifge f280_14 (fun c53484 => ?_) (fun c53484 => absurd c53484 (by omega))
                        refine ev_iload_n rfl ?_
                        refine ev_ifne f280_28 (fun c53485 => ?_) (fun c53485 => absurd c53485 (by omega))
                        refine ev_aload_n rfl ?_
                        refine g_getp (r := 42) (c := 52) g53483 ad42 (by decide) (by decide) rf42_14 ft12_14 ?_
                        refine ev_iload_n rfl ?_
                        refine ev_iload_n rfl ?_
                        refine g_iast g53483 ad52 rt52 (fun _ => rfl) (by omega) (by omega) (by omega) (by omega) (fun h53486 e53486 g53486 => ?_)
                        have k53486 := k53483.wr e53486 rfl
                        refine ev_ret rfl (by decide) (by decide) ?_
                        show jEv _ _ _ _ _ _ _ (_, [(2, 42), (0, a1), (0, a2), (0, a3), (0, a4), (0, 1), (0, (400 * a1 + 4 * a2 + a3)), (0, v53478)], [], _, _, _)
                        refine ev_iload rfl ?_
                        exact ev_ret rfl (by decide) (by decide) ⟨_, rfl, by omega, by omega, g53486, k53486⟩
  · refine ev_aload_n rfl ?_
    refine ev_iload_n rfl ?_
    refine ev_iload_n rfl ?_
    refine ev_in (d := 3) (a := 0) (b := 0) (cd' := c262_0) (m := 3) (L0 := [(2, 42), (0, a1), (0, a2)]) (jcall_v (A := [(0, a2), (0, a1)]) (S' := []) (r := 42) rfl (g.lt ad42) (g.tg ad42) (Nat.le_of_ble_eq_true rfl)) (by decide) ml262 pp262 (Nat.le_of_ble_eq_true rfl) rfl (by decide) (by decide) ?_
    refine ev_aload_n rfl ?_
    refine ev_iload_n rfl ?_
    refine ev_in (d := 2) (a := 0) (b := 0) (cd' := c261_0) (m := 2) (L0 := [(2, 42), (0, a1)]) (jcall_v (A := [(0, a1)]) (S' := []) (r := 42) rfl (g.lt ad42) (g.tg ad42) (Nat.le_of_ble_eq_true rfl)) (by decide) ml261 pp261 (Nat.le_of_ble_eq_true rfl) rfl (by decide) (by decide) ?_
    refine ev_iload_n rfl ?_
    refine ev_iconst ?_
    refine ev_aload_n rfl ?_
    obtain ⟨v53487, ev53487, lv53487, uv53487⟩ := g.rd ad42 (show 9 < 66 by decide) rf42_9
    refine g_getv (r := 42) (v := v53487) g ad42 (by decide) ft12_9 ev53487 ?_
    refine ev_iconst ?_
    refine ev_isub (r := (v53487 - 1)) (by unfold w32; omega) ?_
    refine ev_in (d := 1) (a := 0) (b := 0) (cd' := c242_0) (m := 3) (L0 := [(0, a1), (0, 0), (0, (v53487 - 1))]) (jcall_s (A := [(0, (v53487 - 1)), (0, 0), (0, a1)]) (S' := []) (by decide) rfl (Nat.le_of_ble_eq_true rfl)) (by decide) ml242 pp242 (Nat.le_of_ble_eq_true rfl) rfl (by decide) (by decide) ?_
    refine ev_iload_n rfl ?_
    refine ev_iload_n rfl ?_
    refine ev_icmplt f242_14 (fun c53488 => ?_) (fun c53488 => ?_)
    · refine ev_iconst ?_
      refine ev_ret rfl (by decide) (by decide) ?_
      show jEv _ _ _ _ _ _ _ (_, [(2, 42), (0, a1)], [(0, 0)], _, _, _)
      refine ev_ret rfl (by decide) (by decide) ?_
      show jEv _ _ _ _ _ _ _ (_, [(2, 42), (0, a1), (0, a2)], [(0, 0)], _, _, _)
      refine ev_ifeq f262_28 (fun c53489 => ?_) (fun c53489 => absurd c53489 (by omega))
      refine ev_iconst ?_
      refine ev_ret rfl (by decide) (by decide) ?_
      show jEv _ _ _ _ _ _ _ (_, [(2, 42), (0, a1), (0, a2), (0, a3)], [(0, 0)], _, _, _)
      refine ev_ifeq f278_32 (fun c53490 => ?_) (fun c53490 => absurd c53490 (by omega))
      refine ev_iconst ?_
      refine ev_goto f278_71 ?_
      refine ev_ret rfl (by decide) (by decide) ?_
      show jEv _ _ _ _ _ _ _ (_, [(2, 42), (0, a1), (0, a2), (0, a3), (0, a4), (9, 0), (9, 0), (9, 0)], [(0, 0)], _, _, _)
      refine ev_ifeq f281_42 (fun c53491 => ?_) (fun c53491 => absurd c53491 (by omega))
      refine ev_ldc_w ?_
      exact ev_ret rfl (by decide) (by decide) ⟨_, rfl, by omega, by omega, g, k0⟩
    · refine ev_iload_n rfl ?_
      refine ev_iload_n rfl ?_
      refine ev_icmpgt f242_14 (fun c53492 => ?_) (fun c53492 => ?_)
      · refine ev_iconst ?_
        refine ev_ret rfl (by decide) (by decide) ?_
        show jEv _ _ _ _ _ _ _ (_, [(2, 42), (0, a1)], [(0, 0)], _, _, _)
        refine ev_ret rfl (by decide) (by decide) ?_
        show jEv _ _ _ _ _ _ _ (_, [(2, 42), (0, a1), (0, a2)], [(0, 0)], _, _, _)
        refine ev_ifeq f262_28 (fun c53493 => ?_) (fun c53493 => absurd c53493 (by omega))
        refine ev_iconst ?_
        refine ev_ret rfl (by decide) (by decide) ?_
        show jEv _ _ _ _ _ _ _ (_, [(2, 42), (0, a1), (0, a2), (0, a3)], [(0, 0)], _, _, _)
        refine ev_ifeq f278_32 (fun c53494 => ?_) (fun c53494 => absurd c53494 (by omega))
        refine ev_iconst ?_
        refine ev_goto f278_71 ?_
        refine ev_ret rfl (by decide) (by decide) ?_
        show jEv _ _ _ _ _ _ _ (_, [(2, 42), (0, a1), (0, a2), (0, a3), (0, a4), (9, 0), (9, 0), (9, 0)], [(0, 0)], _, _, _)
        refine ev_ifeq f281_42 (fun c53495 => ?_) (fun c53495 => absurd c53495 (by omega))
        refine ev_ldc_w ?_
        exact ev_ret rfl (by decide) (by decide) ⟨_, rfl, by omega, by omega, g, k0⟩
      · refine ev_iconst ?_
        refine ev_goto f242_15 ?_
        refine ev_ret rfl (by decide) (by decide) ?_
        show jEv _ _ _ _ _ _ _ (_, [(2, 42), (0, a1)], [(0, 1)], _, _, _)
        refine ev_ret rfl (by decide) (by decide) ?_
        show jEv _ _ _ _ _ _ _ (_, [(2, 42), (0, a1), (0, a2)], [(0, 1)], _, _, _)
        refine ev_ifeq f262_28 (fun c53496 => absurd c53496 (by omega)) (fun c53496 => ?_)
        refine ev_iload_n rfl ?_
        refine ev_iconst ?_
        refine ev_aload_n rfl ?_
        refine g_getp (r := 42) (c := 48) g ad42 (by decide) (by decide) rf42_10 ft12_10 ?_
        refine ev_iload_n rfl ?_
        refine g_iald g ad48 rt48 (by omega) (by omega) (fun v53497 ev53497 lv53497 uv53497 => ?_)
        refine ev_iconst ?_
        refine ev_isub (r := (v53497 - 1)) (by unfold w32; omega) ?_
        refine ev_in (d := 2) (a := 0) (b := 0) (cd' := c242_0) (m := 3) (L0 := [(0, a2), (0, 0), (0, (v53497 - 1))]) (jcall_s (A := [(0, (v53497 - 1)), (0, 0), (0, a2)]) (S' := []) (by decide) rfl (Nat.le_of_ble_eq_true rfl)) (by decide) ml242 pp242 (Nat.le_of_ble_eq_true rfl) rfl (by decide) (by decide) ?_
        refine ev_iload_n rfl ?_
        refine ev_iload_n rfl ?_
        refine ev_icmplt f242_14 (fun c53498 => ?_) (fun c53498 => ?_)
        · refine ev_iconst ?_
          refine ev_ret rfl (by decide) (by decide) ?_
          show jEv _ _ _ _ _ _ _ (_, [(2, 42), (0, a1), (0, a2)], [(0, 0)], _, _, _)
          refine ev_ifeq f262_28 (fun c53499 => ?_) (fun c53499 => absurd c53499 (by omega))
          refine ev_iconst ?_
          refine ev_ret rfl (by decide) (by decide) ?_
          show jEv _ _ _ _ _ _ _ (_, [(2, 42), (0, a1), (0, a2), (0, a3)], [(0, 0)], _, _, _)
          refine ev_ifeq f278_32 (fun c53500 => ?_) (fun c53500 => absurd c53500 (by omega))
          refine ev_iconst ?_
          refine ev_goto f278_71 ?_
          refine ev_ret rfl (by decide) (by decide) ?_
          show jEv _ _ _ _ _ _ _ (_, [(2, 42), (0, a1), (0, a2), (0, a3), (0, a4), (9, 0), (9, 0), (9, 0)], [(0, 0)], _, _, _)
          refine ev_ifeq f281_42 (fun c53501 => ?_) (fun c53501 => absurd c53501 (by omega))
          refine ev_ldc_w ?_
          exact ev_ret rfl (by decide) (by decide) ⟨_, rfl, by omega, by omega, g, k0⟩
        · refine ev_iload_n rfl ?_
          refine ev_iload_n rfl ?_
          refine ev_icmpgt f242_14 (fun c53502 => ?_) (fun c53502 => ?_)
          · refine ev_iconst ?_
            refine ev_ret rfl (by decide) (by decide) ?_
            show jEv _ _ _ _ _ _ _ (_, [(2, 42), (0, a1), (0, a2)], [(0, 0)], _, _, _)
            refine ev_ifeq f262_28 (fun c53503 => ?_) (fun c53503 => absurd c53503 (by omega))
            refine ev_iconst ?_
            refine ev_ret rfl (by decide) (by decide) ?_
            show jEv _ _ _ _ _ _ _ (_, [(2, 42), (0, a1), (0, a2), (0, a3)], [(0, 0)], _, _, _)
            refine ev_ifeq f278_32 (fun c53504 => ?_) (fun c53504 => absurd c53504 (by omega))
            refine ev_iconst ?_
            refine ev_goto f278_71 ?_
            refine ev_ret rfl (by decide) (by decide) ?_
            show jEv _ _ _ _ _ _ _ (_, [(2, 42), (0, a1), (0, a2), (0, a3), (0, a4), (9, 0), (9, 0), (9, 0)], [(0, 0)], _, _, _)
            refine ev_ifeq f281_42 (fun c53505 => ?_) (fun c53505 => absurd c53505 (by omega))
            refine ev_ldc_w ?_
            exact ev_ret rfl (by decide) (by decide) ⟨_, rfl, by omega, by omega, g, k0⟩
          · refine ev_iconst ?_
            refine ev_goto f242_15 ?_
            refine ev_ret rfl (by decide) (by decide) ?_
            show jEv _ _ _ _ _ _ _ (_, [(2, 42), (0, a1), (0, a2)], [(0, 1)], _, _, _)
            refine ev_ifeq f262_28 (fun c53506 => absurd c53506 (by omega)) (fun c53506 => ?_)
            refine ev_iconst ?_
            refine ev_goto f262_29 ?_
            refine ev_ret rfl (by decide) (by decide) ?_
            show jEv _ _ _ _ _ _ _ (_, [(2, 42), (0, a1), (0, a2), (0, a3)], [(0, 1)], _, _, _)
            refine ev_ifeq f278_32 (fun c53507 => absurd c53507 (by omega)) (fun c53507 => ?_)
            refine ev_aload_n rfl ?_
            refine g_getp (r := 42) (c := 49) g ad42 (by decide) (by decide) rf42_11 ft12_11 ?_
            refine ev_bipush ?_
            refine ev_iload_n rfl ?_
            refine ev_imul (r := (100 * a1)) (by unfold w32; omega) ?_
            refine ev_iload_n rfl ?_
            refine ev_iadd (r := (100 * a1 + a2)) (by unfold w32; omega) ?_
            refine g_bald g ad49 rt49 (by omega) (by omega) (fun v53508 ev53508 lv53508 uv53508 => ?_)
            refine ev_ifne f278_32 (fun c53509 => ?_) (fun c53509 => ?_)
            · refine ev_iconst ?_
              refine ev_goto f278_71 ?_
              refine ev_ret rfl (by decide) (by decide) ?_
              show jEv _ _ _ _ _ _ _ (_, [(2, 42), (0, a1), (0, a2), (0, a3), (0, a4), (9, 0), (9, 0), (9, 0)], [(0, 0)], _, _, _)
              refine ev_ifeq f281_42 (fun c53510 => ?_) (fun c53510 => absurd c53510 (by omega))
              refine ev_ldc_w ?_
              exact ev_ret rfl (by decide) (by decide) ⟨_, rfl, by omega, by omega, g, k0⟩
            · refine ev_iconst ?_
              refine ev_goto f278_71 ?_
              refine ev_ret rfl (by decide) (by decide) ?_
              show jEv _ _ _ _ _ _ _ (_, [(2, 42), (0, a1), (0, a2), (0, a3), (0, a4), (9, 0), (9, 0), (9, 0)], [(0, 1)], _, _, _)
              refine ev_ifeq f281_42 (fun c53511 => absurd c53511 (by omega)) (fun c53511 => ?_)
              refine ev_iload_n rfl ?_
              refine ev_ifge f281_31 (fun c53512 => absurd c53512 (by omega)) (fun c53512 => ?_)
              refine ev_iload rfl ?_
              refine ev_sipush ?_
              refine ev_sipush ?_
              refine ev_in (d := 4) (a := 0) (b := 0) (cd' := c242_0) (m := 3) (L0 := [(0, a4), (0, (-999)), (0, 999)]) (jcall_s (A := [(0, 999), (0, (-999)), (0, a4)]) (S' := []) (by decide) rfl (Nat.le_of_ble_eq_true rfl)) (by decide) ml242 pp242 (Nat.le_of_ble_eq_true rfl) rfl (by decide) (by decide) ?_
              refine ev_iload_n rfl ?_
              refine ev_iload_n rfl ?_
              refine ev_icmplt f242_14 (fun c53513 => ?_) (fun c53513 => ?_)
              · refine ev_iconst ?_
                refine ev_ret rfl (by decide) (by decide) ?_
                show jEv _ _ _ _ _ _ _ (_, [(2, 42), (0, a1), (0, a2), (0, a3), (0, a4), (9, 0), (9, 0), (9, 0)], [(0, 0)], _, _, _)
                refine ev_ifne f281_46 (fun c53514 => absurd c53514 (by omega)) (fun c53514 => ?_)
                refine ev_goto f281_42 ?_
                refine ev_ldc_w ?_
                exact ev_ret rfl (by decide) (by decide) ⟨_, rfl, by omega, by omega, g, k0⟩
              · refine ev_iload_n rfl ?_
                refine ev_iload_n rfl ?_
                refine ev_icmpgt f242_14 (fun c53515 => ?_) (fun c53515 => ?_)
                · refine ev_iconst ?_
                  refine ev_ret rfl (by decide) (by decide) ?_
                  show jEv _ _ _ _ _ _ _ (_, [(2, 42), (0, a1), (0, a2), (0, a3), (0, a4), (9, 0), (9, 0), (9, 0)], [(0, 0)], _, _, _)
                  refine ev_ifne f281_46 (fun c53516 => absurd c53516 (by omega)) (fun c53516 => ?_)
                  refine ev_goto f281_42 ?_
                  refine ev_ldc_w ?_
                  exact ev_ret rfl (by decide) (by decide) ⟨_, rfl, by omega, by omega, g, k0⟩
                · refine ev_iconst ?_
                  refine ev_goto f242_15 ?_
                  refine ev_ret rfl (by decide) (by decide) ?_
                  show jEv _ _ _ _ _ _ _ (_, [(2, 42), (0, a1), (0, a2), (0, a3), (0, a4), (9, 0), (9, 0), (9, 0)], [(0, 1)], _, _, _)
                  refine ev_ifne f281_46 (fun c53517 => ?_) (fun c53517 => absurd c53517 (by omega))
                  refine ev_iload_n rfl ?_
                  refine ev_ifge f281_54 (fun c53518 => absurd c53518 (by omega)) (fun c53518 => ?_)
                  refine ev_iconst ?_
                  refine ev_goto f281_55 ?_
                  refine ev_istore (L' := [(2, 42), (0, a1), (0, a2), (0, a3), (0, a4), (0, 0), (9, 0), (9, 0)]) (Nat.le_of_ble_eq_true rfl) rfl ?_
                  refine ev_iload_n rfl ?_
                  refine ev_ifge f281_70 (fun c53519 => absurd c53519 (by omega)) (fun c53519 => ?_)
                  refine ev_bipush ?_
                  refine ev_iload_n rfl ?_
                  refine ev_imul (r := (100 * a1)) (by unfold w32; omega) ?_
                  refine ev_iload_n rfl ?_
                  refine ev_iadd (r := (100 * a1 + a2)) (by unfold w32; omega) ?_
                  refine ev_goto f281_80 ?_
                  refine ev_istore (L' := [(2, 42), (0, a1), (0, a2), (0, a3), (0, a4), (0, 0), (0, (100 * a1 + a2)), (9, 0)]) (Nat.le_of_ble_eq_true rfl) rfl ?_
                  refine ev_iload_n rfl ?_
                  refine ev_ifge f281_96 (fun c53520 => absurd c53520 (by omega)) (fun c53520 => ?_)
                  refine ev_aload_n rfl ?_
                  refine g_getp (r := 42) (c := 50) g ad42 (by decide) (by decide) rf42_12 ft12_12 ?_
                  refine ev_iload rfl ?_
                  refine g_iald g ad50 rt50 (by omega) (by omega) (fun v53521 ev53521 lv53521 uv53521 => ?_)
                  refine ev_goto f281_103 ?_
                  refine ev_istore (L' := [(2, 42), (0, a1), (0, a2), (0, a3), (0, a4), (0, 0), (0, (100 * a1 + a2)), (0, v53521)]) (Nat.le_of_ble_eq_true rfl) rfl ?_
                  refine ev_iload rfl ?_
                  refine ev_iload rfl ?_
                  refine ev_icmpeq f281_124 (fun c53522 => ?_) (fun c53522 => ?_)
                  · refine ev_aload_n rfl ?_
                    refine ev_iload rfl ?_
                    refine ev_iload rfl ?_
                    refine ev_iload rfl ?_
                    refine ev_in (d := 4) (a := 0) (b := 0) (cd' := c280_0) (m := 4) (L0 := [(2, 42), (0, 0), (0, (100 * a1 + a2)), (0, a4)]) (jcall_v (A := [(0, a4), (0, (100 * a1 + a2)), (0, 0)]) (S' := []) (r := 42) rfl (g.lt ad42) (g.tg ad42) (Nat.le_of_ble_eq_true rfl)) (by decide) ml280 pp280 (Nat.le_of_ble_eq_true rfl) rfl (by decide) (by decide) ?_
                    refine ev_iload_n rfl ?_
                    refine ev_ifge f280_14 (fun c53523 => ?_) (fun c53523 => absurd c53523 (by omega))
                    refine ev_iload_n rfl ?_
                    refine ev_ifne f280_28 (fun c53524 => absurd c53524 (by omega)) (fun c53524 => ?_)
                    refine ev_aload_n rfl ?_
                    refine g_getp (r := 42) (c := 50) g ad42 (by decide) (by decide) rf42_12 ft12_12 ?_
                    refine ev_iload_n rfl ?_
                    refine ev_iload_n rfl ?_
                    refine ev_iastG (r := 50) (j := ((100 * a1 + a2)).toNat) (g.lt ad50) (g.tg ad50) (by omega) (by rw [g.ln ad50]; omega) (fun h53525 e53525 => ?_)
                    have g53525 := g.s50 e53525 (Or.inr (by rw [(ev53508)]; omega)) (by omega) (by omega)
                    have k53525 := k0.wr e53525 rfl
                    refine ev_goto f280_35 ?_
                    refine ev_ret rfl (by decide) (by decide) ?_
                    show jEv _ _ _ _ _ _ _ (_, [(2, 42), (0, a1), (0, a2), (0, a3), (0, a4), (0, 0), (0, (100 * a1 + a2)), (0, v53521)], [], _, _, _)
                    refine ev_iload rfl ?_
                    exact ev_ret rfl (by decide) (by decide) ⟨_, rfl, by omega, by omega, g53525, k53525⟩
                  · refine ev_aload_n rfl ?_
                    refine ev_iload rfl ?_
                    refine ev_iload rfl ?_
                    refine ev_iload rfl ?_
                    refine ev_iload rfl ?_
                    refine ev_call (jcall_v (A := [(0, a4), (0, v53521), (0, (100 * a1 + a2)), (0, 0)]) (S' := []) (r := 42) rfl (g.lt ad42) (g.tg ad42) (Nat.le_of_ble_eq_true rfl)) (jOk_le (by decide) (s279_e g (by omega) (by omega) (by omega) (by omega) (by omega) (by omega) (ev53487) (by omega) (by omega) (by omega) (by rw [(ev53508)]; omega))) (by decide) (by decide) (fun w53526 h53526 q53526 => ?_)
                    obtain ⟨rfl, g53526, kk53526⟩ := q53526
                    have k53526 := k0.tr kk53526 (by decide)
                    show jEv _ _ _ _ _ _ _ (_, [(2, 42), (0, a1), (0, a2), (0, a3), (0, a4), (0, 0), (0, (100 * a1 + a2)), (0, v53521)], [], _, _, _)
                    refine ev_aload_n rfl ?_
                    refine ev_iload rfl ?_
                    refine ev_iload rfl ?_
                    refine ev_iload rfl ?_
                    refine ev_in (d := 4) (a := 0) (b := 0) (cd' := c280_0) (m := 4) (L0 := [(2, 42), (0, 0), (0, (100 * a1 + a2)), (0, a4)]) (jcall_v (A := [(0, a4), (0, (100 * a1 + a2)), (0, 0)]) (S' := []) (r := 42) rfl (g53526.lt ad42) (g53526.tg ad42) (Nat.le_of_ble_eq_true rfl)) (by decide) ml280 pp280 (Nat.le_of_ble_eq_true rfl) rfl (by decide) (by decide) ?_
                    refine ev_iload_n rfl ?_
                    refine ev_ifge f280_14 (fun c53527 => ?_) (fun c53527 => absurd c53527 (by omega))
                    refine ev_iload_n rfl ?_
                    refine ev_ifne f280_28 (fun c53528 => absurd c53528 (by omega)) (fun c53528 => ?_)
                    refine ev_aload_n rfl ?_
                    refine g_getp (r := 42) (c := 50) g53526 ad42 (by decide) (by decide) rf42_12 ft12_12 ?_
                    refine ev_iload_n rfl ?_
                    refine ev_iload_n rfl ?_
                    refine ev_iastG (r := 50) (j := ((100 * a1 + a2)).toNat) (g53526.lt ad50) (g53526.tg ad50) (by omega) (by rw [g53526.ln ad50]; omega) (fun h53529 e53529 => ?_)
                    have g53529 := g53526.s50 e53529 (Or.inr (by rw [(((kk53526.v rfl).trans ev53508))]; omega)) (by omega) (by omega)
                    have k53529 := k53526.wr e53529 rfl
                    refine ev_goto f280_35 ?_
                    refine ev_ret rfl (by decide) (by decide) ?_
                    show jEv _ _ _ _ _ _ _ (_, [(2, 42), (0, a1), (0, a2), (0, a3), (0, a4), (0, 0), (0, (100 * a1 + a2)), (0, v53521)], [], _, _, _)
                    refine ev_iload rfl ?_
                    exact ev_ret rfl (by decide) (by decide) ⟨_, rfl, by omega, by omega, g53529, k53529⟩
/-! 282 undo -/
set_option maxHeartbeats 4000000 in
theorem s282 {G : GH} {h : JH} (g : Gd G h)  : jOk 2 0 0 282 [(2, 42)] h (PI G [(42, 23), (42, 24), (45, 0), (50, 0), (52, 0)] h 0 (-5) 39) := by
  refine ⟨by decide, by rw [ml282]; exact Nat.le_of_ble_eq_true rfl, ?_⟩
  rw [ml282, pp282]
  show jEv _ none _ c282_0 0 0 _ (c282_0, [(2, 42)], [], h, 0, 0)
  have k0 := Kp.rf [(42, 23), (42, 24), (45, 0), (50, 0), (52, 0)] h
  refine ev_aload_n rfl ?_
  obtain ⟨v53566, ev53566, lv53566, uv53566⟩ := g.rd ad42 (show 22 < 66 by decide) rf42_22
  refine g_getv (r := 42) (v := v53566) g ad42 (by decide) ft12_22 ev53566 ?_
  refine ev_ifne f282_10 (fun c53567 => ?_) (fun c53567 => ?_)
  · obtain ⟨v53568, ev53568, lv53568, uv53568⟩ := g.rd ad42 (show 23 < 66 by decide) rf42_23
    have s53569 := g.ex.2.2.2.2.1
    rw [(ev53566), ev53568] at s53569
    refine ev_aload_n rfl ?_
    refine ev_dup (by decide) ?_
    refine g_getv (r := 42) (v := v53566) g ad42 (by decide) ft12_22 (ev53566) ?_
    refine ev_iconst ?_
    refine ev_isub (r := (v53566 - 1)) (by unfold w32; omega) ?_
    refine ev_putfG (r := 42) (g.lt ad42) (g.fam ad42 (by decide)) ft12_22 (fun e => absurd e nz12_22) (fun e => absurd e (by decide)) (fun h53570a e53570a => ?_)
    refine ev_aload_n rfl ?_
    refine ev_dup (by decide) ?_
    refine ev_getf (r := 42) (v := v53568) (by rw [(jwr_ty e53570a).1]; exact g.lt ad42) (by rw [(jwr_ty e53570a).2]; exact g.fam ad42 (by decide)) ft12_23 ((jw_ne e53570a (Or.inr (by decide))).trans (ev53568)) ?_
    refine ev_iconst ?_
    refine ev_iadd (r := (v53568 + 1)) (by unfold w32; omega) ?_
    refine ev_putfG (r := 42) (by rw [(jwr_ty e53570a).1]; exact g.lt ad42) (by rw [(jwr_ty e53570a).2]; exact g.fam ad42 (by decide)) ft12_23 (fun e => absurd e nz12_23) (fun e => absurd e (by decide)) (fun h53570 e53570 => ?_)
    have g53570 := g.both e53570a e53570 (by omega) (by omega) (by rw [(ev53566), (ev53568)]; omega)
    have k53570 := (k0.wr e53570a rfl).wr e53570 rfl
    have s53570 := g53570.ex.2.2.2.2.1
    rw [(((jw_ne e53570 (Or.inr (by decide))).trans (jw_eq e53570a))), ((jw_eq e53570))] at s53570
    refine ev_aload_n rfl ?_
    refine ev_aload_n rfl ?_
    refine g_getp (r := 42) (c := 56) g53570 ad42 (by decide) (by decide) rf42_24 ft12_24 ?_
    refine ev_aload_n rfl ?_
    refine g_getv (r := 42) (v := (v53566 - 1)) g53570 ad42 (by decide) ft12_22 (((jw_ne e53570 (Or.inr (by decide))).trans (jw_eq e53570a))) ?_
    refine g_iald g53570 ad56 rt56 (by omega) (by omega) (fun v53571 ev53571 lv53571 uv53571 => ?_)
    refine ev_aload_n rfl ?_
    refine g_getp (r := 42) (c := 57) g53570 ad42 (by decide) (by decide) rf42_25 ft12_25 ?_
    refine ev_aload_n rfl ?_
    refine g_getv (r := 42) (v := (v53566 - 1)) g53570 ad42 (by decide) ft12_22 (((jw_ne e53570 (Or.inr (by decide))).trans (jw_eq e53570a))) ?_
    refine g_iald g53570 ad57 rt57 (by omega) (by omega) (fun v53572 ev53572 lv53572 uv53572 => ?_)
    refine ev_aload_n rfl ?_
    refine g_getp (r := 42) (c := 58) g53570 ad42 (by decide) (by decide) rf42_26 ft12_26 ?_
    refine ev_aload_n rfl ?_
    refine g_getv (r := 42) (v := (v53566 - 1)) g53570 ad42 (by decide) ft12_22 (((jw_ne e53570 (Or.inr (by decide))).trans (jw_eq e53570a))) ?_
    refine g_iald g53570 ad58 rt58 (by omega) (by omega) (fun v53573 ev53573 lv53573 uv53573 => ?_)
    have nt53574 := g53570.ex.2.2.2.2.2 ((v53566 - 1)).toNat (by rw [(((jw_ne e53570 (Or.inr (by decide))).trans (jw_eq e53570a))), ((jw_eq e53570))]; omega)
    refine ev_in (d := 0) (a := 0) (b := 0) (cd' := c280_0) (m := 4) (L0 := [(2, 42), (0, v53571), (0, v53572), (0, v53573)]) (jcall_v (A := [(0, v53573), (0, v53572), (0, v53571)]) (S' := []) (r := 42) rfl (g53570.lt ad42) (g53570.tg ad42) (Nat.le_of_ble_eq_true rfl)) (by decide) ml280 pp280 (Nat.le_of_ble_eq_true rfl) rfl (by decide) (by decide) ?_
    refine ev_iload_n rfl ?_
    refine ev_ifge f280_14 (fun c53575 => ?_) (fun c53575 => ?_)
    · refine ev_iload_n rfl ?_
      refine ev_ifne f280_28 (fun c53576 => ?_) (fun c53576 => ?_)
      · obtain ⟨x53577a, x53577b, x53577c, x53577d⟩ := nt53574.2.2 (by rw [(ev53571)]; omega)
        rw [(ev53573)] at x53577a x53577b
        refine ev_aload_n rfl ?_
        refine g_getp (r := 42) (c := 52) g53570 ad42 (by decide) (by decide) rf42_14 ft12_14 ?_
        refine ev_iload_n rfl ?_
        refine ev_iload_n rfl ?_
        refine g_iast g53570 ad52 rt52 (fun _ => rfl) (by omega) (by omega) (by omega) (by omega) (fun h53578 e53578 g53578 => ?_)
        have k53578 := k53570.wr e53578 rfl
        refine ev_ret rfl (by decide) (by decide) ?_
        show jEv _ _ _ _ _ _ _ (_, [(2, 42)], [], _, _, _)
        refine ev_aload_n rfl ?_
        refine g_getv (r := 42) (v := (v53566 - 1)) g53578 ad42 (by decide) ft12_22 (((jw_ne e53578 (Or.inl (by decide))).trans ((jw_ne e53570 (Or.inr (by decide))).trans (jw_eq e53570a)))) ?_
        exact ev_ret rfl (by decide) (by decide) ⟨_, rfl, by omega, by omega, g53578, k53578⟩
      · obtain ⟨x53579a, x53579b, x53579c⟩ := nt53574.2.1 (by rw [(ev53571)]; omega)
        rw [(ev53572)] at x53579a x53579b x53579c
        obtain ⟨v53580, ev53580, lv53580, uv53580⟩ := g53570.rd ad42 (show 9 < 66 by decide) rf42_9
        rw [ev53580] at x53579b
        refine ev_aload_n rfl ?_
        refine g_getp (r := 42) (c := 50) g53570 ad42 (by decide) (by decide) rf42_12 ft12_12 ?_
        refine ev_iload_n rfl ?_
        refine ev_iload_n rfl ?_
        refine ev_iastG (r := 50) (j := (v53572).toNat) (g53570.lt ad50) (g53570.tg ad50) (by omega) (by rw [g53570.ln ad50]; omega) (fun h53581 e53581 => ?_)
        have g53581 := g53570.s50 e53581 (Or.inr (by rw [(x53579c)])) (by omega) (by omega)
        have k53581 := k53570.wr e53581 rfl
        refine ev_goto f280_35 ?_
        refine ev_ret rfl (by decide) (by decide) ?_
        show jEv _ _ _ _ _ _ _ (_, [(2, 42)], [], _, _, _)
        refine ev_aload_n rfl ?_
        refine g_getv (r := 42) (v := (v53566 - 1)) g53581 ad42 (by decide) ft12_22 (((jw_ne e53581 (Or.inl (by decide))).trans ((jw_ne e53570 (Or.inr (by decide))).trans (jw_eq e53570a)))) ?_
        exact ev_ret rfl (by decide) (by decide) ⟨_, rfl, by omega, by omega, g53581, k53581⟩
    · obtain ⟨x53582a, x53582b, x53582c, x53582d, x53582e⟩ := nt53574.1 (by rw [(ev53571)]; omega)
      rw [(ev53572)] at x53582a
      rw [(ev53573)] at x53582b x53582c
      refine ev_aload_n rfl ?_
      refine g_getp (r := 42) (c := 45) g53570 ad42 (by decide) (by decide) rf42_4 ft12_4 ?_
      refine ev_iload_n rfl ?_
      refine ev_iload_n rfl ?_
      refine ev_iastG (r := 45) (j := (v53572).toNat) (g53570.lt ad45) (g53570.tg ad45) (by omega) (by rw [g53570.ln ad45]; omega) (fun h53583 e53583 => ?_)
      have g53583 := g53570.s45 e53583 (by omega) (by omega)
      have k53583 := k53570.wr e53583 rfl
      refine ev_goto f280_35 ?_
      refine ev_ret rfl (by decide) (by decide) ?_
      show jEv _ _ _ _ _ _ _ (_, [(2, 42)], [], _, _, _)
      refine ev_aload_n rfl ?_
      refine g_getv (r := 42) (v := (v53566 - 1)) g53583 ad42 (by decide) ft12_22 (((jw_ne e53583 (Or.inl (by decide))).trans ((jw_ne e53570 (Or.inr (by decide))).trans (jw_eq e53570a)))) ?_
      exact ev_ret rfl (by decide) (by decide) ⟨_, rfl, by omega, by omega, g53583, k53583⟩
  · refine ev_bipush ?_
    exact ev_ret rfl (by decide) (by decide) ⟨_, rfl, by omega, by omega, g, k0⟩
/-! 283 redo -/
set_option maxHeartbeats 4000000 in
theorem s283 {G : GH} {h : JH} (g : Gd G h)  : jOk 2 0 0 283 [(2, 42)] h (PI G [(42, 23), (42, 24), (45, 0), (50, 0), (52, 0)] h 0 (-5) 39) := by
  refine ⟨by decide, by rw [ml283]; exact Nat.le_of_ble_eq_true rfl, ?_⟩
  rw [ml283, pp283]
  show jEv _ none _ c283_0 0 0 _ (c283_0, [(2, 42)], [], h, 0, 0)
  have k0 := Kp.rf [(42, 23), (42, 24), (45, 0), (50, 0), (52, 0)] h
  refine ev_aload_n rfl ?_
  obtain ⟨v53624, ev53624, lv53624, uv53624⟩ := g.rd ad42 (show 23 < 66 by decide) rf42_23
  refine g_getv (r := 42) (v := v53624) g ad42 (by decide) ft12_23 ev53624 ?_
  refine ev_ifne f283_10 (fun c53625 => ?_) (fun c53625 => ?_)
  · obtain ⟨v53626, ev53626, lv53626, uv53626⟩ := g.rd ad42 (show 22 < 66 by decide) rf42_22
    have s53627 := g.ex.2.2.2.2.1
    rw [ev53626, (ev53624)] at s53627
    refine ev_aload_n rfl ?_
    refine ev_aload_n rfl ?_
    refine g_getp (r := 42) (c := 56) g ad42 (by decide) (by decide) rf42_24 ft12_24 ?_
    refine ev_aload_n rfl ?_
    refine g_getv (r := 42) (v := v53626) g ad42 (by decide) ft12_22 (ev53626) ?_
    refine g_iald g ad56 rt56 (by omega) (by omega) (fun v53628 ev53628 lv53628 uv53628 => ?_)
    refine ev_aload_n rfl ?_
    refine g_getp (r := 42) (c := 57) g ad42 (by decide) (by decide) rf42_25 ft12_25 ?_
    refine ev_aload_n rfl ?_
    refine g_getv (r := 42) (v := v53626) g ad42 (by decide) ft12_22 (ev53626) ?_
    refine g_iald g ad57 rt57 (by omega) (by omega) (fun v53629 ev53629 lv53629 uv53629 => ?_)
    refine ev_aload_n rfl ?_
    refine g_getp (r := 42) (c := 59) g ad42 (by decide) (by decide) rf42_27 ft12_27 ?_
    refine ev_aload_n rfl ?_
    refine g_getv (r := 42) (v := v53626) g ad42 (by decide) ft12_22 (ev53626) ?_
    refine g_iald g ad59 rt59 (by omega) (by omega) (fun v53630 ev53630 lv53630 uv53630 => ?_)
    have nt53631 := g.ex.2.2.2.2.2 (v53626).toNat (by rw [(ev53626), (ev53624)]; omega)
    refine ev_in (d := 0) (a := 0) (b := 0) (cd' := c280_0) (m := 4) (L0 := [(2, 42), (0, v53628), (0, v53629), (0, v53630)]) (jcall_v (A := [(0, v53630), (0, v53629), (0, v53628)]) (S' := []) (r := 42) rfl (g.lt ad42) (g.tg ad42) (Nat.le_of_ble_eq_true rfl)) (by decide) ml280 pp280 (Nat.le_of_ble_eq_true rfl) rfl (by decide) (by decide) ?_
    refine ev_iload_n rfl ?_
    refine ev_ifge f280_14 (fun c53632 => ?_) (fun c53632 => ?_)
    · refine ev_iload_n rfl ?_
      refine ev_ifne f280_28 (fun c53633 => ?_) (fun c53633 => ?_)
      · obtain ⟨x53634a, x53634b, x53634c, x53634d⟩ := nt53631.2.2 (by rw [(ev53628)]; omega)
        rw [(ev53630)] at x53634c x53634d
        refine ev_aload_n rfl ?_
        refine g_getp (r := 42) (c := 52) g ad42 (by decide) (by decide) rf42_14 ft12_14 ?_
        refine ev_iload_n rfl ?_
        refine ev_iload_n rfl ?_
        refine g_iast g ad52 rt52 (fun _ => rfl) (by omega) (by omega) (by omega) (by omega) (fun h53635 e53635 g53635 => ?_)
        have k53635 := k0.wr e53635 rfl
        refine ev_ret rfl (by decide) (by decide) ?_
        show jEv _ _ _ _ _ _ _ (_, [(2, 42)], [], _, _, _)
        refine ev_aload_n rfl ?_
        refine ev_dup (by decide) ?_
        refine g_getv (r := 42) (v := v53626) g53635 ad42 (by decide) ft12_22 (((jw_ne e53635 (Or.inl (by decide))).trans ev53626)) ?_
        refine ev_iconst ?_
        refine ev_iadd (r := (v53626 + 1)) (by unfold w32; omega) ?_
        refine ev_putfG (r := 42) (g53635.lt ad42) (g53635.fam ad42 (by decide)) ft12_22 (fun e => absurd e nz12_22) (fun e => absurd e (by decide)) (fun h53636a e53636a => ?_)
        refine ev_aload_n rfl ?_
        refine ev_dup (by decide) ?_
        refine ev_getf (r := 42) (v := v53624) (by rw [(jwr_ty e53636a).1]; exact g53635.lt ad42) (by rw [(jwr_ty e53636a).2]; exact g53635.fam ad42 (by decide)) ft12_23 ((jw_ne e53636a (Or.inr (by decide))).trans (((jw_ne e53635 (Or.inl (by decide))).trans ev53624))) ?_
        refine ev_iconst ?_
        refine ev_isub (r := (v53624 - 1)) (by unfold w32; omega) ?_
        refine ev_putfG (r := 42) (by rw [(jwr_ty e53636a).1]; exact g53635.lt ad42) (by rw [(jwr_ty e53636a).2]; exact g53635.fam ad42 (by decide)) ft12_23 (fun e => absurd e nz12_23) (fun e => absurd e (by decide)) (fun h53636 e53636 => ?_)
        have g53636 := g53635.both e53636a e53636 (by omega) (by omega) (by rw [(((jw_ne e53635 (Or.inl (by decide))).trans ev53626)), (((jw_ne e53635 (Or.inl (by decide))).trans ev53624))]; omega)
        have k53636 := (k53635.wr e53636a rfl).wr e53636 rfl
        have s53636 := g53636.ex.2.2.2.2.1
        rw [(((jw_ne e53636 (Or.inr (by decide))).trans (jw_eq e53636a))), ((jw_eq e53636))] at s53636
        refine ev_aload_n rfl ?_
        refine g_getv (r := 42) (v := (v53624 - 1)) g53636 ad42 (by decide) ft12_23 ((jw_eq e53636)) ?_
        exact ev_ret rfl (by decide) (by decide) ⟨_, rfl, by omega, by omega, g53636, k53636⟩
      · obtain ⟨x53637a, x53637b, x53637c⟩ := nt53631.2.1 (by rw [(ev53628)]; omega)
        rw [(ev53629)] at x53637a x53637b x53637c
        obtain ⟨v53638, ev53638, lv53638, uv53638⟩ := g.rd ad42 (show 9 < 66 by decide) rf42_9
        rw [ev53638] at x53637b
        refine ev_aload_n rfl ?_
        refine g_getp (r := 42) (c := 50) g ad42 (by decide) (by decide) rf42_12 ft12_12 ?_
        refine ev_iload_n rfl ?_
        refine ev_iload_n rfl ?_
        refine ev_iastG (r := 50) (j := (v53629).toNat) (g.lt ad50) (g.tg ad50) (by omega) (by rw [g.ln ad50]; omega) (fun h53639 e53639 => ?_)
        have g53639 := g.s50 e53639 (Or.inr (by rw [(x53637c)])) (by omega) (by omega)
        have k53639 := k0.wr e53639 rfl
        refine ev_goto f280_35 ?_
        refine ev_ret rfl (by decide) (by decide) ?_
        show jEv _ _ _ _ _ _ _ (_, [(2, 42)], [], _, _, _)
        refine ev_aload_n rfl ?_
        refine ev_dup (by decide) ?_
        refine g_getv (r := 42) (v := v53626) g53639 ad42 (by decide) ft12_22 (((jw_ne e53639 (Or.inl (by decide))).trans ev53626)) ?_
        refine ev_iconst ?_
        refine ev_iadd (r := (v53626 + 1)) (by unfold w32; omega) ?_
        refine ev_putfG (r := 42) (g53639.lt ad42) (g53639.fam ad42 (by decide)) ft12_22 (fun e => absurd e nz12_22) (fun e => absurd e (by decide)) (fun h53640a e53640a => ?_)
        refine ev_aload_n rfl ?_
        refine ev_dup (by decide) ?_
        refine ev_getf (r := 42) (v := v53624) (by rw [(jwr_ty e53640a).1]; exact g53639.lt ad42) (by rw [(jwr_ty e53640a).2]; exact g53639.fam ad42 (by decide)) ft12_23 ((jw_ne e53640a (Or.inr (by decide))).trans (((jw_ne e53639 (Or.inl (by decide))).trans ev53624))) ?_
        refine ev_iconst ?_
        refine ev_isub (r := (v53624 - 1)) (by unfold w32; omega) ?_
        refine ev_putfG (r := 42) (by rw [(jwr_ty e53640a).1]; exact g53639.lt ad42) (by rw [(jwr_ty e53640a).2]; exact g53639.fam ad42 (by decide)) ft12_23 (fun e => absurd e nz12_23) (fun e => absurd e (by decide)) (fun h53640 e53640 => ?_)
        have g53640 := g53639.both e53640a e53640 (by omega) (by omega) (by rw [(((jw_ne e53639 (Or.inl (by decide))).trans ev53626)), (((jw_ne e53639 (Or.inl (by decide))).trans ev53624))]; omega)
        have k53640 := (k53639.wr e53640a rfl).wr e53640 rfl
        have s53640 := g53640.ex.2.2.2.2.1
        rw [(((jw_ne e53640 (Or.inr (by decide))).trans (jw_eq e53640a))), ((jw_eq e53640))] at s53640
        refine ev_aload_n rfl ?_
        refine g_getv (r := 42) (v := (v53624 - 1)) g53640 ad42 (by decide) ft12_23 ((jw_eq e53640)) ?_
        exact ev_ret rfl (by decide) (by decide) ⟨_, rfl, by omega, by omega, g53640, k53640⟩
    · obtain ⟨x53641a, x53641b, x53641c, x53641d, x53641e⟩ := nt53631.1 (by rw [(ev53628)]; omega)
      rw [(ev53629)] at x53641a
      rw [(ev53630)] at x53641d x53641e
      refine ev_aload_n rfl ?_
      refine g_getp (r := 42) (c := 45) g ad42 (by decide) (by decide) rf42_4 ft12_4 ?_
      refine ev_iload_n rfl ?_
      refine ev_iload_n rfl ?_
      refine ev_iastG (r := 45) (j := (v53629).toNat) (g.lt ad45) (g.tg ad45) (by omega) (by rw [g.ln ad45]; omega) (fun h53642 e53642 => ?_)
      have g53642 := g.s45 e53642 (by omega) (by omega)
      have k53642 := k0.wr e53642 rfl
      refine ev_goto f280_35 ?_
      refine ev_ret rfl (by decide) (by decide) ?_
      show jEv _ _ _ _ _ _ _ (_, [(2, 42)], [], _, _, _)
      refine ev_aload_n rfl ?_
      refine ev_dup (by decide) ?_
      refine g_getv (r := 42) (v := v53626) g53642 ad42 (by decide) ft12_22 (((jw_ne e53642 (Or.inl (by decide))).trans ev53626)) ?_
      refine ev_iconst ?_
      refine ev_iadd (r := (v53626 + 1)) (by unfold w32; omega) ?_
      refine ev_putfG (r := 42) (g53642.lt ad42) (g53642.fam ad42 (by decide)) ft12_22 (fun e => absurd e nz12_22) (fun e => absurd e (by decide)) (fun h53643a e53643a => ?_)
      refine ev_aload_n rfl ?_
      refine ev_dup (by decide) ?_
      refine ev_getf (r := 42) (v := v53624) (by rw [(jwr_ty e53643a).1]; exact g53642.lt ad42) (by rw [(jwr_ty e53643a).2]; exact g53642.fam ad42 (by decide)) ft12_23 ((jw_ne e53643a (Or.inr (by decide))).trans (((jw_ne e53642 (Or.inl (by decide))).trans ev53624))) ?_
      refine ev_iconst ?_
      refine ev_isub (r := (v53624 - 1)) (by unfold w32; omega) ?_
      refine ev_putfG (r := 42) (by rw [(jwr_ty e53643a).1]; exact g53642.lt ad42) (by rw [(jwr_ty e53643a).2]; exact g53642.fam ad42 (by decide)) ft12_23 (fun e => absurd e nz12_23) (fun e => absurd e (by decide)) (fun h53643 e53643 => ?_)
      have g53643 := g53642.both e53643a e53643 (by omega) (by omega) (by rw [(((jw_ne e53642 (Or.inl (by decide))).trans ev53626)), (((jw_ne e53642 (Or.inl (by decide))).trans ev53624))]; omega)
      have k53643 := (k53642.wr e53643a rfl).wr e53643 rfl
      have s53643 := g53643.ex.2.2.2.2.1
      rw [(((jw_ne e53643 (Or.inr (by decide))).trans (jw_eq e53643a))), ((jw_eq e53643))] at s53643
      refine ev_aload_n rfl ?_
      refine g_getv (r := 42) (v := (v53624 - 1)) g53643 ad42 (by decide) ft12_23 ((jw_eq e53643)) ?_
      exact ev_ret rfl (by decide) (by decide) ⟨_, rfl, by omega, by omega, g53643, k53643⟩
  · refine ev_bipush ?_
    exact ev_ret rfl (by decide) (by decide) ⟨_, rfl, by omega, by omega, g, k0⟩
/-! 275 node -/
set_option maxHeartbeats 4000000 in
theorem s275 {G : GH} {h : JH} (g : Gd G h) {a1 : Int} (la1 : (-2147483648) ≤ a1) (ua1 : a1 ≤ 2147483647) {a2 : Int} (la2 : (-2147483648) ≤ a2) (ua2 : a2 ≤ 2147483647) {a3 : Int} (la3 : (-2147483648) ≤ a3) (ua3 : a3 ≤ 2147483647) : jOk 4 0 0 275 [(2, 42), (0, a1), (0, a2), (0, a3)] h (PI G [] h 0 (-2000000000) 999) := by
  refine ⟨by decide, by rw [ml275]; exact Nat.le_of_ble_eq_true rfl, ?_⟩
  rw [ml275, pp275]
  show jEv _ none _ c275_0 0 0 _ (c275_0, [(2, 42), (0, a1), (0, a2), (0, a3), (9, 0), (9, 0)], [], h, 0, 0)
  have k0 := Kp.rf [] h
  refine ev_aload_n rfl ?_
  refine ev_iload_n rfl ?_
  refine ev_in (d := 2) (a := 0) (b := 0) (cd' := c261_0) (m := 2) (L0 := [(2, 42), (0, a1)]) (jcall_v (A := [(0, a1)]) (S' := []) (r := 42) rfl (g.lt ad42) (g.tg ad42) (Nat.le_of_ble_eq_true rfl)) (by decide) ml261 pp261 (Nat.le_of_ble_eq_true rfl) rfl (by decide) (by decide) ?_
  refine ev_iload_n rfl ?_
  refine ev_iconst ?_
  refine ev_aload_n rfl ?_
  obtain ⟨v53766, ev53766, lv53766, uv53766⟩ := g.rd ad42 (show 9 < 66 by decide) rf42_9
  refine g_getv (r := 42) (v := v53766) g ad42 (by decide) ft12_9 ev53766 ?_
  refine ev_iconst ?_
  refine ev_isub (r := (v53766 - 1)) (by unfold w32; omega) ?_
  refine ev_in (d := 1) (a := 0) (b := 0) (cd' := c242_0) (m := 3) (L0 := [(0, a1), (0, 0), (0, (v53766 - 1))]) (jcall_s (A := [(0, (v53766 - 1)), (0, 0), (0, a1)]) (S' := []) (by decide) rfl (Nat.le_of_ble_eq_true rfl)) (by decide) ml242 pp242 (Nat.le_of_ble_eq_true rfl) rfl (by decide) (by decide) ?_
  refine ev_iload_n rfl ?_
  refine ev_iload_n rfl ?_
  refine ev_icmplt f242_14 (fun c53767 => ?_) (fun c53767 => ?_)
  · refine ev_iconst ?_
    refine ev_ret rfl (by decide) (by decide) ?_
    show jEv _ _ _ _ _ _ _ (_, [(2, 42), (0, a1)], [(0, 0)], _, _, _)
    refine ev_ret rfl (by decide) (by decide) ?_
    show jEv _ _ _ _ _ _ _ (_, [(2, 42), (0, a1), (0, a2), (0, a3), (9, 0), (9, 0)], [(0, 0)], _, _, _)
    refine ev_ifne f275_12 (fun c53768 => absurd c53768 (by omega)) (fun c53768 => ?_)
    refine ev_ldc_w ?_
    exact ev_ret rfl (by decide) (by decide) ⟨_, rfl, by omega, by omega, g, k0⟩
  · refine ev_iload_n rfl ?_
    refine ev_iload_n rfl ?_
    refine ev_icmpgt f242_14 (fun c53769 => ?_) (fun c53769 => ?_)
    · refine ev_iconst ?_
      refine ev_ret rfl (by decide) (by decide) ?_
      show jEv _ _ _ _ _ _ _ (_, [(2, 42), (0, a1)], [(0, 0)], _, _, _)
      refine ev_ret rfl (by decide) (by decide) ?_
      show jEv _ _ _ _ _ _ _ (_, [(2, 42), (0, a1), (0, a2), (0, a3), (9, 0), (9, 0)], [(0, 0)], _, _, _)
      refine ev_ifne f275_12 (fun c53770 => absurd c53770 (by omega)) (fun c53770 => ?_)
      refine ev_ldc_w ?_
      exact ev_ret rfl (by decide) (by decide) ⟨_, rfl, by omega, by omega, g, k0⟩
    · refine ev_iconst ?_
      refine ev_goto f242_15 ?_
      refine ev_ret rfl (by decide) (by decide) ?_
      show jEv _ _ _ _ _ _ _ (_, [(2, 42), (0, a1)], [(0, 1)], _, _, _)
      refine ev_ret rfl (by decide) (by decide) ?_
      show jEv _ _ _ _ _ _ _ (_, [(2, 42), (0, a1), (0, a2), (0, a3), (9, 0), (9, 0)], [(0, 1)], _, _, _)
      refine ev_ifne f275_12 (fun c53771 => ?_) (fun c53771 => absurd c53771 (by omega))
      refine ev_iload_n rfl ?_
      refine ev_iconst ?_
      refine ev_icmpne f275_24 (fun c53772 => ?_) (fun c53772 => ?_)
      · refine ev_aload_n rfl ?_
        refine ev_iload_n rfl ?_
        refine ev_iload_n rfl ?_
        refine ev_in (d := 2) (a := 0) (b := 0) (cd' := c262_0) (m := 3) (L0 := [(2, 42), (0, a1), (0, a2)]) (jcall_v (A := [(0, a2), (0, a1)]) (S' := []) (r := 42) rfl (g.lt ad42) (g.tg ad42) (Nat.le_of_ble_eq_true rfl)) (by decide) ml262 pp262 (Nat.le_of_ble_eq_true rfl) rfl (by decide) (by decide) ?_
        refine ev_aload_n rfl ?_
        refine ev_iload_n rfl ?_
        refine ev_in (d := 1) (a := 0) (b := 0) (cd' := c261_0) (m := 2) (L0 := [(2, 42), (0, a1)]) (jcall_v (A := [(0, a1)]) (S' := []) (r := 42) rfl (g.lt ad42) (g.tg ad42) (Nat.le_of_ble_eq_true rfl)) (by decide) ml261 pp261 (Nat.le_of_ble_eq_true rfl) rfl (by decide) (by decide) ?_
        refine ev_iload_n rfl ?_
        refine ev_iconst ?_
        refine ev_aload_n rfl ?_
        refine g_getv (r := 42) (v := v53766) g ad42 (by decide) ft12_9 (ev53766) ?_
        refine ev_iconst ?_
        refine ev_isub (r := (v53766 - 1)) (by unfold w32; omega) ?_
        refine ev_in (d := 0) (a := 0) (b := 0) (cd' := c242_0) (m := 3) (L0 := [(0, a1), (0, 0), (0, (v53766 - 1))]) (jcall_s (A := [(0, (v53766 - 1)), (0, 0), (0, a1)]) (S' := []) (by decide) rfl (Nat.le_of_ble_eq_true rfl)) (by decide) ml242 pp242 (Nat.le_of_ble_eq_true rfl) rfl (by decide) (by decide) ?_
        refine ev_iload_n rfl ?_
        refine ev_iload_n rfl ?_
        refine ev_icmplt f242_14 (fun c53773 => absurd c53773 (by omega)) (fun c53773 => ?_)
        refine ev_iload_n rfl ?_
        refine ev_iload_n rfl ?_
        refine ev_icmpgt f242_14 (fun c53774 => absurd c53774 (by omega)) (fun c53774 => ?_)
        refine ev_iconst ?_
        refine ev_goto f242_15 ?_
        refine ev_ret rfl (by decide) (by decide) ?_
        show jEv _ _ _ _ _ _ _ (_, [(2, 42), (0, a1)], [(0, 1)], _, _, _)
        refine ev_ret rfl (by decide) (by decide) ?_
        show jEv _ _ _ _ _ _ _ (_, [(2, 42), (0, a1), (0, a2)], [(0, 1)], _, _, _)
        refine ev_ifeq f262_28 (fun c53775 => absurd c53775 (by omega)) (fun c53775 => ?_)
        refine ev_iload_n rfl ?_
        refine ev_iconst ?_
        refine ev_aload_n rfl ?_
        refine g_getp (r := 42) (c := 48) g ad42 (by decide) (by decide) rf42_10 ft12_10 ?_
        refine ev_iload_n rfl ?_
        refine g_iald g ad48 rt48 (by omega) (by omega) (fun v53776 ev53776 lv53776 uv53776 => ?_)
        refine ev_iconst ?_
        refine ev_isub (r := (v53776 - 1)) (by unfold w32; omega) ?_
        refine ev_in (d := 1) (a := 0) (b := 0) (cd' := c242_0) (m := 3) (L0 := [(0, a2), (0, 0), (0, (v53776 - 1))]) (jcall_s (A := [(0, (v53776 - 1)), (0, 0), (0, a2)]) (S' := []) (by decide) rfl (Nat.le_of_ble_eq_true rfl)) (by decide) ml242 pp242 (Nat.le_of_ble_eq_true rfl) rfl (by decide) (by decide) ?_
        refine ev_iload_n rfl ?_
        refine ev_iload_n rfl ?_
        refine ev_icmplt f242_14 (fun c53777 => ?_) (fun c53777 => ?_)
        · refine ev_iconst ?_
          refine ev_ret rfl (by decide) (by decide) ?_
          show jEv _ _ _ _ _ _ _ (_, [(2, 42), (0, a1), (0, a2)], [(0, 0)], _, _, _)
          refine ev_ifeq f262_28 (fun c53778 => ?_) (fun c53778 => absurd c53778 (by omega))
          refine ev_iconst ?_
          refine ev_ret rfl (by decide) (by decide) ?_
          show jEv _ _ _ _ _ _ _ (_, [(2, 42), (0, a1), (0, a2), (0, a3), (9, 0), (9, 0)], [(0, 0)], _, _, _)
          refine ev_ifne f275_37 (fun c53779 => absurd c53779 (by omega)) (fun c53779 => ?_)
          refine ev_ldc_w ?_
          exact ev_ret rfl (by decide) (by decide) ⟨_, rfl, by omega, by omega, g, k0⟩
        · refine ev_iload_n rfl ?_
          refine ev_iload_n rfl ?_
          refine ev_icmpgt f242_14 (fun c53780 => ?_) (fun c53780 => ?_)
          · refine ev_iconst ?_
            refine ev_ret rfl (by decide) (by decide) ?_
            show jEv _ _ _ _ _ _ _ (_, [(2, 42), (0, a1), (0, a2)], [(0, 0)], _, _, _)
            refine ev_ifeq f262_28 (fun c53781 => ?_) (fun c53781 => absurd c53781 (by omega))
            refine ev_iconst ?_
            refine ev_ret rfl (by decide) (by decide) ?_
            show jEv _ _ _ _ _ _ _ (_, [(2, 42), (0, a1), (0, a2), (0, a3), (9, 0), (9, 0)], [(0, 0)], _, _, _)
            refine ev_ifne f275_37 (fun c53782 => absurd c53782 (by omega)) (fun c53782 => ?_)
            refine ev_ldc_w ?_
            exact ev_ret rfl (by decide) (by decide) ⟨_, rfl, by omega, by omega, g, k0⟩
          · refine ev_iconst ?_
            refine ev_goto f242_15 ?_
            refine ev_ret rfl (by decide) (by decide) ?_
            show jEv _ _ _ _ _ _ _ (_, [(2, 42), (0, a1), (0, a2)], [(0, 1)], _, _, _)
            refine ev_ifeq f262_28 (fun c53783 => absurd c53783 (by omega)) (fun c53783 => ?_)
            refine ev_iconst ?_
            refine ev_goto f262_29 ?_
            refine ev_ret rfl (by decide) (by decide) ?_
            show jEv _ _ _ _ _ _ _ (_, [(2, 42), (0, a1), (0, a2), (0, a3), (9, 0), (9, 0)], [(0, 1)], _, _, _)
            refine ev_ifne f275_37 (fun c53784 => ?_) (fun c53784 => absurd c53784 (by omega))
            refine ev_bipush ?_
            refine ev_iload_n rfl ?_
            refine ev_imul (r := (100 * a1)) (by unfold w32; omega) ?_
            refine ev_iload_n rfl ?_
            refine ev_iadd (r := (100 * a1 + a2)) (by unfold w32; omega) ?_
            refine ev_istore (L' := [(2, 42), (0, a1), (0, a2), (0, a3), (0, (100 * a1 + a2)), (9, 0)]) (Nat.le_of_ble_eq_true rfl) rfl ?_
            refine ev_iload_n rfl ?_
            refine ev_ifne f275_57 (fun c53785 => ?_) (fun c53785 => ?_)
            · refine ev_iload_n rfl ?_
              refine ev_iconst ?_
              refine ev_icmpne f275_70 (fun c53786 => ?_) (fun c53786 => ?_)
              · refine ev_aload_n rfl ?_
                refine ev_iload rfl ?_
                refine ev_in (d := 2) (a := 0) (b := 0) (cd' := c276_0) (m := 2) (L0 := [(2, 42), (0, (100 * a1 + a2))]) (jcall_v (A := [(0, (100 * a1 + a2))]) (S' := []) (r := 42) rfl (g.lt ad42) (g.tg ad42) (Nat.le_of_ble_eq_true rfl)) (by decide) ml276 pp276 (Nat.le_of_ble_eq_true rfl) rfl (by decide) (by decide) ?_
                refine ev_aload_n rfl ?_
                refine g_getp (r := 42) (c := 49) g ad42 (by decide) (by decide) rf42_11 ft12_11 ?_
                refine ev_iload_n rfl ?_
                refine g_bald g ad49 rt49 (by omega) (by omega) (fun v53787 ev53787 lv53787 uv53787 => ?_)
                refine ev_iconst ?_
                refine ev_icmpne f276_19 (fun c53788 => ?_) (fun c53788 => ?_)
                · refine ev_aload_n rfl ?_
                  refine g_getp (r := 42) (c := 49) g ad42 (by decide) (by decide) rf42_11 ft12_11 ?_
                  refine ev_iload_n rfl ?_
                  refine g_baldv (v := v53787) g ad49 (by omega) (by omega) (ev53787) ?_
                  refine ev_iconst ?_
                  refine ev_icmpne f276_43 (fun c53789 => ?_) (fun c53789 => ?_)
                  · refine ev_iconst ?_
                    refine ev_ret rfl (by decide) (by decide) ?_
                    show jEv _ _ _ _ _ _ _ (_, [(2, 42), (0, a1), (0, a2), (0, a3), (0, (100 * a1 + a2)), (9, 0)], [(0, 0)], _, _, _)
                    refine ev_istore (L' := [(2, 42), (0, a1), (0, a2), (0, a3), (0, (100 * a1 + a2)), (0, 0)]) (Nat.le_of_ble_eq_true rfl) rfl ?_
                    refine ev_iload_n rfl ?_
                    refine ev_bipush ?_
                    refine ev_bipush ?_
                    refine ev_iload rfl ?_
                    refine ev_iadd (r := 9) (by decide) ?_
                    refine ev_in (d := 2) (a := 0) (b := 0) (cd' := c242_0) (m := 3) (L0 := [(0, a3), (0, 10), (0, 9)]) (jcall_s (A := [(0, 9), (0, 10), (0, a3)]) (S' := []) (by decide) rfl (Nat.le_of_ble_eq_true rfl)) (by decide) ml242 pp242 (Nat.le_of_ble_eq_true rfl) rfl (by decide) (by decide) ?_
                    refine ev_iload_n rfl ?_
                    refine ev_iload_n rfl ?_
                    refine ev_icmplt f242_14 (fun c53790 => ?_) (fun c53790 => ?_)
                    · refine ev_iconst ?_
                      refine ev_ret rfl (by decide) (by decide) ?_
                      show jEv _ _ _ _ _ _ _ (_, [(2, 42), (0, a1), (0, a2), (0, a3), (0, (100 * a1 + a2)), (0, 0)], [(0, 0)], _, _, _)
                      refine ev_ifeq f275_107 (fun c53791 => ?_) (fun c53791 => absurd c53791 (by omega))
                      refine ev_aload_n rfl ?_
                      refine g_getp (r := 42) (c := 49) g ad42 (by decide) (by decide) rf42_11 ft12_11 ?_
                      refine ev_iload rfl ?_
                      refine g_baldv (v := v53787) g ad49 (by omega) (by omega) (ev53787) ?_
                      refine ev_iconst ?_
                      refine ev_icmpne f275_149 (fun c53792 => ?_) (fun c53792 => absurd c53792 (by omega))
                      refine ev_ldc_w ?_
                      exact ev_ret rfl (by decide) (by decide) ⟨_, rfl, by omega, by omega, g, k0⟩
                    · refine ev_iload_n rfl ?_
                      refine ev_iload_n rfl ?_
                      refine ev_icmpgt f242_14 (fun c53793 => ?_) (fun c53793 => absurd c53793 (by omega))
                      refine ev_iconst ?_
                      refine ev_ret rfl (by decide) (by decide) ?_
                      show jEv _ _ _ _ _ _ _ (_, [(2, 42), (0, a1), (0, a2), (0, a3), (0, (100 * a1 + a2)), (0, 0)], [(0, 0)], _, _, _)
                      refine ev_ifeq f275_107 (fun c53794 => ?_) (fun c53794 => absurd c53794 (by omega))
                      refine ev_aload_n rfl ?_
                      refine g_getp (r := 42) (c := 49) g ad42 (by decide) (by decide) rf42_11 ft12_11 ?_
                      refine ev_iload rfl ?_
                      refine g_baldv (v := v53787) g ad49 (by omega) (by omega) (ev53787) ?_
                      refine ev_iconst ?_
                      refine ev_icmpne f275_149 (fun c53795 => ?_) (fun c53795 => absurd c53795 (by omega))
                      refine ev_ldc_w ?_
                      exact ev_ret rfl (by decide) (by decide) ⟨_, rfl, by omega, by omega, g, k0⟩
                  · refine ev_aload_n rfl ?_
                    refine g_getp (r := 42) (c := 43) g ad42 (by decide) (by decide) rf42_2 ft12_2 ?_
                    refine ev_aload_n rfl ?_
                    refine g_getp (r := 42) (c := 50) g ad42 (by decide) (by decide) rf42_12 ft12_12 ?_
                    refine ev_iload_n rfl ?_
                    refine g_iald g ad50 rt50 (by omega) (by omega) (fun v53796 ev53796 lv53796 uv53796 => ?_)
                    obtain ⟨v53797, ev53797, lv53797, uv53797⟩ := g.rd ad42 (show 1 < 66 by decide) rf42_1
                    have xv53796 := g.nd2 (q := a1) (n := a2) (by omega) (by rw [(ev53766)]; omega) (by omega) (by rw [(ev53776)]; omega) (i := (100 * a1 + a2)) (by omega) (by rw [(ev53787)]; omega) ev53796
                    rw [ev53797] at xv53796
                    refine g_iald g ad43 rt43 (by omega) (by omega) (fun v53798 ev53798 lv53798 uv53798 => ?_)
                    have xv53798 := (g.ex.2.1 (v53796 : Int).toNat (by rw [(ev53797)]; omega))
                    rw [ev53798] at xv53798
                    refine ev_goto f276_44 ?_
                    refine ev_ret rfl (by decide) (by decide) ?_
                    show jEv _ _ _ _ _ _ _ (_, [(2, 42), (0, a1), (0, a2), (0, a3), (0, (100 * a1 + a2)), (9, 0)], [(0, v53798)], _, _, _)
                    refine ev_istore (L' := [(2, 42), (0, a1), (0, a2), (0, a3), (0, (100 * a1 + a2)), (0, v53798)]) (Nat.le_of_ble_eq_true rfl) rfl ?_
                    refine ev_iload_n rfl ?_
                    refine ev_bipush ?_
                    refine ev_bipush ?_
                    refine ev_iload rfl ?_
                    refine ev_iadd (r := (v53798 + 9)) (by unfold w32; omega) ?_
                    refine ev_in (d := 2) (a := 0) (b := 0) (cd' := c242_0) (m := 3) (L0 := [(0, a3), (0, 10), (0, (v53798 + 9))]) (jcall_s (A := [(0, (v53798 + 9)), (0, 10), (0, a3)]) (S' := []) (by decide) rfl (Nat.le_of_ble_eq_true rfl)) (by decide) ml242 pp242 (Nat.le_of_ble_eq_true rfl) rfl (by decide) (by decide) ?_
                    refine ev_iload_n rfl ?_
                    refine ev_iload_n rfl ?_
                    refine ev_icmplt f242_14 (fun c53799 => ?_) (fun c53799 => ?_)
                    · refine ev_iconst ?_
                      refine ev_ret rfl (by decide) (by decide) ?_
                      show jEv _ _ _ _ _ _ _ (_, [(2, 42), (0, a1), (0, a2), (0, a3), (0, (100 * a1 + a2)), (0, v53798)], [(0, 0)], _, _, _)
                      refine ev_ifeq f275_107 (fun c53800 => ?_) (fun c53800 => absurd c53800 (by omega))
                      refine ev_aload_n rfl ?_
                      refine g_getp (r := 42) (c := 49) g ad42 (by decide) (by decide) rf42_11 ft12_11 ?_
                      refine ev_iload rfl ?_
                      refine g_baldv (v := v53787) g ad49 (by omega) (by omega) (ev53787) ?_
                      refine ev_iconst ?_
                      refine ev_icmpne f275_149 (fun c53801 => ?_) (fun c53801 => absurd c53801 (by omega))
                      refine ev_ldc_w ?_
                      exact ev_ret rfl (by decide) (by decide) ⟨_, rfl, by omega, by omega, g, k0⟩
                    · refine ev_iload_n rfl ?_
                      refine ev_iload_n rfl ?_
                      refine ev_icmpgt f242_14 (fun c53802 => ?_) (fun c53802 => ?_)
                      · refine ev_iconst ?_
                        refine ev_ret rfl (by decide) (by decide) ?_
                        show jEv _ _ _ _ _ _ _ (_, [(2, 42), (0, a1), (0, a2), (0, a3), (0, (100 * a1 + a2)), (0, v53798)], [(0, 0)], _, _, _)
                        refine ev_ifeq f275_107 (fun c53803 => ?_) (fun c53803 => absurd c53803 (by omega))
                        refine ev_aload_n rfl ?_
                        refine g_getp (r := 42) (c := 49) g ad42 (by decide) (by decide) rf42_11 ft12_11 ?_
                        refine ev_iload rfl ?_
                        refine g_baldv (v := v53787) g ad49 (by omega) (by omega) (ev53787) ?_
                        refine ev_iconst ?_
                        refine ev_icmpne f275_149 (fun c53804 => ?_) (fun c53804 => absurd c53804 (by omega))
                        refine ev_ldc_w ?_
                        exact ev_ret rfl (by decide) (by decide) ⟨_, rfl, by omega, by omega, g, k0⟩
                      · refine ev_iconst ?_
                        refine ev_goto f242_15 ?_
                        refine ev_ret rfl (by decide) (by decide) ?_
                        show jEv _ _ _ _ _ _ _ (_, [(2, 42), (0, a1), (0, a2), (0, a3), (0, (100 * a1 + a2)), (0, v53798)], [(0, 1)], _, _, _)
                        refine ev_ifeq f275_107 (fun c53805 => absurd c53805 (by omega)) (fun c53805 => ?_)
                        refine ev_aload_n rfl ?_
                        refine g_getp (r := 42) (c := 51) g ad42 (by decide) (by decide) rf42_13 ft12_13 ?_
                        refine ev_iconst ?_
                        refine ev_iload rfl ?_
                        refine ev_imul (r := (400 * a1 + 4 * a2)) (by unfold w32; omega) ?_
                        refine ev_iload_n rfl ?_
                        refine ev_iadd (r := (400 * a1 + 4 * a2 + a3)) (by unfold w32; omega) ?_
                        refine ev_bipush ?_
                        refine ev_isub (r := (400 * a1 + 4 * a2 + a3 - 10)) (by unfold w32; omega) ?_
                        refine g_bald g ad51 rt51 (by omega) (by omega) (fun v53806 ev53806 lv53806 uv53806 => ?_)
                        have xv53806 := g.nd2c (q := a1) (n := a2) (by omega) (by rw [(ev53766)]; omega) (by omega) (by rw [(ev53776)]; omega) (i := (100 * a1 + a2)) (by omega) (by rw [(ev53787)]; omega) (ev53796) (t := v53796) (by omega) (ev53798) (w := (a3 - 10)) (by omega) (by omega) (j := (400 * a1 + 4 * a2 + a3 - 10)) (by omega) ev53806
                        rw [(ev53776)] at xv53806
                        exact ev_ret rfl (by decide) (by decide) ⟨_, rfl, by omega, by omega, g, k0⟩
                · refine ev_aload_n rfl ?_
                  refine g_getp (r := 42) (c := 50) g ad42 (by decide) (by decide) rf42_12 ft12_12 ?_
                  refine ev_iload_n rfl ?_
                  refine g_iald g ad50 rt50 (by omega) (by omega) (fun v53807 ev53807 lv53807 uv53807 => ?_)
                  have xv53807 := g.nd1 (q := a1) (n := a2) (by omega) (by rw [(ev53766)]; omega) (by omega) (by rw [(ev53776)]; omega) (i := (100 * a1 + a2)) (by omega) (by rw [(ev53787)]; omega) ev53807
                  refine ev_goto f276_44 ?_
                  refine ev_ret rfl (by decide) (by decide) ?_
                  show jEv _ _ _ _ _ _ _ (_, [(2, 42), (0, a1), (0, a2), (0, a3), (0, (100 * a1 + a2)), (9, 0)], [(0, v53807)], _, _, _)
                  refine ev_istore (L' := [(2, 42), (0, a1), (0, a2), (0, a3), (0, (100 * a1 + a2)), (0, v53807)]) (Nat.le_of_ble_eq_true rfl) rfl ?_
                  refine ev_iload_n rfl ?_
                  refine ev_bipush ?_
                  refine ev_bipush ?_
                  refine ev_iload rfl ?_
                  refine ev_iadd (r := (v53807 + 9)) (by unfold w32; omega) ?_
                  refine ev_in (d := 2) (a := 0) (b := 0) (cd' := c242_0) (m := 3) (L0 := [(0, a3), (0, 10), (0, (v53807 + 9))]) (jcall_s (A := [(0, (v53807 + 9)), (0, 10), (0, a3)]) (S' := []) (by decide) rfl (Nat.le_of_ble_eq_true rfl)) (by decide) ml242 pp242 (Nat.le_of_ble_eq_true rfl) rfl (by decide) (by decide) ?_
                  refine ev_iload_n rfl ?_
                  refine ev_iload_n rfl ?_
                  refine ev_icmplt f242_14 (fun c53808 => ?_) (fun c53808 => ?_)
                  · refine ev_iconst ?_
                    refine ev_ret rfl (by decide) (by decide) ?_
                    show jEv _ _ _ _ _ _ _ (_, [(2, 42), (0, a1), (0, a2), (0, a3), (0, (100 * a1 + a2)), (0, v53807)], [(0, 0)], _, _, _)
                    refine ev_ifeq f275_107 (fun c53809 => ?_) (fun c53809 => absurd c53809 (by omega))
                    refine ev_aload_n rfl ?_
                    refine g_getp (r := 42) (c := 49) g ad42 (by decide) (by decide) rf42_11 ft12_11 ?_
                    refine ev_iload rfl ?_
                    refine g_baldv (v := v53787) g ad49 (by omega) (by omega) (ev53787) ?_
                    refine ev_iconst ?_
                    refine ev_icmpne f275_149 (fun c53810 => absurd c53810 (by omega)) (fun c53810 => ?_)
                    refine ev_iload_n rfl ?_
                    refine ev_bipush ?_
                    refine ev_bipush ?_
                    refine ev_iload rfl ?_
                    refine ev_iadd (r := (v53807 + 19)) (by unfold w32; omega) ?_
                    refine ev_in (d := 2) (a := 0) (b := 0) (cd' := c242_0) (m := 3) (L0 := [(0, a3), (0, 20), (0, (v53807 + 19))]) (jcall_s (A := [(0, (v53807 + 19)), (0, 20), (0, a3)]) (S' := []) (by decide) rfl (Nat.le_of_ble_eq_true rfl)) (by decide) ml242 pp242 (Nat.le_of_ble_eq_true rfl) rfl (by decide) (by decide) ?_
                    refine ev_iload_n rfl ?_
                    refine ev_iload_n rfl ?_
                    refine ev_icmplt f242_14 (fun c53811 => ?_) (fun c53811 => absurd c53811 (by omega))
                    refine ev_iconst ?_
                    refine ev_ret rfl (by decide) (by decide) ?_
                    show jEv _ _ _ _ _ _ _ (_, [(2, 42), (0, a1), (0, a2), (0, a3), (0, (100 * a1 + a2)), (0, v53807)], [(0, 0)], _, _, _)
                    refine ev_ifeq f275_149 (fun c53812 => ?_) (fun c53812 => absurd c53812 (by omega))
                    refine ev_ldc_w ?_
                    exact ev_ret rfl (by decide) (by decide) ⟨_, rfl, by omega, by omega, g, k0⟩
                  · refine ev_iload_n rfl ?_
                    refine ev_iload_n rfl ?_
                    refine ev_icmpgt f242_14 (fun c53813 => ?_) (fun c53813 => ?_)
                    · refine ev_iconst ?_
                      refine ev_ret rfl (by decide) (by decide) ?_
                      show jEv _ _ _ _ _ _ _ (_, [(2, 42), (0, a1), (0, a2), (0, a3), (0, (100 * a1 + a2)), (0, v53807)], [(0, 0)], _, _, _)
                      refine ev_ifeq f275_107 (fun c53814 => ?_) (fun c53814 => absurd c53814 (by omega))
                      refine ev_aload_n rfl ?_
                      refine g_getp (r := 42) (c := 49) g ad42 (by decide) (by decide) rf42_11 ft12_11 ?_
                      refine ev_iload rfl ?_
                      refine g_baldv (v := v53787) g ad49 (by omega) (by omega) (ev53787) ?_
                      refine ev_iconst ?_
                      refine ev_icmpne f275_149 (fun c53815 => absurd c53815 (by omega)) (fun c53815 => ?_)
                      refine ev_iload_n rfl ?_
                      refine ev_bipush ?_
                      refine ev_bipush ?_
                      refine ev_iload rfl ?_
                      refine ev_iadd (r := (v53807 + 19)) (by unfold w32; omega) ?_
                      refine ev_in (d := 2) (a := 0) (b := 0) (cd' := c242_0) (m := 3) (L0 := [(0, a3), (0, 20), (0, (v53807 + 19))]) (jcall_s (A := [(0, (v53807 + 19)), (0, 20), (0, a3)]) (S' := []) (by decide) rfl (Nat.le_of_ble_eq_true rfl)) (by decide) ml242 pp242 (Nat.le_of_ble_eq_true rfl) rfl (by decide) (by decide) ?_
                      refine ev_iload_n rfl ?_
                      refine ev_iload_n rfl ?_
                      refine ev_icmplt f242_14 (fun c53816 => ?_) (fun c53816 => ?_)
                      · refine ev_iconst ?_
                        refine ev_ret rfl (by decide) (by decide) ?_
                        show jEv _ _ _ _ _ _ _ (_, [(2, 42), (0, a1), (0, a2), (0, a3), (0, (100 * a1 + a2)), (0, v53807)], [(0, 0)], _, _, _)
                        refine ev_ifeq f275_149 (fun c53817 => ?_) (fun c53817 => absurd c53817 (by omega))
                        refine ev_ldc_w ?_
                        exact ev_ret rfl (by decide) (by decide) ⟨_, rfl, by omega, by omega, g, k0⟩
                      · refine ev_iload_n rfl ?_
                        refine ev_iload_n rfl ?_
                        refine ev_icmpgt f242_14 (fun c53818 => ?_) (fun c53818 => ?_)
                        · refine ev_iconst ?_
                          refine ev_ret rfl (by decide) (by decide) ?_
                          show jEv _ _ _ _ _ _ _ (_, [(2, 42), (0, a1), (0, a2), (0, a3), (0, (100 * a1 + a2)), (0, v53807)], [(0, 0)], _, _, _)
                          refine ev_ifeq f275_149 (fun c53819 => ?_) (fun c53819 => absurd c53819 (by omega))
                          refine ev_ldc_w ?_
                          exact ev_ret rfl (by decide) (by decide) ⟨_, rfl, by omega, by omega, g, k0⟩
                        · refine ev_iconst ?_
                          refine ev_goto f242_15 ?_
                          refine ev_ret rfl (by decide) (by decide) ?_
                          show jEv _ _ _ _ _ _ _ (_, [(2, 42), (0, a1), (0, a2), (0, a3), (0, (100 * a1 + a2)), (0, v53807)], [(0, 1)], _, _, _)
                          refine ev_ifeq f275_149 (fun c53820 => absurd c53820 (by omega)) (fun c53820 => ?_)
                          refine ev_aload_n rfl ?_
                          refine g_getp (r := 42) (c := 52) g ad42 (by decide) (by decide) rf42_14 ft12_14 ?_
                          refine ev_iconst ?_
                          refine ev_iload rfl ?_
                          refine ev_imul (r := (400 * a1 + 4 * a2)) (by unfold w32; omega) ?_
                          refine ev_iload_n rfl ?_
                          refine ev_iadd (r := (400 * a1 + 4 * a2 + a3)) (by unfold w32; omega) ?_
                          refine ev_bipush ?_
                          refine ev_isub (r := (400 * a1 + 4 * a2 + a3 - 20)) (by unfold w32; omega) ?_
                          refine g_iald g ad52 rt52 (by omega) (by omega) (fun v53821 ev53821 lv53821 uv53821 => ?_)
                          refine ev_goto f275_152 ?_
                          exact ev_ret rfl (by decide) (by decide) ⟨_, rfl, by omega, by omega, g, k0⟩
                    · refine ev_iconst ?_
                      refine ev_goto f242_15 ?_
                      refine ev_ret rfl (by decide) (by decide) ?_
                      show jEv _ _ _ _ _ _ _ (_, [(2, 42), (0, a1), (0, a2), (0, a3), (0, (100 * a1 + a2)), (0, v53807)], [(0, 1)], _, _, _)
                      refine ev_ifeq f275_107 (fun c53822 => absurd c53822 (by omega)) (fun c53822 => ?_)
                      refine ev_aload_n rfl ?_
                      refine g_getp (r := 42) (c := 51) g ad42 (by decide) (by decide) rf42_13 ft12_13 ?_
                      refine ev_iconst ?_
                      refine ev_iload rfl ?_
                      refine ev_imul (r := (400 * a1 + 4 * a2)) (by unfold w32; omega) ?_
                      refine ev_iload_n rfl ?_
                      refine ev_iadd (r := (400 * a1 + 4 * a2 + a3)) (by unfold w32; omega) ?_
                      refine ev_bipush ?_
                      refine ev_isub (r := (400 * a1 + 4 * a2 + a3 - 10)) (by unfold w32; omega) ?_
                      refine g_bald g ad51 rt51 (by omega) (by omega) (fun v53823 ev53823 lv53823 uv53823 => ?_)
                      have xv53823 := g.nd1c (q := a1) (n := a2) (by omega) (by rw [(ev53766)]; omega) (by omega) (by rw [(ev53776)]; omega) (i := (100 * a1 + a2)) (by omega) (by rw [(ev53787)]; omega) (ev53807) (w := (a3 - 10)) (by omega) (by omega) (j := (400 * a1 + 4 * a2 + a3 - 10)) (by omega) ev53823
                      rw [(ev53776)] at xv53823
                      exact ev_ret rfl (by decide) (by decide) ⟨_, rfl, by omega, by omega, g, k0⟩
              · refine ev_aload_n rfl ?_
                refine g_getp (r := 42) (c := 50) g ad42 (by decide) (by decide) rf42_12 ft12_12 ?_
                refine ev_iload rfl ?_
                refine g_iald g ad50 rt50 (by omega) (by omega) (fun v53824 ev53824 lv53824 uv53824 => ?_)
                exact ev_ret rfl (by decide) (by decide) ⟨_, rfl, by omega, by omega, g, k0⟩
            · refine ev_aload_n rfl ?_
              refine g_getp (r := 42) (c := 49) g ad42 (by decide) (by decide) rf42_11 ft12_11 ?_
              refine ev_iload rfl ?_
              refine g_bald g ad49 rt49 (by omega) (by omega) (fun v53825 ev53825 lv53825 uv53825 => ?_)
              exact ev_ret rfl (by decide) (by decide) ⟨_, rfl, by omega, by omega, g, k0⟩
      · refine ev_aload_n rfl ?_
        refine g_getp (r := 42) (c := 48) g ad42 (by decide) (by decide) rf42_10 ft12_10 ?_
        refine ev_iload_n rfl ?_
        refine g_iald g ad48 rt48 (by omega) (by omega) (fun v53826 ev53826 lv53826 uv53826 => ?_)
        exact ev_ret rfl (by decide) (by decide) ⟨_, rfl, by omega, by omega, g, k0⟩
/-! 302 plan -/
set_option maxHeartbeats 4000000 in
theorem s302 {G : GH} {h : JH} (g : Gd G h) {a1 : Int} (la1 : (-2147483648) ≤ a1) (ua1 : a1 ≤ 2147483647) {a2 : Int} (la2 : (-2147483648) ≤ a2) (ua2 : a2 ≤ 2147483647) {a3 : Int} (la3 : (-2147483648) ≤ a3) (ua3 : a3 ≤ 2147483647) : jOk 5 0 0 302 [(2, 42), (0, a1), (0, a2), (0, a3)] h (PI G [(53, 0)] h 0 (-1) 3) := by
  refine ⟨by decide, by rw [ml302]; exact Nat.le_of_ble_eq_true rfl, ?_⟩
  rw [ml302, pp302]
  show jEv _ none _ c302_0 0 0 _ (c302_0, [(2, 42), (0, a1), (0, a2), (0, a3), (9, 0)], [], h, 0, 0)
  have k0 := Kp.rf [(53, 0)] h
  refine ev_aload_n rfl ?_
  refine ev_iload_n rfl ?_
  refine ev_iload_n rfl ?_
  refine ev_in (d := 3) (a := 0) (b := 0) (cd' := c277_0) (m := 3) (L0 := [(2, 42), (0, a1), (0, a2)]) (jcall_v (A := [(0, a2), (0, a1)]) (S' := []) (r := 42) rfl (g.lt ad42) (g.tg ad42) (Nat.le_of_ble_eq_true rfl)) (by decide) ml277 pp277 (Nat.le_of_ble_eq_true rfl) rfl (by decide) (by decide) ?_
  refine ev_aload_n rfl ?_
  refine ev_iload_n rfl ?_
  refine ev_iload_n rfl ?_
  refine ev_in (d := 2) (a := 0) (b := 0) (cd' := c262_0) (m := 3) (L0 := [(2, 42), (0, a1), (0, a2)]) (jcall_v (A := [(0, a2), (0, a1)]) (S' := []) (r := 42) rfl (g.lt ad42) (g.tg ad42) (Nat.le_of_ble_eq_true rfl)) (by decide) ml262 pp262 (Nat.le_of_ble_eq_true rfl) rfl (by decide) (by decide) ?_
  refine ev_aload_n rfl ?_
  refine ev_iload_n rfl ?_
  refine ev_in (d := 1) (a := 0) (b := 0) (cd' := c261_0) (m := 2) (L0 := [(2, 42), (0, a1)]) (jcall_v (A := [(0, a1)]) (S' := []) (r := 42) rfl (g.lt ad42) (g.tg ad42) (Nat.le_of_ble_eq_true rfl)) (by decide) ml261 pp261 (Nat.le_of_ble_eq_true rfl) rfl (by decide) (by decide) ?_
  refine ev_iload_n rfl ?_
  refine ev_iconst ?_
  refine ev_aload_n rfl ?_
  obtain ⟨v53895, ev53895, lv53895, uv53895⟩ := g.rd ad42 (show 9 < 66 by decide) rf42_9
  refine g_getv (r := 42) (v := v53895) g ad42 (by decide) ft12_9 ev53895 ?_
  refine ev_iconst ?_
  refine ev_isub (r := (v53895 - 1)) (by unfold w32; omega) ?_
  refine ev_in (d := 0) (a := 0) (b := 0) (cd' := c242_0) (m := 3) (L0 := [(0, a1), (0, 0), (0, (v53895 - 1))]) (jcall_s (A := [(0, (v53895 - 1)), (0, 0), (0, a1)]) (S' := []) (by decide) rfl (Nat.le_of_ble_eq_true rfl)) (by decide) ml242 pp242 (Nat.le_of_ble_eq_true rfl) rfl (by decide) (by decide) ?_
  refine ev_iload_n rfl ?_
  refine ev_iload_n rfl ?_
  refine ev_icmplt f242_14 (fun c53896 => ?_) (fun c53896 => ?_)
  · refine ev_iconst ?_
    refine ev_ret rfl (by decide) (by decide) ?_
    show jEv _ _ _ _ _ _ _ (_, [(2, 42), (0, a1)], [(0, 0)], _, _, _)
    refine ev_ret rfl (by decide) (by decide) ?_
    show jEv _ _ _ _ _ _ _ (_, [(2, 42), (0, a1), (0, a2)], [(0, 0)], _, _, _)
    refine ev_ifeq f262_28 (fun c53897 => ?_) (fun c53897 => absurd c53897 (by omega))
    refine ev_iconst ?_
    refine ev_ret rfl (by decide) (by decide) ?_
    show jEv _ _ _ _ _ _ _ (_, [(2, 42), (0, a1), (0, a2)], [(0, 0)], _, _, _)
    refine ev_ifeq f277_28 (fun c53898 => ?_) (fun c53898 => absurd c53898 (by omega))
    refine ev_iconst ?_
    refine ev_ret rfl (by decide) (by decide) ?_
    show jEv _ _ _ _ _ _ _ (_, [(2, 42), (0, a1), (0, a2), (0, a3), (9, 0)], [(0, 0)], _, _, _)
    refine ev_ifeq f302_30 (fun c53899 => ?_) (fun c53899 => absurd c53899 (by omega))
    refine ev_iconst ?_
    exact ev_ret rfl (by decide) (by decide) ⟨_, rfl, by omega, by omega, g, k0⟩
  · refine ev_iload_n rfl ?_
    refine ev_iload_n rfl ?_
    refine ev_icmpgt f242_14 (fun c53900 => ?_) (fun c53900 => ?_)
    · refine ev_iconst ?_
      refine ev_ret rfl (by decide) (by decide) ?_
      show jEv _ _ _ _ _ _ _ (_, [(2, 42), (0, a1)], [(0, 0)], _, _, _)
      refine ev_ret rfl (by decide) (by decide) ?_
      show jEv _ _ _ _ _ _ _ (_, [(2, 42), (0, a1), (0, a2)], [(0, 0)], _, _, _)
      refine ev_ifeq f262_28 (fun c53901 => ?_) (fun c53901 => absurd c53901 (by omega))
      refine ev_iconst ?_
      refine ev_ret rfl (by decide) (by decide) ?_
      show jEv _ _ _ _ _ _ _ (_, [(2, 42), (0, a1), (0, a2)], [(0, 0)], _, _, _)
      refine ev_ifeq f277_28 (fun c53902 => ?_) (fun c53902 => absurd c53902 (by omega))
      refine ev_iconst ?_
      refine ev_ret rfl (by decide) (by decide) ?_
      show jEv _ _ _ _ _ _ _ (_, [(2, 42), (0, a1), (0, a2), (0, a3), (9, 0)], [(0, 0)], _, _, _)
      refine ev_ifeq f302_30 (fun c53903 => ?_) (fun c53903 => absurd c53903 (by omega))
      refine ev_iconst ?_
      exact ev_ret rfl (by decide) (by decide) ⟨_, rfl, by omega, by omega, g, k0⟩
    · refine ev_iconst ?_
      refine ev_goto f242_15 ?_
      refine ev_ret rfl (by decide) (by decide) ?_
      show jEv _ _ _ _ _ _ _ (_, [(2, 42), (0, a1)], [(0, 1)], _, _, _)
      refine ev_ret rfl (by decide) (by decide) ?_
      show jEv _ _ _ _ _ _ _ (_, [(2, 42), (0, a1), (0, a2)], [(0, 1)], _, _, _)
      refine ev_ifeq f262_28 (fun c53904 => absurd c53904 (by omega)) (fun c53904 => ?_)
      refine ev_iload_n rfl ?_
      refine ev_iconst ?_
      refine ev_aload_n rfl ?_
      refine g_getp (r := 42) (c := 48) g ad42 (by decide) (by decide) rf42_10 ft12_10 ?_
      refine ev_iload_n rfl ?_
      refine g_iald g ad48 rt48 (by omega) (by omega) (fun v53905 ev53905 lv53905 uv53905 => ?_)
      refine ev_iconst ?_
      refine ev_isub (r := (v53905 - 1)) (by unfold w32; omega) ?_
      refine ev_in (d := 1) (a := 0) (b := 0) (cd' := c242_0) (m := 3) (L0 := [(0, a2), (0, 0), (0, (v53905 - 1))]) (jcall_s (A := [(0, (v53905 - 1)), (0, 0), (0, a2)]) (S' := []) (by decide) rfl (Nat.le_of_ble_eq_true rfl)) (by decide) ml242 pp242 (Nat.le_of_ble_eq_true rfl) rfl (by decide) (by decide) ?_
      refine ev_iload_n rfl ?_
      refine ev_iload_n rfl ?_
      refine ev_icmplt f242_14 (fun c53906 => ?_) (fun c53906 => ?_)
      · refine ev_iconst ?_
        refine ev_ret rfl (by decide) (by decide) ?_
        show jEv _ _ _ _ _ _ _ (_, [(2, 42), (0, a1), (0, a2)], [(0, 0)], _, _, _)
        refine ev_ifeq f262_28 (fun c53907 => ?_) (fun c53907 => absurd c53907 (by omega))
        refine ev_iconst ?_
        refine ev_ret rfl (by decide) (by decide) ?_
        show jEv _ _ _ _ _ _ _ (_, [(2, 42), (0, a1), (0, a2)], [(0, 0)], _, _, _)
        refine ev_ifeq f277_28 (fun c53908 => ?_) (fun c53908 => absurd c53908 (by omega))
        refine ev_iconst ?_
        refine ev_ret rfl (by decide) (by decide) ?_
        show jEv _ _ _ _ _ _ _ (_, [(2, 42), (0, a1), (0, a2), (0, a3), (9, 0)], [(0, 0)], _, _, _)
        refine ev_ifeq f302_30 (fun c53909 => ?_) (fun c53909 => absurd c53909 (by omega))
        refine ev_iconst ?_
        exact ev_ret rfl (by decide) (by decide) ⟨_, rfl, by omega, by omega, g, k0⟩
      · refine ev_iload_n rfl ?_
        refine ev_iload_n rfl ?_
        refine ev_icmpgt f242_14 (fun c53910 => ?_) (fun c53910 => ?_)
        · refine ev_iconst ?_
          refine ev_ret rfl (by decide) (by decide) ?_
          show jEv _ _ _ _ _ _ _ (_, [(2, 42), (0, a1), (0, a2)], [(0, 0)], _, _, _)
          refine ev_ifeq f262_28 (fun c53911 => ?_) (fun c53911 => absurd c53911 (by omega))
          refine ev_iconst ?_
          refine ev_ret rfl (by decide) (by decide) ?_
          show jEv _ _ _ _ _ _ _ (_, [(2, 42), (0, a1), (0, a2)], [(0, 0)], _, _, _)
          refine ev_ifeq f277_28 (fun c53912 => ?_) (fun c53912 => absurd c53912 (by omega))
          refine ev_iconst ?_
          refine ev_ret rfl (by decide) (by decide) ?_
          show jEv _ _ _ _ _ _ _ (_, [(2, 42), (0, a1), (0, a2), (0, a3), (9, 0)], [(0, 0)], _, _, _)
          refine ev_ifeq f302_30 (fun c53913 => ?_) (fun c53913 => absurd c53913 (by omega))
          refine ev_iconst ?_
          exact ev_ret rfl (by decide) (by decide) ⟨_, rfl, by omega, by omega, g, k0⟩
        · refine ev_iconst ?_
          refine ev_goto f242_15 ?_
          refine ev_ret rfl (by decide) (by decide) ?_
          show jEv _ _ _ _ _ _ _ (_, [(2, 42), (0, a1), (0, a2)], [(0, 1)], _, _, _)
          refine ev_ifeq f262_28 (fun c53914 => absurd c53914 (by omega)) (fun c53914 => ?_)
          refine ev_iconst ?_
          refine ev_goto f262_29 ?_
          refine ev_ret rfl (by decide) (by decide) ?_
          show jEv _ _ _ _ _ _ _ (_, [(2, 42), (0, a1), (0, a2)], [(0, 1)], _, _, _)
          refine ev_ifeq f277_28 (fun c53915 => absurd c53915 (by omega)) (fun c53915 => ?_)
          refine ev_aload_n rfl ?_
          refine g_getp (r := 42) (c := 49) g ad42 (by decide) (by decide) rf42_11 ft12_11 ?_
          refine ev_bipush ?_
          refine ev_iload_n rfl ?_
          refine ev_imul (r := (100 * a1)) (by unfold w32; omega) ?_
          refine ev_iload_n rfl ?_
          refine ev_iadd (r := (100 * a1 + a2)) (by unfold w32; omega) ?_
          refine g_bald g ad49 rt49 (by omega) (by omega) (fun v53916 ev53916 lv53916 uv53916 => ?_)
          refine ev_iconst ?_
          refine ev_icmpne f277_28 (fun c53917 => ?_) (fun c53917 => ?_)
          · refine ev_iconst ?_
            refine ev_ret rfl (by decide) (by decide) ?_
            show jEv _ _ _ _ _ _ _ (_, [(2, 42), (0, a1), (0, a2), (0, a3), (9, 0)], [(0, 0)], _, _, _)
            refine ev_ifeq f302_30 (fun c53918 => ?_) (fun c53918 => absurd c53918 (by omega))
            refine ev_iconst ?_
            exact ev_ret rfl (by decide) (by decide) ⟨_, rfl, by omega, by omega, g, k0⟩
          · refine ev_iconst ?_
            refine ev_goto f277_29 ?_
            refine ev_ret rfl (by decide) (by decide) ?_
            show jEv _ _ _ _ _ _ _ (_, [(2, 42), (0, a1), (0, a2), (0, a3), (9, 0)], [(0, 1)], _, _, _)
            refine ev_ifeq f302_30 (fun c53919 => absurd c53919 (by omega)) (fun c53919 => ?_)
            refine ev_iload_n rfl ?_
            refine ev_iconst ?_
            refine ev_aload_n rfl ?_
            refine g_getp (r := 42) (c := 50) g ad42 (by decide) (by decide) rf42_12 ft12_12 ?_
            refine ev_bipush ?_
            refine ev_iload_n rfl ?_
            refine ev_imul (r := (100 * a1)) (by unfold w32; omega) ?_
            refine ev_iload_n rfl ?_
            refine ev_iadd (r := (100 * a1 + a2)) (by unfold w32; omega) ?_
            refine g_iald g ad50 rt50 (by omega) (by omega) (fun v53920 ev53920 lv53920 uv53920 => ?_)
            have xv53920 := g.nd1 (q := a1) (n := a2) (by omega) (by rw [(ev53895)]; omega) (by omega) (by rw [(ev53905)]; omega) (i := (100 * a1 + a2)) (by omega) (by rw [(ev53916)]; omega) ev53920
            refine ev_iconst ?_
            refine ev_isub (r := (v53920 - 1)) (by unfold w32; omega) ?_
            refine ev_in (d := 3) (a := 0) (b := 0) (cd' := c242_0) (m := 3) (L0 := [(0, a3), (0, (-1)), (0, (v53920 - 1))]) (jcall_s (A := [(0, (v53920 - 1)), (0, (-1)), (0, a3)]) (S' := []) (by decide) rfl (Nat.le_of_ble_eq_true rfl)) (by decide) ml242 pp242 (Nat.le_of_ble_eq_true rfl) rfl (by decide) (by decide) ?_
            refine ev_iload_n rfl ?_
            refine ev_iload_n rfl ?_
            refine ev_icmplt f242_14 (fun c53921 => ?_) (fun c53921 => ?_)
            · refine ev_iconst ?_
              refine ev_ret rfl (by decide) (by decide) ?_
              show jEv _ _ _ _ _ _ _ (_, [(2, 42), (0, a1), (0, a2), (0, a3), (9, 0)], [(0, 0)], _, _, _)
              refine ev_ifne f302_32 (fun c53922 => absurd c53922 (by omega)) (fun c53922 => ?_)
              refine ev_iconst ?_
              exact ev_ret rfl (by decide) (by decide) ⟨_, rfl, by omega, by omega, g, k0⟩
            · refine ev_iload_n rfl ?_
              refine ev_iload_n rfl ?_
              refine ev_icmpgt f242_14 (fun c53923 => ?_) (fun c53923 => ?_)
              · refine ev_iconst ?_
                refine ev_ret rfl (by decide) (by decide) ?_
                show jEv _ _ _ _ _ _ _ (_, [(2, 42), (0, a1), (0, a2), (0, a3), (9, 0)], [(0, 0)], _, _, _)
                refine ev_ifne f302_32 (fun c53924 => absurd c53924 (by omega)) (fun c53924 => ?_)
                refine ev_iconst ?_
                exact ev_ret rfl (by decide) (by decide) ⟨_, rfl, by omega, by omega, g, k0⟩
              · refine ev_iconst ?_
                refine ev_goto f242_15 ?_
                refine ev_ret rfl (by decide) (by decide) ?_
                show jEv _ _ _ _ _ _ _ (_, [(2, 42), (0, a1), (0, a2), (0, a3), (9, 0)], [(0, 1)], _, _, _)
                refine ev_ifne f302_32 (fun c53925 => ?_) (fun c53925 => absurd c53925 (by omega))
                refine ev_aload_n rfl ?_
                refine g_getp (r := 42) (c := 53) g ad42 (by decide) (by decide) rf42_15 ft12_15 ?_
                refine ev_bipush ?_
                refine ev_iload_n rfl ?_
                refine ev_imul (r := (100 * a1)) (by unfold w32; omega) ?_
                refine ev_iload_n rfl ?_
                refine ev_iadd (r := (100 * a1 + a2)) (by unfold w32; omega) ?_
                refine g_bald g ad53 rt53 (by omega) (by omega) (fun v53926 ev53926 lv53926 uv53926 => ?_)
                have xv53926 := g.nd1p (q := a1) (n := a2) (by omega) (by rw [(ev53895)]; omega) (by omega) (by rw [(ev53905)]; omega) (i := (100 * a1 + a2)) (by omega) (by rw [(ev53916)]; omega) (ev53920) ev53926
                refine ev_istore (L' := [(2, 42), (0, a1), (0, a2), (0, a3), (0, v53926)]) (Nat.le_of_ble_eq_true rfl) rfl ?_
                refine ev_iload_n rfl ?_
                refine ev_iflt f302_62 (fun c53927 => ?_) (fun c53927 => ?_)
                · refine ev_iload rfl ?_
                  exact ev_ret rfl (by decide) (by decide) ⟨_, rfl, by omega, by omega, g, k0⟩
                · refine ev_aload_n rfl ?_
                  refine g_getp (r := 42) (c := 53) g ad42 (by decide) (by decide) rf42_15 ft12_15 ?_
                  refine ev_bipush ?_
                  refine ev_iload_n rfl ?_
                  refine ev_imul (r := (100 * a1)) (by unfold w32; omega) ?_
                  refine ev_iload_n rfl ?_
                  refine ev_iadd (r := (100 * a1 + a2)) (by unfold w32; omega) ?_
                  refine ev_iload_n rfl ?_
                  refine ev_i2b (r := a3) (by unfold w8; omega) ?_
                  refine ev_bastG (r := 53) (j := ((100 * a1 + a2)).toNat) (w := a3) (g.lt ad53) (g.tg ad53) (by omega) (by rw [g.ln ad53]; omega) (by unfold w8; omega) (fun h53928 e53928 => ?_)
                  have g53928 := g.s53 e53928 (Or.inr ⟨by omega, by rw [(ev53920)]; omega⟩) (by omega) (by omega)
                  have k53928 := k0.wr e53928 rfl
                  refine ev_iload rfl ?_
                  exact ev_ret rfl (by decide) (by decide) ⟨_, rfl, by omega, by omega, g53928, k53928⟩
