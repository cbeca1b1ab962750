/-! s78_6  -/
set_option maxHeartbeats 4000000 in
theorem s78_6_l {G : GH} {h : JH} {a3 : Int} (la3 : (-2147483648) ≤ a3) (ua3 : a3 ≤ 2147483647) {w0 : Int} (ew0 : h.2.2 7 1 = w0) (lw0 : (-1) ≤ w0) (uw0 : w0 ≤ 200) {w1 : Int} (ew1 : h.2.2 7 2 = w1) (lw1 : 0 ≤ w1) (uw1 : w1 ≤ 199) : ∀ N : Nat, (∀ (h1 : JH) (x4 x5 y0 : Int) (j6 : AV), Gd G h1 → Kp [(7, 2), (7, 3), (7, 4), (10, 0), (11, 0), (12, 0), (13, 0), (14, 0), (15, 0), (16, 0), (17, 0)] h h1 → (-2147483648) ≤ a3 → a3 ≤ 2147483647 → (-1) ≤ x4 → x4 ≤ 199 → 0 ≤ x5 → x5 ≤ 3 → (w0 + (-y0)) ≤ 0 → ((-x4) + (-y0)) ≤ 1 → h1.2.2 7 1 = y0 → (-1) ≤ y0 → y0 ≤ 200 → ((-x5) + 3) < N → jEv (jOk 15) none (fun _ => 0) c78_0 0 0 (fun v h' => ∃ r F : Int, v = some (0, r) ∧ (-1) ≤ r ∧ r ≤ 199 ∧ Gd G h' ∧ Kp [(7, 2), (7, 3), (7, 4), (10, 0), (11, 0), (12, 0), (13, 0), (14, 0), (15, 0), (16, 0), (17, 0)] h h' ∧ h'.2.2 7 1 = F ∧ ((-F) + w0) ≤ 0 ∧ ((-F) + (-r)) ≤ 1) (c78_25, [(2, 7), (2, 1), (0, 6), (0, a3), (0, x4), (0, x5), j6], [], h1, 0, 0)) := by
  intro N
  induction N with
  | zero => exact fun h1 x4 x5 y0 j6 g1 k1 b0 b1 b2 b3 b4 b5 b6 b7 b8 b9 b10 hm => absurd hm (by omega)
  | succ N ih =>
    show _
    intro h1 x4 x5 y0 j6 g1 k1 b0 b1 b2 b3 b4 b5 b6 b7 ey0 ly0 uy0 hm
    refine ev_iload rfl ?_
    refine ev_iconst ?_
    refine ev_icmpge f78_100 (fun c20380 => absurd c20380 (by omega)) (fun c20380 => ?_)
    refine ev_aload_n rfl ?_
    refine g_getv (r := 7) (v := y0) g1 ad7 (by decide) ft5_1 (ey0) ?_
    refine ev_ifge f78_100 (fun c20381 => ?_) (fun c20381 => ?_)
    · refine ev_aload_n rfl ?_
      refine ev_bipush ?_
      refine ev_call (jcall_v (A := [(0, 41)]) (S' := []) (r := 7) rfl (g1.lt ad7) (g1.tg ad7) (Nat.le_of_ble_eq_true rfl)) (jOk_le (by decide) (s71 g1 (by omega) (by omega) (ey0) (by omega) (by omega))) (by decide) (by decide) (fun w20382 h20382 q20382 => ?_)
      obtain ⟨v20383, rfl, g20382, kk20382, ev20383, p20382_0⟩ := q20382
      have bv20383 := g20382.rg ad7 (i := 1) (by decide) rf7_1
      rw [ev20383] at bv20383
      have k20382 := k1.tr kk20382 (by decide)
      show jEv _ _ _ _ _ _ _ (_, [(2, 7), (2, 1), (0, 6), (0, a3), (0, x4), (0, x5), j6], [], _, _, _)
      refine ev_aload_n rfl ?_
      refine g_getv (r := 7) (v := v20383) g20382 ad7 (by decide) ft5_1 (ev20383) ?_
      refine ev_iflt f78_117 (fun c20384 => absurd c20384 (by omega)) (fun c20384 => ?_)
      refine ev_iconst ?_
      refine ev_goto f78_119 ?_
      exact ev_ret rfl (by decide) (by decide) ⟨_, _, rfl, by omega, by omega, g20382, k20382, (ev20383), by omega, by omega⟩
    · refine ev_aload_n rfl ?_
      refine ev_iconst ?_
      refine ev_call (jcall_v (A := [(0, 2)]) (S' := []) (r := 7) rfl (g1.lt ad7) (g1.tg ad7) (Nat.le_of_ble_eq_true rfl)) (jOk_le (by decide) (s76 g1 (by omega) (by omega) (ey0) (by omega) (by omega))) (by decide) (by decide) (fun w20385 h20385 q20385 => ?_)
      obtain ⟨v20387, v20386, rfl, lv20387, uv20387, g20385, kk20385, ev20386, p20385_0⟩ := q20385
      have bv20386 := g20385.rg ad7 (i := 1) (by decide) rf7_1
      rw [ev20386] at bv20386
      have k20385 := k1.tr kk20385 (by decide)
      show jEv _ _ _ _ _ _ _ (_, [(2, 7), (2, 1), (0, 6), (0, a3), (0, x4), (0, x5), j6], [(0, v20387)], _, _, _)
      refine ev_istore (L' := [(2, 7), (2, 1), (0, 6), (0, a3), (0, x4), (0, x5), (0, v20387)]) (Nat.le_of_ble_eq_true rfl) rfl ?_
      refine ev_aload_n rfl ?_
      refine ev_bipush ?_
      refine ev_call (jcall_v (A := [(0, 58)]) (S' := []) (r := 7) rfl (g20385.lt ad7) (g20385.tg ad7) (Nat.le_of_ble_eq_true rfl)) (jOk_le (by decide) (s71 g20385 (by omega) (by omega) (ev20386) (by omega) (by omega))) (by decide) (by decide) (fun w20388 h20388 q20388 => ?_)
      obtain ⟨v20389, rfl, g20388, kk20388, ev20389, p20388_0⟩ := q20388
      have bv20389 := g20388.rg ad7 (i := 1) (by decide) rf7_1
      rw [ev20389] at bv20389
      have k20388 := k20385.tr kk20388 (by decide)
      show jEv _ _ _ _ _ _ _ (_, [(2, 7), (2, 1), (0, 6), (0, a3), (0, x4), (0, x5), (0, v20387)], [], _, _, _)
      refine ev_aload_n rfl ?_
      refine ev_iload rfl ?_
      refine ev_iload rfl ?_
      refine ev_iload rfl ?_
      refine ev_aload_n rfl ?_
      refine ev_aload_n rfl ?_
      refine ev_iload_n rfl ?_
      refine ev_iconst ?_
      refine ev_iadd (r := 7) (by decide) ?_
      refine ev_iload_n rfl ?_
      refine ev_call (jcall_v (A := [(0, a3), (0, 7), (2, 1)]) (S' := [(0, v20387), (0, x5), (0, x4), (2, 7)]) (r := 7) rfl (g20388.lt ad7) (g20388.tg ad7) (Nat.le_of_ble_eq_true rfl)) (jOk_le (by decide) (s74_7 g20388 (by omega) (by omega) (ev20389) (by omega) (by omega))) (by decide) (by decide) (fun w20390 h20390 q20390 => ?_)
      obtain ⟨v20392, v20391, rfl, lv20392, uv20392, g20390, kk20390, ev20391, p20390_0, p20390_1⟩ := q20390
      have bv20391 := g20390.rg ad7 (i := 1) (by decide) rf7_1
      rw [ev20391] at bv20391
      have k20390 := k20388.tr kk20390 (by decide)
      show jEv _ _ _ _ _ _ _ (_, [(2, 7), (2, 1), (0, 6), (0, a3), (0, x4), (0, x5), (0, v20387)], [(0, v20392), (0, v20387), (0, x5), (0, x4), (2, 7)], _, _, _)
      refine ev_call (jcall_v (A := [(0, v20392), (0, v20387), (0, x5), (0, x4)]) (S' := []) (r := 7) rfl (g20390.lt ad7) (g20390.tg ad7) (Nat.le_of_ble_eq_true rfl)) (jOk_le (by decide) (s80 g20390 (by omega) (by omega) (by omega) (by omega) (by omega) (by omega) (by omega) (by omega))) (by decide) (by decide) (fun w20393 h20393 q20393 => ?_)
      obtain ⟨rfl, g20393, kk20393⟩ := q20393
      have k20393 := k20390.tr kk20393 (by decide)
      show jEv _ _ _ _ _ _ _ (_, [(2, 7), (2, 1), (0, 6), (0, a3), (0, x4), (0, x5), (0, v20387)], [], _, _, _)
      refine ev_aload_n rfl ?_
      refine ev_in (d := 14) (a := 0) (b := 0) (cd' := c68_0) (m := 1) (L0 := [(2, 7)]) (jcall_v (A := []) (S' := []) (r := 7) rfl (g20393.lt ad7) (g20393.tg ad7) (Nat.le_of_ble_eq_true rfl)) (by decide) ml68 pp68 (Nat.le_of_ble_eq_true rfl) rfl (by decide) (by decide) ?_
      refine ev_aload_n rfl ?_
      obtain ⟨v20394, ev20394, lv20394, uv20394⟩ := g20393.rd ad7 (show 2 < 15 by decide) rf7_2
      refine g_getv (r := 7) (v := v20394) g20393 ad7 (by decide) ft5_2 ev20394 ?_
      refine ev_aload_n rfl ?_
      obtain ⟨v20395, ev20395, lv20395, uv20395⟩ := g20393.rd ad7 (show 0 < 15 by decide) rf7_0
      refine g_getv (r := 7) (v := v20395) g20393 ad7 (by decide) ft5_0 ev20395 ?_
      refine ev_icmpge f68_27 (fun c20396 => ?_) (fun c20396 => ?_)
      · refine ev_iconst ?_
        refine ev_ret rfl (by decide) (by decide) ?_
        show jEv _ _ _ _ _ _ _ (_, [(2, 7), (2, 1), (0, 6), (0, a3), (0, x4), (0, x5), (0, v20387)], [(0, (-1))], _, _, _)
        refine ev_bipush ?_
        refine ev_icmpne f78_100 (fun c20397 => ?_) (fun c20397 => absurd c20397 (by omega))
        refine ev_aload_n rfl ?_
        refine ev_bipush ?_
        refine ev_call (jcall_v (A := [(0, 41)]) (S' := []) (r := 7) rfl (g20393.lt ad7) (g20393.tg ad7) (Nat.le_of_ble_eq_true rfl)) (jOk_le (by decide) (s71 g20393 (by omega) (by omega) (((kk20393.v (by decide)).trans ev20391)) (by omega) (by omega))) (by decide) (by decide) (fun w20398 h20398 q20398 => ?_)
        obtain ⟨v20399, rfl, g20398, kk20398, ev20399, p20398_0⟩ := q20398
        have bv20399 := g20398.rg ad7 (i := 1) (by decide) rf7_1
        rw [ev20399] at bv20399
        have k20398 := k20393.tr kk20398 (by decide)
        show jEv _ _ _ _ _ _ _ (_, [(2, 7), (2, 1), (0, 6), (0, a3), (0, x4), (0, x5), (0, v20387)], [], _, _, _)
        refine ev_aload_n rfl ?_
        refine g_getv (r := 7) (v := v20399) g20398 ad7 (by decide) ft5_1 (ev20399) ?_
        refine ev_iflt f78_117 (fun c20400 => ?_) (fun c20400 => ?_)
        · refine ev_iload rfl ?_
          exact ev_ret rfl (by decide) (by decide) ⟨_, _, rfl, by omega, by omega, g20398, k20398, (ev20399), by omega, by omega⟩
        · refine ev_iconst ?_
          refine ev_goto f78_119 ?_
          exact ev_ret rfl (by decide) (by decide) ⟨_, _, rfl, by omega, by omega, g20398, k20398, (ev20399), by omega, by omega⟩
      · refine ev_aload_n rfl ?_
        refine g_getp (r := 7) (c := 8) g20393 ad7 (by decide) (by decide) rf7_5 ft5_5 ?_
        refine ev_aload_n rfl ?_
        refine g_getv (r := 7) (v := v20394) g20393 ad7 (by decide) ft5_2 (ev20394) ?_
        refine g_bald g20393 ad8 rt8 (by omega) (by omega) (fun v20401 ev20401 lv20401 uv20401 => ?_)
        refine ev_sipush ?_
        refine g_iandB (b := 255) (by omega) (by omega) (by decide) (fun v20402 ev20402 lv20402 uv20402 => ?_)
        refine ev_goto f68_28 ?_
        refine ev_ret rfl (by decide) (by decide) ?_
        show jEv _ _ _ _ _ _ _ (_, [(2, 7), (2, 1), (0, 6), (0, a3), (0, x4), (0, x5), (0, v20387)], [(0, v20402)], _, _, _)
        refine ev_bipush ?_
        refine ev_icmpne f78_100 (fun c20403 => ?_) (fun c20403 => ?_)
        · refine ev_aload_n rfl ?_
          refine ev_bipush ?_
          refine ev_call (jcall_v (A := [(0, 41)]) (S' := []) (r := 7) rfl (g20393.lt ad7) (g20393.tg ad7) (Nat.le_of_ble_eq_true rfl)) (jOk_le (by decide) (s71 g20393 (by omega) (by omega) (((kk20393.v (by decide)).trans ev20391)) (by omega) (by omega))) (by decide) (by decide) (fun w20404 h20404 q20404 => ?_)
          obtain ⟨v20405, rfl, g20404, kk20404, ev20405, p20404_0⟩ := q20404
          have bv20405 := g20404.rg ad7 (i := 1) (by decide) rf7_1
          rw [ev20405] at bv20405
          have k20404 := k20393.tr kk20404 (by decide)
          show jEv _ _ _ _ _ _ _ (_, [(2, 7), (2, 1), (0, 6), (0, a3), (0, x4), (0, x5), (0, v20387)], [], _, _, _)
          refine ev_aload_n rfl ?_
          refine g_getv (r := 7) (v := v20405) g20404 ad7 (by decide) ft5_1 (ev20405) ?_
          refine ev_iflt f78_117 (fun c20406 => ?_) (fun c20406 => ?_)
          · refine ev_iload rfl ?_
            exact ev_ret rfl (by decide) (by decide) ⟨_, _, rfl, by omega, by omega, g20404, k20404, (ev20405), by omega, by omega⟩
          · refine ev_iconst ?_
            refine ev_goto f78_119 ?_
            exact ev_ret rfl (by decide) (by decide) ⟨_, _, rfl, by omega, by omega, g20404, k20404, (ev20405), by omega, by omega⟩
        · refine ev_iload rfl ?_
          refine ev_iconst ?_
          refine ev_icmpne f78_88 (fun c20407 => ?_) (fun c20407 => ?_)
          · refine ev_aload_n rfl ?_
            refine ev_bipush ?_
            refine ev_call (jcall_v (A := [(0, 44)]) (S' := []) (r := 7) rfl (g20393.lt ad7) (g20393.tg ad7) (Nat.le_of_ble_eq_true rfl)) (jOk_le (by decide) (s71 g20393 (by omega) (by omega) (((kk20393.v (by decide)).trans ev20391)) (by omega) (by omega))) (by decide) (by decide) (fun w20408 h20408 q20408 => ?_)
            obtain ⟨v20409, rfl, g20408, kk20408, ev20409, p20408_0⟩ := q20408
            have bv20409 := g20408.rg ad7 (i := 1) (by decide) rf7_1
            rw [ev20409] at bv20409
            have k20408 := k20393.tr kk20408 (by decide)
            show jEv _ _ _ _ _ _ _ (_, [(2, 7), (2, 1), (0, 6), (0, a3), (0, x4), (0, x5), (0, v20387)], [], _, _, _)
            refine ev_iinc (w := (x5 + 1)) (L' := [(2, 7), (2, 1), (0, 6), (0, a3), (0, x4), (0, (x5 + 1)), (0, v20387)]) rfl (by unfold w32; omega) rfl ?_
            refine ev_goto f78_25 ?_
            exact ih _ _ _ _ _ g20408 k20408 (by omega) (by omega) (by omega) (by omega) (by omega) (by omega) (by omega) (by omega) (ev20409) (by omega) (by omega) (by omega)
          · refine ev_goto f78_100 ?_
            refine ev_aload_n rfl ?_
            refine ev_bipush ?_
            refine ev_call (jcall_v (A := [(0, 41)]) (S' := []) (r := 7) rfl (g20393.lt ad7) (g20393.tg ad7) (Nat.le_of_ble_eq_true rfl)) (jOk_le (by decide) (s71 g20393 (by omega) (by omega) (((kk20393.v (by decide)).trans ev20391)) (by omega) (by omega))) (by decide) (by decide) (fun w20410 h20410 q20410 => ?_)
            obtain ⟨v20411, rfl, g20410, kk20410, ev20411, p20410_0⟩ := q20410
            have bv20411 := g20410.rg ad7 (i := 1) (by decide) rf7_1
            rw [ev20411] at bv20411
            have k20410 := k20393.tr kk20410 (by decide)
            show jEv _ _ _ _ _ _ _ (_, [(2, 7), (2, 1), (0, 6), (0, a3), (0, x4), (0, x5), (0, v20387)], [], _, _, _)
            refine ev_aload_n rfl ?_
            refine g_getv (r := 7) (v := v20411) g20410 ad7 (by decide) ft5_1 (ev20411) ?_
            refine ev_iflt f78_117 (fun c20412 => ?_) (fun c20412 => ?_)
            · refine ev_iload rfl ?_
              exact ev_ret rfl (by decide) (by decide) ⟨_, _, rfl, by omega, by omega, g20410, k20410, (ev20411), by omega, by omega⟩
            · refine ev_iconst ?_
              refine ev_goto f78_119 ?_
              exact ev_ret rfl (by decide) (by decide) ⟨_, _, rfl, by omega, by omega, g20410, k20410, (ev20411), by omega, by omega⟩
set_option maxHeartbeats 4000000 in
theorem s78_6 {G : GH} {h : JH} (g : Gd G h) {a3 : Int} (la3 : (-2147483648) ≤ a3) (ua3 : a3 ≤ 2147483647) {w0 : Int} (ew0 : h.2.2 7 1 = w0) (lw0 : (-1) ≤ w0) (uw0 : w0 ≤ 200) {w1 : Int} (ew1 : h.2.2 7 2 = w1) (lw1 : 0 ≤ w1) (uw1 : w1 ≤ 199) : jOk 16 0 0 78 [(2, 7), (2, 1), (0, 6), (0, a3)] h (fun v h' => ∃ r F : Int, v = some (0, r) ∧ (-1) ≤ r ∧ r ≤ 199 ∧ Gd G h' ∧ Kp [(7, 2), (7, 3), (7, 4), (10, 0), (11, 0), (12, 0), (13, 0), (14, 0), (15, 0), (16, 0), (17, 0)] h h' ∧ h'.2.2 7 1 = F ∧ ((-F) + w0) ≤ 0 ∧ ((-F) + (-r)) ≤ 1) := by
  refine ⟨by decide, by rw [ml78]; exact Nat.le_of_ble_eq_true rfl, ?_⟩
  rw [ml78, pp78]
  show jEv _ none _ c78_0 0 0 _ (c78_0, [(2, 7), (2, 1), (0, 6), (0, a3), (9, 0), (9, 0), (9, 0)], [], h, 0, 0)
  have k0 := Kp.rf [(7, 2), (7, 3), (7, 4), (10, 0), (11, 0), (12, 0), (13, 0), (14, 0), (15, 0), (16, 0), (17, 0)] h
  refine ev_aload_n rfl ?_
  refine ev_dup (by decide) ?_
  refine g_getv (r := 7) (v := w1) g ad7 (by decide) ft5_2 (ew1) ?_
  refine ev_iconst ?_
  refine ev_iadd (r := (w1 + 1)) (by unfold w32; omega) ?_
  refine g_putf (r := 7) g ad7 (by decide) ft5_2 (by decide) (fun e => absurd e nz5_2) rf7_2 (by decide) (by omega) (by omega) (fun h20413 e20413 g20413 => ?_)
  have k20413 := k0.wr e20413 rfl
  refine ev_aload_n rfl ?_
  refine ev_iload_n rfl ?_
  refine ev_call (jcall_v (A := [(0, 6)]) (S' := []) (r := 7) rfl (g20413.lt ad7) (g20413.tg ad7) (Nat.le_of_ble_eq_true rfl)) (jOk_le (by decide) (s72 g20413 (by omega) (by omega) (((jw_ne e20413 (Or.inr (by decide))).trans ew0)) (by omega) (by omega))) (by decide) (by decide) (fun w20414 h20414 q20414 => ?_)
  obtain ⟨v20415, rfl, g20414, kk20414, ev20415, p20414_0⟩ := q20414
  have bv20415 := g20414.rg ad7 (i := 1) (by decide) rf7_1
  rw [ev20415] at bv20415
  have k20414 := k20413.tr kk20414 (by decide)
  show jEv _ _ _ _ _ _ _ (_, [(2, 7), (2, 1), (0, 6), (0, a3), (9, 0), (9, 0), (9, 0)], [], _, _, _)
  refine ev_aload_n rfl ?_
  refine ev_iconst ?_
  refine ev_call (jcall_v (A := [(0, 1)]) (S' := []) (r := 7) rfl (g20414.lt ad7) (g20414.tg ad7) (Nat.le_of_ble_eq_true rfl)) (jOk_le (by decide) (s73 g20414 (by omega) (by omega) (ev20415) (by omega) (by omega))) (by decide) (by decide) (fun w20416 h20416 q20416 => ?_)
  obtain ⟨v20418, v20417, rfl, lv20418, uv20418, g20416, kk20416, ev20417, p20416_0, p20416_1⟩ := q20416
  have bv20417 := g20416.rg ad7 (i := 1) (by decide) rf7_1
  rw [ev20417] at bv20417
  have k20416 := k20414.tr kk20416 (by decide)
  show jEv _ _ _ _ _ _ _ (_, [(2, 7), (2, 1), (0, 6), (0, a3), (9, 0), (9, 0), (9, 0)], [(0, v20418)], _, _, _)
  refine ev_istore (L' := [(2, 7), (2, 1), (0, 6), (0, a3), (0, v20418), (9, 0), (9, 0)]) (Nat.le_of_ble_eq_true rfl) rfl ?_
  refine ev_iconst ?_
  refine ev_istore (L' := [(2, 7), (2, 1), (0, 6), (0, a3), (0, v20418), (0, 0), (9, 0)]) (Nat.le_of_ble_eq_true rfl) rfl ?_
  exact (s78_6_l la3 ua3 ew0 lw0 uw0 ew1 lw1 uw1 8) _ _ _ _ _ g20416 k20416 (by omega) (by omega) (by omega) (by omega) (by omega) (by omega) (by omega) (by omega) (ev20417) (by omega) (by omega) (by omega)
/-! s79_6  -/
set_option maxHeartbeats 4000000 in
theorem s79_6_l {G : GH} {h : JH} {a3 : Int} (la3 : (-2147483648) ≤ a3) (ua3 : a3 ≤ 2147483647) {w0 : Int} (ew0 : h.2.2 7 1 = w0) (lw0 : (-1) ≤ w0) (uw0 : w0 ≤ 200) {w1 : Int} (ew1 : h.2.2 7 2 = w1) (lw1 : 0 ≤ w1) (uw1 : w1 ≤ 199) : ∀ N : Nat, (∀ (h1 : JH) (x4 x5 x6 y0 : Int), Gd G h1 → Kp [(7, 2), (7, 3), (7, 4), (10, 0), (11, 0), (12, 0), (13, 0), (14, 0), (15, 0), (16, 0), (17, 0)] h h1 → (-2147483648) ≤ a3 → a3 ≤ 2147483647 → 0 ≤ x4 → x4 ≤ 3 → (-1) ≤ x5 → x5 ≤ 199 → 0 ≤ x6 → x6 ≤ 3 → (w0 + (-y0)) ≤ 0 → ((-x5) + (-y0)) ≤ 1 → h1.2.2 7 1 = y0 → (-1) ≤ y0 → y0 ≤ 200 → ((-x6) + 3) < N → jEv (jOk 15) none (fun _ => 0) c79_0 0 0 (fun v h' => ∃ r F : Int, v = some (0, r) ∧ (-1) ≤ r ∧ r ≤ 199 ∧ Gd G h' ∧ Kp [(7, 2), (7, 3), (7, 4), (10, 0), (11, 0), (12, 0), (13, 0), (14, 0), (15, 0), (16, 0), (17, 0)] h h' ∧ h'.2.2 7 1 = F ∧ ((-F) + w0) ≤ 0 ∧ ((-F) + (-r)) ≤ 1) (c79_68, [(2, 7), (2, 1), (0, 6), (0, a3), (0, x4), (0, x5), (0, x6)], [], h1, 0, 0)) := by
  intro N
  induction N with
  | zero => exact fun h1 x4 x5 x6 y0 g1 k1 b0 b1 b2 b3 b4 b5 b6 b7 b8 b9 b10 b11 b12 hm => absurd hm (by omega)
  | succ N ih =>
    show _
    intro h1 x4 x5 x6 y0 g1 k1 b0 b1 b2 b3 b4 b5 b6 b7 b8 b9 ey0 ly0 uy0 hm
    refine ev_iload rfl ?_
    refine ev_aload_n rfl ?_
    refine ev_iload rfl ?_
    refine ev_in (d := 14) (a := 0) (b := 0) (cd' := c141_0) (m := 2) (L0 := [(2, 1), (0, x4)]) (jcall_v (A := [(0, x4)]) (S' := [(0, x6)]) (r := 1) rfl (g1.lt ad1) (g1.tg ad1) (Nat.le_of_ble_eq_true rfl)) (by decide) ml141 pp141 (Nat.le_of_ble_eq_true rfl) rfl (by decide) (by decide) ?_
    refine ev_aload_n rfl ?_
    refine ev_iload_n rfl ?_
    refine ev_in (d := 13) (a := 0) (b := 0) (cd' := c140_0) (m := 2) (L0 := [(2, 1), (0, x4)]) (jcall_v (A := [(0, x4)]) (S' := []) (r := 1) rfl (g1.lt ad1) (g1.tg ad1) (Nat.le_of_ble_eq_true rfl)) (by decide) ml140 pp140 (Nat.le_of_ble_eq_true rfl) rfl (by decide) (by decide) ?_
    refine ev_iload_n rfl ?_
    refine ev_iflt f140_16 (fun c20678 => absurd c20678 (by omega)) (fun c20678 => ?_)
    refine ev_iload_n rfl ?_
    refine ev_aload_n rfl ?_
    obtain ⟨v20679, ev20679, lv20679, uv20679⟩ := g1.rd ad1 (show 0 < 8 by decide) rf1_0
    refine g_getv (r := 1) (v := v20679) g1 ad1 (by decide) ft10_0 ev20679 ?_
    refine ev_icmpge f140_16 (fun c20680 => ?_) (fun c20680 => ?_)
    · refine ev_iconst ?_
      refine ev_ret rfl (by decide) (by decide) ?_
      show jEv _ _ _ _ _ _ _ (_, [(2, 1), (0, x4)], [(0, 0)], _, _, _)
      refine ev_ifeq f141_17 (fun c20681 => ?_) (fun c20681 => absurd c20681 (by omega))
      refine ev_iconst ?_
      refine ev_ret rfl (by decide) (by decide) ?_
      show jEv _ _ _ _ _ _ _ (_, [(2, 7), (2, 1), (0, 6), (0, a3), (0, x4), (0, x5), (0, x6)], [(0, 0), (0, x6)], _, _, _)
      refine ev_icmpge f79_126 (fun c20682 => ?_) (fun c20682 => absurd c20682 (by omega))
      refine ev_aload_n rfl ?_
      refine ev_bipush ?_
      refine ev_call (jcall_v (A := [(0, 41)]) (S' := []) (r := 7) rfl (g1.lt ad7) (g1.tg ad7) (Nat.le_of_ble_eq_true rfl)) (jOk_le (by decide) (s71 g1 (by omega) (by omega) (ey0) (by omega) (by omega))) (by decide) (by decide) (fun w20683 h20683 q20683 => ?_)
      obtain ⟨v20684, rfl, g20683, kk20683, ev20684, p20683_0⟩ := q20683
      have bv20684 := g20683.rg ad7 (i := 1) (by decide) rf7_1
      rw [ev20684] at bv20684
      have k20683 := k1.tr kk20683 (by decide)
      show jEv _ _ _ _ _ _ _ (_, [(2, 7), (2, 1), (0, 6), (0, a3), (0, x4), (0, x5), (0, x6)], [], _, _, _)
      refine ev_aload_n rfl ?_
      refine g_getv (r := 7) (v := v20684) g20683 ad7 (by decide) ft5_1 (ev20684) ?_
      refine ev_ifge f79_144 (fun c20685 => ?_) (fun c20685 => ?_)
      · refine ev_iconst ?_
        exact ev_ret rfl (by decide) (by decide) ⟨_, _, rfl, by omega, by omega, g20683, k20683, (ev20684), by omega, by omega⟩
      · refine ev_iload rfl ?_
        refine ev_ifge f79_146 (fun c20686 => ?_) (fun c20686 => absurd c20686 (by omega))
        refine ev_aload_n rfl ?_
        refine g_getp (r := 7) (c := 11) g20683 ad7 (by decide) (by decide) rf7_8 ft5_8 ?_
        refine ev_iload rfl ?_
        refine ev_iload rfl ?_
        refine g_iast g20683 ad11 rt11 (fun _ => rfl) (by omega) (by omega) (by omega) (by omega) (fun h20687 e20687 g20687 => ?_)
        have k20687 := k20683.wr e20687 rfl
        refine ev_aload_n rfl ?_
        refine g_getp (r := 7) (c := 15) g20687 ad7 (by decide) (by decide) rf7_12 ft5_12 ?_
        refine ev_iload rfl ?_
        refine ev_dup2 (by decide) (by decide) ?_
        refine g_iald g20687 ad15 rt15 (by omega) (by omega) (fun v20688 ev20688 lv20688 uv20688 => ?_)
        refine ev_iconst ?_
        refine ev_iload rfl ?_
        refine g_ishlB (a' := 1) (a := 1) (b := 3) (hi := 8) (by omega) (by omega) (by omega) (by omega) (by decide) (by decide) (fun v20689 ev20689 lv20689 uv20689 => ?_)
        refine g_iorG (fun v20690 ev20690 lv20690 uv20690 => ?_)
        refine g_iast g20687 ad15 rt15 (fun _ => rfl) (by omega) (by omega) (by omega) (by omega) (fun h20691 e20691 g20691 => ?_)
        have k20691 := k20687.wr e20691 rfl
        refine ev_iload rfl ?_
        exact ev_ret rfl (by decide) (by decide) ⟨_, _, rfl, by omega, by omega, g20691, k20691, (((jw_ne e20691 (Or.inl (by decide))).trans ((jw_ne e20687 (Or.inl (by decide))).trans ev20684))), by omega, by omega⟩
    · refine ev_iconst ?_
      refine ev_goto f140_17 ?_
      refine ev_ret rfl (by decide) (by decide) ?_
      show jEv _ _ _ _ _ _ _ (_, [(2, 1), (0, x4)], [(0, 1)], _, _, _)
      refine ev_ifeq f141_17 (fun c20692 => absurd c20692 (by omega)) (fun c20692 => ?_)
      refine ev_aload_n rfl ?_
      refine g_getp (r := 1) (c := 2) g1 ad1 (by decide) (by decide) rf1_3 ft10_3 ?_
      refine ev_iload_n rfl ?_
      refine g_iald g1 ad2 rt2 (by omega) (by omega) (fun v20693 ev20693 lv20693 uv20693 => ?_)
      have xv20693 := (g1.ex.1.1 (x4 : Int).toNat (by rw [(ev20679)]; omega))
      rw [ev20693] at xv20693
      refine ev_goto f141_18 ?_
      refine ev_ret rfl (by decide) (by decide) ?_
      show jEv _ _ _ _ _ _ _ (_, [(2, 7), (2, 1), (0, 6), (0, a3), (0, x4), (0, x5), (0, x6)], [(0, v20693), (0, x6)], _, _, _)
      refine ev_icmpge f79_126 (fun c20694 => ?_) (fun c20694 => ?_)
      · refine ev_aload_n rfl ?_
        refine ev_bipush ?_
        refine ev_call (jcall_v (A := [(0, 41)]) (S' := []) (r := 7) rfl (g1.lt ad7) (g1.tg ad7) (Nat.le_of_ble_eq_true rfl)) (jOk_le (by decide) (s71 g1 (by omega) (by omega) (ey0) (by omega) (by omega))) (by decide) (by decide) (fun w20695 h20695 q20695 => ?_)
        obtain ⟨v20696, rfl, g20695, kk20695, ev20696, p20695_0⟩ := q20695
        have bv20696 := g20695.rg ad7 (i := 1) (by decide) rf7_1
        rw [ev20696] at bv20696
        have k20695 := k1.tr kk20695 (by decide)
        show jEv _ _ _ _ _ _ _ (_, [(2, 7), (2, 1), (0, 6), (0, a3), (0, x4), (0, x5), (0, x6)], [], _, _, _)
        refine ev_aload_n rfl ?_
        refine g_getv (r := 7) (v := v20696) g20695 ad7 (by decide) ft5_1 (ev20696) ?_
        refine ev_ifge f79_144 (fun c20697 => ?_) (fun c20697 => ?_)
        · refine ev_iconst ?_
          exact ev_ret rfl (by decide) (by decide) ⟨_, _, rfl, by omega, by omega, g20695, k20695, (ev20696), by omega, by omega⟩
        · refine ev_iload rfl ?_
          refine ev_ifge f79_146 (fun c20698 => ?_) (fun c20698 => absurd c20698 (by omega))
          refine ev_aload_n rfl ?_
          refine g_getp (r := 7) (c := 11) g20695 ad7 (by decide) (by decide) rf7_8 ft5_8 ?_
          refine ev_iload rfl ?_
          refine ev_iload rfl ?_
          refine g_iast g20695 ad11 rt11 (fun _ => rfl) (by omega) (by omega) (by omega) (by omega) (fun h20699 e20699 g20699 => ?_)
          have k20699 := k20695.wr e20699 rfl
          refine ev_aload_n rfl ?_
          refine g_getp (r := 7) (c := 15) g20699 ad7 (by decide) (by decide) rf7_12 ft5_12 ?_
          refine ev_iload rfl ?_
          refine ev_dup2 (by decide) (by decide) ?_
          refine g_iald g20699 ad15 rt15 (by omega) (by omega) (fun v20700 ev20700 lv20700 uv20700 => ?_)
          refine ev_iconst ?_
          refine ev_iload rfl ?_
          refine g_ishlB (a' := 1) (a := 1) (b := 3) (hi := 8) (by omega) (by omega) (by omega) (by omega) (by decide) (by decide) (fun v20701 ev20701 lv20701 uv20701 => ?_)
          refine g_iorG (fun v20702 ev20702 lv20702 uv20702 => ?_)
          refine g_iast g20699 ad15 rt15 (fun _ => rfl) (by omega) (by omega) (by omega) (by omega) (fun h20703 e20703 g20703 => ?_)
          have k20703 := k20699.wr e20703 rfl
          refine ev_iload rfl ?_
          exact ev_ret rfl (by decide) (by decide) ⟨_, _, rfl, by omega, by omega, g20703, k20703, (((jw_ne e20703 (Or.inl (by decide))).trans ((jw_ne e20699 (Or.inl (by decide))).trans ev20696))), by omega, by omega⟩
      · refine ev_aload_n rfl ?_
        refine g_getv (r := 7) (v := y0) g1 ad7 (by decide) ft5_1 (ey0) ?_
        refine ev_ifge f79_126 (fun c20704 => ?_) (fun c20704 => ?_)
        · refine ev_aload_n rfl ?_
          refine ev_bipush ?_
          refine ev_call (jcall_v (A := [(0, 41)]) (S' := []) (r := 7) rfl (g1.lt ad7) (g1.tg ad7) (Nat.le_of_ble_eq_true rfl)) (jOk_le (by decide) (s71 g1 (by omega) (by omega) (ey0) (by omega) (by omega))) (by decide) (by decide) (fun w20705 h20705 q20705 => ?_)
          obtain ⟨v20706, rfl, g20705, kk20705, ev20706, p20705_0⟩ := q20705
          have bv20706 := g20705.rg ad7 (i := 1) (by decide) rf7_1
          rw [ev20706] at bv20706
          have k20705 := k1.tr kk20705 (by decide)
          show jEv _ _ _ _ _ _ _ (_, [(2, 7), (2, 1), (0, 6), (0, a3), (0, x4), (0, x5), (0, x6)], [], _, _, _)
          refine ev_aload_n rfl ?_
          refine g_getv (r := 7) (v := v20706) g20705 ad7 (by decide) ft5_1 (ev20706) ?_
          refine ev_ifge f79_144 (fun c20707 => ?_) (fun c20707 => absurd c20707 (by omega))
          refine ev_iconst ?_
          exact ev_ret rfl (by decide) (by decide) ⟨_, _, rfl, by omega, by omega, g20705, k20705, (ev20706), by omega, by omega⟩
        · refine ev_iload rfl ?_
          refine ev_ifle f79_97 (fun c20708 => ?_) (fun c20708 => ?_)
          · refine ev_aload_n rfl ?_
            refine ev_iload rfl ?_
            refine ev_iload rfl ?_
            refine ev_iconst ?_
            refine ev_aload_n rfl ?_
            refine ev_aload_n rfl ?_
            refine ev_iload_n rfl ?_
            refine ev_iconst ?_
            refine ev_iadd (r := 7) (by decide) ?_
            refine ev_iload_n rfl ?_
            refine ev_iconst ?_
            refine ev_iload rfl ?_
            refine g_ishlB (a' := 1) (a := 1) (b := 3) (hi := 8) (by omega) (by omega) (by omega) (by omega) (by decide) (by decide) (fun v20709 ev20709 lv20709 uv20709 => ?_)
            refine g_iorG (fun v20710 ev20710 lv20710 uv20710 => ?_)
            refine ev_call (jcall_v (A := [(0, v20710), (0, 7), (2, 1)]) (S' := [(0, 0), (0, x6), (0, x5), (2, 7)]) (r := 7) rfl (g1.lt ad7) (g1.tg ad7) (Nat.le_of_ble_eq_true rfl)) (jOk_le (by decide) (s74_7 g1 (by omega) (by omega) (ey0) (by omega) (by omega))) (by decide) (by decide) (fun w20711 h20711 q20711 => ?_)
            obtain ⟨v20713, v20712, rfl, lv20713, uv20713, g20711, kk20711, ev20712, p20711_0, p20711_1⟩ := q20711
            have bv20712 := g20711.rg ad7 (i := 1) (by decide) rf7_1
            rw [ev20712] at bv20712
            have k20711 := k1.tr kk20711 (by decide)
            show jEv _ _ _ _ _ _ _ (_, [(2, 7), (2, 1), (0, 6), (0, a3), (0, x4), (0, x5), (0, x6)], [(0, v20713), (0, 0), (0, x6), (0, x5), (2, 7)], _, _, _)
            refine ev_call (jcall_v (A := [(0, v20713), (0, 0), (0, x6), (0, x5)]) (S' := []) (r := 7) rfl (g20711.lt ad7) (g20711.tg ad7) (Nat.le_of_ble_eq_true rfl)) (jOk_le (by decide) (s80 g20711 (by omega) (by omega) (by omega) (by omega) (by omega) (by omega) (by omega) (by omega))) (by decide) (by decide) (fun w20714 h20714 q20714 => ?_)
            obtain ⟨rfl, g20714, kk20714⟩ := q20714
            have k20714 := k20711.tr kk20714 (by decide)
            show jEv _ _ _ _ _ _ _ (_, [(2, 7), (2, 1), (0, 6), (0, a3), (0, x4), (0, x5), (0, x6)], [], _, _, _)
            refine ev_iinc (w := (x6 + 1)) (L' := [(2, 7), (2, 1), (0, 6), (0, a3), (0, x4), (0, x5), (0, (x6 + 1))]) rfl (by unfold w32; omega) rfl ?_
            refine ev_goto f79_68 ?_
            exact ih _ _ _ _ _ g20714 k20714 (by omega) (by omega) (by omega) (by omega) (by omega) (by omega) (by omega) (by omega) (by omega) (by omega) (((kk20714.v (by decide)).trans ev20712)) (by omega) (by omega) (by omega)
          · refine ev_aload_n rfl ?_
            refine ev_bipush ?_
            refine ev_call (jcall_v (A := [(0, 44)]) (S' := []) (r := 7) rfl (g1.lt ad7) (g1.tg ad7) (Nat.le_of_ble_eq_true rfl)) (jOk_le (by decide) (s71 g1 (by omega) (by omega) (ey0) (by omega) (by omega))) (by decide) (by decide) (fun w20715 h20715 q20715 => ?_)
            obtain ⟨v20716, rfl, g20715, kk20715, ev20716, p20715_0⟩ := q20715
            have bv20716 := g20715.rg ad7 (i := 1) (by decide) rf7_1
            rw [ev20716] at bv20716
            have k20715 := k1.tr kk20715 (by decide)
            show jEv _ _ _ _ _ _ _ (_, [(2, 7), (2, 1), (0, 6), (0, a3), (0, x4), (0, x5), (0, x6)], [], _, _, _)
            refine ev_aload_n rfl ?_
            refine ev_iload rfl ?_
            refine ev_iload rfl ?_
            refine ev_iconst ?_
            refine ev_aload_n rfl ?_
            refine ev_aload_n rfl ?_
            refine ev_iload_n rfl ?_
            refine ev_iconst ?_
            refine ev_iadd (r := 7) (by decide) ?_
            refine ev_iload_n rfl ?_
            refine ev_iconst ?_
            refine ev_iload rfl ?_
            refine g_ishlB (a' := 1) (a := 1) (b := 3) (hi := 8) (by omega) (by omega) (by omega) (by omega) (by decide) (by decide) (fun v20717 ev20717 lv20717 uv20717 => ?_)
            refine g_iorG (fun v20718 ev20718 lv20718 uv20718 => ?_)
            refine ev_call (jcall_v (A := [(0, v20718), (0, 7), (2, 1)]) (S' := [(0, 0), (0, x6), (0, x5), (2, 7)]) (r := 7) rfl (g20715.lt ad7) (g20715.tg ad7) (Nat.le_of_ble_eq_true rfl)) (jOk_le (by decide) (s74_7 g20715 (by omega) (by omega) (ev20716) (by omega) (by omega))) (by decide) (by decide) (fun w20719 h20719 q20719 => ?_)
            obtain ⟨v20721, v20720, rfl, lv20721, uv20721, g20719, kk20719, ev20720, p20719_0, p20719_1⟩ := q20719
            have bv20720 := g20719.rg ad7 (i := 1) (by decide) rf7_1
            rw [ev20720] at bv20720
            have k20719 := k20715.tr kk20719 (by decide)
            show jEv _ _ _ _ _ _ _ (_, [(2, 7), (2, 1), (0, 6), (0, a3), (0, x4), (0, x5), (0, x6)], [(0, v20721), (0, 0), (0, x6), (0, x5), (2, 7)], _, _, _)
            refine ev_call (jcall_v (A := [(0, v20721), (0, 0), (0, x6), (0, x5)]) (S' := []) (r := 7) rfl (g20719.lt ad7) (g20719.tg ad7) (Nat.le_of_ble_eq_true rfl)) (jOk_le (by decide) (s80 g20719 (by omega) (by omega) (by omega) (by omega) (by omega) (by omega) (by omega) (by omega))) (by decide) (by decide) (fun w20722 h20722 q20722 => ?_)
            obtain ⟨rfl, g20722, kk20722⟩ := q20722
            have k20722 := k20719.tr kk20722 (by decide)
            show jEv _ _ _ _ _ _ _ (_, [(2, 7), (2, 1), (0, 6), (0, a3), (0, x4), (0, x5), (0, x6)], [], _, _, _)
            refine ev_iinc (w := (x6 + 1)) (L' := [(2, 7), (2, 1), (0, 6), (0, a3), (0, x4), (0, x5), (0, (x6 + 1))]) rfl (by unfold w32; omega) rfl ?_
            refine ev_goto f79_68 ?_
            exact ih _ _ _ _ _ g20722 k20722 (by omega) (by omega) (by omega) (by omega) (by omega) (by omega) (by omega) (by omega) (by omega) (by omega) (((kk20722.v (by decide)).trans ev20720)) (by omega) (by omega) (by omega)
set_option maxHeartbeats 4000000 in
theorem s79_6 {G : GH} {h : JH} (g : Gd G h) {a3 : Int} (la3 : (-2147483648) ≤ a3) (ua3 : a3 ≤ 2147483647) {w0 : Int} (ew0 : h.2.2 7 1 = w0) (lw0 : (-1) ≤ w0) (uw0 : w0 ≤ 200) {w1 : Int} (ew1 : h.2.2 7 2 = w1) (lw1 : 0 ≤ w1) (uw1 : w1 ≤ 199) : jOk 16 0 0 79 [(2, 7), (2, 1), (0, 6), (0, a3)] h (fun v h' => ∃ r F : Int, v = some (0, r) ∧ (-1) ≤ r ∧ r ≤ 199 ∧ Gd G h' ∧ Kp [(7, 2), (7, 3), (7, 4), (10, 0), (11, 0), (12, 0), (13, 0), (14, 0), (15, 0), (16, 0), (17, 0)] h h' ∧ h'.2.2 7 1 = F ∧ ((-F) + w0) ≤ 0 ∧ ((-F) + (-r)) ≤ 1) := by
  refine ⟨by decide, by rw [ml79]; exact Nat.le_of_ble_eq_true rfl, ?_⟩
  rw [ml79, pp79]
  show jEv _ none _ c79_0 0 0 _ (c79_0, [(2, 7), (2, 1), (0, 6), (0, a3), (9, 0), (9, 0), (9, 0)], [], h, 0, 0)
  have k0 := Kp.rf [(7, 2), (7, 3), (7, 4), (10, 0), (11, 0), (12, 0), (13, 0), (14, 0), (15, 0), (16, 0), (17, 0)] h
  refine ev_aload_n rfl ?_
  refine ev_dup (by decide) ?_
  refine g_getv (r := 7) (v := w1) g ad7 (by decide) ft5_2 (ew1) ?_
  refine ev_iconst ?_
  refine ev_iadd (r := (w1 + 1)) (by unfold w32; omega) ?_
  refine g_putf (r := 7) g ad7 (by decide) ft5_2 (by decide) (fun e => absurd e nz5_2) rf7_2 (by decide) (by omega) (by omega) (fun h20723 e20723 g20723 => ?_)
  have k20723 := k0.wr e20723 rfl
  refine ev_aload_n rfl ?_
  refine ev_in (d := 14) (a := 0) (b := 0) (cd' := c68_0) (m := 1) (L0 := [(2, 7)]) (jcall_v (A := []) (S' := []) (r := 7) rfl (g20723.lt ad7) (g20723.tg ad7) (Nat.le_of_ble_eq_true rfl)) (by decide) ml68 pp68 (Nat.le_of_ble_eq_true rfl) rfl (by decide) (by decide) ?_
  refine ev_aload_n rfl ?_
  refine g_getv (r := 7) (v := (w1 + 1)) g20723 ad7 (by decide) ft5_2 ((jw_eq e20723)) ?_
  refine ev_aload_n rfl ?_
  obtain ⟨v20724, ev20724, lv20724, uv20724⟩ := g20723.rd ad7 (show 0 < 15 by decide) rf7_0
  refine g_getv (r := 7) (v := v20724) g20723 ad7 (by decide) ft5_0 ev20724 ?_
  refine ev_icmpge f68_27 (fun c20725 => ?_) (fun c20725 => ?_)
  · refine ev_iconst ?_
    refine ev_ret rfl (by decide) (by decide) ?_
    show jEv _ _ _ _ _ _ _ (_, [(2, 7), (2, 1), (0, 6), (0, a3), (9, 0), (9, 0), (9, 0)], [(0, (-1))], _, _, _)
    refine ev_bipush ?_
    refine ev_isub (r := (-98)) (by decide) ?_
    refine ev_istore (L' := [(2, 7), (2, 1), (0, 6), (0, a3), (0, (-98)), (9, 0), (9, 0)]) (Nat.le_of_ble_eq_true rfl) rfl ?_
    refine ev_aload_n rfl ?_
    refine ev_iload rfl ?_
    refine ev_in (d := 14) (a := 0) (b := 0) (cd' := c140_0) (m := 2) (L0 := [(2, 1), (0, (-98))]) (jcall_v (A := [(0, (-98))]) (S' := []) (r := 1) rfl (g20723.lt ad1) (g20723.tg ad1) (Nat.le_of_ble_eq_true rfl)) (by decide) ml140 pp140 (Nat.le_of_ble_eq_true rfl) rfl (by decide) (by decide) ?_
    refine ev_iload_n rfl ?_
    refine ev_iflt f140_16 (fun c20726 => ?_) (fun c20726 => absurd c20726 (by omega))
    refine ev_iconst ?_
    refine ev_ret rfl (by decide) (by decide) ?_
    show jEv _ _ _ _ _ _ _ (_, [(2, 7), (2, 1), (0, 6), (0, a3), (0, (-98)), (9, 0), (9, 0)], [(0, 0)], _, _, _)
    refine ev_ifeq f79_37 (fun c20727 => ?_) (fun c20727 => absurd c20727 (by omega))
    refine ev_aload_n rfl ?_
    refine ev_in (d := 14) (a := 0) (b := 0) (cd' := c70_0) (m := 1) (L0 := [(2, 7)]) (jcall_v (A := []) (S' := []) (r := 7) rfl (g20723.lt ad7) (g20723.tg ad7) (Nat.le_of_ble_eq_true rfl)) (by decide) ml70 pp70 (Nat.le_of_ble_eq_true rfl) rfl (by decide) (by decide) ?_
    refine ev_aload_n rfl ?_
    refine g_getv (r := 7) (v := w0) g20723 ad7 (by decide) ft5_1 (((jw_ne e20723 (Or.inr (by decide))).trans ew0)) ?_
    refine ev_ifge f70_15 (fun c20728 => ?_) (fun c20728 => ?_)
    · refine ev_ret rfl (by decide) (by decide) ?_
      show jEv _ _ _ _ _ _ _ (_, [(2, 7), (2, 1), (0, 6), (0, a3), (0, (-98)), (9, 0), (9, 0)], [], _, _, _)
      refine ev_iconst ?_
      exact ev_ret rfl (by decide) (by decide) ⟨_, _, rfl, by omega, by omega, g20723, k20723, (((jw_ne e20723 (Or.inr (by decide))).trans ew0)), by omega, by omega⟩
    · refine ev_aload_n rfl ?_
      refine ev_aload_n rfl ?_
      refine g_getv (r := 7) (v := (w1 + 1)) g20723 ad7 (by decide) ft5_2 ((jw_eq e20723)) ?_
      refine g_putf (r := 7) g20723 ad7 (by decide) ft5_1 (by decide) (fun e => absurd e nz5_1) rf7_1 (by decide) (by omega) (by omega) (fun h20729 e20729 g20729 => ?_)
      have k20729 := k20723.wr e20729 rfl
      refine ev_ret rfl (by decide) (by decide) ?_
      show jEv _ _ _ _ _ _ _ (_, [(2, 7), (2, 1), (0, 6), (0, a3), (0, (-98)), (9, 0), (9, 0)], [], _, _, _)
      refine ev_iconst ?_
      exact ev_ret rfl (by decide) (by decide) ⟨_, _, rfl, by omega, by omega, g20729, k20729, ((jw_eq e20729)), by omega, by omega⟩
  · refine ev_aload_n rfl ?_
    refine g_getp (r := 7) (c := 8) g20723 ad7 (by decide) (by decide) rf7_5 ft5_5 ?_
    refine ev_aload_n rfl ?_
    refine g_getv (r := 7) (v := (w1 + 1)) g20723 ad7 (by decide) ft5_2 ((jw_eq e20723)) ?_
    refine g_bald g20723 ad8 rt8 (by omega) (by omega) (fun v20730 ev20730 lv20730 uv20730 => ?_)
    refine ev_sipush ?_
    refine g_iandB (b := 255) (by omega) (by omega) (by decide) (fun v20731 ev20731 lv20731 uv20731 => ?_)
    refine ev_goto f68_28 ?_
    refine ev_ret rfl (by decide) (by decide) ?_
    show jEv _ _ _ _ _ _ _ (_, [(2, 7), (2, 1), (0, 6), (0, a3), (9, 0), (9, 0), (9, 0)], [(0, v20731)], _, _, _)
    refine ev_bipush ?_
    refine ev_isub (r := (v20731 - 97)) (by unfold w32; omega) ?_
    refine ev_istore (L' := [(2, 7), (2, 1), (0, 6), (0, a3), (0, (v20731 - 97)), (9, 0), (9, 0)]) (Nat.le_of_ble_eq_true rfl) rfl ?_
    refine ev_aload_n rfl ?_
    refine ev_iload rfl ?_
    refine ev_in (d := 14) (a := 0) (b := 0) (cd' := c140_0) (m := 2) (L0 := [(2, 1), (0, (v20731 - 97))]) (jcall_v (A := [(0, (v20731 - 97))]) (S' := []) (r := 1) rfl (g20723.lt ad1) (g20723.tg ad1) (Nat.le_of_ble_eq_true rfl)) (by decide) ml140 pp140 (Nat.le_of_ble_eq_true rfl) rfl (by decide) (by decide) ?_
    refine ev_iload_n rfl ?_
    refine ev_iflt f140_16 (fun c20732 => ?_) (fun c20732 => ?_)
    · refine ev_iconst ?_
      refine ev_ret rfl (by decide) (by decide) ?_
      show jEv _ _ _ _ _ _ _ (_, [(2, 7), (2, 1), (0, 6), (0, a3), (0, (v20731 - 97)), (9, 0), (9, 0)], [(0, 0)], _, _, _)
      refine ev_ifeq f79_37 (fun c20733 => ?_) (fun c20733 => absurd c20733 (by omega))
      refine ev_aload_n rfl ?_
      refine ev_in (d := 14) (a := 0) (b := 0) (cd' := c70_0) (m := 1) (L0 := [(2, 7)]) (jcall_v (A := []) (S' := []) (r := 7) rfl (g20723.lt ad7) (g20723.tg ad7) (Nat.le_of_ble_eq_true rfl)) (by decide) ml70 pp70 (Nat.le_of_ble_eq_true rfl) rfl (by decide) (by decide) ?_
      refine ev_aload_n rfl ?_
      refine g_getv (r := 7) (v := w0) g20723 ad7 (by decide) ft5_1 (((jw_ne e20723 (Or.inr (by decide))).trans ew0)) ?_
      refine ev_ifge f70_15 (fun c20734 => ?_) (fun c20734 => ?_)
      · refine ev_ret rfl (by decide) (by decide) ?_
        show jEv _ _ _ _ _ _ _ (_, [(2, 7), (2, 1), (0, 6), (0, a3), (0, (v20731 - 97)), (9, 0), (9, 0)], [], _, _, _)
        refine ev_iconst ?_
        exact ev_ret rfl (by decide) (by decide) ⟨_, _, rfl, by omega, by omega, g20723, k20723, (((jw_ne e20723 (Or.inr (by decide))).trans ew0)), by omega, by omega⟩
      · refine ev_aload_n rfl ?_
        refine ev_aload_n rfl ?_
        refine g_getv (r := 7) (v := (w1 + 1)) g20723 ad7 (by decide) ft5_2 ((jw_eq e20723)) ?_
        refine g_putf (r := 7) g20723 ad7 (by decide) ft5_1 (by decide) (fun e => absurd e nz5_1) rf7_1 (by decide) (by omega) (by omega) (fun h20735 e20735 g20735 => ?_)
        have k20735 := k20723.wr e20735 rfl
        refine ev_ret rfl (by decide) (by decide) ?_
        show jEv _ _ _ _ _ _ _ (_, [(2, 7), (2, 1), (0, 6), (0, a3), (0, (v20731 - 97)), (9, 0), (9, 0)], [], _, _, _)
        refine ev_iconst ?_
        exact ev_ret rfl (by decide) (by decide) ⟨_, _, rfl, by omega, by omega, g20735, k20735, ((jw_eq e20735)), by omega, by omega⟩
    · refine ev_iload_n rfl ?_
      refine ev_aload_n rfl ?_
      obtain ⟨v20736, ev20736, lv20736, uv20736⟩ := g20723.rd ad1 (show 0 < 8 by decide) rf1_0
      refine g_getv (r := 1) (v := v20736) g20723 ad1 (by decide) ft10_0 ev20736 ?_
      refine ev_icmpge f140_16 (fun c20737 => ?_) (fun c20737 => ?_)
      · refine ev_iconst ?_
        refine ev_ret rfl (by decide) (by decide) ?_
        show jEv _ _ _ _ _ _ _ (_, [(2, 7), (2, 1), (0, 6), (0, a3), (0, (v20731 - 97)), (9, 0), (9, 0)], [(0, 0)], _, _, _)
        refine ev_ifeq f79_37 (fun c20738 => ?_) (fun c20738 => absurd c20738 (by omega))
        refine ev_aload_n rfl ?_
        refine ev_in (d := 14) (a := 0) (b := 0) (cd' := c70_0) (m := 1) (L0 := [(2, 7)]) (jcall_v (A := []) (S' := []) (r := 7) rfl (g20723.lt ad7) (g20723.tg ad7) (Nat.le_of_ble_eq_true rfl)) (by decide) ml70 pp70 (Nat.le_of_ble_eq_true rfl) rfl (by decide) (by decide) ?_
        refine ev_aload_n rfl ?_
        refine g_getv (r := 7) (v := w0) g20723 ad7 (by decide) ft5_1 (((jw_ne e20723 (Or.inr (by decide))).trans ew0)) ?_
        refine ev_ifge f70_15 (fun c20739 => ?_) (fun c20739 => ?_)
        · refine ev_ret rfl (by decide) (by decide) ?_
          show jEv _ _ _ _ _ _ _ (_, [(2, 7), (2, 1), (0, 6), (0, a3), (0, (v20731 - 97)), (9, 0), (9, 0)], [], _, _, _)
          refine ev_iconst ?_
          exact ev_ret rfl (by decide) (by decide) ⟨_, _, rfl, by omega, by omega, g20723, k20723, (((jw_ne e20723 (Or.inr (by decide))).trans ew0)), by omega, by omega⟩
        · refine ev_aload_n rfl ?_
          refine ev_aload_n rfl ?_
          refine g_getv (r := 7) (v := (w1 + 1)) g20723 ad7 (by decide) ft5_2 ((jw_eq e20723)) ?_
          refine g_putf (r := 7) g20723 ad7 (by decide) ft5_1 (by decide) (fun e => absurd e nz5_1) rf7_1 (by decide) (by omega) (by omega) (fun h20740 e20740 g20740 => ?_)
          have k20740 := k20723.wr e20740 rfl
          refine ev_ret rfl (by decide) (by decide) ?_
          show jEv _ _ _ _ _ _ _ (_, [(2, 7), (2, 1), (0, 6), (0, a3), (0, (v20731 - 97)), (9, 0), (9, 0)], [], _, _, _)
          refine ev_iconst ?_
          exact ev_ret rfl (by decide) (by decide) ⟨_, _, rfl, by omega, by omega, g20740, k20740, ((jw_eq e20740)), by omega, by omega⟩
      · refine ev_iconst ?_
        refine ev_goto f140_17 ?_
        refine ev_ret rfl (by decide) (by decide) ?_
        show jEv _ _ _ _ _ _ _ (_, [(2, 7), (2, 1), (0, 6), (0, a3), (0, (v20731 - 97)), (9, 0), (9, 0)], [(0, 1)], _, _, _)
        refine ev_ifeq f79_37 (fun c20741 => absurd c20741 (by omega)) (fun c20741 => ?_)
        refine ev_iload_n rfl ?_
        refine ev_iload rfl ?_
        refine g_ishrG (fun v20742 ev20742 lv20742 uv20742 => ?_)
        refine ev_iconst ?_
        refine g_iandB (b := 1) (by omega) (by omega) (by decide) (fun v20743 ev20743 lv20743 uv20743 => ?_)
        refine ev_ifeq f79_43 (fun c20744 => ?_) (fun c20744 => ?_)
        · refine ev_aload_n rfl ?_
          refine ev_dup (by decide) ?_
          refine g_getv (r := 7) (v := (w1 + 1)) g20723 ad7 (by decide) ft5_2 ((jw_eq e20723)) ?_
          refine ev_iconst ?_
          refine ev_iadd (r := (w1 + 2)) (by unfold w32; omega) ?_
          refine g_putf (r := 7) g20723 ad7 (by decide) ft5_2 (by decide) (fun e => absurd e nz5_2) rf7_2 (by decide) (by omega) (by omega) (fun h20745 e20745 g20745 => ?_)
          have k20745 := k20723.wr e20745 rfl
          refine ev_aload_n rfl ?_
          refine ev_iload_n rfl ?_
          refine ev_call (jcall_v (A := [(0, 6)]) (S' := []) (r := 7) rfl (g20745.lt ad7) (g20745.tg ad7) (Nat.le_of_ble_eq_true rfl)) (jOk_le (by decide) (s72 g20745 (by omega) (by omega) (((jw_ne e20745 (Or.inr (by decide))).trans ((jw_ne e20723 (Or.inr (by decide))).trans ew0))) (by omega) (by omega))) (by decide) (by decide) (fun w20746 h20746 q20746 => ?_)
          obtain ⟨v20747, rfl, g20746, kk20746, ev20747, p20746_0⟩ := q20746
          have bv20747 := g20746.rg ad7 (i := 1) (by decide) rf7_1
          rw [ev20747] at bv20747
          have k20746 := k20745.tr kk20746 (by decide)
          show jEv _ _ _ _ _ _ _ (_, [(2, 7), (2, 1), (0, 6), (0, a3), (0, (v20731 - 97)), (9, 0), (9, 0)], [], _, _, _)
          refine ev_aload_n rfl ?_
          refine ev_iconst ?_
          refine ev_call (jcall_v (A := [(0, 2)]) (S' := []) (r := 7) rfl (g20746.lt ad7) (g20746.tg ad7) (Nat.le_of_ble_eq_true rfl)) (jOk_le (by decide) (s73 g20746 (by omega) (by omega) (ev20747) (by omega) (by omega))) (by decide) (by decide) (fun w20748 h20748 q20748 => ?_)
          obtain ⟨v20750, v20749, rfl, lv20750, uv20750, g20748, kk20748, ev20749, p20748_0, p20748_1⟩ := q20748
          have bv20749 := g20748.rg ad7 (i := 1) (by decide) rf7_1
          rw [ev20749] at bv20749
          have k20748 := k20746.tr kk20748 (by decide)
          show jEv _ _ _ _ _ _ _ (_, [(2, 7), (2, 1), (0, 6), (0, a3), (0, (v20731 - 97)), (9, 0), (9, 0)], [(0, v20750)], _, _, _)
          refine ev_istore (L' := [(2, 7), (2, 1), (0, 6), (0, a3), (0, (v20731 - 97)), (0, v20750), (9, 0)]) (Nat.le_of_ble_eq_true rfl) rfl ?_
          refine ev_iconst ?_
          refine ev_istore (L' := [(2, 7), (2, 1), (0, 6), (0, a3), (0, (v20731 - 97)), (0, v20750), (0, 0)]) (Nat.le_of_ble_eq_true rfl) rfl ?_
          exact (s79_6_l la3 ua3 ew0 lw0 uw0 ew1 lw1 uw1 8) _ _ _ _ _ g20748 k20748 (by omega) (by omega) (by omega) (by omega) (by omega) (by omega) (by omega) (by omega) (by omega) (by omega) (ev20749) (by omega) (by omega) (by omega)
        · refine ev_aload_n rfl ?_
          refine ev_in (d := 14) (a := 0) (b := 0) (cd' := c70_0) (m := 1) (L0 := [(2, 7)]) (jcall_v (A := []) (S' := []) (r := 7) rfl (g20723.lt ad7) (g20723.tg ad7) (Nat.le_of_ble_eq_true rfl)) (by decide) ml70 pp70 (Nat.le_of_ble_eq_true rfl) rfl (by decide) (by decide) ?_
          refine ev_aload_n rfl ?_
          refine g_getv (r := 7) (v := w0) g20723 ad7 (by decide) ft5_1 (((jw_ne e20723 (Or.inr (by decide))).trans ew0)) ?_
          refine ev_ifge f70_15 (fun c20751 => ?_) (fun c20751 => ?_)
          · refine ev_ret rfl (by decide) (by decide) ?_
            show jEv _ _ _ _ _ _ _ (_, [(2, 7), (2, 1), (0, 6), (0, a3), (0, (v20731 - 97)), (9, 0), (9, 0)], [], _, _, _)
            refine ev_iconst ?_
            exact ev_ret rfl (by decide) (by decide) ⟨_, _, rfl, by omega, by omega, g20723, k20723, (((jw_ne e20723 (Or.inr (by decide))).trans ew0)), by omega, by omega⟩
          · refine ev_aload_n rfl ?_
            refine ev_aload_n rfl ?_
            refine g_getv (r := 7) (v := (w1 + 1)) g20723 ad7 (by decide) ft5_2 ((jw_eq e20723)) ?_
            refine g_putf (r := 7) g20723 ad7 (by decide) ft5_1 (by decide) (fun e => absurd e nz5_1) rf7_1 (by decide) (by omega) (by omega) (fun h20752 e20752 g20752 => ?_)
            have k20752 := k20723.wr e20752 rfl
            refine ev_ret rfl (by decide) (by decide) ?_
            show jEv _ _ _ _ _ _ _ (_, [(2, 7), (2, 1), (0, 6), (0, a3), (0, (v20731 - 97)), (9, 0), (9, 0)], [], _, _, _)
            refine ev_iconst ?_
            exact ev_ret rfl (by decide) (by decide) ⟨_, _, rfl, by omega, by omega, g20752, k20752, ((jw_eq e20752)), by omega, by omega⟩
/-! s74_6  -/
set_option maxHeartbeats 4000000 in
theorem s74_6 {G : GH} {h : JH} (g : Gd G h) {a3 : Int} (la3 : (-2147483648) ≤ a3) (ua3 : a3 ≤ 2147483647) {w0 : Int} (ew0 : h.2.2 7 1 = w0) (lw0 : (-1) ≤ w0) (uw0 : w0 ≤ 200) : jOk 17 0 0 74 [(2, 7), (2, 1), (0, 6), (0, a3)] h (fun v h' => ∃ r F : Int, v = some (0, r) ∧ (-1) ≤ r ∧ r ≤ 199 ∧ Gd G h' ∧ Kp [(7, 2), (7, 3), (7, 4), (10, 0), (11, 0), (12, 0), (13, 0), (14, 0), (15, 0), (16, 0), (17, 0)] h h' ∧ h'.2.2 7 1 = F ∧ ((-F) + w0) ≤ 0 ∧ ((-F) + (-r)) ≤ 1) := by
  refine ⟨by decide, by rw [ml74]; exact Nat.le_of_ble_eq_true rfl, ?_⟩
  rw [ml74, pp74]
  show jEv _ none _ c74_0 0 0 _ (c74_0, [(2, 7), (2, 1), (0, 6), (0, a3), (9, 0)], [], h, 0, 0)
  have k0 := Kp.rf [(7, 2), (7, 3), (7, 4), (10, 0), (11, 0), (12, 0), (13, 0), (14, 0), (15, 0), (16, 0), (17, 0)] h
  refine ev_aload_n rfl ?_
  refine g_getv (r := 7) (v := w0) g ad7 (by decide) ft5_1 (ew0) ?_
  refine ev_ifge f74_13 (fun c20819 => ?_) (fun c20819 => ?_)
  · refine ev_aload_n rfl ?_
    refine ev_in (d := 15) (a := 0) (b := 0) (cd' := c70_0) (m := 1) (L0 := [(2, 7)]) (jcall_v (A := []) (S' := []) (r := 7) rfl (g.lt ad7) (g.tg ad7) (Nat.le_of_ble_eq_true rfl)) (by decide) ml70 pp70 (Nat.le_of_ble_eq_true rfl) rfl (by decide) (by decide) ?_
    refine ev_aload_n rfl ?_
    refine g_getv (r := 7) (v := w0) g ad7 (by decide) ft5_1 (ew0) ?_
    refine ev_ifge f70_15 (fun c20820 => ?_) (fun c20820 => absurd c20820 (by omega))
    refine ev_ret rfl (by decide) (by decide) ?_
    show jEv _ _ _ _ _ _ _ (_, [(2, 7), (2, 1), (0, 6), (0, a3), (9, 0)], [], _, _, _)
    refine ev_iconst ?_
    exact ev_ret rfl (by decide) (by decide) ⟨_, _, rfl, by omega, by omega, g, k0, (ew0), by omega, by omega⟩
  · refine ev_iload_n rfl ?_
    refine ev_bipush ?_
    refine ev_icmple f74_19 (fun c20821 => ?_) (fun c20821 => absurd c20821 (by omega))
    refine ev_aload_n rfl ?_
    refine ev_in (d := 15) (a := 0) (b := 0) (cd' := c68_0) (m := 1) (L0 := [(2, 7)]) (jcall_v (A := []) (S' := []) (r := 7) rfl (g.lt ad7) (g.tg ad7) (Nat.le_of_ble_eq_true rfl)) (by decide) ml68 pp68 (Nat.le_of_ble_eq_true rfl) rfl (by decide) (by decide) ?_
    refine ev_aload_n rfl ?_
    obtain ⟨v20822, ev20822, lv20822, uv20822⟩ := g.rd ad7 (show 2 < 15 by decide) rf7_2
    refine g_getv (r := 7) (v := v20822) g ad7 (by decide) ft5_2 ev20822 ?_
    refine ev_aload_n rfl ?_
    obtain ⟨v20823, ev20823, lv20823, uv20823⟩ := g.rd ad7 (show 0 < 15 by decide) rf7_0
    refine g_getv (r := 7) (v := v20823) g ad7 (by decide) ft5_0 ev20823 ?_
    refine ev_icmpge f68_27 (fun c20824 => ?_) (fun c20824 => ?_)
    · refine ev_iconst ?_
      refine ev_ret rfl (by decide) (by decide) ?_
      show jEv _ _ _ _ _ _ _ (_, [(2, 7), (2, 1), (0, 6), (0, a3), (9, 0)], [(0, (-1))], _, _, _)
      refine ev_istore (L' := [(2, 7), (2, 1), (0, 6), (0, a3), (0, (-1))]) (Nat.le_of_ble_eq_true rfl) rfl ?_
      refine ev_iload rfl ?_
      refine ev_bipush ?_
      refine ev_icmpne f74_40 (fun c20825 => ?_) (fun c20825 => absurd c20825 (by omega))
      refine ev_iload rfl ?_
      refine ev_bipush ?_
      refine ev_icmpne f74_55 (fun c20826 => ?_) (fun c20826 => absurd c20826 (by omega))
      refine ev_iload rfl ?_
      refine ev_bipush ?_
      refine ev_icmplt f74_78 (fun c20827 => ?_) (fun c20827 => absurd c20827 (by omega))
      refine ev_aload_n rfl ?_
      refine ev_call (jcall_v (A := []) (S' := []) (r := 7) rfl (g.lt ad7) (g.tg ad7) (Nat.le_of_ble_eq_true rfl)) (jOk_le (by decide) (s75 g (ew0) (by omega) (by omega))) (by decide) (by decide) (fun w20828 h20828 q20828 => ?_)
      obtain ⟨v20830, v20829, rfl, lv20830, uv20830, g20828, kk20828, ev20829, p20828_0, p20828_1⟩ := q20828
      have bv20829 := g20828.rg ad7 (i := 1) (by decide) rf7_1
      rw [ev20829] at bv20829
      have k20828 := k0.tr kk20828 (by decide)
      show jEv _ _ _ _ _ _ _ (_, [(2, 7), (2, 1), (0, 6), (0, a3), (0, (-1))], [(0, v20830)], _, _, _)
      exact ev_ret rfl (by decide) (by decide) ⟨_, _, rfl, by omega, by omega, g20828, k20828, (ev20829), by omega, by omega⟩
    · refine ev_aload_n rfl ?_
      refine g_getp (r := 7) (c := 8) g ad7 (by decide) (by decide) rf7_5 ft5_5 ?_
      refine ev_aload_n rfl ?_
      refine g_getv (r := 7) (v := v20822) g ad7 (by decide) ft5_2 (ev20822) ?_
      refine g_bald g ad8 rt8 (by omega) (by omega) (fun v20831 ev20831 lv20831 uv20831 => ?_)
      refine ev_sipush ?_
      refine g_iandB (b := 255) (by omega) (by omega) (by decide) (fun v20832 ev20832 lv20832 uv20832 => ?_)
      refine ev_goto f68_28 ?_
      refine ev_ret rfl (by decide) (by decide) ?_
      show jEv _ _ _ _ _ _ _ (_, [(2, 7), (2, 1), (0, 6), (0, a3), (9, 0)], [(0, v20832)], _, _, _)
      refine ev_istore (L' := [(2, 7), (2, 1), (0, 6), (0, a3), (0, v20832)]) (Nat.le_of_ble_eq_true rfl) rfl ?_
      refine ev_iload rfl ?_
      refine ev_bipush ?_
      refine ev_icmpne f74_40 (fun c20833 => ?_) (fun c20833 => ?_)
      · refine ev_iload rfl ?_
        refine ev_bipush ?_
        refine ev_icmpne f74_55 (fun c20834 => ?_) (fun c20834 => ?_)
        · refine ev_iload rfl ?_
          refine ev_bipush ?_
          refine ev_icmplt f74_78 (fun c20835 => ?_) (fun c20835 => ?_)
          · refine ev_aload_n rfl ?_
            refine ev_call (jcall_v (A := []) (S' := []) (r := 7) rfl (g.lt ad7) (g.tg ad7) (Nat.le_of_ble_eq_true rfl)) (jOk_le (by decide) (s75 g (ew0) (by omega) (by omega))) (by decide) (by decide) (fun w20836 h20836 q20836 => ?_)
            obtain ⟨v20838, v20837, rfl, lv20838, uv20838, g20836, kk20836, ev20837, p20836_0, p20836_1⟩ := q20836
            have bv20837 := g20836.rg ad7 (i := 1) (by decide) rf7_1
            rw [ev20837] at bv20837
            have k20836 := k0.tr kk20836 (by decide)
            show jEv _ _ _ _ _ _ _ (_, [(2, 7), (2, 1), (0, 6), (0, a3), (0, v20832)], [(0, v20838)], _, _, _)
            exact ev_ret rfl (by decide) (by decide) ⟨_, _, rfl, by omega, by omega, g20836, k20836, (ev20837), by omega, by omega⟩
          · refine ev_iload rfl ?_
            refine ev_bipush ?_
            refine ev_icmpge f74_78 (fun c20839 => ?_) (fun c20839 => ?_)
            · refine ev_aload_n rfl ?_
              refine ev_call (jcall_v (A := []) (S' := []) (r := 7) rfl (g.lt ad7) (g.tg ad7) (Nat.le_of_ble_eq_true rfl)) (jOk_le (by decide) (s75 g (ew0) (by omega) (by omega))) (by decide) (by decide) (fun w20840 h20840 q20840 => ?_)
              obtain ⟨v20842, v20841, rfl, lv20842, uv20842, g20840, kk20840, ev20841, p20840_0, p20840_1⟩ := q20840
              have bv20841 := g20840.rg ad7 (i := 1) (by decide) rf7_1
              rw [ev20841] at bv20841
              have k20840 := k0.tr kk20840 (by decide)
              show jEv _ _ _ _ _ _ _ (_, [(2, 7), (2, 1), (0, 6), (0, a3), (0, v20832)], [(0, v20842)], _, _, _)
              exact ev_ret rfl (by decide) (by decide) ⟨_, _, rfl, by omega, by omega, g20840, k20840, (ev20841), by omega, by omega⟩
            · refine ev_aload_n rfl ?_
              refine ev_iload_n rfl ?_
              refine ev_iload_n rfl ?_
              refine ev_call (jcall_v (A := [(0, a3), (0, 6)]) (S' := []) (r := 7) rfl (g.lt ad7) (g.tg ad7) (Nat.le_of_ble_eq_true rfl)) (jOk_le (by decide) (s77 g (by omega) (by omega) (by omega) (by omega) (ew0) (by omega) (by omega))) (by decide) (by decide) (fun w20843 h20843 q20843 => ?_)
              obtain ⟨v20845, v20844, rfl, lv20845, uv20845, g20843, kk20843, ev20844, p20843_0, p20843_1⟩ := q20843
              have bv20844 := g20843.rg ad7 (i := 1) (by decide) rf7_1
              rw [ev20844] at bv20844
              have k20843 := k0.tr kk20843 (by decide)
              show jEv _ _ _ _ _ _ _ (_, [(2, 7), (2, 1), (0, 6), (0, a3), (0, v20832)], [(0, v20845)], _, _, _)
              refine ev_goto f74_82 ?_
              exact ev_ret rfl (by decide) (by decide) ⟨_, _, rfl, by omega, by omega, g20843, k20843, (ev20844), by omega, by omega⟩
        · refine ev_aload_n rfl ?_
          refine ev_aload_n rfl ?_
          refine ev_iload_n rfl ?_
          refine ev_iload_n rfl ?_
          refine ev_call (jcall_v (A := [(0, a3), (0, 6), (2, 1)]) (S' := []) (r := 7) rfl (g.lt ad7) (g.tg ad7) (Nat.le_of_ble_eq_true rfl)) (jOk_le (by decide) (s79_6 g (by omega) (by omega) (ew0) (by omega) (by omega) (ev20822) (by omega) (by omega))) (by decide) (by decide) (fun w20846 h20846 q20846 => ?_)
          obtain ⟨v20848, v20847, rfl, lv20848, uv20848, g20846, kk20846, ev20847, p20846_0, p20846_1⟩ := q20846
          have bv20847 := g20846.rg ad7 (i := 1) (by decide) rf7_1
          rw [ev20847] at bv20847
          have k20846 := k0.tr kk20846 (by decide)
          show jEv _ _ _ _ _ _ _ (_, [(2, 7), (2, 1), (0, 6), (0, a3), (0, v20832)], [(0, v20848)], _, _, _)
          exact ev_ret rfl (by decide) (by decide) ⟨_, _, rfl, by omega, by omega, g20846, k20846, (ev20847), by omega, by omega⟩
      · refine ev_aload_n rfl ?_
        refine ev_aload_n rfl ?_
        refine ev_iload_n rfl ?_
        refine ev_iload_n rfl ?_
        refine ev_call (jcall_v (A := [(0, a3), (0, 6), (2, 1)]) (S' := []) (r := 7) rfl (g.lt ad7) (g.tg ad7) (Nat.le_of_ble_eq_true rfl)) (jOk_le (by decide) (s78_6 g (by omega) (by omega) (ew0) (by omega) (by omega) (ev20822) (by omega) (by omega))) (by decide) (by decide) (fun w20849 h20849 q20849 => ?_)
        obtain ⟨v20851, v20850, rfl, lv20851, uv20851, g20849, kk20849, ev20850, p20849_0, p20849_1⟩ := q20849
        have bv20850 := g20849.rg ad7 (i := 1) (by decide) rf7_1
        rw [ev20850] at bv20850
        have k20849 := k0.tr kk20849 (by decide)
        show jEv _ _ _ _ _ _ _ (_, [(2, 7), (2, 1), (0, 6), (0, a3), (0, v20832)], [(0, v20851)], _, _, _)
        exact ev_ret rfl (by decide) (by decide) ⟨_, _, rfl, by omega, by omega, g20849, k20849, (ev20850), by omega, by omega⟩
/-! s78_5  -/
set_option maxHeartbeats 4000000 in
theorem s78_5_l {G : GH} {h : JH} {a3 : Int} (la3 : (-2147483648) ≤ a3) (ua3 : a3 ≤ 2147483647) {w0 : Int} (ew0 : h.2.2 7 1 = w0) (lw0 : (-1) ≤ w0) (uw0 : w0 ≤ 200) {w1 : Int} (ew1 : h.2.2 7 2 = w1) (lw1 : 0 ≤ w1) (uw1 : w1 ≤ 199) : ∀ N : Nat, (∀ (h1 : JH) (x4 x5 y0 : Int) (j6 : AV), Gd G h1 → Kp [(7, 2), (7, 3), (7, 4), (10, 0), (11, 0), (12, 0), (13, 0), (14, 0), (15, 0), (16, 0), (17, 0)] h h1 → (-2147483648) ≤ a3 → a3 ≤ 2147483647 → (-1) ≤ x4 → x4 ≤ 199 → 0 ≤ x5 → x5 ≤ 3 → (w0 + (-y0)) ≤ 0 → ((-x4) + (-y0)) ≤ 1 → h1.2.2 7 1 = y0 → (-1) ≤ y0 → y0 ≤ 200 → ((-x5) + 3) < N → jEv (jOk 17) none (fun _ => 0) c78_0 0 0 (fun v h' => ∃ r F : Int, v = some (0, r) ∧ (-1) ≤ r ∧ r ≤ 199 ∧ Gd G h' ∧ Kp [(7, 2), (7, 3), (7, 4), (10, 0), (11, 0), (12, 0), (13, 0), (14, 0), (15, 0), (16, 0), (17, 0)] h h' ∧ h'.2.2 7 1 = F ∧ ((-F) + w0) ≤ 0 ∧ ((-F) + (-r)) ≤ 1) (c78_25, [(2, 7), (2, 1), (0, 5), (0, a3), (0, x4), (0, x5), j6], [], h1, 0, 0)) := by
  intro N
  induction N with
  | zero => exact fun h1 x4 x5 y0 j6 g1 k1 b0 b1 b2 b3 b4 b5 b6 b7 b8 b9 b10 hm => absurd hm (by omega)
  | succ N ih =>
    show _
    intro h1 x4 x5 y0 j6 g1 k1 b0 b1 b2 b3 b4 b5 b6 b7 ey0 ly0 uy0 hm
    refine ev_iload rfl ?_
    refine ev_iconst ?_
    refine ev_icmpge f78_100 (fun c21020 => absurd c21020 (by omega)) (fun c21020 => ?_)
    refine ev_aload_n rfl ?_
    refine g_getv (r := 7) (v := y0) g1 ad7 (by decide) ft5_1 (ey0) ?_
    refine ev_ifge f78_100 (fun c21021 => ?_) (fun c21021 => ?_)
    · refine ev_aload_n rfl ?_
      refine ev_bipush ?_
      refine ev_call (jcall_v (A := [(0, 41)]) (S' := []) (r := 7) rfl (g1.lt ad7) (g1.tg ad7) (Nat.le_of_ble_eq_true rfl)) (jOk_le (by decide) (s71 g1 (by omega) (by omega) (ey0) (by omega) (by omega))) (by decide) (by decide) (fun w21022 h21022 q21022 => ?_)
      obtain ⟨v21023, rfl, g21022, kk21022, ev21023, p21022_0⟩ := q21022
      have bv21023 := g21022.rg ad7 (i := 1) (by decide) rf7_1
      rw [ev21023] at bv21023
      have k21022 := k1.tr kk21022 (by decide)
      show jEv _ _ _ _ _ _ _ (_, [(2, 7), (2, 1), (0, 5), (0, a3), (0, x4), (0, x5), j6], [], _, _, _)
      refine ev_aload_n rfl ?_
      refine g_getv (r := 7) (v := v21023) g21022 ad7 (by decide) ft5_1 (ev21023) ?_
      refine ev_iflt f78_117 (fun c21024 => absurd c21024 (by omega)) (fun c21024 => ?_)
      refine ev_iconst ?_
      refine ev_goto f78_119 ?_
      exact ev_ret rfl (by decide) (by decide) ⟨_, _, rfl, by omega, by omega, g21022, k21022, (ev21023), by omega, by omega⟩
    · refine ev_aload_n rfl ?_
      refine ev_iconst ?_
      refine ev_call (jcall_v (A := [(0, 2)]) (S' := []) (r := 7) rfl (g1.lt ad7) (g1.tg ad7) (Nat.le_of_ble_eq_true rfl)) (jOk_le (by decide) (s76 g1 (by omega) (by omega) (ey0) (by omega) (by omega))) (by decide) (by decide) (fun w21025 h21025 q21025 => ?_)
      obtain ⟨v21027, v21026, rfl, lv21027, uv21027, g21025, kk21025, ev21026, p21025_0⟩ := q21025
      have bv21026 := g21025.rg ad7 (i := 1) (by decide) rf7_1
      rw [ev21026] at bv21026
      have k21025 := k1.tr kk21025 (by decide)
      show jEv _ _ _ _ _ _ _ (_, [(2, 7), (2, 1), (0, 5), (0, a3), (0, x4), (0, x5), j6], [(0, v21027)], _, _, _)
      refine ev_istore (L' := [(2, 7), (2, 1), (0, 5), (0, a3), (0, x4), (0, x5), (0, v21027)]) (Nat.le_of_ble_eq_true rfl) rfl ?_
      refine ev_aload_n rfl ?_
      refine ev_bipush ?_
      refine ev_call (jcall_v (A := [(0, 58)]) (S' := []) (r := 7) rfl (g21025.lt ad7) (g21025.tg ad7) (Nat.le_of_ble_eq_true rfl)) (jOk_le (by decide) (s71 g21025 (by omega) (by omega) (ev21026) (by omega) (by omega))) (by decide) (by decide) (fun w21028 h21028 q21028 => ?_)
      obtain ⟨v21029, rfl, g21028, kk21028, ev21029, p21028_0⟩ := q21028
      have bv21029 := g21028.rg ad7 (i := 1) (by decide) rf7_1
      rw [ev21029] at bv21029
      have k21028 := k21025.tr kk21028 (by decide)
      show jEv _ _ _ _ _ _ _ (_, [(2, 7), (2, 1), (0, 5), (0, a3), (0, x4), (0, x5), (0, v21027)], [], _, _, _)
      refine ev_aload_n rfl ?_
      refine ev_iload rfl ?_
      refine ev_iload rfl ?_
      refine ev_iload rfl ?_
      refine ev_aload_n rfl ?_
      refine ev_aload_n rfl ?_
      refine ev_iload_n rfl ?_
      refine ev_iconst ?_
      refine ev_iadd (r := 6) (by decide) ?_
      refine ev_iload_n rfl ?_
      refine ev_call (jcall_v (A := [(0, a3), (0, 6), (2, 1)]) (S' := [(0, v21027), (0, x5), (0, x4), (2, 7)]) (r := 7) rfl (g21028.lt ad7) (g21028.tg ad7) (Nat.le_of_ble_eq_true rfl)) (jOk_le (by decide) (s74_6 g21028 (by omega) (by omega) (ev21029) (by omega) (by omega))) (by decide) (by decide) (fun w21030 h21030 q21030 => ?_)
      obtain ⟨v21032, v21031, rfl, lv21032, uv21032, g21030, kk21030, ev21031, p21030_0, p21030_1⟩ := q21030
      have bv21031 := g21030.rg ad7 (i := 1) (by decide) rf7_1
      rw [ev21031] at bv21031
      have k21030 := k21028.tr kk21030 (by decide)
      show jEv _ _ _ _ _ _ _ (_, [(2, 7), (2, 1), (0, 5), (0, a3), (0, x4), (0, x5), (0, v21027)], [(0, v21032), (0, v21027), (0, x5), (0, x4), (2, 7)], _, _, _)
      refine ev_call (jcall_v (A := [(0, v21032), (0, v21027), (0, x5), (0, x4)]) (S' := []) (r := 7) rfl (g21030.lt ad7) (g21030.tg ad7) (Nat.le_of_ble_eq_true rfl)) (jOk_le (by decide) (s80 g21030 (by omega) (by omega) (by omega) (by omega) (by omega) (by omega) (by omega) (by omega))) (by decide) (by decide) (fun w21033 h21033 q21033 => ?_)
      obtain ⟨rfl, g21033, kk21033⟩ := q21033
      have k21033 := k21030.tr kk21033 (by decide)
      show jEv _ _ _ _ _ _ _ (_, [(2, 7), (2, 1), (0, 5), (0, a3), (0, x4), (0, x5), (0, v21027)], [], _, _, _)
      refine ev_aload_n rfl ?_
      refine ev_in (d := 16) (a := 0) (b := 0) (cd' := c68_0) (m := 1) (L0 := [(2, 7)]) (jcall_v (A := []) (S' := []) (r := 7) rfl (g21033.lt ad7) (g21033.tg ad7) (Nat.le_of_ble_eq_true rfl)) (by decide) ml68 pp68 (Nat.le_of_ble_eq_true rfl) rfl (by decide) (by decide) ?_
      refine ev_aload_n rfl ?_
      obtain ⟨v21034, ev21034, lv21034, uv21034⟩ := g21033.rd ad7 (show 2 < 15 by decide) rf7_2
      refine g_getv (r := 7) (v := v21034) g21033 ad7 (by decide) ft5_2 ev21034 ?_
      refine ev_aload_n rfl ?_
      obtain ⟨v21035, ev21035, lv21035, uv21035⟩ := g21033.rd ad7 (show 0 < 15 by decide) rf7_0
      refine g_getv (r := 7) (v := v21035) g21033 ad7 (by decide) ft5_0 ev21035 ?_
      refine ev_icmpge f68_27 (fun c21036 => ?_) (fun c21036 => ?_)
      · refine ev_iconst ?_
        refine ev_ret rfl (by decide) (by decide) ?_
        show jEv _ _ _ _ _ _ _ (_, [(2, 7), (2, 1), (0, 5), (0, a3), (0, x4), (0, x5), (0, v21027)], [(0, (-1))], _, _, _)
        refine ev_bipush ?_
        refine ev_icmpne f78_100 (fun c21037 => ?_) (fun c21037 => absurd c21037 (by omega))
        refine ev_aload_n rfl ?_
        refine ev_bipush ?_
        refine ev_call (jcall_v (A := [(0, 41)]) (S' := []) (r := 7) rfl (g21033.lt ad7) (g21033.tg ad7) (Nat.le_of_ble_eq_true rfl)) (jOk_le (by decide) (s71 g21033 (by omega) (by omega) (((kk21033.v (by decide)).trans ev21031)) (by omega) (by omega))) (by decide) (by decide) (fun w21038 h21038 q21038 => ?_)
        obtain ⟨v21039, rfl, g21038, kk21038, ev21039, p21038_0⟩ := q21038
        have bv21039 := g21038.rg ad7 (i := 1) (by decide) rf7_1
        rw [ev21039] at bv21039
        have k21038 := k21033.tr kk21038 (by decide)
        show jEv _ _ _ _ _ _ _ (_, [(2, 7), (2, 1), (0, 5), (0, a3), (0, x4), (0, x5), (0, v21027)], [], _, _, _)
        refine ev_aload_n rfl ?_
        refine g_getv (r := 7) (v := v21039) g21038 ad7 (by decide) ft5_1 (ev21039) ?_
        refine ev_iflt f78_117 (fun c21040 => ?_) (fun c21040 => ?_)
        · refine ev_iload rfl ?_
          exact ev_ret rfl (by decide) (by decide) ⟨_, _, rfl, by omega, by omega, g21038, k21038, (ev21039), by omega, by omega⟩
        · refine ev_iconst ?_
          refine ev_goto f78_119 ?_
          exact ev_ret rfl (by decide) (by decide) ⟨_, _, rfl, by omega, by omega, g21038, k21038, (ev21039), by omega, by omega⟩
      · refine ev_aload_n rfl ?_
        refine g_getp (r := 7) (c := 8) g21033 ad7 (by decide) (by decide) rf7_5 ft5_5 ?_
        refine ev_aload_n rfl ?_
        refine g_getv (r := 7) (v := v21034) g21033 ad7 (by decide) ft5_2 (ev21034) ?_
        refine g_bald g21033 ad8 rt8 (by omega) (by omega) (fun v21041 ev21041 lv21041 uv21041 => ?_)
        refine ev_sipush ?_
        refine g_iandB (b := 255) (by omega) (by omega) (by decide) (fun v21042 ev21042 lv21042 uv21042 => ?_)
        refine ev_goto f68_28 ?_
        refine ev_ret rfl (by decide) (by decide) ?_
        show jEv _ _ _ _ _ _ _ (_, [(2, 7), (2, 1), (0, 5), (0, a3), (0, x4), (0, x5), (0, v21027)], [(0, v21042)], _, _, _)
        refine ev_bipush ?_
        refine ev_icmpne f78_100 (fun c21043 => ?_) (fun c21043 => ?_)
        · refine ev_aload_n rfl ?_
          refine ev_bipush ?_
          refine ev_call (jcall_v (A := [(0, 41)]) (S' := []) (r := 7) rfl (g21033.lt ad7) (g21033.tg ad7) (Nat.le_of_ble_eq_true rfl)) (jOk_le (by decide) (s71 g21033 (by omega) (by omega) (((kk21033.v (by decide)).trans ev21031)) (by omega) (by omega))) (by decide) (by decide) (fun w21044 h21044 q21044 => ?_)
          obtain ⟨v21045, rfl, g21044, kk21044, ev21045, p21044_0⟩ := q21044
          have bv21045 := g21044.rg ad7 (i := 1) (by decide) rf7_1
          rw [ev21045] at bv21045
          have k21044 := k21033.tr kk21044 (by decide)
          show jEv _ _ _ _ _ _ _ (_, [(2, 7), (2, 1), (0, 5), (0, a3), (0, x4), (0, x5), (0, v21027)], [], _, _, _)
          refine ev_aload_n rfl ?_
          refine g_getv (r := 7) (v := v21045) g21044 ad7 (by decide) ft5_1 (ev21045) ?_
          refine ev_iflt f78_117 (fun c21046 => ?_) (fun c21046 => ?_)
          · refine ev_iload rfl ?_
            exact ev_ret rfl (by decide) (by decide) ⟨_, _, rfl, by omega, by omega, g21044, k21044, (ev21045), by omega, by omega⟩
          · refine ev_iconst ?_
            refine ev_goto f78_119 ?_
            exact ev_ret rfl (by decide) (by decide) ⟨_, _, rfl, by omega, by omega, g21044, k21044, (ev21045), by omega, by omega⟩
        · refine ev_iload rfl ?_
          refine ev_iconst ?_
          refine ev_icmpne f78_88 (fun c21047 => ?_) (fun c21047 => ?_)
          · refine ev_aload_n rfl ?_
            refine ev_bipush ?_
            refine ev_call (jcall_v (A := [(0, 44)]) (S' := []) (r := 7) rfl (g21033.lt ad7) (g21033.tg ad7) (Nat.le_of_ble_eq_true rfl)) (jOk_le (by decide) (s71 g21033 (by omega) (by omega) (((kk21033.v (by decide)).trans ev21031)) (by omega) (by omega))) (by decide) (by decide) (fun w21048 h21048 q21048 => ?_)
            obtain ⟨v21049, rfl, g21048, kk21048, ev21049, p21048_0⟩ := q21048
            have bv21049 := g21048.rg ad7 (i := 1) (by decide) rf7_1
            rw [ev21049] at bv21049
            have k21048 := k21033.tr kk21048 (by decide)
            show jEv _ _ _ _ _ _ _ (_, [(2, 7), (2, 1), (0, 5), (0, a3), (0, x4), (0, x5), (0, v21027)], [], _, _, _)
            refine ev_iinc (w := (x5 + 1)) (L' := [(2, 7), (2, 1), (0, 5), (0, a3), (0, x4), (0, (x5 + 1)), (0, v21027)]) rfl (by unfold w32; omega) rfl ?_
            refine ev_goto f78_25 ?_
            exact ih _ _ _ _ _ g21048 k21048 (by omega) (by omega) (by omega) (by omega) (by omega) (by omega) (by omega) (by omega) (ev21049) (by omega) (by omega) (by omega)
          · refine ev_goto f78_100 ?_
            refine ev_aload_n rfl ?_
            refine ev_bipush ?_
            refine ev_call (jcall_v (A := [(0, 41)]) (S' := []) (r := 7) rfl (g21033.lt ad7) (g21033.tg ad7) (Nat.le_of_ble_eq_true rfl)) (jOk_le (by decide) (s71 g21033 (by omega) (by omega) (((kk21033.v (by decide)).trans ev21031)) (by omega) (by omega))) (by decide) (by decide) (fun w21050 h21050 q21050 => ?_)
            obtain ⟨v21051, rfl, g21050, kk21050, ev21051, p21050_0⟩ := q21050
            have bv21051 := g21050.rg ad7 (i := 1) (by decide) rf7_1
            rw [ev21051] at bv21051
            have k21050 := k21033.tr kk21050 (by decide)
            show jEv _ _ _ _ _ _ _ (_, [(2, 7), (2, 1), (0, 5), (0, a3), (0, x4), (0, x5), (0, v21027)], [], _, _, _)
            refine ev_aload_n rfl ?_
            refine g_getv (r := 7) (v := v21051) g21050 ad7 (by decide) ft5_1 (ev21051) ?_
            refine ev_iflt f78_117 (fun c21052 => ?_) (fun c21052 => ?_)
            · refine ev_iload rfl ?_
              exact ev_ret rfl (by decide) (by decide) ⟨_, _, rfl, by omega, by omega, g21050, k21050, (ev21051), by omega, by omega⟩
            · refine ev_iconst ?_
              refine ev_goto f78_119 ?_
              exact ev_ret rfl (by decide) (by decide) ⟨_, _, rfl, by omega, by omega, g21050, k21050, (ev21051), by omega, by omega⟩
set_option maxHeartbeats 4000000 in
theorem s78_5 {G : GH} {h : JH} (g : Gd G h) {a3 : Int} (la3 : (-2147483648) ≤ a3) (ua3 : a3 ≤ 2147483647) {w0 : Int} (ew0 : h.2.2 7 1 = w0) (lw0 : (-1) ≤ w0) (uw0 : w0 ≤ 200) {w1 : Int} (ew1 : h.2.2 7 2 = w1) (lw1 : 0 ≤ w1) (uw1 : w1 ≤ 199) : jOk 18 0 0 78 [(2, 7), (2, 1), (0, 5), (0, a3)] h (fun v h' => ∃ r F : Int, v = some (0, r) ∧ (-1) ≤ r ∧ r ≤ 199 ∧ Gd G h' ∧ Kp [(7, 2), (7, 3), (7, 4), (10, 0), (11, 0), (12, 0), (13, 0), (14, 0), (15, 0), (16, 0), (17, 0)] h h' ∧ h'.2.2 7 1 = F ∧ ((-F) + w0) ≤ 0 ∧ ((-F) + (-r)) ≤ 1) := by
  refine ⟨by decide, by rw [ml78]; exact Nat.le_of_ble_eq_true rfl, ?_⟩
  rw [ml78, pp78]
  show jEv _ none _ c78_0 0 0 _ (c78_0, [(2, 7), (2, 1), (0, 5), (0, a3), (9, 0), (9, 0), (9, 0)], [], h, 0, 0)
  have k0 := Kp.rf [(7, 2), (7, 3), (7, 4), (10, 0), (11, 0), (12, 0), (13, 0), (14, 0), (15, 0), (16, 0), (17, 0)] h
  refine ev_aload_n rfl ?_
  refine ev_dup (by decide) ?_
  refine g_getv (r := 7) (v := w1) g ad7 (by decide) ft5_2 (ew1) ?_
  refine ev_iconst ?_
  refine ev_iadd (r := (w1 + 1)) (by unfold w32; omega) ?_
  refine g_putf (r := 7) g ad7 (by decide) ft5_2 (by decide) (fun e => absurd e nz5_2) rf7_2 (by decide) (by omega) (by omega) (fun h21053 e21053 g21053 => ?_)
  have k21053 := k0.wr e21053 rfl
  refine ev_aload_n rfl ?_
  refine ev_iload_n rfl ?_
  refine ev_call (jcall_v (A := [(0, 5)]) (S' := []) (r := 7) rfl (g21053.lt ad7) (g21053.tg ad7) (Nat.le_of_ble_eq_true rfl)) (jOk_le (by decide) (s72 g21053 (by omega) (by omega) (((jw_ne e21053 (Or.inr (by decide))).trans ew0)) (by omega) (by omega))) (by decide) (by decide) (fun w21054 h21054 q21054 => ?_)
  obtain ⟨v21055, rfl, g21054, kk21054, ev21055, p21054_0⟩ := q21054
  have bv21055 := g21054.rg ad7 (i := 1) (by decide) rf7_1
  rw [ev21055] at bv21055
  have k21054 := k21053.tr kk21054 (by decide)
  show jEv _ _ _ _ _ _ _ (_, [(2, 7), (2, 1), (0, 5), (0, a3), (9, 0), (9, 0), (9, 0)], [], _, _, _)
  refine ev_aload_n rfl ?_
  refine ev_iconst ?_
  refine ev_call (jcall_v (A := [(0, 1)]) (S' := []) (r := 7) rfl (g21054.lt ad7) (g21054.tg ad7) (Nat.le_of_ble_eq_true rfl)) (jOk_le (by decide) (s73 g21054 (by omega) (by omega) (ev21055) (by omega) (by omega))) (by decide) (by decide) (fun w21056 h21056 q21056 => ?_)
  obtain ⟨v21058, v21057, rfl, lv21058, uv21058, g21056, kk21056, ev21057, p21056_0, p21056_1⟩ := q21056
  have bv21057 := g21056.rg ad7 (i := 1) (by decide) rf7_1
  rw [ev21057] at bv21057
  have k21056 := k21054.tr kk21056 (by decide)
  show jEv _ _ _ _ _ _ _ (_, [(2, 7), (2, 1), (0, 5), (0, a3), (9, 0), (9, 0), (9, 0)], [(0, v21058)], _, _, _)
  refine ev_istore (L' := [(2, 7), (2, 1), (0, 5), (0, a3), (0, v21058), (9, 0), (9, 0)]) (Nat.le_of_ble_eq_true rfl) rfl ?_
  refine ev_iconst ?_
  refine ev_istore (L' := [(2, 7), (2, 1), (0, 5), (0, a3), (0, v21058), (0, 0), (9, 0)]) (Nat.le_of_ble_eq_true rfl) rfl ?_
  exact (s78_5_l la3 ua3 ew0 lw0 uw0 ew1 lw1 uw1 8) _ _ _ _ _ g21056 k21056 (by omega) (by omega) (by omega) (by omega) (by omega) (by omega) (by omega) (by omega) (ev21057) (by omega) (by omega) (by omega)
/-! s79_5  -/
set_option maxHeartbeats 4000000 in
theorem s79_5_l {G : GH} {h : JH} {a3 : Int} (la3 : (-2147483648) ≤ a3) (ua3 : a3 ≤ 2147483647) {w0 : Int} (ew0 : h.2.2 7 1 = w0) (lw0 : (-1) ≤ w0) (uw0 : w0 ≤ 200) {w1 : Int} (ew1 : h.2.2 7 2 = w1) (lw1 : 0 ≤ w1) (uw1 : w1 ≤ 199) : ∀ N : Nat, (∀ (h1 : JH) (x4 x5 x6 y0 : Int), Gd G h1 → Kp [(7, 2), (7, 3), (7, 4), (10, 0), (11, 0), (12, 0), (13, 0), (14, 0), (15, 0), (16, 0), (17, 0)] h h1 → (-2147483648) ≤ a3 → a3 ≤ 2147483647 → 0 ≤ x4 → x4 ≤ 3 → (-1) ≤ x5 → x5 ≤ 199 → 0 ≤ x6 → x6 ≤ 3 → (w0 + (-y0)) ≤ 0 → ((-x5) + (-y0)) ≤ 1 → h1.2.2 7 1 = y0 → (-1) ≤ y0 → y0 ≤ 200 → ((-x6) + 3) < N → jEv (jOk 17) none (fun _ => 0) c79_0 0 0 (fun v h' => ∃ r F : Int, v = some (0, r) ∧ (-1) ≤ r ∧ r ≤ 199 ∧ Gd G h' ∧ Kp [(7, 2), (7, 3), (7, 4), (10, 0), (11, 0), (12, 0), (13, 0), (14, 0), (15, 0), (16, 0), (17, 0)] h h' ∧ h'.2.2 7 1 = F ∧ ((-F) + w0) ≤ 0 ∧ ((-F) + (-r)) ≤ 1) (c79_68, [(2, 7), (2, 1), (0, 5), (0, a3), (0, x4), (0, x5), (0, x6)], [], h1, 0, 0)) := by
  intro N
  induction N with
  | zero => exact fun h1 x4 x5 x6 y0 g1 k1 b0 b1 b2 b3 b4 b5 b6 b7 b8 b9 b10 b11 b12 hm => absurd hm (by omega)
  | succ N ih =>
    show _
    intro h1 x4 x5 x6 y0 g1 k1 b0 b1 b2 b3 b4 b5 b6 b7 b8 b9 ey0 ly0 uy0 hm
    refine ev_iload rfl ?_
    refine ev_aload_n rfl ?_
    refine ev_iload rfl ?_
    refine ev_in (d := 16) (a := 0) (b := 0) (cd' := c141_0) (m := 2) (L0 := [(2, 1), (0, x4)]) (jcall_v (A := [(0, x4)]) (S' := [(0, x6)]) (r := 1) rfl (g1.lt ad1) (g1.tg ad1) (Nat.le_of_ble_eq_true rfl)) (by decide) ml141 pp141 (Nat.le_of_ble_eq_true rfl) rfl (by decide) (by decide) ?_
    refine ev_aload_n rfl ?_
    refine ev_iload_n rfl ?_
    refine ev_in (d := 15) (a := 0) (b := 0) (cd' := c140_0) (m := 2) (L0 := [(2, 1), (0, x4)]) (jcall_v (A := [(0, x4)]) (S' := []) (r := 1) rfl (g1.lt ad1) (g1.tg ad1) (Nat.le_of_ble_eq_true rfl)) (by decide) ml140 pp140 (Nat.le_of_ble_eq_true rfl) rfl (by decide) (by decide) ?_
    refine ev_iload_n rfl ?_
    refine ev_iflt f140_16 (fun c21318 => absurd c21318 (by omega)) (fun c21318 => ?_)
    refine ev_iload_n rfl ?_
    refine ev_aload_n rfl ?_
    obtain ⟨v21319, ev21319, lv21319, uv21319⟩ := g1.rd ad1 (show 0 < 8 by decide) rf1_0
    refine g_getv (r := 1) (v := v21319) g1 ad1 (by decide) ft10_0 ev21319 ?_
    refine ev_icmpge f140_16 (fun c21320 => ?_) (fun c21320 => ?_)
    · refine ev_iconst ?_
      refine ev_ret rfl (by decide) (by decide) ?_
      show jEv _ _ _ _ _ _ _ (_, [(2, 1), (0, x4)], [(0, 0)], _, _, _)
      refine ev_ifeq f141_17 (fun c21321 => ?_) (fun c21321 => absurd c21321 (by omega))
      refine ev_iconst ?_
      refine ev_ret rfl (by decide) (by decide) ?_
      show jEv _ _ _ _ _ _ _ (_, [(2, 7), (2, 1), (0, 5), (0, a3), (0, x4), (0, x5), (0, x6)], [(0, 0), (0, x6)], _, _, _)
      refine ev_icmpge f79_126 (fun c21322 => ?_) (fun c21322 => absurd c21322 (by omega))
      refine ev_aload_n rfl ?_
      refine ev_bipush ?_
      refine ev_call (jcall_v (A := [(0, 41)]) (S' := []) (r := 7) rfl (g1.lt ad7) (g1.tg ad7) (Nat.le_of_ble_eq_true rfl)) (jOk_le (by decide) (s71 g1 (by omega) (by omega) (ey0) (by omega) (by omega))) (by decide) (by decide) (fun w21323 h21323 q21323 => ?_)
      obtain ⟨v21324, rfl, g21323, kk21323, ev21324, p21323_0⟩ := q21323
      have bv21324 := g21323.rg ad7 (i := 1) (by decide) rf7_1
      rw [ev21324] at bv21324
      have k21323 := k1.tr kk21323 (by decide)
      show jEv _ _ _ _ _ _ _ (_, [(2, 7), (2, 1), (0, 5), (0, a3), (0, x4), (0, x5), (0, x6)], [], _, _, _)
      refine ev_aload_n rfl ?_
      refine g_getv (r := 7) (v := v21324) g21323 ad7 (by decide) ft5_1 (ev21324) ?_
      refine ev_ifge f79_144 (fun c21325 => ?_) (fun c21325 => ?_)
      · refine ev_iconst ?_
        exact ev_ret rfl (by decide) (by decide) ⟨_, _, rfl, by omega, by omega, g21323, k21323, (ev21324), by omega, by omega⟩
      · refine ev_iload rfl ?_
        refine ev_ifge f79_146 (fun c21326 => ?_) (fun c21326 => absurd c21326 (by omega))
        refine ev_aload_n rfl ?_
        refine g_getp (r := 7) (c := 11) g21323 ad7 (by decide) (by decide) rf7_8 ft5_8 ?_
        refine ev_iload rfl ?_
        refine ev_iload rfl ?_
        refine g_iast g21323 ad11 rt11 (fun _ => rfl) (by omega) (by omega) (by omega) (by omega) (fun h21327 e21327 g21327 => ?_)
        have k21327 := k21323.wr e21327 rfl
        refine ev_aload_n rfl ?_
        refine g_getp (r := 7) (c := 15) g21327 ad7 (by decide) (by decide) rf7_12 ft5_12 ?_
        refine ev_iload rfl ?_
        refine ev_dup2 (by decide) (by decide) ?_
        refine g_iald g21327 ad15 rt15 (by omega) (by omega) (fun v21328 ev21328 lv21328 uv21328 => ?_)
        refine ev_iconst ?_
        refine ev_iload rfl ?_
        refine g_ishlB (a' := 1) (a := 1) (b := 3) (hi := 8) (by omega) (by omega) (by omega) (by omega) (by decide) (by decide) (fun v21329 ev21329 lv21329 uv21329 => ?_)
        refine g_iorG (fun v21330 ev21330 lv21330 uv21330 => ?_)
        refine g_iast g21327 ad15 rt15 (fun _ => rfl) (by omega) (by omega) (by omega) (by omega) (fun h21331 e21331 g21331 => ?_)
        have k21331 := k21327.wr e21331 rfl
        refine ev_iload rfl ?_
        exact ev_ret rfl (by decide) (by decide) ⟨_, _, rfl, by omega, by omega, g21331, k21331, (((jw_ne e21331 (Or.inl (by decide))).trans ((jw_ne e21327 (Or.inl (by decide))).trans ev21324))), by omega, by omega⟩
    · refine ev_iconst ?_
      refine ev_goto f140_17 ?_
      refine ev_ret rfl (by decide) (by decide) ?_
      show jEv _ _ _ _ _ _ _ (_, [(2, 1), (0, x4)], [(0, 1)], _, _, _)
      refine ev_ifeq f141_17 (fun c21332 => absurd c21332 (by omega)) (fun c21332 => ?_)
      refine ev_aload_n rfl ?_
      refine g_getp (r := 1) (c := 2) g1 ad1 (by decide) (by decide) rf1_3 ft10_3 ?_
      refine ev_iload_n rfl ?_
      refine g_iald g1 ad2 rt2 (by omega) (by omega) (fun v21333 ev21333 lv21333 uv21333 => ?_)
      have xv21333 := (g1.ex.1.1 (x4 : Int).toNat (by rw [(ev21319)]; omega))
      rw [ev21333] at xv21333
      refine ev_goto f141_18 ?_
      refine ev_ret rfl (by decide) (by decide) ?_
      show jEv _ _ _ _ _ _ _ (_, [(2, 7), (2, 1), (0, 5), (0, a3), (0, x4), (0, x5), (0, x6)], [(0, v21333), (0, x6)], _, _, _)
      refine ev_icmpge f79_126 (fun c21334 => ?_) (fun c21334 => ?_)
      · refine ev_aload_n rfl ?_
        refine ev_bipush ?_
        refine ev_call (jcall_v (A := [(0, 41)]) (S' := []) (r := 7) rfl (g1.lt ad7) (g1.tg ad7) (Nat.le_of_ble_eq_true rfl)) (jOk_le (by decide) (s71 g1 (by omega) (by omega) (ey0) (by omega) (by omega))) (by decide) (by decide) (fun w21335 h21335 q21335 => ?_)
        obtain ⟨v21336, rfl, g21335, kk21335, ev21336, p21335_0⟩ := q21335
        have bv21336 := g21335.rg ad7 (i := 1) (by decide) rf7_1
        rw [ev21336] at bv21336
        have k21335 := k1.tr kk21335 (by decide)
        show jEv _ _ _ _ _ _ _ (_, [(2, 7), (2, 1), (0, 5), (0, a3), (0, x4), (0, x5), (0, x6)], [], _, _, _)
        refine ev_aload_n rfl ?_
        refine g_getv (r := 7) (v := v21336) g21335 ad7 (by decide) ft5_1 (ev21336) ?_
        refine ev_ifge f79_144 (fun c21337 => ?_) (fun c21337 => ?_)
        · refine ev_iconst ?_
          exact ev_ret rfl (by decide) (by decide) ⟨_, _, rfl, by omega, by omega, g21335, k21335, (ev21336), by omega, by omega⟩
        · refine ev_iload rfl ?_
          refine ev_ifge f79_146 (fun c21338 => ?_) (fun c21338 => absurd c21338 (by omega))
          refine ev_aload_n rfl ?_
          refine g_getp (r := 7) (c := 11) g21335 ad7 (by decide) (by decide) rf7_8 ft5_8 ?_
          refine ev_iload rfl ?_
          refine ev_iload rfl ?_
          refine g_iast g21335 ad11 rt11 (fun _ => rfl) (by omega) (by omega) (by omega) (by omega) (fun h21339 e21339 g21339 => ?_)
          have k21339 := k21335.wr e21339 rfl
          refine ev_aload_n rfl ?_
          refine g_getp (r := 7) (c := 15) g21339 ad7 (by decide) (by decide) rf7_12 ft5_12 ?_
          refine ev_iload rfl ?_
          refine ev_dup2 (by decide) (by decide) ?_
          refine g_iald g21339 ad15 rt15 (by omega) (by omega) (fun v21340 ev21340 lv21340 uv21340 => ?_)
          refine ev_iconst ?_
          refine ev_iload rfl ?_
          refine g_ishlB (a' := 1) (a := 1) (b := 3) (hi := 8) (by omega) (by omega) (by omega) (by omega) (by decide) (by decide) (fun v21341 ev21341 lv21341 uv21341 => ?_)
          refine g_iorG (fun v21342 ev21342 lv21342 uv21342 => ?_)
          refine g_iast g21339 ad15 rt15 (fun _ => rfl) (by omega) (by omega) (by omega) (by omega) (fun h21343 e21343 g21343 => ?_)
          have k21343 := k21339.wr e21343 rfl
          refine ev_iload rfl ?_
          exact ev_ret rfl (by decide) (by decide) ⟨_, _, rfl, by omega, by omega, g21343, k21343, (((jw_ne e21343 (Or.inl (by decide))).trans ((jw_ne e21339 (Or.inl (by decide))).trans ev21336))), by omega, by omega⟩
      · refine ev_aload_n rfl ?_
        refine g_getv (r := 7) (v := y0) g1 ad7 (by decide) ft5_1 (ey0) ?_
        refine ev_ifge f79_126 (fun c21344 => ?_) (fun c21344 => ?_)
        · refine ev_aload_n rfl ?_
          refine ev_bipush ?_
          refine ev_call (jcall_v (A := [(0, 41)]) (S' := []) (r := 7) rfl (g1.lt ad7) (g1.tg ad7) (Nat.le_of_ble_eq_true rfl)) (jOk_le (by decide) (s71 g1 (by omega) (by omega) (ey0) (by omega) (by omega))) (by decide) (by decide) (fun w21345 h21345 q21345 => ?_)
          obtain ⟨v21346, rfl, g21345, kk21345, ev21346, p21345_0⟩ := q21345
          have bv21346 := g21345.rg ad7 (i := 1) (by decide) rf7_1
          rw [ev21346] at bv21346
          have k21345 := k1.tr kk21345 (by decide)
          show jEv _ _ _ _ _ _ _ (_, [(2, 7), (2, 1), (0, 5), (0, a3), (0, x4), (0, x5), (0, x6)], [], _, _, _)
          refine ev_aload_n rfl ?_
          refine g_getv (r := 7) (v := v21346) g21345 ad7 (by decide) ft5_1 (ev21346) ?_
          refine ev_ifge f79_144 (fun c21347 => ?_) (fun c21347 => absurd c21347 (by omega))
          refine ev_iconst ?_
          exact ev_ret rfl (by decide) (by decide) ⟨_, _, rfl, by omega, by omega, g21345, k21345, (ev21346), by omega, by omega⟩
        · refine ev_iload rfl ?_
          refine ev_ifle f79_97 (fun c21348 => ?_) (fun c21348 => ?_)
          · refine ev_aload_n rfl ?_
            refine ev_iload rfl ?_
            refine ev_iload rfl ?_
            refine ev_iconst ?_
            refine ev_aload_n rfl ?_
            refine ev_aload_n rfl ?_
            refine ev_iload_n rfl ?_
            refine ev_iconst ?_
            refine ev_iadd (r := 6) (by decide) ?_
            refine ev_iload_n rfl ?_
            refine ev_iconst ?_
            refine ev_iload rfl ?_
            refine g_ishlB (a' := 1) (a := 1) (b := 3) (hi := 8) (by omega) (by omega) (by omega) (by omega) (by decide) (by decide) (fun v21349 ev21349 lv21349 uv21349 => ?_)
            refine g_iorG (fun v21350 ev21350 lv21350 uv21350 => ?_)
            refine ev_call (jcall_v (A := [(0, v21350), (0, 6), (2, 1)]) (S' := [(0, 0), (0, x6), (0, x5), (2, 7)]) (r := 7) rfl (g1.lt ad7) (g1.tg ad7) (Nat.le_of_ble_eq_true rfl)) (jOk_le (by decide) (s74_6 g1 (by omega) (by omega) (ey0) (by omega) (by omega))) (by decide) (by decide) (fun w21351 h21351 q21351 => ?_)
            obtain ⟨v21353, v21352, rfl, lv21353, uv21353, g21351, kk21351, ev21352, p21351_0, p21351_1⟩ := q21351
            have bv21352 := g21351.rg ad7 (i := 1) (by decide) rf7_1
            rw [ev21352] at bv21352
            have k21351 := k1.tr kk21351 (by decide)
            show jEv _ _ _ _ _ _ _ (_, [(2, 7), (2, 1), (0, 5), (0, a3), (0, x4), (0, x5), (0, x6)], [(0, v21353), (0, 0), (0, x6), (0, x5), (2, 7)], _, _, _)
            refine ev_call (jcall_v (A := [(0, v21353), (0, 0), (0, x6), (0, x5)]) (S' := []) (r := 7) rfl (g21351.lt ad7) (g21351.tg ad7) (Nat.le_of_ble_eq_true rfl)) (jOk_le (by decide) (s80 g21351 (by omega) (by omega) (by omega) (by omega) (by omega) (by omega) (by omega) (by omega))) (by decide) (by decide) (fun w21354 h21354 q21354 => ?_)
            obtain ⟨rfl, g21354, kk21354⟩ := q21354
            have k21354 := k21351.tr kk21354 (by decide)
            show jEv _ _ _ _ _ _ _ (_, [(2, 7), (2, 1), (0, 5), (0, a3), (0, x4), (0, x5), (0, x6)], [], _, _, _)
            refine ev_iinc (w := (x6 + 1)) (L' := [(2, 7), (2, 1), (0, 5), (0, a3), (0, x4), (0, x5), (0, (x6 + 1))]) rfl (by unfold w32; omega) rfl ?_
            refine ev_goto f79_68 ?_
            exact ih _ _ _ _ _ g21354 k21354 (by omega) (by omega) (by omega) (by omega) (by omega) (by omega) (by omega) (by omega) (by omega) (by omega) (((kk21354.v (by decide)).trans ev21352)) (by omega) (by omega) (by omega)
          · refine ev_aload_n rfl ?_
            refine ev_bipush ?_
            refine ev_call (jcall_v (A := [(0, 44)]) (S' := []) (r := 7) rfl (g1.lt ad7) (g1.tg ad7) (Nat.le_of_ble_eq_true rfl)) (jOk_le (by decide) (s71 g1 (by omega) (by omega) (ey0) (by omega) (by omega))) (by decide) (by decide) (fun w21355 h21355 q21355 => ?_)
            obtain ⟨v21356, rfl, g21355, kk21355, ev21356, p21355_0⟩ := q21355
            have bv21356 := g21355.rg ad7 (i := 1) (by decide) rf7_1
            rw [ev21356] at bv21356
            have k21355 := k1.tr kk21355 (by decide)
            show jEv _ _ _ _ _ _ _ (_, [(2, 7), (2, 1), (0, 5), (0, a3), (0, x4), (0, x5), (0, x6)], [], _, _, _)
            refine ev_aload_n rfl ?_
            refine ev_iload rfl ?_
            refine ev_iload rfl ?_
            refine ev_iconst ?_
            refine ev_aload_n rfl ?_
            refine ev_aload_n rfl ?_
            refine ev_iload_n rfl ?_
            refine ev_iconst ?_
            refine ev_iadd (r := 6) (by decide) ?_
            refine ev_iload_n rfl ?_
            refine ev_iconst ?_
            refine ev_iload rfl ?_
            refine g_ishlB (a' := 1) (a := 1) (b := 3) (hi := 8) (by omega) (by omega) (by omega) (by omega) (by decide) (by decide) (fun v21357 ev21357 lv21357 uv21357 => ?_)
            refine g_iorG (fun v21358 ev21358 lv21358 uv21358 => ?_)
            refine ev_call (jcall_v (A := [(0, v21358), (0, 6), (2, 1)]) (S' := [(0, 0), (0, x6), (0, x5), (2, 7)]) (r := 7) rfl (g21355.lt ad7) (g21355.tg ad7) (Nat.le_of_ble_eq_true rfl)) (jOk_le (by decide) (s74_6 g21355 (by omega) (by omega) (ev21356) (by omega) (by omega))) (by decide) (by decide) (fun w21359 h21359 q21359 => ?_)
            obtain ⟨v21361, v21360, rfl, lv21361, uv21361, g21359, kk21359, ev21360, p21359_0, p21359_1⟩ := q21359
            have bv21360 := g21359.rg ad7 (i := 1) (by decide) rf7_1
            rw [ev21360] at bv21360
            have k21359 := k21355.tr kk21359 (by decide)
            show jEv _ _ _ _ _ _ _ (_, [(2, 7), (2, 1), (0, 5), (0, a3), (0, x4), (0, x5), (0, x6)], [(0, v21361), (0, 0), (0, x6), (0, x5), (2, 7)], _, _, _)
            refine ev_call (jcall_v (A := [(0, v21361), (0, 0), (0, x6), (0, x5)]) (S' := []) (r := 7) rfl (g21359.lt ad7) (g21359.tg ad7) (Nat.le_of_ble_eq_true rfl)) (jOk_le (by decide) (s80 g21359 (by omega) (by omega) (by omega) (by omega) (by omega) (by omega) (by omega) (by omega))) (by decide) (by decide) (fun w21362 h21362 q21362 => ?_)
            obtain ⟨rfl, g21362, kk21362⟩ := q21362
            have k21362 := k21359.tr kk21362 (by decide)
            show jEv _ _ _ _ _ _ _ (_, [(2, 7), (2, 1), (0, 5), (0, a3), (0, x4), (0, x5), (0, x6)], [], _, _, _)
            refine ev_iinc (w := (x6 + 1)) (L' := [(2, 7), (2, 1), (0, 5), (0, a3), (0, x4), (0, x5), (0, (x6 + 1))]) rfl (by unfold w32; omega) rfl ?_
            refine ev_goto f79_68 ?_
            exact ih _ _ _ _ _ g21362 k21362 (by omega) (by omega) (by omega) (by omega) (by omega) (by omega) (by omega) (by omega) (by omega) (by omega) (((kk21362.v (by decide)).trans ev21360)) (by omega) (by omega) (by omega)
set_option maxHeartbeats 4000000 in
theorem s79_5 {G : GH} {h : JH} (g : Gd G h) {a3 : Int} (la3 : (-2147483648) ≤ a3) (ua3 : a3 ≤ 2147483647) {w0 : Int} (ew0 : h.2.2 7 1 = w0) (lw0 : (-1) ≤ w0) (uw0 : w0 ≤ 200) {w1 : Int} (ew1 : h.2.2 7 2 = w1) (lw1 : 0 ≤ w1) (uw1 : w1 ≤ 199) : jOk 18 0 0 79 [(2, 7), (2, 1), (0, 5), (0, a3)] h (fun v h' => ∃ r F : Int, v = some (0, r) ∧ (-1) ≤ r ∧ r ≤ 199 ∧ Gd G h' ∧ Kp [(7, 2), (7, 3), (7, 4), (10, 0), (11, 0), (12, 0), (13, 0), (14, 0), (15, 0), (16, 0), (17, 0)] h h' ∧ h'.2.2 7 1 = F ∧ ((-F) + w0) ≤ 0 ∧ ((-F) + (-r)) ≤ 1) := by
  refine ⟨by decide, by rw [ml79]; exact Nat.le_of_ble_eq_true rfl, ?_⟩
  rw [ml79, pp79]
  show jEv _ none _ c79_0 0 0 _ (c79_0, [(2, 7), (2, 1), (0, 5), (0, a3), (9, 0), (9, 0), (9, 0)], [], h, 0, 0)
  have k0 := Kp.rf [(7, 2), (7, 3), (7, 4), (10, 0), (11, 0), (12, 0), (13, 0), (14, 0), (15, 0), (16, 0), (17, 0)] h
  refine ev_aload_n rfl ?_
  refine ev_dup (by decide) ?_
  refine g_getv (r := 7) (v := w1) g ad7 (by decide) ft5_2 (ew1) ?_
  refine ev_iconst ?_
  refine ev_iadd (r := (w1 + 1)) (by unfold w32; omega) ?_
  refine g_putf (r := 7) g ad7 (by decide) ft5_2 (by decide) (fun e => absurd e nz5_2) rf7_2 (by decide) (by omega) (by omega) (fun h21363 e21363 g21363 => ?_)
  have k21363 := k0.wr e21363 rfl
  refine ev_aload_n rfl ?_
  refine ev_in (d := 16) (a := 0) (b := 0) (cd' := c68_0) (m := 1) (L0 := [(2, 7)]) (jcall_v (A := []) (S' := []) (r := 7) rfl (g21363.lt ad7) (g21363.tg ad7) (Nat.le_of_ble_eq_true rfl)) (by decide) ml68 pp68 (Nat.le_of_ble_eq_true rfl) rfl (by decide) (by decide) ?_
  refine ev_aload_n rfl ?_
  refine g_getv (r := 7) (v := (w1 + 1)) g21363 ad7 (by decide) ft5_2 ((jw_eq e21363)) ?_
  refine ev_aload_n rfl ?_
  obtain ⟨v21364, ev21364, lv21364, uv21364⟩ := g21363.rd ad7 (show 0 < 15 by decide) rf7_0
  refine g_getv (r := 7) (v := v21364) g21363 ad7 (by decide) ft5_0 ev21364 ?_
  refine ev_icmpge f68_27 (fun c21365 => ?_) (fun c21365 => ?_)
  · refine ev_iconst ?_
    refine ev_ret rfl (by decide) (by decide) ?_
    show jEv _ _ _ _ _ _ _ (_, [(2, 7), (2, 1), (0, 5), (0, a3), (9, 0), (9, 0), (9, 0)], [(0, (-1))], _, _, _)
    refine ev_bipush ?_
    refine ev_isub (r := (-98)) (by decide) ?_
    refine ev_istore (L' := [(2, 7), (2, 1), (0, 5), (0, a3), (0, (-98)), (9, 0), (9, 0)]) (Nat.le_of_ble_eq_true rfl) rfl ?_
    refine ev_aload_n rfl ?_
    refine ev_iload rfl ?_
    refine ev_in (d := 16) (a := 0) (b := 0) (cd' := c140_0) (m := 2) (L0 := [(2, 1), (0, (-98))]) (jcall_v (A := [(0, (-98))]) (S' := []) (r := 1) rfl (g21363.lt ad1) (g21363.tg ad1) (Nat.le_of_ble_eq_true rfl)) (by decide) ml140 pp140 (Nat.le_of_ble_eq_true rfl) rfl (by decide) (by decide) ?_
    refine ev_iload_n rfl ?_
    refine ev_iflt f140_16 (fun c21366 => ?_) (fun c21366 => absurd c21366 (by omega))
    refine ev_iconst ?_
    refine ev_ret rfl (by decide) (by decide) ?_
    show jEv _ _ _ _ _ _ _ (_, [(2, 7), (2, 1), (0, 5), (0, a3), (0, (-98)), (9, 0), (9, 0)], [(0, 0)], _, _, _)
    refine ev_ifeq f79_37 (fun c21367 => ?_) (fun c21367 => absurd c21367 (by omega))
    refine ev_aload_n rfl ?_
    refine ev_in (d := 16) (a := 0) (b := 0) (cd' := c70_0) (m := 1) (L0 := [(2, 7)]) (jcall_v (A := []) (S' := []) (r := 7) rfl (g21363.lt ad7) (g21363.tg ad7) (Nat.le_of_ble_eq_true rfl)) (by decide) ml70 pp70 (Nat.le_of_ble_eq_true rfl) rfl (by decide) (by decide) ?_
    refine ev_aload_n rfl ?_
    refine g_getv (r := 7) (v := w0) g21363 ad7 (by decide) ft5_1 (((jw_ne e21363 (Or.inr (by decide))).trans ew0)) ?_
    refine ev_ifge f70_15 (fun c21368 => ?_) (fun c21368 => ?_)
    · refine ev_ret rfl (by decide) (by decide) ?_
      show jEv _ _ _ _ _ _ _ (_, [(2, 7), (2, 1), (0, 5), (0, a3), (0, (-98)), (9, 0), (9, 0)], [], _, _, _)
      refine ev_iconst ?_
      exact ev_ret rfl (by decide) (by decide) ⟨_, _, rfl, by omega, by omega, g21363, k21363, (((jw_ne e21363 (Or.inr (by decide))).trans ew0)), by omega, by omega⟩
    · refine ev_aload_n rfl ?_
      refine ev_aload_n rfl ?_
      refine g_getv (r := 7) (v := (w1 + 1)) g21363 ad7 (by decide) ft5_2 ((jw_eq e21363)) ?_
      refine g_putf (r := 7) g21363 ad7 (by decide) ft5_1 (by decide) (fun e => absurd e nz5_1) rf7_1 (by decide) (by omega) (by omega) (fun h21369 e21369 g21369 => ?_)
      have k21369 := k21363.wr e21369 rfl
      refine ev_ret rfl (by decide) (by decide) ?_
      show jEv _ _ _ _ _ _ _ (_, [(2, 7), (2, 1), (0, 5), (0, a3), (0, (-98)), (9, 0), (9, 0)], [], _, _, _)
      refine ev_iconst ?_
      exact ev_ret rfl (by decide) (by decide) ⟨_, _, rfl, by omega, by omega, g21369, k21369, ((jw_eq e21369)), by omega, by omega⟩
  · refine ev_aload_n rfl ?_
    refine g_getp (r := 7) (c := 8) g21363 ad7 (by decide) (by decide) rf7_5 ft5_5 ?_
    refine ev_aload_n rfl ?_
    refine g_getv (r := 7) (v := (w1 + 1)) g21363 ad7 (by decide) ft5_2 ((jw_eq e21363)) ?_
    refine g_bald g21363 ad8 rt8 (by omega) (by omega) (fun v21370 ev21370 lv21370 uv21370 => ?_)
    refine ev_sipush ?_
    refine g_iandB (b := 255) (by omega) (by omega) (by decide) (fun v21371 ev21371 lv21371 uv21371 => ?_)
    refine ev_goto f68_28 ?_
    refine ev_ret rfl (by decide) (by decide) ?_
    show jEv _ _ _ _ _ _ _ (_, [(2, 7), (2, 1), (0, 5), (0, a3), (9, 0), (9, 0), (9, 0)], [(0, v21371)], _, _, _)
    refine ev_bipush ?_
    refine ev_isub (r := (v21371 - 97)) (by unfold w32; omega) ?_
    refine ev_istore (L' := [(2, 7), (2, 1), (0, 5), (0, a3), (0, (v21371 - 97)), (9, 0), (9, 0)]) (Nat.le_of_ble_eq_true rfl) rfl ?_
    refine ev_aload_n rfl ?_
    refine ev_iload rfl ?_
    refine ev_in (d := 16) (a := 0) (b := 0) (cd' := c140_0) (m := 2) (L0 := [(2, 1), (0, (v21371 - 97))]) (jcall_v (A := [(0, (v21371 - 97))]) (S' := []) (r := 1) rfl (g21363.lt ad1) (g21363.tg ad1) (Nat.le_of_ble_eq_true rfl)) (by decide) ml140 pp140 (Nat.le_of_ble_eq_true rfl) rfl (by decide) (by decide) ?_
    refine ev_iload_n rfl ?_
    refine ev_iflt f140_16 (fun c21372 => ?_) (fun c21372 => ?_)
    · refine ev_iconst ?_
      refine ev_ret rfl (by decide) (by decide) ?_
      show jEv _ _ _ _ _ _ _ (_, [(2, 7), (2, 1), (0, 5), (0, a3), (0, (v21371 - 97)), (9, 0), (9, 0)], [(0, 0)], _, _, _)
      refine ev_ifeq f79_37 (fun c21373 => ?_) (fun c21373 => absurd c21373 (by omega))
      refine ev_aload_n rfl ?_
      refine ev_in (d := 16) (a := 0) (b := 0) (cd' := c70_0) (m := 1) (L0 := [(2, 7)]) (jcall_v (A := []) (S' := []) (r := 7) rfl (g21363.lt ad7) (g21363.tg ad7) (Nat.le_of_ble_eq_true rfl)) (by decide) ml70 pp70 (Nat.le_of_ble_eq_true rfl) rfl (by decide) (by decide) ?_
      refine ev_aload_n rfl ?_
      refine g_getv (r := 7) (v := w0) g21363 ad7 (by decide) ft5_1 (((jw_ne e21363 (Or.inr (by decide))).trans ew0)) ?_
      refine ev_ifge f70_15 (fun c21374 => ?_) (fun c21374 => ?_)
      · refine ev_ret rfl (by decide) (by decide) ?_
        show jEv _ _ _ _ _ _ _ (_, [(2, 7), (2, 1), (0, 5), (0, a3), (0, (v21371 - 97)), (9, 0), (9, 0)], [], _, _, _)
        refine ev_iconst ?_
        exact ev_ret rfl (by decide) (by decide) ⟨_, _, rfl, by omega, by omega, g21363, k21363, (((jw_ne e21363 (Or.inr (by decide))).trans ew0)), by omega, by omega⟩
      · refine ev_aload_n rfl ?_
        refine ev_aload_n rfl ?_
        refine g_getv (r := 7) (v := (w1 + 1)) g21363 ad7 (by decide) ft5_2 ((jw_eq e21363)) ?_
        refine g_putf (r := 7) g21363 ad7 (by decide) ft5_1 (by decide) (fun e => absurd e nz5_1) rf7_1 (by decide) (by omega) (by omega) (fun h21375 e21375 g21375 => ?_)
        have k21375 := k21363.wr e21375 rfl
        refine ev_ret rfl (by decide) (by decide) ?_
        show jEv _ _ _ _ _ _ _ (_, [(2, 7), (2, 1), (0, 5), (0, a3), (0, (v21371 - 97)), (9, 0), (9, 0)], [], _, _, _)
        refine ev_iconst ?_
        exact ev_ret rfl (by decide) (by decide) ⟨_, _, rfl, by omega, by omega, g21375, k21375, ((jw_eq e21375)), by omega, by omega⟩
    · refine ev_iload_n rfl ?_
      refine ev_aload_n rfl ?_
      obtain ⟨v21376, ev21376, lv21376, uv21376⟩ := g21363.rd ad1 (show 0 < 8 by decide) rf1_0
      refine g_getv (r := 1) (v := v21376) g21363 ad1 (by decide) ft10_0 ev21376 ?_
      refine ev_icmpge f140_16 (fun c21377 => ?_) (fun c21377 => ?_)
      · refine ev_iconst ?_
        refine ev_ret rfl (by decide) (by decide) ?_
        show jEv _ _ _ _ _ _ _ (_, [(2, 7), (2, 1), (0, 5), (0, a3), (0, (v21371 - 97)), (9, 0), (9, 0)], [(0, 0)], _, _, _)
        refine ev_ifeq f79_37 (fun c21378 => ?_) (fun c21378 => absurd c21378 (by omega))
        refine ev_aload_n rfl ?_
        refine ev_in (d := 16) (a := 0) (b := 0) (cd' := c70_0) (m := 1) (L0 := [(2, 7)]) (jcall_v (A := []) (S' := []) (r := 7) rfl (g21363.lt ad7) (g21363.tg ad7) (Nat.le_of_ble_eq_true rfl)) (by decide) ml70 pp70 (Nat.le_of_ble_eq_true rfl) rfl (by decide) (by decide) ?_
        refine ev_aload_n rfl ?_
        refine g_getv (r := 7) (v := w0) g21363 ad7 (by decide) ft5_1 (((jw_ne e21363 (Or.inr (by decide))).trans ew0)) ?_
        refine ev_ifge f70_15 (fun c21379 => ?_) (fun c21379 => ?_)
        · refine ev_ret rfl (by decide) (by decide) ?_
          show jEv _ _ _ _ _ _ _ (_, [(2, 7), (2, 1), (0, 5), (0, a3), (0, (v21371 - 97)), (9, 0), (9, 0)], [], _, _, _)
          refine ev_iconst ?_
          exact ev_ret rfl (by decide) (by decide) ⟨_, _, rfl, by omega, by omega, g21363, k21363, (((jw_ne e21363 (Or.inr (by decide))).trans ew0)), by omega, by omega⟩
        · refine ev_aload_n rfl ?_
          refine ev_aload_n rfl ?_
          refine g_getv (r := 7) (v := (w1 + 1)) g21363 ad7 (by decide) ft5_2 ((jw_eq e21363)) ?_
          refine g_putf (r := 7) g21363 ad7 (by decide) ft5_1 (by decide) (fun e => absurd e nz5_1) rf7_1 (by decide) (by omega) (by omega) (fun h21380 e21380 g21380 => ?_)
          have k21380 := k21363.wr e21380 rfl
          refine ev_ret rfl (by decide) (by decide) ?_
          show jEv _ _ _ _ _ _ _ (_, [(2, 7), (2, 1), (0, 5), (0, a3), (0, (v21371 - 97)), (9, 0), (9, 0)], [], _, _, _)
          refine ev_iconst ?_
          exact ev_ret rfl (by decide) (by decide) ⟨_, _, rfl, by omega, by omega, g21380, k21380, ((jw_eq e21380)), by omega, by omega⟩
      · refine ev_iconst ?_
        refine ev_goto f140_17 ?_
        refine ev_ret rfl (by decide) (by decide) ?_
        show jEv _ _ _ _ _ _ _ (_, [(2, 7), (2, 1), (0, 5), (0, a3), (0, (v21371 - 97)), (9, 0), (9, 0)], [(0, 1)], _, _, _)
        refine ev_ifeq f79_37 (fun c21381 => absurd c21381 (by omega)) (fun c21381 => ?_)
        refine ev_iload_n rfl ?_
        refine ev_iload rfl ?_
        refine g_ishrG (fun v21382 ev21382 lv21382 uv21382 => ?_)
        refine ev_iconst ?_
        refine g_iandB (b := 1) (by omega) (by omega) (by decide) (fun v21383 ev21383 lv21383 uv21383 => ?_)
        refine ev_ifeq f79_43 (fun c21384 => ?_) (fun c21384 => ?_)
        · refine ev_aload_n rfl ?_
          refine ev_dup (by decide) ?_
          refine g_getv (r := 7) (v := (w1 + 1)) g21363 ad7 (by decide) ft5_2 ((jw_eq e21363)) ?_
          refine ev_iconst ?_
          refine ev_iadd (r := (w1 + 2)) (by unfold w32; omega) ?_
          refine g_putf (r := 7) g21363 ad7 (by decide) ft5_2 (by decide) (fun e => absurd e nz5_2) rf7_2 (by decide) (by omega) (by omega) (fun h21385 e21385 g21385 => ?_)
          have k21385 := k21363.wr e21385 rfl
          refine ev_aload_n rfl ?_
          refine ev_iload_n rfl ?_
          refine ev_call (jcall_v (A := [(0, 5)]) (S' := []) (r := 7) rfl (g21385.lt ad7) (g21385.tg ad7) (Nat.le_of_ble_eq_true rfl)) (jOk_le (by decide) (s72 g21385 (by omega) (by omega) (((jw_ne e21385 (Or.inr (by decide))).trans ((jw_ne e21363 (Or.inr (by decide))).trans ew0))) (by omega) (by omega))) (by decide) (by decide) (fun w21386 h21386 q21386 => ?_)
          obtain ⟨v21387, rfl, g21386, kk21386, ev21387, p21386_0⟩ := q21386
          have bv21387 := g21386.rg ad7 (i := 1) (by decide) rf7_1
          rw [ev21387] at bv21387
          have k21386 := k21385.tr kk21386 (by decide)
          show jEv _ _ _ _ _ _ _ (_, [(2, 7), (2, 1), (0, 5), (0, a3), (0, (v21371 - 97)), (9, 0), (9, 0)], [], _, _, _)
          refine ev_aload_n rfl ?_
          refine ev_iconst ?_
          refine ev_call (jcall_v (A := [(0, 2)]) (S' := []) (r := 7) rfl (g21386.lt ad7) (g21386.tg ad7) (Nat.le_of_ble_eq_true rfl)) (jOk_le (by decide) (s73 g21386 (by omega) (by omega) (ev21387) (by omega) (by omega))) (by decide) (by decide) (fun w21388 h21388 q21388 => ?_)
          obtain ⟨v21390, v21389, rfl, lv21390, uv21390, g21388, kk21388, ev21389, p21388_0, p21388_1⟩ := q21388
          have bv21389 := g21388.rg ad7 (i := 1) (by decide) rf7_1
          rw [ev21389] at bv21389
          have k21388 := k21386.tr kk21388 (by decide)
          show jEv _ _ _ _ _ _ _ (_, [(2, 7), (2, 1), (0, 5), (0, a3), (0, (v21371 - 97)), (9, 0), (9, 0)], [(0, v21390)], _, _, _)
          refine ev_istore (L' := [(2, 7), (2, 1), (0, 5), (0, a3), (0, (v21371 - 97)), (0, v21390), (9, 0)]) (Nat.le_of_ble_eq_true rfl) rfl ?_
          refine ev_iconst ?_
          refine ev_istore (L' := [(2, 7), (2, 1), (0, 5), (0, a3), (0, (v21371 - 97)), (0, v21390), (0, 0)]) (Nat.le_of_ble_eq_true rfl) rfl ?_
          exact (s79_5_l la3 ua3 ew0 lw0 uw0 ew1 lw1 uw1 8) _ _ _ _ _ g21388 k21388 (by omega) (by omega) (by omega) (by omega) (by omega) (by omega) (by omega) (by omega) (by omega) (by omega) (ev21389) (by omega) (by omega) (by omega)
        · refine ev_aload_n rfl ?_
          refine ev_in (d := 16) (a := 0) (b := 0) (cd' := c70_0) (m := 1) (L0 := [(2, 7)]) (jcall_v (A := []) (S' := []) (r := 7) rfl (g21363.lt ad7) (g21363.tg ad7) (Nat.le_of_ble_eq_true rfl)) (by decide) ml70 pp70 (Nat.le_of_ble_eq_true rfl) rfl (by decide) (by decide) ?_
          refine ev_aload_n rfl ?_
          refine g_getv (r := 7) (v := w0) g21363 ad7 (by decide) ft5_1 (((jw_ne e21363 (Or.inr (by decide))).trans ew0)) ?_
          refine ev_ifge f70_15 (fun c21391 => ?_) (fun c21391 => ?_)
          · refine ev_ret rfl (by decide) (by decide) ?_
            show jEv _ _ _ _ _ _ _ (_, [(2, 7), (2, 1), (0, 5), (0, a3), (0, (v21371 - 97)), (9, 0), (9, 0)], [], _, _, _)
            refine ev_iconst ?_
            exact ev_ret rfl (by decide) (by decide) ⟨_, _, rfl, by omega, by omega, g21363, k21363, (((jw_ne e21363 (Or.inr (by decide))).trans ew0)), by omega, by omega⟩
          · refine ev_aload_n rfl ?_
            refine ev_aload_n rfl ?_
            refine g_getv (r := 7) (v := (w1 + 1)) g21363 ad7 (by decide) ft5_2 ((jw_eq e21363)) ?_
            refine g_putf (r := 7) g21363 ad7 (by decide) ft5_1 (by decide) (fun e => absurd e nz5_1) rf7_1 (by decide) (by omega) (by omega) (fun h21392 e21392 g21392 => ?_)
            have k21392 := k21363.wr e21392 rfl
            refine ev_ret rfl (by decide) (by decide) ?_
            show jEv _ _ _ _ _ _ _ (_, [(2, 7), (2, 1), (0, 5), (0, a3), (0, (v21371 - 97)), (9, 0), (9, 0)], [], _, _, _)
            refine ev_iconst ?_
            exact ev_ret rfl (by decide) (by decide) ⟨_, _, rfl, by omega, by omega, g21392, k21392, ((jw_eq e21392)), by omega, by omega⟩
/-! s74_5  -/
set_option maxHeartbeats 4000000 in
theorem s74_5 {G : GH} {h : JH} (g : Gd G h) {a3 : Int} (la3 : (-2147483648) ≤ a3) (ua3 : a3 ≤ 2147483647) {w0 : Int} (ew0 : h.2.2 7 1 = w0) (lw0 : (-1) ≤ w0) (uw0 : w0 ≤ 200) : jOk 19 0 0 74 [(2, 7), (2, 1), (0, 5), (0, a3)] h (fun v h' => ∃ r F : Int, v = some (0, r) ∧ (-1) ≤ r ∧ r ≤ 199 ∧ Gd G h' ∧ Kp [(7, 2), (7, 3), (7, 4), (10, 0), (11, 0), (12, 0), (13, 0), (14, 0), (15, 0), (16, 0), (17, 0)] h h' ∧ h'.2.2 7 1 = F ∧ ((-F) + w0) ≤ 0 ∧ ((-F) + (-r)) ≤ 1) := by
  refine ⟨by decide, by rw [ml74]; exact Nat.le_of_ble_eq_true rfl, ?_⟩
  rw [ml74, pp74]
  show jEv _ none _ c74_0 0 0 _ (c74_0, [(2, 7), (2, 1), (0, 5), (0, a3), (9, 0)], [], h, 0, 0)
  have k0 := Kp.rf [(7, 2), (7, 3), (7, 4), (10, 0), (11, 0), (12, 0), (13, 0), (14, 0), (15, 0), (16, 0), (17, 0)] h
  refine ev_aload_n rfl ?_
  refine g_getv (r := 7) (v := w0) g ad7 (by decide) ft5_1 (ew0) ?_
  refine ev_ifge f74_13 (fun c21459 => ?_) (fun c21459 => ?_)
  · refine ev_aload_n rfl ?_
    refine ev_in (d := 17) (a := 0) (b := 0) (cd' := c70_0) (m := 1) (L0 := [(2, 7)]) (jcall_v (A := []) (S' := []) (r := 7) rfl (g.lt ad7) (g.tg ad7) (Nat.le_of_ble_eq_true rfl)) (by decide) ml70 pp70 (Nat.le_of_ble_eq_true rfl) rfl (by decide) (by decide) ?_
    refine ev_aload_n rfl ?_
    refine g_getv (r := 7) (v := w0) g ad7 (by decide) ft5_1 (ew0) ?_
    refine ev_ifge f70_15 (fun c21460 => ?_) (fun c21460 => absurd c21460 (by omega))
    refine ev_ret rfl (by decide) (by decide) ?_
    show jEv _ _ _ _ _ _ _ (_, [(2, 7), (2, 1), (0, 5), (0, a3), (9, 0)], [], _, _, _)
    refine ev_iconst ?_
    exact ev_ret rfl (by decide) (by decide) ⟨_, _, rfl, by omega, by omega, g, k0, (ew0), by omega, by omega⟩
  · refine ev_iload_n rfl ?_
    refine ev_bipush ?_
    refine ev_icmple f74_19 (fun c21461 => ?_) (fun c21461 => absurd c21461 (by omega))
    refine ev_aload_n rfl ?_
    refine ev_in (d := 17) (a := 0) (b := 0) (cd' := c68_0) (m := 1) (L0 := [(2, 7)]) (jcall_v (A := []) (S' := []) (r := 7) rfl (g.lt ad7) (g.tg ad7) (Nat.le_of_ble_eq_true rfl)) (by decide) ml68 pp68 (Nat.le_of_ble_eq_true rfl) rfl (by decide) (by decide) ?_
    refine ev_aload_n rfl ?_
    obtain ⟨v21462, ev21462, lv21462, uv21462⟩ := g.rd ad7 (show 2 < 15 by decide) rf7_2
    refine g_getv (r := 7) (v := v21462) g ad7 (by decide) ft5_2 ev21462 ?_
    refine ev_aload_n rfl ?_
    obtain ⟨v21463, ev21463, lv21463, uv21463⟩ := g.rd ad7 (show 0 < 15 by decide) rf7_0
    refine g_getv (r := 7) (v := v21463) g ad7 (by decide) ft5_0 ev21463 ?_
    refine ev_icmpge f68_27 (fun c21464 => ?_) (fun c21464 => ?_)
    · refine ev_iconst ?_
      refine ev_ret rfl (by decide) (by decide) ?_
      show jEv _ _ _ _ _ _ _ (_, [(2, 7), (2, 1), (0, 5), (0, a3), (9, 0)], [(0, (-1))], _, _, _)
      refine ev_istore (L' := [(2, 7), (2, 1), (0, 5), (0, a3), (0, (-1))]) (Nat.le_of_ble_eq_true rfl) rfl ?_
      refine ev_iload rfl ?_
      refine ev_bipush ?_
      refine ev_icmpne f74_40 (fun c21465 => ?_) (fun c21465 => absurd c21465 (by omega))
      refine ev_iload rfl ?_
      refine ev_bipush ?_
      refine ev_icmpne f74_55 (fun c21466 => ?_) (fun c21466 => absurd c21466 (by omega))
      refine ev_iload rfl ?_
      refine ev_bipush ?_
      refine ev_icmplt f74_78 (fun c21467 => ?_) (fun c21467 => absurd c21467 (by omega))
      refine ev_aload_n rfl ?_
      refine ev_call (jcall_v (A := []) (S' := []) (r := 7) rfl (g.lt ad7) (g.tg ad7) (Nat.le_of_ble_eq_true rfl)) (jOk_le (by decide) (s75 g (ew0) (by omega) (by omega))) (by decide) (by decide) (fun w21468 h21468 q21468 => ?_)
      obtain ⟨v21470, v21469, rfl, lv21470, uv21470, g21468, kk21468, ev21469, p21468_0, p21468_1⟩ := q21468
      have bv21469 := g21468.rg ad7 (i := 1) (by decide) rf7_1
      rw [ev21469] at bv21469
      have k21468 := k0.tr kk21468 (by decide)
      show jEv _ _ _ _ _ _ _ (_, [(2, 7), (2, 1), (0, 5), (0, a3), (0, (-1))], [(0, v21470)], _, _, _)
      exact ev_ret rfl (by decide) (by decide) ⟨_, _, rfl, by omega, by omega, g21468, k21468, (ev21469), by omega, by omega⟩
    · refine ev_aload_n rfl ?_
      refine g_getp (r := 7) (c := 8) g ad7 (by decide) (by decide) rf7_5 ft5_5 ?_
      refine ev_aload_n rfl ?_
      refine g_getv (r := 7) (v := v21462) g ad7 (by decide) ft5_2 (ev21462) ?_
      refine g_bald g ad8 rt8 (by omega) (by omega) (fun v21471 ev21471 lv21471 uv21471 => ?_)
      refine ev_sipush ?_
      refine g_iandB (b := 255) (by omega) (by omega) (by decide) (fun v21472 ev21472 lv21472 uv21472 => ?_)
      refine ev_goto f68_28 ?_
      refine ev_ret rfl (by decide) (by decide) ?_
      show jEv _ _ _ _ _ _ _ (_, [(2, 7), (2, 1), (0, 5), (0, a3), (9, 0)], [(0, v21472)], _, _, _)
      refine ev_istore (L' := [(2, 7), (2, 1), (0, 5), (0, a3), (0, v21472)]) (Nat.le_of_ble_eq_true rfl) rfl ?_
      refine ev_iload rfl ?_
      refine ev_bipush ?_
      refine ev_icmpne f74_40 (fun c21473 => ?_) (fun c21473 => ?_)
      · refine ev_iload rfl ?_
        refine ev_bipush ?_
        refine ev_icmpne f74_55 (fun c21474 => ?_) (fun c21474 => ?_)
        · refine ev_iload rfl ?_
          refine ev_bipush ?_
          refine ev_icmplt f74_78 (fun c21475 => ?_) (fun c21475 => ?_)
          · refine ev_aload_n rfl ?_
            refine ev_call (jcall_v (A := []) (S' := []) (r := 7) rfl (g.lt ad7) (g.tg ad7) (Nat.le_of_ble_eq_true rfl)) (jOk_le (by decide) (s75 g (ew0) (by omega) (by omega))) (by decide) (by decide) (fun w21476 h21476 q21476 => ?_)
            obtain ⟨v21478, v21477, rfl, lv21478, uv21478, g21476, kk21476, ev21477, p21476_0, p21476_1⟩ := q21476
            have bv21477 := g21476.rg ad7 (i := 1) (by decide) rf7_1
            rw [ev21477] at bv21477
            have k21476 := k0.tr kk21476 (by decide)
            show jEv _ _ _ _ _ _ _ (_, [(2, 7), (2, 1), (0, 5), (0, a3), (0, v21472)], [(0, v21478)], _, _, _)
            exact ev_ret rfl (by decide) (by decide) ⟨_, _, rfl, by omega, by omega, g21476, k21476, (ev21477), by omega, by omega⟩
          · refine ev_iload rfl ?_
            refine ev_bipush ?_
            refine ev_icmpge f74_78 (fun c21479 => ?_) (fun c21479 => ?_)
            · refine ev_aload_n rfl ?_
              refine ev_call (jcall_v (A := []) (S' := []) (r := 7) rfl (g.lt ad7) (g.tg ad7) (Nat.le_of_ble_eq_true rfl)) (jOk_le (by decide) (s75 g (ew0) (by omega) (by omega))) (by decide) (by decide) (fun w21480 h21480 q21480 => ?_)
              obtain ⟨v21482, v21481, rfl, lv21482, uv21482, g21480, kk21480, ev21481, p21480_0, p21480_1⟩ := q21480
              have bv21481 := g21480.rg ad7 (i := 1) (by decide) rf7_1
              rw [ev21481] at bv21481
              have k21480 := k0.tr kk21480 (by decide)
              show jEv _ _ _ _ _ _ _ (_, [(2, 7), (2, 1), (0, 5), (0, a3), (0, v21472)], [(0, v21482)], _, _, _)
              exact ev_ret rfl (by decide) (by decide) ⟨_, _, rfl, by omega, by omega, g21480, k21480, (ev21481), by omega, by omega⟩
            · refine ev_aload_n rfl ?_
              refine ev_iload_n rfl ?_
              refine ev_iload_n rfl ?_
              refine ev_call (jcall_v (A := [(0, a3), (0, 5)]) (S' := []) (r := 7) rfl (g.lt ad7) (g.tg ad7) (Nat.le_of_ble_eq_true rfl)) (jOk_le (by decide) (s77 g (by omega) (by omega) (by omega) (by omega) (ew0) (by omega) (by omega))) (by decide) (by decide) (fun w21483 h21483 q21483 => ?_)
              obtain ⟨v21485, v21484, rfl, lv21485, uv21485, g21483, kk21483, ev21484, p21483_0, p21483_1⟩ := q21483
              have bv21484 := g21483.rg ad7 (i := 1) (by decide) rf7_1
              rw [ev21484] at bv21484
              have k21483 := k0.tr kk21483 (by decide)
              show jEv _ _ _ _ _ _ _ (_, [(2, 7), (2, 1), (0, 5), (0, a3), (0, v21472)], [(0, v21485)], _, _, _)
              refine ev_goto f74_82 ?_
              exact ev_ret rfl (by decide) (by decide) ⟨_, _, rfl, by omega, by omega, g21483, k21483, (ev21484), by omega, by omega⟩
        · refine ev_aload_n rfl ?_
          refine ev_aload_n rfl ?_
          refine ev_iload_n rfl ?_
          refine ev_iload_n rfl ?_
          refine ev_call (jcall_v (A := [(0, a3), (0, 5), (2, 1)]) (S' := []) (r := 7) rfl (g.lt ad7) (g.tg ad7) (Nat.le_of_ble_eq_true rfl)) (jOk_le (by decide) (s79_5 g (by omega) (by omega) (ew0) (by omega) (by omega) (ev21462) (by omega) (by omega))) (by decide) (by decide) (fun w21486 h21486 q21486 => ?_)
          obtain ⟨v21488, v21487, rfl, lv21488, uv21488, g21486, kk21486, ev21487, p21486_0, p21486_1⟩ := q21486
          have bv21487 := g21486.rg ad7 (i := 1) (by decide) rf7_1
          rw [ev21487] at bv21487
          have k21486 := k0.tr kk21486 (by decide)
          show jEv _ _ _ _ _ _ _ (_, [(2, 7), (2, 1), (0, 5), (0, a3), (0, v21472)], [(0, v21488)], _, _, _)
          exact ev_ret rfl (by decide) (by decide) ⟨_, _, rfl, by omega, by omega, g21486, k21486, (ev21487), by omega, by omega⟩
      · refine ev_aload_n rfl ?_
        refine ev_aload_n rfl ?_
        refine ev_iload_n rfl ?_
        refine ev_iload_n rfl ?_
        refine ev_call (jcall_v (A := [(0, a3), (0, 5), (2, 1)]) (S' := []) (r := 7) rfl (g.lt ad7) (g.tg ad7) (Nat.le_of_ble_eq_true rfl)) (jOk_le (by decide) (s78_5 g (by omega) (by omega) (ew0) (by omega) (by omega) (ev21462) (by omega) (by omega))) (by decide) (by decide) (fun w21489 h21489 q21489 => ?_)
        obtain ⟨v21491, v21490, rfl, lv21491, uv21491, g21489, kk21489, ev21490, p21489_0, p21489_1⟩ := q21489
        have bv21490 := g21489.rg ad7 (i := 1) (by decide) rf7_1
        rw [ev21490] at bv21490
        have k21489 := k0.tr kk21489 (by decide)
        show jEv _ _ _ _ _ _ _ (_, [(2, 7), (2, 1), (0, 5), (0, a3), (0, v21472)], [(0, v21491)], _, _, _)
        exact ev_ret rfl (by decide) (by decide) ⟨_, _, rfl, by omega, by omega, g21489, k21489, (ev21490), by omega, by omega⟩
/-! s78_4  -/
set_option maxHeartbeats 4000000 in
theorem s78_4_l {G : GH} {h : JH} {a3 : Int} (la3 : (-2147483648) ≤ a3) (ua3 : a3 ≤ 2147483647) {w0 : Int} (ew0 : h.2.2 7 1 = w0) (lw0 : (-1) ≤ w0) (uw0 : w0 ≤ 200) {w1 : Int} (ew1 : h.2.2 7 2 = w1) (lw1 : 0 ≤ w1) (uw1 : w1 ≤ 199) : ∀ N : Nat, (∀ (h1 : JH) (x4 x5 y0 : Int) (j6 : AV), Gd G h1 → Kp [(7, 2), (7, 3), (7, 4), (10, 0), (11, 0), (12, 0), (13, 0), (14, 0), (15, 0), (16, 0), (17, 0)] h h1 → (-2147483648) ≤ a3 → a3 ≤ 2147483647 → (-1) ≤ x4 → x4 ≤ 199 → 0 ≤ x5 → x5 ≤ 3 → (w0 + (-y0)) ≤ 0 → ((-x4) + (-y0)) ≤ 1 → h1.2.2 7 1 = y0 → (-1) ≤ y0 → y0 ≤ 200 → ((-x5) + 3) < N → jEv (jOk 19) none (fun _ => 0) c78_0 0 0 (fun v h' => ∃ r F : Int, v = some (0, r) ∧ (-1) ≤ r ∧ r ≤ 199 ∧ Gd G h' ∧ Kp [(7, 2), (7, 3), (7, 4), (10, 0), (11, 0), (12, 0), (13, 0), (14, 0), (15, 0), (16, 0), (17, 0)] h h' ∧ h'.2.2 7 1 = F ∧ ((-F) + w0) ≤ 0 ∧ ((-F) + (-r)) ≤ 1) (c78_25, [(2, 7), (2, 1), (0, 4), (0, a3), (0, x4), (0, x5), j6], [], h1, 0, 0)) := by
  intro N
  induction N with
  | zero => exact fun h1 x4 x5 y0 j6 g1 k1 b0 b1 b2 b3 b4 b5 b6 b7 b8 b9 b10 hm => absurd hm (by omega)
  | succ N ih =>
    show _
    intro h1 x4 x5 y0 j6 g1 k1 b0 b1 b2 b3 b4 b5 b6 b7 ey0 ly0 uy0 hm
    refine ev_iload rfl ?_
    refine ev_iconst ?_
    refine ev_icmpge f78_100 (fun c21660 => absurd c21660 (by omega)) (fun c21660 => ?_)
    refine ev_aload_n rfl ?_
    refine g_getv (r := 7) (v := y0) g1 ad7 (by decide) ft5_1 (ey0) ?_
    refine ev_ifge f78_100 (fun c21661 => ?_) (fun c21661 => ?_)
    · refine ev_aload_n rfl ?_
      refine ev_bipush ?_
      refine ev_call (jcall_v (A := [(0, 41)]) (S' := []) (r := 7) rfl (g1.lt ad7) (g1.tg ad7) (Nat.le_of_ble_eq_true rfl)) (jOk_le (by decide) (s71 g1 (by omega) (by omega) (ey0) (by omega) (by omega))) (by decide) (by decide) (fun w21662 h21662 q21662 => ?_)
      obtain ⟨v21663, rfl, g21662, kk21662, ev21663, p21662_0⟩ := q21662
      have bv21663 := g21662.rg ad7 (i := 1) (by decide) rf7_1
      rw [ev21663] at bv21663
      have k21662 := k1.tr kk21662 (by decide)
      show jEv _ _ _ _ _ _ _ (_, [(2, 7), (2, 1), (0, 4), (0, a3), (0, x4), (0, x5), j6], [], _, _, _)
      refine ev_aload_n rfl ?_
      refine g_getv (r := 7) (v := v21663) g21662 ad7 (by decide) ft5_1 (ev21663) ?_
      refine ev_iflt f78_117 (fun c21664 => absurd c21664 (by omega)) (fun c21664 => ?_)
      refine ev_iconst ?_
      refine ev_goto f78_119 ?_
      exact ev_ret rfl (by decide) (by decide) ⟨_, _, rfl, by omega, by omega, g21662, k21662, (ev21663), by omega, by omega⟩
    · refine ev_aload_n rfl ?_
      refine ev_iconst ?_
      refine ev_call (jcall_v (A := [(0, 2)]) (S' := []) (r := 7) rfl (g1.lt ad7) (g1.tg ad7) (Nat.le_of_ble_eq_true rfl)) (jOk_le (by decide) (s76 g1 (by omega) (by omega) (ey0) (by omega) (by omega))) (by decide) (by decide) (fun w21665 h21665 q21665 => ?_)
      obtain ⟨v21667, v21666, rfl, lv21667, uv21667, g21665, kk21665, ev21666, p21665_0⟩ := q21665
      have bv21666 := g21665.rg ad7 (i := 1) (by decide) rf7_1
      rw [ev21666] at bv21666
      have k21665 := k1.tr kk21665 (by decide)
      show jEv _ _ _ _ _ _ _ (_, [(2, 7), (2, 1), (0, 4), (0, a3), (0, x4), (0, x5), j6], [(0, v21667)], _, _, _)
      refine ev_istore (L' := [(2, 7), (2, 1), (0, 4), (0, a3), (0, x4), (0, x5), (0, v21667)]) (Nat.le_of_ble_eq_true rfl) rfl ?_
      refine ev_aload_n rfl ?_
      refine ev_bipush ?_
      refine ev_call (jcall_v (A := [(0, 58)]) (S' := []) (r := 7) rfl (g21665.lt ad7) (g21665.tg ad7) (Nat.le_of_ble_eq_true rfl)) (jOk_le (by decide) (s71 g21665 (by omega) (by omega) (ev21666) (by omega) (by omega))) (by decide) (by decide) (fun w21668 h21668 q21668 => ?_)
      obtain ⟨v21669, rfl, g21668, kk21668, ev21669, p21668_0⟩ := q21668
      have bv21669 := g21668.rg ad7 (i := 1) (by decide) rf7_1
      rw [ev21669] at bv21669
      have k21668 := k21665.tr kk21668 (by decide)
      show jEv _ _ _ _ _ _ _ (_, [(2, 7), (2, 1), (0, 4), (0, a3), (0, x4), (0, x5), (0, v21667)], [], _, _, _)
      refine ev_aload_n rfl ?_
      refine ev_iload rfl ?_
      refine ev_iload rfl ?_
      refine ev_iload rfl ?_
      refine ev_aload_n rfl ?_
      refine ev_aload_n rfl ?_
      refine ev_iload_n rfl ?_
      refine ev_iconst ?_
      refine ev_iadd (r := 5) (by decide) ?_
      refine ev_iload_n rfl ?_
      refine ev_call (jcall_v (A := [(0, a3), (0, 5), (2, 1)]) (S' := [(0, v21667), (0, x5), (0, x4), (2, 7)]) (r := 7) rfl (g21668.lt ad7) (g21668.tg ad7) (Nat.le_of_ble_eq_true rfl)) (jOk_le (by decide) (s74_5 g21668 (by omega) (by omega) (ev21669) (by omega) (by omega))) (by decide) (by decide) (fun w21670 h21670 q21670 => ?_)
      obtain ⟨v21672, v21671, rfl, lv21672, uv21672, g21670, kk21670, ev21671, p21670_0, p21670_1⟩ := q21670
      have bv21671 := g21670.rg ad7 (i := 1) (by decide) rf7_1
      rw [ev21671] at bv21671
      have k21670 := k21668.tr kk21670 (by decide)
      show jEv _ _ _ _ _ _ _ (_, [(2, 7), (2, 1), (0, 4), (0, a3), (0, x4), (0, x5), (0, v21667)], [(0, v21672), (0, v21667), (0, x5), (0, x4), (2, 7)], _, _, _)
      refine ev_call (jcall_v (A := [(0, v21672), (0, v21667), (0, x5), (0, x4)]) (S' := []) (r := 7) rfl (g21670.lt ad7) (g21670.tg ad7) (Nat.le_of_ble_eq_true rfl)) (jOk_le (by decide) (s80 g21670 (by omega) (by omega) (by omega) (by omega) (by omega) (by omega) (by omega) (by omega))) (by decide) (by decide) (fun w21673 h21673 q21673 => ?_)
      obtain ⟨rfl, g21673, kk21673⟩ := q21673
      have k21673 := k21670.tr kk21673 (by decide)
      show jEv _ _ _ _ _ _ _ (_, [(2, 7), (2, 1), (0, 4), (0, a3), (0, x4), (0, x5), (0, v21667)], [], _, _, _)
      refine ev_aload_n rfl ?_
      refine ev_in (d := 18) (a := 0) (b := 0) (cd' := c68_0) (m := 1) (L0 := [(2, 7)]) (jcall_v (A := []) (S' := []) (r := 7) rfl (g21673.lt ad7) (g21673.tg ad7) (Nat.le_of_ble_eq_true rfl)) (by decide) ml68 pp68 (Nat.le_of_ble_eq_true rfl) rfl (by decide) (by decide) ?_
      refine ev_aload_n rfl ?_
      obtain ⟨v21674, ev21674, lv21674, uv21674⟩ := g21673.rd ad7 (show 2 < 15 by decide) rf7_2
      refine g_getv (r := 7) (v := v21674) g21673 ad7 (by decide) ft5_2 ev21674 ?_
      refine ev_aload_n rfl ?_
      obtain ⟨v21675, ev21675, lv21675, uv21675⟩ := g21673.rd ad7 (show 0 < 15 by decide) rf7_0
      refine g_getv (r := 7) (v := v21675) g21673 ad7 (by decide) ft5_0 ev21675 ?_
      refine ev_icmpge f68_27 (fun c21676 => ?_) (fun c21676 => ?_)
      · refine ev_iconst ?_
        refine ev_ret rfl (by decide) (by decide) ?_
        show jEv _ _ _ _ _ _ _ (_, [(2, 7), (2, 1), (0, 4), (0, a3), (0, x4), (0, x5), (0, v21667)], [(0, (-1))], _, _, _)
        refine ev_bipush ?_
        refine ev_icmpne f78_100 (fun c21677 => ?_) (fun c21677 => absurd c21677 (by omega))
        refine ev_aload_n rfl ?_
        refine ev_bipush ?_
        refine ev_call (jcall_v (A := [(0, 41)]) (S' := []) (r := 7) rfl (g21673.lt ad7) (g21673.tg ad7) (Nat.le_of_ble_eq_true rfl)) (jOk_le (by decide) (s71 g21673 (by omega) (by omega) (((kk21673.v (by decide)).trans ev21671)) (by omega) (by omega))) (by decide) (by decide) (fun w21678 h21678 q21678 => ?_)
        obtain ⟨v21679, rfl, g21678, kk21678, ev21679, p21678_0⟩ := q21678
        have bv21679 := g21678.rg ad7 (i := 1) (by decide) rf7_1
        rw [ev21679] at bv21679
        have k21678 := k21673.tr kk21678 (by decide)
        show jEv _ _ _ _ _ _ _ (_, [(2, 7), (2, 1), (0, 4), (0, a3), (0, x4), (0, x5), (0, v21667)], [], _, _, _)
        refine ev_aload_n rfl ?_
        refine g_getv (r := 7) (v := v21679) g21678 ad7 (by decide) ft5_1 (ev21679) ?_
        refine ev_iflt f78_117 (fun c21680 => ?_) (fun c21680 => ?_)
        · refine ev_iload rfl ?_
          exact ev_ret rfl (by decide) (by decide) ⟨_, _, rfl, by omega, by omega, g21678, k21678, (ev21679), by omega, by omega⟩
        · refine ev_iconst ?_
          refine ev_goto f78_119 ?_
          exact ev_ret rfl (by decide) (by decide) ⟨_, _, rfl, by omega, by omega, g21678, k21678, (ev21679), by omega, by omega⟩
      · refine ev_aload_n rfl ?_
        refine g_getp (r := 7) (c := 8) g21673 ad7 (by decide) (by decide) rf7_5 ft5_5 ?_
        refine ev_aload_n rfl ?_
        refine g_getv (r := 7) (v := v21674) g21673 ad7 (by decide) ft5_2 (ev21674) ?_
        refine g_bald g21673 ad8 rt8 (by omega) (by omega) (fun v21681 ev21681 lv21681 uv21681 => ?_)
        refine ev_sipush ?_
        refine g_iandB (b := 255) (by omega) (by omega) (by decide) (fun v21682 ev21682 lv21682 uv21682 => ?_)
        refine ev_goto f68_28 ?_
        refine ev_ret rfl (by decide) (by decide) ?_
        show jEv _ _ _ _ _ _ _ (_, [(2, 7), (2, 1), (0, 4), (0, a3), (0, x4), (0, x5), (0, v21667)], [(0, v21682)], _, _, _)
        refine ev_bipush ?_
        refine ev_icmpne f78_100 (fun c21683 => ?_) (fun c21683 => ?_)
        · refine ev_aload_n rfl ?_
          refine ev_bipush ?_
          refine ev_call (jcall_v (A := [(0, 41)]) (S' := []) (r := 7) rfl (g21673.lt ad7) (g21673.tg ad7) (Nat.le_of_ble_eq_true rfl)) (jOk_le (by decide) (s71 g21673 (by omega) (by omega) (((kk21673.v (by decide)).trans ev21671)) (by omega) (by omega))) (by decide) (by decide) (fun w21684 h21684 q21684 => ?_)
          obtain ⟨v21685, rfl, g21684, kk21684, ev21685, p21684_0⟩ := q21684
          have bv21685 := g21684.rg ad7 (i := 1) (by decide) rf7_1
          rw [ev21685] at bv21685
          have k21684 := k21673.tr kk21684 (by decide)
          show jEv _ _ _ _ _ _ _ (_, [(2, 7), (2, 1), (0, 4), (0, a3), (0, x4), (0, x5), (0, v21667)], [], _, _, _)
          refine ev_aload_n rfl ?_
          refine g_getv (r := 7) (v := v21685) g21684 ad7 (by decide) ft5_1 (ev21685) ?_
          refine ev_iflt f78_117 (fun c21686 => ?_) (fun c21686 => ?_)
          · refine ev_iload rfl ?_
            exact ev_ret rfl (by decide) (by decide) ⟨_, _, rfl, by omega, by omega, g21684, k21684, (ev21685), by omega, by omega⟩
          · refine ev_iconst ?_
            refine ev_goto f78_119 ?_
            exact ev_ret rfl (by decide) (by decide) ⟨_, _, rfl, by omega, by omega, g21684, k21684, (ev21685), by omega, by omega⟩
        · refine ev_iload rfl ?_
          refine ev_iconst ?_
          refine ev_icmpne f78_88 (fun c21687 => ?_) (fun c21687 => ?_)
          · refine ev_aload_n rfl ?_
            refine ev_bipush ?_
            refine ev_call (jcall_v (A := [(0, 44)]) (S' := []) (r := 7) rfl (g21673.lt ad7) (g21673.tg ad7) (Nat.le_of_ble_eq_true rfl)) (jOk_le (by decide) (s71 g21673 (by omega) (by omega) (((kk21673.v (by decide)).trans ev21671)) (by omega) (by omega))) (by decide) (by decide) (fun w21688 h21688 q21688 => ?_)
            obtain ⟨v21689, rfl, g21688, kk21688, ev21689, p21688_0⟩ := q21688
            have bv21689 := g21688.rg ad7 (i := 1) (by decide) rf7_1
            rw [ev21689] at bv21689
            have k21688 := k21673.tr kk21688 (by decide)
            show jEv _ _ _ _ _ _ _ (_, [(2, 7), (2, 1), (0, 4), (0, a3), (0, x4), (0, x5), (0, v21667)], [], _, _, _)
            refine ev_iinc (w := (x5 + 1)) (L' := [(2, 7), (2, 1), (0, 4), (0, a3), (0, x4), (0, (x5 + 1)), (0, v21667)]) rfl (by unfold w32; omega) rfl ?_
            refine ev_goto f78_25 ?_
            exact ih _ _ _ _ _ g21688 k21688 (by omega) (by omega) (by omega) (by omega) (by omega) (by omega) (by omega) (by omega) (ev21689) (by omega) (by omega) (by omega)
          · refine ev_goto f78_100 ?_
            refine ev_aload_n rfl ?_
            refine ev_bipush ?_
            refine ev_call (jcall_v (A := [(0, 41)]) (S' := []) (r := 7) rfl (g21673.lt ad7) (g21673.tg ad7) (Nat.le_of_ble_eq_true rfl)) (jOk_le (by decide) (s71 g21673 (by omega) (by omega) (((kk21673.v (by decide)).trans ev21671)) (by omega) (by omega))) (by decide) (by decide) (fun w21690 h21690 q21690 => ?_)
            obtain ⟨v21691, rfl, g21690, kk21690, ev21691, p21690_0⟩ := q21690
            have bv21691 := g21690.rg ad7 (i := 1) (by decide) rf7_1
            rw [ev21691] at bv21691
            have k21690 := k21673.tr kk21690 (by decide)
            show jEv _ _ _ _ _ _ _ (_, [(2, 7), (2, 1), (0, 4), (0, a3), (0, x4), (0, x5), (0, v21667)], [], _, _, _)
            refine ev_aload_n rfl ?_
            refine g_getv (r := 7) (v := v21691) g21690 ad7 (by decide) ft5_1 (ev21691) ?_
            refine ev_iflt f78_117 (fun c21692 => ?_) (fun c21692 => ?_)
            · refine ev_iload rfl ?_
              exact ev_ret rfl (by decide) (by decide) ⟨_, _, rfl, by omega, by omega, g21690, k21690, (ev21691), by omega, by omega⟩
            · refine ev_iconst ?_
              refine ev_goto f78_119 ?_
              exact ev_ret rfl (by decide) (by decide) ⟨_, _, rfl, by omega, by omega, g21690, k21690, (ev21691), by omega, by omega⟩
set_option maxHeartbeats 4000000 in
theorem s78_4 {G : GH} {h : JH} (g : Gd G h) {a3 : Int} (la3 : (-2147483648) ≤ a3) (ua3 : a3 ≤ 2147483647) {w0 : Int} (ew0 : h.2.2 7 1 = w0) (lw0 : (-1) ≤ w0) (uw0 : w0 ≤ 200) {w1 : Int} (ew1 : h.2.2 7 2 = w1) (lw1 : 0 ≤ w1) (uw1 : w1 ≤ 199) : jOk 20 0 0 78 [(2, 7), (2, 1), (0, 4), (0, a3)] h (fun v h' => ∃ r F : Int, v = some (0, r) ∧ (-1) ≤ r ∧ r ≤ 199 ∧ Gd G h' ∧ Kp [(7, 2), (7, 3), (7, 4), (10, 0), (11, 0), (12, 0), (13, 0), (14, 0), (15, 0), (16, 0), (17, 0)] h h' ∧ h'.2.2 7 1 = F ∧ ((-F) + w0) ≤ 0 ∧ ((-F) + (-r)) ≤ 1) := by
  refine ⟨by decide, by rw [ml78]; exact Nat.le_of_ble_eq_true rfl, ?_⟩
  rw [ml78, pp78]
  show jEv _ none _ c78_0 0 0 _ (c78_0, [(2, 7), (2, 1), (0, 4), (0, a3), (9, 0), (9, 0), (9, 0)], [], h, 0, 0)
  have k0 := Kp.rf [(7, 2), (7, 3), (7, 4), (10, 0), (11, 0), (12, 0), (13, 0), (14, 0), (15, 0), (16, 0), (17, 0)] h
  refine ev_aload_n rfl ?_
  refine ev_dup (by decide) ?_
  refine g_getv (r := 7) (v := w1) g ad7 (by decide) ft5_2 (ew1) ?_
  refine ev_iconst ?_
  refine ev_iadd (r := (w1 + 1)) (by unfold w32; omega) ?_
  refine g_putf (r := 7) g ad7 (by decide) ft5_2 (by decide) (fun e => absurd e nz5_2) rf7_2 (by decide) (by omega) (by omega) (fun h21693 e21693 g21693 => ?_)
  have k21693 := k0.wr e21693 rfl
  refine ev_aload_n rfl ?_
  refine ev_iload_n rfl ?_
  refine ev_call (jcall_v (A := [(0, 4)]) (S' := []) (r := 7) rfl (g21693.lt ad7) (g21693.tg ad7) (Nat.le_of_ble_eq_true rfl)) (jOk_le (by decide) (s72 g21693 (by omega) (by omega) (((jw_ne e21693 (Or.inr (by decide))).trans ew0)) (by omega) (by omega))) (by decide) (by decide) (fun w21694 h21694 q21694 => ?_)
  obtain ⟨v21695, rfl, g21694, kk21694, ev21695, p21694_0⟩ := q21694
  have bv21695 := g21694.rg ad7 (i := 1) (by decide) rf7_1
  rw [ev21695] at bv21695
  have k21694 := k21693.tr kk21694 (by decide)
  show jEv _ _ _ _ _ _ _ (_, [(2, 7), (2, 1), (0, 4), (0, a3), (9, 0), (9, 0), (9, 0)], [], _, _, _)
  refine ev_aload_n rfl ?_
  refine ev_iconst ?_
  refine ev_call (jcall_v (A := [(0, 1)]) (S' := []) (r := 7) rfl (g21694.lt ad7) (g21694.tg ad7) (Nat.le_of_ble_eq_true rfl)) (jOk_le (by decide) (s73 g21694 (by omega) (by omega) (ev21695) (by omega) (by omega))) (by decide) (by decide) (fun w21696 h21696 q21696 => ?_)
  obtain ⟨v21698, v21697, rfl, lv21698, uv21698, g21696, kk21696, ev21697, p21696_0, p21696_1⟩ := q21696
  have bv21697 := g21696.rg ad7 (i := 1) (by decide) rf7_1
  rw [ev21697] at bv21697
  have k21696 := k21694.tr kk21696 (by decide)
  show jEv _ _ _ _ _ _ _ (_, [(2, 7), (2, 1), (0, 4), (0, a3), (9, 0), (9, 0), (9, 0)], [(0, v21698)], _, _, _)
  refine ev_istore (L' := [(2, 7), (2, 1), (0, 4), (0, a3), (0, v21698), (9, 0), (9, 0)]) (Nat.le_of_ble_eq_true rfl) rfl ?_
  refine ev_iconst ?_
  refine ev_istore (L' := [(2, 7), (2, 1), (0, 4), (0, a3), (0, v21698), (0, 0), (9, 0)]) (Nat.le_of_ble_eq_true rfl) rfl ?_
  exact (s78_4_l la3 ua3 ew0 lw0 uw0 ew1 lw1 uw1 8) _ _ _ _ _ g21696 k21696 (by omega) (by omega) (by omega) (by omega) (by omega) (by omega) (by omega) (by omega) (ev21697) (by omega) (by omega) (by omega)
/-! s79_4  -/
set_option maxHeartbeats 4000000 in
theorem s79_4_l {G : GH} {h : JH} {a3 : Int} (la3 : (-2147483648) ≤ a3) (ua3 : a3 ≤ 2147483647) {w0 : Int} (ew0 : h.2.2 7 1 = w0) (lw0 : (-1) ≤ w0) (uw0 : w0 ≤ 200) {w1 : Int} (ew1 : h.2.2 7 2 = w1) (lw1 : 0 ≤ w1) (uw1 : w1 ≤ 199) : ∀ N : Nat, (∀ (h1 : JH) (x4 x5 x6 y0 : Int), Gd G h1 → Kp [(7, 2), (7, 3), (7, 4), (10, 0), (11, 0), (12, 0), (13, 0), (14, 0), (15, 0), (16, 0), (17, 0)] h h1 → (-2147483648) ≤ a3 → a3 ≤ 2147483647 → 0 ≤ x4 → x4 ≤ 3 → (-1) ≤ x5 → x5 ≤ 199 → 0 ≤ x6 → x6 ≤ 3 → (w0 + (-y0)) ≤ 0 → ((-x5) + (-y0)) ≤ 1 → h1.2.2 7 1 = y0 → (-1) ≤ y0 → y0 ≤ 200 → ((-x6) + 3) < N → jEv (jOk 19) none (fun _ => 0) c79_0 0 0 (fun v h' => ∃ r F : Int, v = some (0, r) ∧ (-1) ≤ r ∧ r ≤ 199 ∧ Gd G h' ∧ Kp [(7, 2), (7, 3), (7, 4), (10, 0), (11, 0), (12, 0), (13, 0), (14, 0), (15, 0), (16, 0), (17, 0)] h h' ∧ h'.2.2 7 1 = F ∧ ((-F) + w0) ≤ 0 ∧ ((-F) + (-r)) ≤ 1) (c79_68, [(2, 7), (2, 1), (0, 4), (0, a3), (0, x4), (0, x5), (0, x6)], [], h1, 0, 0)) := by
  intro N
  induction N with
  | zero => exact fun h1 x4 x5 x6 y0 g1 k1 b0 b1 b2 b3 b4 b5 b6 b7 b8 b9 b10 b11 b12 hm => absurd hm (by omega)
  | succ N ih =>
    show _
    intro h1 x4 x5 x6 y0 g1 k1 b0 b1 b2 b3 b4 b5 b6 b7 b8 b9 ey0 ly0 uy0 hm
    refine ev_iload rfl ?_
    refine ev_aload_n rfl ?_
    refine ev_iload rfl ?_
    refine ev_in (d := 18) (a := 0) (b := 0) (cd' := c141_0) (m := 2) (L0 := [(2, 1), (0, x4)]) (jcall_v (A := [(0, x4)]) (S' := [(0, x6)]) (r := 1) rfl (g1.lt ad1) (g1.tg ad1) (Nat.le_of_ble_eq_true rfl)) (by decide) ml141 pp141 (Nat.le_of_ble_eq_true rfl) rfl (by decide) (by decide) ?_
    refine ev_aload_n rfl ?_
    refine ev_iload_n rfl ?_
    refine ev_in (d := 17) (a := 0) (b := 0) (cd' := c140_0) (m := 2) (L0 := [(2, 1), (0, x4)]) (jcall_v (A := [(0, x4)]) (S' := []) (r := 1) rfl (g1.lt ad1) (g1.tg ad1) (Nat.le_of_ble_eq_true rfl)) (by decide) ml140 pp140 (Nat.le_of_ble_eq_true rfl) rfl (by decide) (by decide) ?_
    refine ev_iload_n rfl ?_
    refine ev_iflt f140_16 (fun c21958 => absurd c21958 (by omega)) (fun c21958 => ?_)
    refine ev_iload_n rfl ?_
    refine ev_aload_n rfl ?_
    obtain ⟨v21959, ev21959, lv21959, uv21959⟩ := g1.rd ad1 (show 0 < 8 by decide) rf1_0
    refine g_getv (r := 1) (v := v21959) g1 ad1 (by decide) ft10_0 ev21959 ?_
    refine ev_icmpge f140_16 (fun c21960 => ?_) (fun c21960 => ?_)
    · refine ev_iconst ?_
      refine ev_ret rfl (by decide) (by decide) ?_
      show jEv _ _ _ _ _ _ _ (_, [(2, 1), (0, x4)], [(0, 0)], _, _, _)
      refine ev_ifeq f141_17 (fun c21961 => ?_) (fun c21961 => absurd c21961 (by omega))
      refine ev_iconst ?_
      refine ev_ret rfl (by decide) (by decide) ?_
      show jEv _ _ _ _ _ _ _ (_, [(2, 7), (2, 1), (0, 4), (0, a3), (0, x4), (0, x5), (0, x6)], [(0, 0), (0, x6)], _, _, _)
      refine ev_icmpge f79_126 (fun c21962 => ?_) (fun c21962 => absurd c21962 (by omega))
      refine ev_aload_n rfl ?_
      refine ev_bipush ?_
      refine ev_call (jcall_v (A := [(0, 41)]) (S' := []) (r := 7) rfl (g1.lt ad7) (g1.tg ad7) (Nat.le_of_ble_eq_true rfl)) (jOk_le (by decide) (s71 g1 (by omega) (by omega) (ey0) (by omega) (by omega))) (by decide) (by decide) (fun w21963 h21963 q21963 => ?_)
      obtain ⟨v21964, rfl, g21963, kk21963, ev21964, p21963_0⟩ := q21963
      have bv21964 := g21963.rg ad7 (i := 1) (by decide) rf7_1
      rw [ev21964] at bv21964
      have k21963 := k1.tr kk21963 (by decide)
      show jEv _ _ _ _ _ _ _ (_, [(2, 7), (2, 1), (0, 4), (0, a3), (0, x4), (0, x5), (0, x6)], [], _, _, _)
      refine ev_aload_n rfl ?_
      refine g_getv (r := 7) (v := v21964) g21963 ad7 (by decide) ft5_1 (ev21964) ?_
      refine ev_ifge f79_144 (fun c21965 => ?_) (fun c21965 => ?_)
      · refine ev_iconst ?_
        exact ev_ret rfl (by decide) (by decide) ⟨_, _, rfl, by omega, by omega, g21963, k21963, (ev21964), by omega, by omega⟩
      · refine ev_iload rfl ?_
        refine ev_ifge f79_146 (fun c21966 => ?_) (fun c21966 => absurd c21966 (by omega))
        refine ev_aload_n rfl ?_
        refine g_getp (r := 7) (c := 11) g21963 ad7 (by decide) (by decide) rf7_8 ft5_8 ?_
        refine ev_iload rfl ?_
        refine ev_iload rfl ?_
        refine g_iast g21963 ad11 rt11 (fun _ => rfl) (by omega) (by omega) (by omega) (by omega) (fun h21967 e21967 g21967 => ?_)
        have k21967 := k21963.wr e21967 rfl
        refine ev_aload_n rfl ?_
        refine g_getp (r := 7) (c := 15) g21967 ad7 (by decide) (by decide) rf7_12 ft5_12 ?_
        refine ev_iload rfl ?_
        refine ev_dup2 (by decide) (by decide) ?_
        refine g_iald g21967 ad15 rt15 (by omega) (by omega) (fun v21968 ev21968 lv21968 uv21968 => ?_)
        refine ev_iconst ?_
        refine ev_iload rfl ?_
        refine g_ishlB (a' := 1) (a := 1) (b := 3) (hi := 8) (by omega) (by omega) (by omega) (by omega) (by decide) (by decide) (fun v21969 ev21969 lv21969 uv21969 => ?_)
        refine g_iorG (fun v21970 ev21970 lv21970 uv21970 => ?_)
        refine g_iast g21967 ad15 rt15 (fun _ => rfl) (by omega) (by omega) (by omega) (by omega) (fun h21971 e21971 g21971 => ?_)
        have k21971 := k21967.wr e21971 rfl
        refine ev_iload rfl ?_
        exact ev_ret rfl (by decide) (by decide) ⟨_, _, rfl, by omega, by omega, g21971, k21971, (((jw_ne e21971 (Or.inl (by decide))).trans ((jw_ne e21967 (Or.inl (by decide))).trans ev21964))), by omega, by omega⟩
    · refine ev_iconst ?_
      refine ev_goto f140_17 ?_
      refine ev_ret rfl (by decide) (by decide) ?_
      show jEv _ _ _ _ _ _ _ (_, [(2, 1), (0, x4)], [(0, 1)], _, _, _)
      refine ev_ifeq f141_17 (fun c21972 => absurd c21972 (by omega)) (fun c21972 => ?_)
      refine ev_aload_n rfl ?_
      refine g_getp (r := 1) (c := 2) g1 ad1 (by decide) (by decide) rf1_3 ft10_3 ?_
      refine ev_iload_n rfl ?_
      refine g_iald g1 ad2 rt2 (by omega) (by omega) (fun v21973 ev21973 lv21973 uv21973 => ?_)
      have xv21973 := (g1.ex.1.1 (x4 : Int).toNat (by rw [(ev21959)]; omega))
      rw [ev21973] at xv21973
      refine ev_goto f141_18 ?_
      refine ev_ret rfl (by decide) (by decide) ?_
      show jEv _ _ _ _ _ _ _ (_, [(2, 7), (2, 1), (0, 4), (0, a3), (0, x4), (0, x5), (0, x6)], [(0, v21973), (0, x6)], _, _, _)
      refine ev_icmpge f79_126 (fun c21974 => ?_) (fun c21974 => ?_)
      · refine ev_aload_n rfl ?_
        refine ev_bipush ?_
        refine ev_call (jcall_v (A := [(0, 41)]) (S' := []) (r := 7) rfl (g1.lt ad7) (g1.tg ad7) (Nat.le_of_ble_eq_true rfl)) (jOk_le (by decide) (s71 g1 (by omega) (by omega) (ey0) (by omega) (by omega))) (by decide) (by decide) (fun w21975 h21975 q21975 => ?_)
        obtain ⟨v21976, rfl, g21975, kk21975, ev21976, p21975_0⟩ := q21975
        have bv21976 := g21975.rg ad7 (i := 1) (by decide) rf7_1
        rw [ev21976] at bv21976
        have k21975 := k1.tr kk21975 (by decide)
        show jEv _ _ _ _ _ _ _ (_, [(2, 7), (2, 1), (0, 4), (0, a3), (0, x4), (0, x5), (0, x6)], [], _, _, _)
        refine ev_aload_n rfl ?_
        refine g_getv (r := 7) (v := v21976) g21975 ad7 (by decide) ft5_1 (ev21976) ?_
        refine ev_ifge f79_144 (fun c21977 => ?_) (fun c21977 => ?_)
        · refine ev_iconst ?_
          exact ev_ret rfl (by decide) (by decide) ⟨_, _, rfl, by omega, by omega, g21975, k21975, (ev21976), by omega, by omega⟩
        · refine ev_iload rfl ?_
          refine ev_ifge f79_146 (fun c21978 => ?_) (fun c21978 => absurd c21978 (by omega))
          refine ev_aload_n rfl ?_
          refine g_getp (r := 7) (c := 11) g21975 ad7 (by decide) (by decide) rf7_8 ft5_8 ?_
          refine ev_iload rfl ?_
          refine ev_iload rfl ?_
          refine g_iast g21975 ad11 rt11 (fun _ => rfl) (by omega) (by omega) (by omega) (by omega) (fun h21979 e21979 g21979 => ?_)
          have k21979 := k21975.wr e21979 rfl
          refine ev_aload_n rfl ?_
          refine g_getp (r := 7) (c := 15) g21979 ad7 (by decide) (by decide) rf7_12 ft5_12 ?_
          refine ev_iload rfl ?_
          refine ev_dup2 (by decide) (by decide) ?_
          refine g_iald g21979 ad15 rt15 (by omega) (by omega) (fun v21980 ev21980 lv21980 uv21980 => ?_)
          refine ev_iconst ?_
          refine ev_iload rfl ?_
          refine g_ishlB (a' := 1) (a := 1) (b := 3) (hi := 8) (by omega) (by omega) (by omega) (by omega) (by decide) (by decide) (fun v21981 ev21981 lv21981 uv21981 => ?_)
          refine g_iorG (fun v21982 ev21982 lv21982 uv21982 => ?_)
          refine g_iast g21979 ad15 rt15 (fun _ => rfl) (by omega) (by omega) (by omega) (by omega) (fun h21983 e21983 g21983 => ?_)
          have k21983 := k21979.wr e21983 rfl
          refine ev_iload rfl ?_
          exact ev_ret rfl (by decide) (by decide) ⟨_, _, rfl, by omega, by omega, g21983, k21983, (((jw_ne e21983 (Or.inl (by decide))).trans ((jw_ne e21979 (Or.inl (by decide))).trans ev21976))), by omega, by omega⟩
      · refine ev_aload_n rfl ?_
        refine g_getv (r := 7) (v := y0) g1 ad7 (by decide) ft5_1 (ey0) ?_
        refine ev_ifge f79_126 (fun c21984 => ?_) (fun c21984 => ?_)
        · refine ev_aload_n rfl ?_
          refine ev_bipush ?_
          refine ev_call (jcall_v (A := [(0, 41)]) (S' := []) (r := 7) rfl (g1.lt ad7) (g1.tg ad7) (Nat.le_of_ble_eq_true rfl)) (jOk_le (by decide) (s71 g1 (by omega) (by omega) (ey0) (by omega) (by omega))) (by decide) (by decide) (fun w21985 h21985 q21985 => ?_)
          obtain ⟨v21986, rfl, g21985, kk21985, ev21986, p21985_0⟩ := q21985
          have bv21986 := g21985.rg ad7 (i := 1) (by decide) rf7_1
          rw [ev21986] at bv21986
          have k21985 := k1.tr kk21985 (by decide)
          show jEv _ _ _ _ _ _ _ (_, [(2, 7), (2, 1), (0, 4), (0, a3), (0, x4), (0, x5), (0, x6)], [], _, _, _)
          refine ev_aload_n rfl ?_
          refine g_getv (r := 7) (v := v21986) g21985 ad7 (by decide) ft5_1 (ev21986) ?_
          refine ev_ifge f79_144 (fun c21987 => ?_) (fun c21987 => absurd c21987 (by omega))
          refine ev_iconst ?_
          exact ev_ret rfl (by decide) (by decide) ⟨_, _, rfl, by omega, by omega, g21985, k21985, (ev21986), by omega, by omega⟩
        · refine ev_iload rfl ?_
          refine ev_ifle f79_97 (fun c21988 => ?_) (fun c21988 => ?_)
          · refine ev_aload_n rfl ?_
            refine ev_iload rfl ?_
            refine ev_iload rfl ?_
            refine ev_iconst ?_
            refine ev_aload_n rfl ?_
            refine ev_aload_n rfl ?_
            refine ev_iload_n rfl ?_
            refine ev_iconst ?_
            refine ev_iadd (r := 5) (by decide) ?_
            refine ev_iload_n rfl ?_
            refine ev_iconst ?_
            refine ev_iload rfl ?_
            refine g_ishlB (a' := 1) (a := 1) (b := 3) (hi := 8) (by omega) (by omega) (by omega) (by omega) (by decide) (by decide) (fun v21989 ev21989 lv21989 uv21989 => ?_)
            refine g_iorG (fun v21990 ev21990 lv21990 uv21990 => ?_)
            refine ev_call (jcall_v (A := [(0, v21990), (0, 5), (2, 1)]) (S' := [(0, 0), (0, x6), (0, x5), (2, 7)]) (r := 7) rfl (g1.lt ad7) (g1.tg ad7) (Nat.le_of_ble_eq_true rfl)) (jOk_le (by decide) (s74_5 g1 (by omega) (by omega) (ey0) (by omega) (by omega))) (by decide) (by decide) (fun w21991 h21991 q21991 => ?_)
            obtain ⟨v21993, v21992, rfl, lv21993, uv21993, g21991, kk21991, ev21992, p21991_0, p21991_1⟩ := q21991
            have bv21992 := g21991.rg ad7 (i := 1) (by decide) rf7_1
            rw [ev21992] at bv21992
            have k21991 := k1.tr kk21991 (by decide)
            show jEv _ _ _ _ _ _ _ (_, [(2, 7), (2, 1), (0, 4), (0, a3), (0, x4), (0, x5), (0, x6)], [(0, v21993), (0, 0), (0, x6), (0, x5), (2, 7)], _, _, _)
            refine ev_call (jcall_v (A := [(0, v21993), (0, 0), (0, x6), (0, x5)]) (S' := []) (r := 7) rfl (g21991.lt ad7) (g21991.tg ad7) (Nat.le_of_ble_eq_true rfl)) (jOk_le (by decide) (s80 g21991 (by omega) (by omega) (by omega) (by omega) (by omega) (by omega) (by omega) (by omega))) (by decide) (by decide) (fun w21994 h21994 q21994 => ?_)
            obtain ⟨rfl, g21994, kk21994⟩ := q21994
            have k21994 := k21991.tr kk21994 (by decide)
            show jEv _ _ _ _ _ _ _ (_, [(2, 7), (2, 1), (0, 4), (0, a3), (0, x4), (0, x5), (0, x6)], [], _, _, _)
            refine ev_iinc (w := (x6 + 1)) (L' := [(2, 7), (2, 1), (0, 4), (0, a3), (0, x4), (0, x5), (0, (x6 + 1))]) rfl (by unfold w32; omega) rfl ?_
            refine ev_goto f79_68 ?_
            exact ih _ _ _ _ _ g21994 k21994 (by omega) (by omega) (by omega) (by omega) (by omega) (by omega) (by omega) (by omega) (by omega) (by omega) (((kk21994.v (by decide)).trans ev21992)) (by omega) (by omega) (by omega)
          · refine ev_aload_n rfl ?_
            refine ev_bipush ?_
            refine ev_call (jcall_v (A := [(0, 44)]) (S' := []) (r := 7) rfl (g1.lt ad7) (g1.tg ad7) (Nat.le_of_ble_eq_true rfl)) (jOk_le (by decide) (s71 g1 (by omega) (by omega) (ey0) (by omega) (by omega))) (by decide) (by decide) (fun w21995 h21995 q21995 => ?_)
            obtain ⟨v21996, rfl, g21995, kk21995, ev21996, p21995_0⟩ := q21995
            have bv21996 := g21995.rg ad7 (i := 1) (by decide) rf7_1
            rw [ev21996] at bv21996
            have k21995 := k1.tr kk21995 (by decide)
            show jEv _ _ _ _ _ _ _ (_, [(2, 7), (2, 1), (0, 4), (0, a3), (0, x4), (0, x5), (0, x6)], [], _, _, _)
            refine ev_aload_n rfl ?_
            refine ev_iload rfl ?_
            refine ev_iload rfl ?_
            refine ev_iconst ?_
            refine ev_aload_n rfl ?_
            refine ev_aload_n rfl ?_
            refine ev_iload_n rfl ?_
            refine ev_iconst ?_
            refine ev_iadd (r := 5) (by decide) ?_
            refine ev_iload_n rfl ?_
            refine ev_iconst ?_
            refine ev_iload rfl ?_
            refine g_ishlB (a' := 1) (a := 1) (b := 3) (hi := 8) (by omega) (by omega) (by omega) (by omega) (by decide) (by decide) (fun v21997 ev21997 lv21997 uv21997 => ?_)
            refine g_iorG (fun v21998 ev21998 lv21998 uv21998 => ?_)
            refine ev_call (jcall_v (A := [(0, v21998), (0, 5), (2, 1)]) (S' := [(0, 0), (0, x6), (0, x5), (2, 7)]) (r := 7) rfl (g21995.lt ad7) (g21995.tg ad7) (Nat.le_of_ble_eq_true rfl)) (jOk_le (by decide) (s74_5 g21995 (by omega) (by omega) (ev21996) (by omega) (by omega))) (by decide) (by decide) (fun w21999 h21999 q21999 => ?_)
            obtain ⟨v22001, v22000, rfl, lv22001, uv22001, g21999, kk21999, ev22000, p21999_0, p21999_1⟩ := q21999
            have bv22000 := g21999.rg ad7 (i := 1) (by decide) rf7_1
            rw [ev22000] at bv22000
            have k21999 := k21995.tr kk21999 (by decide)
            show jEv _ _ _ _ _ _ _ (_, [(2, 7), (2, 1), (0, 4), (0, a3), (0, x4), (0, x5), (0, x6)], [(0, v22001), (0, 0), (0, x6), (0, x5), (2, 7)], _, _, _)
            refine ev_call (jcall_v (A := [(0, v22001), (0, 0), (0, x6), (0, x5)]) (S' := []) (r := 7) rfl (g21999.lt ad7) (g21999.tg ad7) (Nat.le_of_ble_eq_true rfl)) (jOk_le (by decide) (s80 g21999 (by omega) (by omega) (by omega) (by omega) (by omega) (by omega) (by omega) (by omega))) (by decide) (by decide) (fun w22002 h22002 q22002 => ?_)
            obtain ⟨rfl, g22002, kk22002⟩ := q22002
            have k22002 := k21999.tr kk22002 (by decide)
            show jEv _ _ _ _ _ _ _ (_, [(2, 7), (2, 1), (0, 4), (0, a3), (0, x4), (0, x5), (0, x6)], [], _, _, _)
            refine ev_iinc (w := (x6 + 1)) (L' := [(2, 7), (2, 1), (0, 4), (0, a3), (0, x4), (0, x5), (0, (x6 + 1))]) rfl (by unfold w32; omega) rfl ?_
            refine ev_goto f79_68 ?_
            exact ih _ _ _ _ _ g22002 k22002 (by omega) (by omega) (by omega) (by omega) (by omega) (by omega) (by omega) (by omega) (by omega) (by omega) (((kk22002.v (by decide)).trans ev22000)) (by omega) (by omega) (by omega)
set_option maxHeartbeats 4000000 in
theorem s79_4 {G : GH} {h : JH} (g : Gd G h) {a3 : Int} (la3 : (-2147483648) ≤ a3) (ua3 : a3 ≤ 2147483647) {w0 : Int} (ew0 : h.2.2 7 1 = w0) (lw0 : (-1) ≤ w0) (uw0 : w0 ≤ 200) {w1 : Int} (ew1 : h.2.2 7 2 = w1) (lw1 : 0 ≤ w1) (uw1 : w1 ≤ 199) : jOk 20 0 0 79 [(2, 7), (2, 1), (0, 4), (0, a3)] h (fun v h' => ∃ r F : Int, v = some (0, r) ∧ (-1) ≤ r ∧ r ≤ 199 ∧ Gd G h' ∧ Kp [(7, 2), (7, 3), (7, 4), (10, 0), (11, 0), (12, 0), (13, 0), (14, 0), (15, 0), (16, 0), (17, 0)] h h' ∧ h'.2.2 7 1 = F ∧ ((-F) + w0) ≤ 0 ∧ ((-F) + (-r)) ≤ 1) := by
  refine ⟨by decide, by rw [ml79]; exact Nat.le_of_ble_eq_true rfl, ?_⟩
  rw [ml79, pp79]
  show jEv _ none _ c79_0 0 0 _ (c79_0, [(2, 7), (2, 1), (0, 4), (0, a3), (9, 0), (9, 0), (9, 0)], [], h, 0, 0)
  have k0 := Kp.rf [(7, 2), (7, 3), (7, 4), (10, 0), (11, 0), (12, 0), (13, 0), (14, 0), (15, 0), (16, 0), (17, 0)] h
  refine ev_aload_n rfl ?_
  refine ev_dup (by decide) ?_
  refine g_getv (r := 7) (v := w1) g ad7 (by decide) ft5_2 (ew1) ?_
  refine ev_iconst ?_
  refine ev_iadd (r := (w1 + 1)) (by unfold w32; omega) ?_
  refine g_putf (r := 7) g ad7 (by decide) ft5_2 (by decide) (fun e => absurd e nz5_2) rf7_2 (by decide) (by omega) (by omega) (fun h22003 e22003 g22003 => ?_)
  have k22003 := k0.wr e22003 rfl
  refine ev_aload_n rfl ?_
  refine ev_in (d := 18) (a := 0) (b := 0) (cd' := c68_0) (m := 1) (L0 := [(2, 7)]) (jcall_v (A := []) (S' := []) (r := 7) rfl (g22003.lt ad7) (g22003.tg ad7) (Nat.le_of_ble_eq_true rfl)) (by decide) ml68 pp68 (Nat.le_of_ble_eq_true rfl) rfl (by decide) (by decide) ?_
  refine ev_aload_n rfl ?_
  refine g_getv (r := 7) (v := (w1 + 1)) g22003 ad7 (by decide) ft5_2 ((jw_eq e22003)) ?_
  refine ev_aload_n rfl ?_
  obtain ⟨v22004, ev22004, lv22004, uv22004⟩ := g22003.rd ad7 (show 0 < 15 by decide) rf7_0
  refine g_getv (r := 7) (v := v22004) g22003 ad7 (by decide) ft5_0 ev22004 ?_
  refine ev_icmpge f68_27 (fun c22005 => ?_) (fun c22005 => ?_)
  · refine ev_iconst ?_
    refine ev_ret rfl (by decide) (by decide) ?_
    show jEv _ _ _ _ _ _ _ (_, [(2, 7), (2, 1), (0, 4), (0, a3), (9, 0), (9, 0), (9, 0)], [(0, (-1))], _, _, _)
    refine ev_bipush ?_
    refine ev_isub (r := (-98)) (by decide) ?_
    refine ev_istore (L' := [(2, 7), (2, 1), (0, 4), (0, a3), (0, (-98)), (9, 0), (9, 0)]) (Nat.le_of_ble_eq_true rfl) rfl ?_
    refine ev_aload_n rfl ?_
    refine ev_iload rfl ?_
    refine ev_in (d := 18) (a := 0) (b := 0) (cd' := c140_0) (m := 2) (L0 := [(2, 1), (0, (-98))]) (jcall_v (A := [(0, (-98))]) (S' := []) (r := 1) rfl (g22003.lt ad1) (g22003.tg ad1) (Nat.le_of_ble_eq_true rfl)) (by decide) ml140 pp140 (Nat.le_of_ble_eq_true rfl) rfl (by decide) (by decide) ?_
    refine ev_iload_n rfl ?_
    refine ev_iflt f140_16 (fun c22006 => ?_) (fun c22006 => absurd c22006 (by omega))
    refine ev_iconst ?_
    refine ev_ret rfl (by decide) (by decide) ?_
    show jEv _ _ _ _ _ _ _ (_, [(2, 7), (2, 1), (0, 4), (0, a3), (0, (-98)), (9, 0), (9, 0)], [(0, 0)], _, _, _)
    refine ev_ifeq f79_37 (fun c22007 => ?_) (fun c22007 => absurd c22007 (by omega))
    refine ev_aload_n rfl ?_
    refine ev_in (d := 18) (a := 0) (b := 0) (cd' := c70_0) (m := 1) (L0 := [(2, 7)]) (jcall_v (A := []) (S' := []) (r := 7) rfl (g22003.lt ad7) (g22003.tg ad7) (Nat.le_of_ble_eq_true rfl)) (by decide) ml70 pp70 (Nat.le_of_ble_eq_true rfl) rfl (by decide) (by decide) ?_
    refine ev_aload_n rfl ?_
    refine g_getv (r := 7) (v := w0) g22003 ad7 (by decide) ft5_1 (((jw_ne e22003 (Or.inr (by decide))).trans ew0)) ?_
    refine ev_ifge f70_15 (fun c22008 => ?_) (fun c22008 => ?_)
    · refine ev_ret rfl (by decide) (by decide) ?_
      show jEv _ _ _ _ _ _ _ (_, [(2, 7), (2, 1), (0, 4), (0, a3), (0, (-98)), (9, 0), (9, 0)], [], _, _, _)
      refine ev_iconst ?_
      exact ev_ret rfl (by decide) (by decide) ⟨_, _, rfl, by omega, by omega, g22003, k22003, (((jw_ne e22003 (Or.inr (by decide))).trans ew0)), by omega, by omega⟩
    · refine ev_aload_n rfl ?_
      refine ev_aload_n rfl ?_
      refine g_getv (r := 7) (v := (w1 + 1)) g22003 ad7 (by decide) ft5_2 ((jw_eq e22003)) ?_
      refine g_putf (r := 7) g22003 ad7 (by decide) ft5_1 (by decide) (fun e => absurd e nz5_1) rf7_1 (by decide) (by omega) (by omega) (fun h22009 e22009 g22009 => ?_)
      have k22009 := k22003.wr e22009 rfl
      refine ev_ret rfl (by decide) (by decide) ?_
      show jEv _ _ _ _ _ _ _ (_, [(2, 7), (2, 1), (0, 4), (0, a3), (0, (-98)), (9, 0), (9, 0)], [], _, _, _)
      refine ev_iconst ?_
      exact ev_ret rfl (by decide) (by decide) ⟨_, _, rfl, by omega, by omega, g22009, k22009, ((jw_eq e22009)), by omega, by omega⟩
  · refine ev_aload_n rfl ?_
    refine g_getp (r := 7) (c := 8) g22003 ad7 (by decide) (by decide) rf7_5 ft5_5 ?_
    refine ev_aload_n rfl ?_
    refine g_getv (r := 7) (v := (w1 + 1)) g22003 ad7 (by decide) ft5_2 ((jw_eq e22003)) ?_
    refine g_bald g22003 ad8 rt8 (by omega) (by omega) (fun v22010 ev22010 lv22010 uv22010 => ?_)
    refine ev_sipush ?_
    refine g_iandB (b := 255) (by omega) (by omega) (by decide) (fun v22011 ev22011 lv22011 uv22011 => ?_)
    refine ev_goto f68_28 ?_
    refine ev_ret rfl (by decide) (by decide) ?_
    show jEv _ _ _ _ _ _ _ (_, [(2, 7), (2, 1), (0, 4), (0, a3), (9, 0), (9, 0), (9, 0)], [(0, v22011)], _, _, _)
    refine ev_bipush ?_
    refine ev_isub (r := (v22011 - 97)) (by unfold w32; omega) ?_
    refine ev_istore (L' := [(2, 7), (2, 1), (0, 4), (0, a3), (0, (v22011 - 97)), (9, 0), (9, 0)]) (Nat.le_of_ble_eq_true rfl) rfl ?_
    refine ev_aload_n rfl ?_
    refine ev_iload rfl ?_
    refine ev_in (d := 18) (a := 0) (b := 0) (cd' := c140_0) (m := 2) (L0 := [(2, 1), (0, (v22011 - 97))]) (jcall_v (A := [(0, (v22011 - 97))]) (S' := []) (r := 1) rfl (g22003.lt ad1) (g22003.tg ad1) (Nat.le_of_ble_eq_true rfl)) (by decide) ml140 pp140 (Nat.le_of_ble_eq_true rfl) rfl (by decide) (by decide) ?_
    refine ev_iload_n rfl ?_
    refine ev_iflt f140_16 (fun c22012 => ?_) (fun c22012 => ?_)
    · refine ev_iconst ?_
      refine ev_ret rfl (by decide) (by decide) ?_
      show jEv _ _ _ _ _ _ _ (_, [(2, 7), (2, 1), (0, 4), (0, a3), (0, (v22011 - 97)), (9, 0), (9, 0)], [(0, 0)], _, _, _)
      refine ev_ifeq f79_37 (fun c22013 => ?_) (fun c22013 => absurd c22013 (by omega))
      refine ev_aload_n rfl ?_
      refine ev_in (d := 18) (a := 0) (b := 0) (cd' := c70_0) (m := 1) (L0 := [(2, 7)]) (jcall_v (A := []) (S' := []) (r := 7) rfl (g22003.lt ad7) (g22003.tg ad7) (Nat.le_of_ble_eq_true rfl)) (by decide) ml70 pp70 (Nat.le_of_ble_eq_true rfl) rfl (by decide) (by decide) ?_
      refine ev_aload_n rfl ?_
      refine g_getv (r := 7) (v := w0) g22003 ad7 (by decide) ft5_1 (((jw_ne e22003 (Or.inr (by decide))).trans ew0)) ?_
      refine ev_ifge f70_15 (fun c22014 => ?_) (fun c22014 => ?_)
      · refine ev_ret rfl (by decide) (by decide) ?_
        show jEv _ _ _ _ _ _ _ (_, [(2, 7), (2, 1), (0, 4), (0, a3), (0, (v22011 - 97)), (9, 0), (9, 0)], [], _, _, _)
        refine ev_iconst ?_
        exact ev_ret rfl (by decide) (by decide) ⟨_, _, rfl, by omega, by omega, g22003, k22003, (((jw_ne e22003 (Or.inr (by decide))).trans ew0)), by omega, by omega⟩
      · refine ev_aload_n rfl ?_
        refine ev_aload_n rfl ?_
        refine g_getv (r := 7) (v := (w1 + 1)) g22003 ad7 (by decide) ft5_2 ((jw_eq e22003)) ?_
        refine g_putf (r := 7) g22003 ad7 (by decide) ft5_1 (by decide) (fun e => absurd e nz5_1) rf7_1 (by decide) (by omega) (by omega) (fun h22015 e22015 g22015 => ?_)
        have k22015 := k22003.wr e22015 rfl
        refine ev_ret rfl (by decide) (by decide) ?_
        show jEv _ _ _ _ _ _ _ (_, [(2, 7), (2, 1), (0, 4), (0, a3), (0, (v22011 - 97)), (9, 0), (9, 0)], [], _, _, _)
        refine ev_iconst ?_
        exact ev_ret rfl (by decide) (by decide) ⟨_, _, rfl, by omega, by omega, g22015, k22015, ((jw_eq e22015)), by omega, by omega⟩
    · refine ev_iload_n rfl ?_
      refine ev_aload_n rfl ?_
      obtain ⟨v22016, ev22016, lv22016, uv22016⟩ := g22003.rd ad1 (show 0 < 8 by decide) rf1_0
      refine g_getv (r := 1) (v := v22016) g22003 ad1 (by decide) ft10_0 ev22016 ?_
      refine ev_icmpge f140_16 (fun c22017 => ?_) (fun c22017 => ?_)
      · refine ev_iconst ?_
        refine ev_ret rfl (by decide) (by decide) ?_
        show jEv _ _ _ _ _ _ _ (_, [(2, 7), (2, 1), (0, 4), (0, a3), (0, (v22011 - 97)), (9, 0), (9, 0)], [(0, 0)], _, _, _)
        refine ev_ifeq f79_37 (fun c22018 => ?_) (fun c22018 => absurd c22018 (by omega))
        refine ev_aload_n rfl ?_
        refine ev_in (d := 18) (a := 0) (b := 0) (cd' := c70_0) (m := 1) (L0 := [(2, 7)]) (jcall_v (A := []) (S' := []) (r := 7) rfl (g22003.lt ad7) (g22003.tg ad7) (Nat.le_of_ble_eq_true rfl)) (by decide) ml70 pp70 (Nat.le_of_ble_eq_true rfl) rfl (by decide) (by decide) ?_
        refine ev_aload_n rfl ?_
        refine g_getv (r := 7) (v := w0) g22003 ad7 (by decide) ft5_1 (((jw_ne e22003 (Or.inr (by decide))).trans ew0)) ?_
        refine ev_ifge f70_15 (fun c22019 => ?_) (fun c22019 => ?_)
        · refine ev_ret rfl (by decide) (by decide) ?_
          show jEv _ _ _ _ _ _ _ (_, [(2, 7), (2, 1), (0, 4), (0, a3), (0, (v22011 - 97)), (9, 0), (9, 0)], [], _, _, _)
          refine ev_iconst ?_
          exact ev_ret rfl (by decide) (by decide) ⟨_, _, rfl, by omega, by omega, g22003, k22003, (((jw_ne e22003 (Or.inr (by decide))).trans ew0)), by omega, by omega⟩
        · refine ev_aload_n rfl ?_
          refine ev_aload_n rfl ?_
          refine g_getv (r := 7) (v := (w1 + 1)) g22003 ad7 (by decide) ft5_2 ((jw_eq e22003)) ?_
          refine g_putf (r := 7) g22003 ad7 (by decide) ft5_1 (by decide) (fun e => absurd e nz5_1) rf7_1 (by decide) (by omega) (by omega) (fun h22020 e22020 g22020 => ?_)
          have k22020 := k22003.wr e22020 rfl
          refine ev_ret rfl (by decide) (by decide) ?_
          show jEv _ _ _ _ _ _ _ (_, [(2, 7), (2, 1), (0, 4), (0, a3), (0, (v22011 - 97)), (9, 0), (9, 0)], [], _, _, _)
          refine ev_iconst ?_
          exact ev_ret rfl (by decide) (by decide) ⟨_, _, rfl, by omega, by omega, g22020, k22020, ((jw_eq e22020)), by omega, by omega⟩
      · refine ev_iconst ?_
        refine ev_goto f140_17 ?_
        refine ev_ret rfl (by decide) (by decide) ?_
        show jEv _ _ _ _ _ _ _ (_, [(2, 7), (2, 1), (0, 4), (0, a3), (0, (v22011 - 97)), (9, 0), (9, 0)], [(0, 1)], _, _, _)
        refine ev_ifeq f79_37 (fun c22021 => absurd c22021 (by omega)) (fun c22021 => ?_)
        refine ev_iload_n rfl ?_
        refine ev_iload rfl ?_
        refine g_ishrG (fun v22022 ev22022 lv22022 uv22022 => ?_)
        refine ev_iconst ?_
        refine g_iandB (b := 1) (by omega) (by omega) (by decide) (fun v22023 ev22023 lv22023 uv22023 => ?_)
        refine ev_ifeq f79_43 (fun c22024 => ?_) (fun c22024 => ?_)
        · refine ev_aload_n rfl ?_
          refine ev_dup (by decide) ?_
          refine g_getv (r := 7) (v := (w1 + 1)) g22003 ad7 (by decide) ft5_2 ((jw_eq e22003)) ?_
          refine ev_iconst ?_
          refine ev_iadd (r := (w1 + 2)) (by unfold w32; omega) ?_
          refine g_putf (r := 7) g22003 ad7 (by decide) ft5_2 (by decide) (fun e => absurd e nz5_2) rf7_2 (by decide) (by omega) (by omega) (fun h22025 e22025 g22025 => ?_)
          have k22025 := k22003.wr e22025 rfl
          refine ev_aload_n rfl ?_
          refine ev_iload_n rfl ?_
          refine ev_call (jcall_v (A := [(0, 4)]) (S' := []) (r := 7) rfl (g22025.lt ad7) (g22025.tg ad7) (Nat.le_of_ble_eq_true rfl)) (jOk_le (by decide) (s72 g22025 (by omega) (by omega) (((jw_ne e22025 (Or.inr (by decide))).trans ((jw_ne e22003 (Or.inr (by decide))).trans ew0))) (by omega) (by omega))) (by decide) (by decide) (fun w22026 h22026 q22026 => ?_)
          obtain ⟨v22027, rfl, g22026, kk22026, ev22027, p22026_0⟩ := q22026
          have bv22027 := g22026.rg ad7 (i := 1) (by decide) rf7_1
          rw [ev22027] at bv22027
          have k22026 := k22025.tr kk22026 (by decide)
          show jEv _ _ _ _ _ _ _ (_, [(2, 7), (2, 1), (0, 4), (0, a3), (0, (v22011 - 97)), (9, 0), (9, 0)], [], _, _, _)
          refine ev_aload_n rfl ?_
          refine ev_iconst ?_
          refine ev_call (jcall_v (A := [(0, 2)]) (S' := []) (r := 7) rfl (g22026.lt ad7) (g22026.tg ad7) (Nat.le_of_ble_eq_true rfl)) (jOk_le (by decide) (s73 g22026 (by omega) (by omega) (ev22027) (by omega) (by omega))) (by decide) (by decide) (fun w22028 h22028 q22028 => ?_)
          obtain ⟨v22030, v22029, rfl, lv22030, uv22030, g22028, kk22028, ev22029, p22028_0, p22028_1⟩ := q22028
          have bv22029 := g22028.rg ad7 (i := 1) (by decide) rf7_1
          rw [ev22029] at bv22029
          have k22028 := k22026.tr kk22028 (by decide)
          show jEv _ _ _ _ _ _ _ (_, [(2, 7), (2, 1), (0, 4), (0, a3), (0, (v22011 - 97)), (9, 0), (9, 0)], [(0, v22030)], _, _, _)
          refine ev_istore (L' := [(2, 7), (2, 1), (0, 4), (0, a3), (0, (v22011 - 97)), (0, v22030), (9, 0)]) (Nat.le_of_ble_eq_true rfl) rfl ?_
          refine ev_iconst ?_
          refine ev_istore (L' := [(2, 7), (2, 1), (0, 4), (0, a3), (0, (v22011 - 97)), (0, v22030), (0, 0)]) (Nat.le_of_ble_eq_true rfl) rfl ?_
          exact (s79_4_l la3 ua3 ew0 lw0 uw0 ew1 lw1 uw1 8) _ _ _ _ _ g22028 k22028 (by omega) (by omega) (by omega) (by omega) (by omega) (by omega) (by omega) (by omega) (by omega) (by omega) (ev22029) (by omega) (by omega) (by omega)
        · refine ev_aload_n rfl ?_
          refine ev_in (d := 18) (a := 0) (b := 0) (cd' := c70_0) (m := 1) (L0 := [(2, 7)]) (jcall_v (A := []) (S' := []) (r := 7) rfl (g22003.lt ad7) (g22003.tg ad7) (Nat.le_of_ble_eq_true rfl)) (by decide) ml70 pp70 (Nat.le_of_ble_eq_true rfl) rfl (by decide) (by decide) ?_
          refine ev_aload_n rfl ?_
          refine g_getv (r := 7) (v := w0) g22003 ad7 (by decide) ft5_1 (((jw_ne e22003 (Or.inr (by decide))).trans ew0)) ?_
          refine ev_ifge f70_15 (fun c22031 => ?_) (fun c22031 => ?_)
          · refine ev_ret rfl (by decide) (by decide) ?_
            show jEv _ _ _ _ _ _ _ (_, [(2, 7), (2, 1), (0, 4), (0, a3), (0, (v22011 - 97)), (9, 0), (9, 0)], [], _, _, _)
            refine ev_iconst ?_
            exact ev_ret rfl (by decide) (by decide) ⟨_, _, rfl, by omega, by omega, g22003, k22003, (((jw_ne e22003 (Or.inr (by decide))).trans ew0)), by omega, by omega⟩
          · refine ev_aload_n rfl ?_
            refine ev_aload_n rfl ?_
            refine g_getv (r := 7) (v := (w1 + 1)) g22003 ad7 (by decide) ft5_2 ((jw_eq e22003)) ?_
            refine g_putf (r := 7) g22003 ad7 (by decide) ft5_1 (by decide) (fun e => absurd e nz5_1) rf7_1 (by decide) (by omega) (by omega) (fun h22032 e22032 g22032 => ?_)
            have k22032 := k22003.wr e22032 rfl
            refine ev_ret rfl (by decide) (by decide) ?_
            show jEv _ _ _ _ _ _ _ (_, [(2, 7), (2, 1), (0, 4), (0, a3), (0, (v22011 - 97)), (9, 0), (9, 0)], [], _, _, _)
            refine ev_iconst ?_
            exact ev_ret rfl (by decide) (by decide) ⟨_, _, rfl, by omega, by omega, g22032, k22032, ((jw_eq e22032)), by omega, by omega⟩
/-! s74_4  -/
set_option maxHeartbeats 4000000 in
theorem s74_4 {G : GH} {h : JH} (g : Gd G h) {a3 : Int} (la3 : (-2147483648) ≤ a3) (ua3 : a3 ≤ 2147483647) {w0 : Int} (ew0 : h.2.2 7 1 = w0) (lw0 : (-1) ≤ w0) (uw0 : w0 ≤ 200) : jOk 21 0 0 74 [(2, 7), (2, 1), (0, 4), (0, a3)] h (fun v h' => ∃ r F : Int, v = some (0, r) ∧ (-1) ≤ r ∧ r ≤ 199 ∧ Gd G h' ∧ Kp [(7, 2), (7, 3), (7, 4), (10, 0), (11, 0), (12, 0), (13, 0), (14, 0), (15, 0), (16, 0), (17, 0)] h h' ∧ h'.2.2 7 1 = F ∧ ((-F) + w0) ≤ 0 ∧ ((-F) + (-r)) ≤ 1) := by
  refine ⟨by decide, by rw [ml74]; exact Nat.le_of_ble_eq_true rfl, ?_⟩
  rw [ml74, pp74]
  show jEv _ none _ c74_0 0 0 _ (c74_0, [(2, 7), (2, 1), (0, 4), (0, a3), (9, 0)], [], h, 0, 0)
  have k0 := Kp.rf [(7, 2), (7, 3), (7, 4), (10, 0), (11, 0), (12, 0), (13, 0), (14, 0), (15, 0), (16, 0), (17, 0)] h
  refine ev_aload_n rfl ?_
  refine g_getv (r := 7) (v := w0) g ad7 (by decide) ft5_1 (ew0) ?_
  refine ev_ifge f74_13 (fun c22099 => ?_) (fun c22099 => ?_)
  · refine ev_aload_n rfl ?_
    refine ev_in (d := 19) (a := 0) (b := 0) (cd' := c70_0) (m := 1) (L0 := [(2, 7)]) (jcall_v (A := []) (S' := []) (r := 7) rfl (g.lt ad7) (g.tg ad7) (Nat.le_of_ble_eq_true rfl)) (by decide) ml70 pp70 (Nat.le_of_ble_eq_true rfl) rfl (by decide) (by decide) ?_
    refine ev_aload_n rfl ?_
    refine g_getv (r := 7) (v := w0) g ad7 (by decide) ft5_1 (ew0) ?_
    refine ev_ifge f70_15 (fun c22100 => ?_) (fun c22100 => absurd c22100 (by omega))
    refine ev_ret rfl (by decide) (by decide) ?_
    show jEv _ _ _ _ _ _ _ (_, [(2, 7), (2, 1), (0, 4), (0, a3), (9, 0)], [], _, _, _)
    refine ev_iconst ?_
    exact ev_ret rfl (by decide) (by decide) ⟨_, _, rfl, by omega, by omega, g, k0, (ew0), by omega, by omega⟩
  · refine ev_iload_n rfl ?_
    refine ev_bipush ?_
    refine ev_icmple f74_19 (fun c22101 => ?_) (fun c22101 => absurd c22101 (by omega))
    refine ev_aload_n rfl ?_
    refine ev_in (d := 19) (a := 0) (b := 0) (cd' := c68_0) (m := 1) (L0 := [(2, 7)]) (jcall_v (A := []) (S' := []) (r := 7) rfl (g.lt ad7) (g.tg ad7) (Nat.le_of_ble_eq_true rfl)) (by decide) ml68 pp68 (Nat.le_of_ble_eq_true rfl) rfl (by decide) (by decide) ?_
    refine ev_aload_n rfl ?_
    obtain ⟨v22102, ev22102, lv22102, uv22102⟩ := g.rd ad7 (show 2 < 15 by decide) rf7_2
    refine g_getv (r := 7) (v := v22102) g ad7 (by decide) ft5_2 ev22102 ?_
    refine ev_aload_n rfl ?_
    obtain ⟨v22103, ev22103, lv22103, uv22103⟩ := g.rd ad7 (show 0 < 15 by decide) rf7_0
    refine g_getv (r := 7) (v := v22103) g ad7 (by decide) ft5_0 ev22103 ?_
    refine ev_icmpge f68_27 (fun c22104 => ?_) (fun c22104 => ?_)
    · refine ev_iconst ?_
      refine ev_ret rfl (by decide) (by decide) ?_
      show jEv _ _ _ _ _ _ _ (_, [(2, 7), (2, 1), (0, 4), (0, a3), (9, 0)], [(0, (-1))], _, _, _)
      refine ev_istore (L' := [(2, 7), (2, 1), (0, 4), (0, a3), (0, (-1))]) (Nat.le_of_ble_eq_true rfl) rfl ?_
      refine ev_iload rfl ?_
      refine ev_bipush ?_
      refine ev_icmpne f74_40 (fun c22105 => ?_) (fun c22105 => absurd c22105 (by omega))
      refine ev_iload rfl ?_
      refine ev_bipush ?_
      refine ev_icmpne f74_55 (fun c22106 => ?_) (fun c22106 => absurd c22106 (by omega))
      refine ev_iload rfl ?_
      refine ev_bipush ?_
      refine ev_icmplt f74_78 (fun c22107 => ?_) (fun c22107 => absurd c22107 (by omega))
      refine ev_aload_n rfl ?_
      refine ev_call (jcall_v (A := []) (S' := []) (r := 7) rfl (g.lt ad7) (g.tg ad7) (Nat.le_of_ble_eq_true rfl)) (jOk_le (by decide) (s75 g (ew0) (by omega) (by omega))) (by decide) (by decide) (fun w22108 h22108 q22108 => ?_)
      obtain ⟨v22110, v22109, rfl, lv22110, uv22110, g22108, kk22108, ev22109, p22108_0, p22108_1⟩ := q22108
      have bv22109 := g22108.rg ad7 (i := 1) (by decide) rf7_1
      rw [ev22109] at bv22109
      have k22108 := k0.tr kk22108 (by decide)
      show jEv _ _ _ _ _ _ _ (_, [(2, 7), (2, 1), (0, 4), (0, a3), (0, (-1))], [(0, v22110)], _, _, _)
      exact ev_ret rfl (by decide) (by decide) ⟨_, _, rfl, by omega, by omega, g22108, k22108, (ev22109), by omega, by omega⟩
    · refine ev_aload_n rfl ?_
      refine g_getp (r := 7) (c := 8) g ad7 (by decide) (by decide) rf7_5 ft5_5 ?_
      refine ev_aload_n rfl ?_
      refine g_getv (r := 7) (v := v22102) g ad7 (by decide) ft5_2 (ev22102) ?_
      refine g_bald g ad8 rt8 (by omega) (by omega) (fun v22111 ev22111 lv22111 uv22111 => ?_)
      refine ev_sipush ?_
      refine g_iandB (b := 255) (by omega) (by omega) (by decide) (fun v22112 ev22112 lv22112 uv22112 => ?_)
      refine ev_goto f68_28 ?_
      refine ev_ret rfl (by decide) (by decide) ?_
      show jEv _ _ _ _ _ _ _ (_, [(2, 7), (2, 1), (0, 4), (0, a3), (9, 0)], [(0, v22112)], _, _, _)
      refine ev_istore (L' := [(2, 7), (2, 1), (0, 4), (0, a3), (0, v22112)]) (Nat.le_of_ble_eq_true rfl) rfl ?_
      refine ev_iload rfl ?_
      refine ev_bipush ?_
      refine ev_icmpne f74_40 (fun c22113 => ?_) (fun c22113 => ?_)
      · refine ev_iload rfl ?_
        refine ev_bipush ?_
        refine ev_icmpne f74_55 (fun c22114 => ?_) (fun c22114 => ?_)
        · refine ev_iload rfl ?_
          refine ev_bipush ?_
          refine ev_icmplt f74_78 (fun c22115 => ?_) (fun c22115 => ?_)
          · refine ev_aload_n rfl ?_
            refine ev_call (jcall_v (A := []) (S' := []) (r := 7) rfl (g.lt ad7) (g.tg ad7) (Nat.le_of_ble_eq_true rfl)) (jOk_le (by decide) (s75 g (ew0) (by omega) (by omega))) (by decide) (by decide) (fun w22116 h22116 q22116 => ?_)
            obtain ⟨v22118, v22117, rfl, lv22118, uv22118, g22116, kk22116, ev22117, p22116_0, p22116_1⟩ := q22116
            have bv22117 := g22116.rg ad7 (i := 1) (by decide) rf7_1
            rw [ev22117] at bv22117
            have k22116 := k0.tr kk22116 (by decide)
            show jEv _ _ _ _ _ _ _ (_, [(2, 7), (2, 1), (0, 4), (0, a3), (0, v22112)], [(0, v22118)], _, _, _)
            exact ev_ret rfl (by decide) (by decide) ⟨_, _, rfl, by omega, by omega, g22116, k22116, (ev22117), by omega, by omega⟩
          · refine ev_iload rfl ?_
            refine ev_bipush ?_
            refine ev_icmpge f74_78 (fun c22119 => ?_) (fun c22119 => ?_)
            · refine ev_aload_n rfl ?_
              refine ev_call (jcall_v (A := []) (S' := []) (r := 7) rfl (g.lt ad7) (g.tg ad7) (Nat.le_of_ble_eq_true rfl)) (jOk_le (by decide) (s75 g (ew0) (by omega) (by omega))) (by decide) (by decide) (fun w22120 h22120 q22120 => ?_)
              obtain ⟨v22122, v22121, rfl, lv22122, uv22122, g22120, kk22120, ev22121, p22120_0, p22120_1⟩ := q22120
              have bv22121 := g22120.rg ad7 (i := 1) (by decide) rf7_1
              rw [ev22121] at bv22121
              have k22120 := k0.tr kk22120 (by decide)
              show jEv _ _ _ _ _ _ _ (_, [(2, 7), (2, 1), (0, 4), (0, a3), (0, v22112)], [(0, v22122)], _, _, _)
              exact ev_ret rfl (by decide) (by decide) ⟨_, _, rfl, by omega, by omega, g22120, k22120, (ev22121), by omega, by omega⟩
            · refine ev_aload_n rfl ?_
              refine ev_iload_n rfl ?_
              refine ev_iload_n rfl ?_
              refine ev_call (jcall_v (A := [(0, a3), (0, 4)]) (S' := []) (r := 7) rfl (g.lt ad7) (g.tg ad7) (Nat.le_of_ble_eq_true rfl)) (jOk_le (by decide) (s77 g (by omega) (by omega) (by omega) (by omega) (ew0) (by omega) (by omega))) (by decide) (by decide) (fun w22123 h22123 q22123 => ?_)
              obtain ⟨v22125, v22124, rfl, lv22125, uv22125, g22123, kk22123, ev22124, p22123_0, p22123_1⟩ := q22123
              have bv22124 := g22123.rg ad7 (i := 1) (by decide) rf7_1
              rw [ev22124] at bv22124
              have k22123 := k0.tr kk22123 (by decide)
              show jEv _ _ _ _ _ _ _ (_, [(2, 7), (2, 1), (0, 4), (0, a3), (0, v22112)], [(0, v22125)], _, _, _)
              refine ev_goto f74_82 ?_
              exact ev_ret rfl (by decide) (by decide) ⟨_, _, rfl, by omega, by omega, g22123, k22123, (ev22124), by omega, by omega⟩
        · refine ev_aload_n rfl ?_
          refine ev_aload_n rfl ?_
          refine ev_iload_n rfl ?_
          refine ev_iload_n rfl ?_
          refine ev_call (jcall_v (A := [(0, a3), (0, 4), (2, 1)]) (S' := []) (r := 7) rfl (g.lt ad7) (g.tg ad7) (Nat.le_of_ble_eq_true rfl)) (jOk_le (by decide) (s79_4 g (by omega) (by omega) (ew0) (by omega) (by omega) (ev22102) (by omega) (by omega))) (by decide) (by decide) (fun w22126 h22126 q22126 => ?_)
          obtain ⟨v22128, v22127, rfl, lv22128, uv22128, g22126, kk22126, ev22127, p22126_0, p22126_1⟩ := q22126
          have bv22127 := g22126.rg ad7 (i := 1) (by decide) rf7_1
          rw [ev22127] at bv22127
          have k22126 := k0.tr kk22126 (by decide)
          show jEv _ _ _ _ _ _ _ (_, [(2, 7), (2, 1), (0, 4), (0, a3), (0, v22112)], [(0, v22128)], _, _, _)
          exact ev_ret rfl (by decide) (by decide) ⟨_, _, rfl, by omega, by omega, g22126, k22126, (ev22127), by omega, by omega⟩
      · refine ev_aload_n rfl ?_
        refine ev_aload_n rfl ?_
        refine ev_iload_n rfl ?_
        refine ev_iload_n rfl ?_
        refine ev_call (jcall_v (A := [(0, a3), (0, 4), (2, 1)]) (S' := []) (r := 7) rfl (g.lt ad7) (g.tg ad7) (Nat.le_of_ble_eq_true rfl)) (jOk_le (by decide) (s78_4 g (by omega) (by omega) (ew0) (by omega) (by omega) (ev22102) (by omega) (by omega))) (by decide) (by decide) (fun w22129 h22129 q22129 => ?_)
        obtain ⟨v22131, v22130, rfl, lv22131, uv22131, g22129, kk22129, ev22130, p22129_0, p22129_1⟩ := q22129
        have bv22130 := g22129.rg ad7 (i := 1) (by decide) rf7_1
        rw [ev22130] at bv22130
        have k22129 := k0.tr kk22129 (by decide)
        show jEv _ _ _ _ _ _ _ (_, [(2, 7), (2, 1), (0, 4), (0, a3), (0, v22112)], [(0, v22131)], _, _, _)
        exact ev_ret rfl (by decide) (by decide) ⟨_, _, rfl, by omega, by omega, g22129, k22129, (ev22130), by omega, by omega⟩
/-! s78_3  -/
set_option maxHeartbeats 4000000 in
theorem s78_3_l {G : GH} {h : JH} {a3 : Int} (la3 : (-2147483648) ≤ a3) (ua3 : a3 ≤ 2147483647) {w0 : Int} (ew0 : h.2.2 7 1 = w0) (lw0 : (-1) ≤ w0) (uw0 : w0 ≤ 200) {w1 : Int} (ew1 : h.2.2 7 2 = w1) (lw1 : 0 ≤ w1) (uw1 : w1 ≤ 199) : ∀ N : Nat, (∀ (h1 : JH) (x4 x5 y0 : Int) (j6 : AV), Gd G h1 → Kp [(7, 2), (7, 3), (7, 4), (10, 0), (11, 0), (12, 0), (13, 0), (14, 0), (15, 0), (16, 0), (17, 0)] h h1 → (-2147483648) ≤ a3 → a3 ≤ 2147483647 → (-1) ≤ x4 → x4 ≤ 199 → 0 ≤ x5 → x5 ≤ 3 → (w0 + (-y0)) ≤ 0 → ((-x4) + (-y0)) ≤ 1 → h1.2.2 7 1 = y0 → (-1) ≤ y0 → y0 ≤ 200 → ((-x5) + 3) < N → jEv (jOk 21) none (fun _ => 0) c78_0 0 0 (fun v h' => ∃ r F : Int, v = some (0, r) ∧ (-1) ≤ r ∧ r ≤ 199 ∧ Gd G h' ∧ Kp [(7, 2), (7, 3), (7, 4), (10, 0), (11, 0), (12, 0), (13, 0), (14, 0), (15, 0), (16, 0), (17, 0)] h h' ∧ h'.2.2 7 1 = F ∧ ((-F) + w0) ≤ 0 ∧ ((-F) + (-r)) ≤ 1) (c78_25, [(2, 7), (2, 1), (0, 3), (0, a3), (0, x4), (0, x5), j6], [], h1, 0, 0)) := by
  intro N
  induction N with
  | zero => exact fun h1 x4 x5 y0 j6 g1 k1 b0 b1 b2 b3 b4 b5 b6 b7 b8 b9 b10 hm => absurd hm (by omega)
  | succ N ih =>
    show _
    intro h1 x4 x5 y0 j6 g1 k1 b0 b1 b2 b3 b4 b5 b6 b7 ey0 ly0 uy0 hm
    refine ev_iload rfl ?_
    refine ev_iconst ?_
    refine ev_icmpge f78_100 (fun c22300 => absurd c22300 (by omega)) (fun c22300 => ?_)
    refine ev_aload_n rfl ?_
    refine g_getv (r := 7) (v := y0) g1 ad7 (by decide) ft5_1 (ey0) ?_
    refine ev_ifge f78_100 (fun c22301 => ?_) (fun c22301 => ?_)
    · refine ev_aload_n rfl ?_
      refine ev_bipush ?_
      refine ev_call (jcall_v (A := [(0, 41)]) (S' := []) (r := 7) rfl (g1.lt ad7) (g1.tg ad7) (Nat.le_of_ble_eq_true rfl)) (jOk_le (by decide) (s71 g1 (by omega) (by omega) (ey0) (by omega) (by omega))) (by decide) (by decide) (fun w22302 h22302 q22302 => ?_)
      obtain ⟨v22303, rfl, g22302, kk22302, ev22303, p22302_0⟩ := q22302
      have bv22303 := g22302.rg ad7 (i := 1) (by decide) rf7_1
      rw [ev22303] at bv22303
      have k22302 := k1.tr kk22302 (by decide)
      show jEv _ _ _ _ _ _ _ (_, [(2, 7), (2, 1), (0, 3), (0, a3), (0, x4), (0, x5), j6], [], _, _, _)
      refine ev_aload_n rfl ?_
      refine g_getv (r := 7) (v := v22303) g22302 ad7 (by decide) ft5_1 (ev22303) ?_
      refine ev_iflt f78_117 (fun c22304 => absurd c22304 (by omega)) (fun c22304 => ?_)
      refine ev_iconst ?_
      refine ev_goto f78_119 ?_
      exact ev_ret rfl (by decide) (by decide) ⟨_, _, rfl, by omega, by omega, g22302, k22302, (ev22303), by omega, by omega⟩
    · refine ev_aload_n rfl ?_
      refine ev_iconst ?_
      refine ev_call (jcall_v (A := [(0, 2)]) (S' := []) (r := 7) rfl (g1.lt ad7) (g1.tg ad7) (Nat.le_of_ble_eq_true rfl)) (jOk_le (by decide) (s76 g1 (by omega) (by omega) (ey0) (by omega) (by omega))) (by decide) (by decide) (fun w22305 h22305 q22305 => ?_)
      obtain ⟨v22307, v22306, rfl, lv22307, uv22307, g22305, kk22305, ev22306, p22305_0⟩ := q22305
      have bv22306 := g22305.rg ad7 (i := 1) (by decide) rf7_1
      rw [ev22306] at bv22306
      have k22305 := k1.tr kk22305 (by decide)
      show jEv _ _ _ _ _ _ _ (_, [(2, 7), (2, 1), (0, 3), (0, a3), (0, x4), (0, x5), j6], [(0, v22307)], _, _, _)
      refine ev_istore (L' := [(2, 7), (2, 1), (0, 3), (0, a3), (0, x4), (0, x5), (0, v22307)]) (Nat.le_of_ble_eq_true rfl) rfl ?_
      refine ev_aload_n rfl ?_
      refine ev_bipush ?_
      refine ev_call (jcall_v (A := [(0, 58)]) (S' := []) (r := 7) rfl (g22305.lt ad7) (g22305.tg ad7) (Nat.le_of_ble_eq_true rfl)) (jOk_le (by decide) (s71 g22305 (by omega) (by omega) (ev22306) (by omega) (by omega))) (by decide) (by decide) (fun w22308 h22308 q22308 => ?_)
      obtain ⟨v22309, rfl, g22308, kk22308, ev22309, p22308_0⟩ := q22308
      have bv22309 := g22308.rg ad7 (i := 1) (by decide) rf7_1
      rw [ev22309] at bv22309
      have k22308 := k22305.tr kk22308 (by decide)
      show jEv _ _ _ _ _ _ _ (_, [(2, 7), (2, 1), (0, 3), (0, a3), (0, x4), (0, x5), (0, v22307)], [], _, _, _)
      refine ev_aload_n rfl ?_
      refine ev_iload rfl ?_
      refine ev_iload rfl ?_
      refine ev_iload rfl ?_
      refine ev_aload_n rfl ?_
      refine ev_aload_n rfl ?_
      refine ev_iload_n rfl ?_
      refine ev_iconst ?_
      refine ev_iadd (r := 4) (by decide) ?_
      refine ev_iload_n rfl ?_
      refine ev_call (jcall_v (A := [(0, a3), (0, 4), (2, 1)]) (S' := [(0, v22307), (0, x5), (0, x4), (2, 7)]) (r := 7) rfl (g22308.lt ad7) (g22308.tg ad7) (Nat.le_of_ble_eq_true rfl)) (jOk_le (by decide) (s74_4 g22308 (by omega) (by omega) (ev22309) (by omega) (by omega))) (by decide) (by decide) (fun w22310 h22310 q22310 => ?_)
      obtain ⟨v22312, v22311, rfl, lv22312, uv22312, g22310, kk22310, ev22311, p22310_0, p22310_1⟩ := q22310
      have bv22311 := g22310.rg ad7 (i := 1) (by decide) rf7_1
      rw [ev22311] at bv22311
      have k22310 := k22308.tr kk22310 (by decide)
      show jEv _ _ _ _ _ _ _ (_, [(2, 7), (2, 1), (0, 3), (0, a3), (0, x4), (0, x5), (0, v22307)], [(0, v22312), (0, v22307), (0, x5), (0, x4), (2, 7)], _, _, _)
      refine ev_call (jcall_v (A := [(0, v22312), (0, v22307), (0, x5), (0, x4)]) (S' := []) (r := 7) rfl (g22310.lt ad7) (g22310.tg ad7) (Nat.le_of_ble_eq_true rfl)) (jOk_le (by decide) (s80 g22310 (by omega) (by omega) (by omega) (by omega) (by omega) (by omega) (by omega) (by omega))) (by decide) (by decide) (fun w22313 h22313 q22313 => ?_)
      obtain ⟨rfl, g22313, kk22313⟩ := q22313
      have k22313 := k22310.tr kk22313 (by decide)
      show jEv _ _ _ _ _ _ _ (_, [(2, 7), (2, 1), (0, 3), (0, a3), (0, x4), (0, x5), (0, v22307)], [], _, _, _)
      refine ev_aload_n rfl ?_
      refine ev_in (d := 20) (a := 0) (b := 0) (cd' := c68_0) (m := 1) (L0 := [(2, 7)]) (jcall_v (A := []) (S' := []) (r := 7) rfl (g22313.lt ad7) (g22313.tg ad7) (Nat.le_of_ble_eq_true rfl)) (by decide) ml68 pp68 (Nat.le_of_ble_eq_true rfl) rfl (by decide) (by decide) ?_
      refine ev_aload_n rfl ?_
      obtain ⟨v22314, ev22314, lv22314, uv22314⟩ := g22313.rd ad7 (show 2 < 15 by decide) rf7_2
      refine g_getv (r := 7) (v := v22314) g22313 ad7 (by decide) ft5_2 ev22314 ?_
      refine ev_aload_n rfl ?_
      obtain ⟨v22315, ev22315, lv22315, uv22315⟩ := g22313.rd ad7 (show 0 < 15 by decide) rf7_0
      refine g_getv (r := 7) (v := v22315) g22313 ad7 (by decide) ft5_0 ev22315 ?_
      refine ev_icmpge f68_27 (fun c22316 => ?_) (fun c22316 => ?_)
      · refine ev_iconst ?_
        refine ev_ret rfl (by decide) (by decide) ?_
        show jEv _ _ _ _ _ _ _ (_, [(2, 7), (2, 1), (0, 3), (0, a3), (0, x4), (0, x5), (0, v22307)], [(0, (-1))], _, _, _)
        refine ev_bipush ?_
        refine ev_icmpne f78_100 (fun c22317 => ?_) (fun c22317 => absurd c22317 (by omega))
        refine ev_aload_n rfl ?_
        refine ev_bipush ?_
        refine ev_call (jcall_v (A := [(0, 41)]) (S' := []) (r := 7) rfl (g22313.lt ad7) (g22313.tg ad7) (Nat.le_of_ble_eq_true rfl)) (jOk_le (by decide) (s71 g22313 (by omega) (by omega) (((kk22313.v (by decide)).trans ev22311)) (by omega) (by omega))) (by decide) (by decide) (fun w22318 h22318 q22318 => ?_)
        obtain ⟨v22319, rfl, g22318, kk22318, ev22319, p22318_0⟩ := q22318
        have bv22319 := g22318.rg ad7 (i := 1) (by decide) rf7_1
        rw [ev22319] at bv22319
        have k22318 := k22313.tr kk22318 (by decide)
        show jEv _ _ _ _ _ _ _ (_, [(2, 7), (2, 1), (0, 3), (0, a3), (0, x4), (0, x5), (0, v22307)], [], _, _, _)
        refine ev_aload_n rfl ?_
        refine g_getv (r := 7) (v := v22319) g22318 ad7 (by decide) ft5_1 (ev22319) ?_
        refine ev_iflt f78_117 (fun c22320 => ?_) (fun c22320 => ?_)
        · refine ev_iload rfl ?_
          exact ev_ret rfl (by decide) (by decide) ⟨_, _, rfl, by omega, by omega, g22318, k22318, (ev22319), by omega, by omega⟩
        · refine ev_iconst ?_
          refine ev_goto f78_119 ?_
          exact ev_ret rfl (by decide) (by decide) ⟨_, _, rfl, by omega, by omega, g22318, k22318, (ev22319), by omega, by omega⟩
      · refine ev_aload_n rfl ?_
        refine g_getp (r := 7) (c := 8) g22313 ad7 (by decide) (by decide) rf7_5 ft5_5 ?_
        refine ev_aload_n rfl ?_
        refine g_getv (r := 7) (v := v22314) g22313 ad7 (by decide) ft5_2 (ev22314) ?_
        refine g_bald g22313 ad8 rt8 (by omega) (by omega) (fun v22321 ev22321 lv22321 uv22321 => ?_)
        refine ev_sipush ?_
        refine g_iandB (b := 255) (by omega) (by omega) (by decide) (fun v22322 ev22322 lv22322 uv22322 => ?_)
        refine ev_goto f68_28 ?_
        refine ev_ret rfl (by decide) (by decide) ?_
        show jEv _ _ _ _ _ _ _ (_, [(2, 7), (2, 1), (0, 3), (0, a3), (0, x4), (0, x5), (0, v22307)], [(0, v22322)], _, _, _)
        refine ev_bipush ?_
        refine ev_icmpne f78_100 (fun c22323 => ?_) (fun c22323 => ?_)
        · refine ev_aload_n rfl ?_
          refine ev_bipush ?_
          refine ev_call (jcall_v (A := [(0, 41)]) (S' := []) (r := 7) rfl (g22313.lt ad7) (g22313.tg ad7) (Nat.le_of_ble_eq_true rfl)) (jOk_le (by decide) (s71 g22313 (by omega) (by omega) (((kk22313.v (by decide)).trans ev22311)) (by omega) (by omega))) (by decide) (by decide) (fun w22324 h22324 q22324 => ?_)
          obtain ⟨v22325, rfl, g22324, kk22324, ev22325, p22324_0⟩ := q22324
          have bv22325 := g22324.rg ad7 (i := 1) (by decide) rf7_1
          rw [ev22325] at bv22325
          have k22324 := k22313.tr kk22324 (by decide)
          show jEv _ _ _ _ _ _ _ (_, [(2, 7), (2, 1), (0, 3), (0, a3), (0, x4), (0, x5), (0, v22307)], [], _, _, _)
          refine ev_aload_n rfl ?_
          refine g_getv (r := 7) (v := v22325) g22324 ad7 (by decide) ft5_1 (ev22325) ?_
          refine ev_iflt f78_117 (fun c22326 => ?_) (fun c22326 => ?_)
          · refine ev_iload rfl ?_
            exact ev_ret rfl (by decide) (by decide) ⟨_, _, rfl, by omega, by omega, g22324, k22324, (ev22325), by omega, by omega⟩
          · refine ev_iconst ?_
            refine ev_goto f78_119 ?_
            exact ev_ret rfl (by decide) (by decide) ⟨_, _, rfl, by omega, by omega, g22324, k22324, (ev22325), by omega, by omega⟩
        · refine ev_iload rfl ?_
          refine ev_iconst ?_
          refine ev_icmpne f78_88 (fun c22327 => ?_) (fun c22327 => ?_)
          · refine ev_aload_n rfl ?_
            refine ev_bipush ?_
            refine ev_call (jcall_v (A := [(0, 44)]) (S' := []) (r := 7) rfl (g22313.lt ad7) (g22313.tg ad7) (Nat.le_of_ble_eq_true rfl)) (jOk_le (by decide) (s71 g22313 (by omega) (by omega) (((kk22313.v (by decide)).trans ev22311)) (by omega) (by omega))) (by decide) (by decide) (fun w22328 h22328 q22328 => ?_)
            obtain ⟨v22329, rfl, g22328, kk22328, ev22329, p22328_0⟩ := q22328
            have bv22329 := g22328.rg ad7 (i := 1) (by decide) rf7_1
            rw [ev22329] at bv22329
            have k22328 := k22313.tr kk22328 (by decide)
            show jEv _ _ _ _ _ _ _ (_, [(2, 7), (2, 1), (0, 3), (0, a3), (0, x4), (0, x5), (0, v22307)], [], _, _, _)
            refine ev_iinc (w := (x5 + 1)) (L' := [(2, 7), (2, 1), (0, 3), (0, a3), (0, x4), (0, (x5 + 1)), (0, v22307)]) rfl (by unfold w32; omega) rfl ?_
            refine ev_goto f78_25 ?_
            exact ih _ _ _ _ _ g22328 k22328 (by omega) (by omega) (by omega) (by omega) (by omega) (by omega) (by omega) (by omega) (ev22329) (by omega) (by omega) (by omega)
          · refine ev_goto f78_100 ?_
            refine ev_aload_n rfl ?_
            refine ev_bipush ?_
            refine ev_call (jcall_v (A := [(0, 41)]) (S' := []) (r := 7) rfl (g22313.lt ad7) (g22313.tg ad7) (Nat.le_of_ble_eq_true rfl)) (jOk_le (by decide) (s71 g22313 (by omega) (by omega) (((kk22313.v (by decide)).trans ev22311)) (by omega) (by omega))) (by decide) (by decide) (fun w22330 h22330 q22330 => ?_)
            obtain ⟨v22331, rfl, g22330, kk22330, ev22331, p22330_0⟩ := q22330
            have bv22331 := g22330.rg ad7 (i := 1) (by decide) rf7_1
            rw [ev22331] at bv22331
            have k22330 := k22313.tr kk22330 (by decide)
            show jEv _ _ _ _ _ _ _ (_, [(2, 7), (2, 1), (0, 3), (0, a3), (0, x4), (0, x5), (0, v22307)], [], _, _, _)
            refine ev_aload_n rfl ?_
            refine g_getv (r := 7) (v := v22331) g22330 ad7 (by decide) ft5_1 (ev22331) ?_
            refine ev_iflt f78_117 (fun c22332 => ?_) (fun c22332 => ?_)
            · refine ev_iload rfl ?_
              exact ev_ret rfl (by decide) (by decide) ⟨_, _, rfl, by omega, by omega, g22330, k22330, (ev22331), by omega, by omega⟩
            · refine ev_iconst ?_
              refine ev_goto f78_119 ?_
              exact ev_ret rfl (by decide) (by decide) ⟨_, _, rfl, by omega, by omega, g22330, k22330, (ev22331), by omega, by omega⟩
set_option maxHeartbeats 4000000 in
theorem s78_3 {G : GH} {h : JH} (g : Gd G h) {a3 : Int} (la3 : (-2147483648) ≤ a3) (ua3 : a3 ≤ 2147483647) {w0 : Int} (ew0 : h.2.2 7 1 = w0) (lw0 : (-1) ≤ w0) (uw0 : w0 ≤ 200) {w1 : Int} (ew1 : h.2.2 7 2 = w1) (lw1 : 0 ≤ w1) (uw1 : w1 ≤ 199) : jOk 22 0 0 78 [(2, 7), (2, 1), (0, 3), (0, a3)] h (fun v h' => ∃ r F : Int, v = some (0, r) ∧ (-1) ≤ r ∧ r ≤ 199 ∧ Gd G h' ∧ Kp [(7, 2), (7, 3), (7, 4), (10, 0), (11, 0), (12, 0), (13, 0), (14, 0), (15, 0), (16, 0), (17, 0)] h h' ∧ h'.2.2 7 1 = F ∧ ((-F) + w0) ≤ 0 ∧ ((-F) + (-r)) ≤ 1) := by
  refine ⟨by decide, by rw [ml78]; exact Nat.le_of_ble_eq_true rfl, ?_⟩
  rw [ml78, pp78]
  show jEv _ none _ c78_0 0 0 _ (c78_0, [(2, 7), (2, 1), (0, 3), (0, a3), (9, 0), (9, 0), (9, 0)], [], h, 0, 0)
  have k0 := Kp.rf [(7, 2), (7, 3), (7, 4), (10, 0), (11, 0), (12, 0), (13, 0), (14, 0), (15, 0), (16, 0), (17, 0)] h
  refine ev_aload_n rfl ?_
  refine ev_dup (by decide) ?_
  refine g_getv (r := 7) (v := w1) g ad7 (by decide) ft5_2 (ew1) ?_
  refine ev_iconst ?_
  refine ev_iadd (r := (w1 + 1)) (by unfold w32; omega) ?_
  refine g_putf (r := 7) g ad7 (by decide) ft5_2 (by decide) (fun e => absurd e nz5_2) rf7_2 (by decide) (by omega) (by omega) (fun h22333 e22333 g22333 => ?_)
  have k22333 := k0.wr e22333 rfl
  refine ev_aload_n rfl ?_
  refine ev_iload_n rfl ?_
  refine ev_call (jcall_v (A := [(0, 3)]) (S' := []) (r := 7) rfl (g22333.lt ad7) (g22333.tg ad7) (Nat.le_of_ble_eq_true rfl)) (jOk_le (by decide) (s72 g22333 (by omega) (by omega) (((jw_ne e22333 (Or.inr (by decide))).trans ew0)) (by omega) (by omega))) (by decide) (by decide) (fun w22334 h22334 q22334 => ?_)
  obtain ⟨v22335, rfl, g22334, kk22334, ev22335, p22334_0⟩ := q22334
  have bv22335 := g22334.rg ad7 (i := 1) (by decide) rf7_1
  rw [ev22335] at bv22335
  have k22334 := k22333.tr kk22334 (by decide)
  show jEv _ _ _ _ _ _ _ (_, [(2, 7), (2, 1), (0, 3), (0, a3), (9, 0), (9, 0), (9, 0)], [], _, _, _)
  refine ev_aload_n rfl ?_
  refine ev_iconst ?_
  refine ev_call (jcall_v (A := [(0, 1)]) (S' := []) (r := 7) rfl (g22334.lt ad7) (g22334.tg ad7) (Nat.le_of_ble_eq_true rfl)) (jOk_le (by decide) (s73 g22334 (by omega) (by omega) (ev22335) (by omega) (by omega))) (by decide) (by decide) (fun w22336 h22336 q22336 => ?_)
  obtain ⟨v22338, v22337, rfl, lv22338, uv22338, g22336, kk22336, ev22337, p22336_0, p22336_1⟩ := q22336
  have bv22337 := g22336.rg ad7 (i := 1) (by decide) rf7_1
  rw [ev22337] at bv22337
  have k22336 := k22334.tr kk22336 (by decide)
  show jEv _ _ _ _ _ _ _ (_, [(2, 7), (2, 1), (0, 3), (0, a3), (9, 0), (9, 0), (9, 0)], [(0, v22338)], _, _, _)
  refine ev_istore (L' := [(2, 7), (2, 1), (0, 3), (0, a3), (0, v22338), (9, 0), (9, 0)]) (Nat.le_of_ble_eq_true rfl) rfl ?_
  refine ev_iconst ?_
  refine ev_istore (L' := [(2, 7), (2, 1), (0, 3), (0, a3), (0, v22338), (0, 0), (9, 0)]) (Nat.le_of_ble_eq_true rfl) rfl ?_
  exact (s78_3_l la3 ua3 ew0 lw0 uw0 ew1 lw1 uw1 8) _ _ _ _ _ g22336 k22336 (by omega) (by omega) (by omega) (by omega) (by omega) (by omega) (by omega) (by omega) (ev22337) (by omega) (by omega) (by omega)
/-! s79_3  -/
set_option maxHeartbeats 4000000 in
theorem s79_3_l {G : GH} {h : JH} {a3 : Int} (la3 : (-2147483648) ≤ a3) (ua3 : a3 ≤ 2147483647) {w0 : Int} (ew0 : h.2.2 7 1 = w0) (lw0 : (-1) ≤ w0) (uw0 : w0 ≤ 200) {w1 : Int} (ew1 : h.2.2 7 2 = w1) (lw1 : 0 ≤ w1) (uw1 : w1 ≤ 199) : ∀ N : Nat, (∀ (h1 : JH) (x4 x5 x6 y0 : Int), Gd G h1 → Kp [(7, 2), (7, 3), (7, 4), (10, 0), (11, 0), (12, 0), (13, 0), (14, 0), (15, 0), (16, 0), (17, 0)] h h1 → (-2147483648) ≤ a3 → a3 ≤ 2147483647 → 0 ≤ x4 → x4 ≤ 3 → (-1) ≤ x5 → x5 ≤ 199 → 0 ≤ x6 → x6 ≤ 3 → (w0 + (-y0)) ≤ 0 → ((-x5) + (-y0)) ≤ 1 → h1.2.2 7 1 = y0 → (-1) ≤ y0 → y0 ≤ 200 → ((-x6) + 3) < N → jEv (jOk 21) none (fun _ => 0) c79_0 0 0 (fun v h' => ∃ r F : Int, v = some (0, r) ∧ (-1) ≤ r ∧ r ≤ 199 ∧ Gd G h' ∧ Kp [(7, 2), (7, 3), (7, 4), (10, 0), (11, 0), (12, 0), (13, 0), (14, 0), (15, 0), (16, 0), (17, 0)] h h' ∧ h'.2.2 7 1 = F ∧ ((-F) + w0) ≤ 0 ∧ ((-F) + (-r)) ≤ 1) (c79_68, [(2, 7), (2, 1), (0, 3), (0, a3), (0, x4), (0, x5), (0, x6)], [], h1, 0, 0)) := by
  intro N
  induction N with
  | zero => exact fun h1 x4 x5 x6 y0 g1 k1 b0 b1 b2 b3 b4 b5 b6 b7 b8 b9 b10 b11 b12 hm => absurd hm (by omega)
  | succ N ih =>
    show _
    intro h1 x4 x5 x6 y0 g1 k1 b0 b1 b2 b3 b4 b5 b6 b7 b8 b9 ey0 ly0 uy0 hm
    refine ev_iload rfl ?_
    refine ev_aload_n rfl ?_
    refine ev_iload rfl ?_
    refine ev_in (d := 20) (a := 0) (b := 0) (cd' := c141_0) (m := 2) (L0 := [(2, 1), (0, x4)]) (jcall_v (A := [(0, x4)]) (S' := [(0, x6)]) (r := 1) rfl (g1.lt ad1) (g1.tg ad1) (Nat.le_of_ble_eq_true rfl)) (by decide) ml141 pp141 (Nat.le_of_ble_eq_true rfl) rfl (by decide) (by decide) ?_
    refine ev_aload_n rfl ?_
    refine ev_iload_n rfl ?_
    refine ev_in (d := 19) (a := 0) (b := 0) (cd' := c140_0) (m := 2) (L0 := [(2, 1), (0, x4)]) (jcall_v (A := [(0, x4)]) (S' := []) (r := 1) rfl (g1.lt ad1) (g1.tg ad1) (Nat.le_of_ble_eq_true rfl)) (by decide) ml140 pp140 (Nat.le_of_ble_eq_true rfl) rfl (by decide) (by decide) ?_
    refine ev_iload_n rfl ?_
    refine ev_iflt f140_16 (fun c22598 => absurd c22598 (by omega)) (fun c22598 => ?_)
    refine ev_iload_n rfl ?_
    refine ev_aload_n rfl ?_
    obtain ⟨v22599, ev22599, lv22599, uv22599⟩ := g1.rd ad1 (show 0 < 8 by decide) rf1_0
    refine g_getv (r := 1) (v := v22599) g1 ad1 (by decide) ft10_0 ev22599 ?_
    refine ev_icmpge f140_16 (fun c22600 => ?_) (fun c22600 => ?_)
    · refine ev_iconst ?_
      refine ev_ret rfl (by decide) (by decide) ?_
      show jEv _ _ _ _ _ _ _ (_, [(2, 1), (0, x4)], [(0, 0)], _, _, _)
      refine ev_ifeq f141_17 (fun c22601 => ?_) (fun c22601 => absurd c22601 (by omega))
      refine ev_iconst ?_
      refine ev_ret rfl (by decide) (by decide) ?_
      show jEv _ _ _ _ _ _ _ (_, [(2, 7), (2, 1), (0, 3), (0, a3), (0, x4), (0, x5), (0, x6)], [(0, 0), (0, x6)], _, _, _)
      refine ev_icmpge f79_126 (fun c22602 => ?_) (fun c22602 => absurd c22602 (by omega))
      refine ev_aload_n rfl ?_
      refine ev_bipush ?_
      refine ev_call (jcall_v (A := [(0, 41)]) (S' := []) (r := 7) rfl (g1.lt ad7) (g1.tg ad7) (Nat.le_of_ble_eq_true rfl)) (jOk_le (by decide) (s71 g1 (by omega) (by omega) (ey0) (by omega) (by omega))) (by decide) (by decide) (fun w22603 h22603 q22603 => ?_)
      obtain ⟨v22604, rfl, g22603, kk22603, ev22604, p22603_0⟩ := q22603
      have bv22604 := g22603.rg ad7 (i := 1) (by decide) rf7_1
      rw [ev22604] at bv22604
      have k22603 := k1.tr kk22603 (by decide)
      show jEv _ _ _ _ _ _ _ (_, [(2, 7), (2, 1), (0, 3), (0, a3), (0, x4), (0, x5), (0, x6)], [], _, _, _)
      refine ev_aload_n rfl ?_
      refine g_getv (r := 7) (v := v22604) g22603 ad7 (by decide) ft5_1 (ev22604) ?_
      refine ev_ifge f79_144 (fun c22605 => ?_) (fun c22605 => ?_)
      · refine ev_iconst ?_
        exact ev_ret rfl (by decide) (by decide) ⟨_, _, rfl, by omega, by omega, g22603, k22603, (ev22604), by omega, by omega⟩
      · refine ev_iload rfl ?_
        refine ev_ifge f79_146 (fun c22606 => ?_) (fun c22606 => absurd c22606 (by omega))
        refine ev_aload_n rfl ?_
        refine g_getp (r := 7) (c := 11) g22603 ad7 (by decide) (by decide) rf7_8 ft5_8 ?_
        refine ev_iload rfl ?_
        refine ev_iload rfl ?_
        refine g_iast g22603 ad11 rt11 (fun _ => rfl) (by omega) (by omega) (by omega) (by omega) (fun h22607 e22607 g22607 => ?_)
        have k22607 := k22603.wr e22607 rfl
        refine ev_aload_n rfl ?_
        refine g_getp (r := 7) (c := 15) g22607 ad7 (by decide) (by decide) rf7_12 ft5_12 ?_
        refine ev_iload rfl ?_
        refine ev_dup2 (by decide) (by decide) ?_
        refine g_iald g22607 ad15 rt15 (by omega) (by omega) (fun v22608 ev22608 lv22608 uv22608 => ?_)
        refine ev_iconst ?_
        refine ev_iload rfl ?_
        refine g_ishlB (a' := 1) (a := 1) (b := 3) (hi := 8) (by omega) (by omega) (by omega) (by omega) (by decide) (by decide) (fun v22609 ev22609 lv22609 uv22609 => ?_)
        refine g_iorG (fun v22610 ev22610 lv22610 uv22610 => ?_)
        refine g_iast g22607 ad15 rt15 (fun _ => rfl) (by omega) (by omega) (by omega) (by omega) (fun h22611 e22611 g22611 => ?_)
        have k22611 := k22607.wr e22611 rfl
        refine ev_iload rfl ?_
        exact ev_ret rfl (by decide) (by decide) ⟨_, _, rfl, by omega, by omega, g22611, k22611, (((jw_ne e22611 (Or.inl (by decide))).trans ((jw_ne e22607 (Or.inl (by decide))).trans ev22604))), by omega, by omega⟩
    · refine ev_iconst ?_
      refine ev_goto f140_17 ?_
      refine ev_ret rfl (by decide) (by decide) ?_
      show jEv _ _ _ _ _ _ _ (_, [(2, 1), (0, x4)], [(0, 1)], _, _, _)
      refine ev_ifeq f141_17 (fun c22612 => absurd c22612 (by omega)) (fun c22612 => ?_)
      refine ev_aload_n rfl ?_
      refine g_getp (r := 1) (c := 2) g1 ad1 (by decide) (by decide) rf1_3 ft10_3 ?_
      refine ev_iload_n rfl ?_
      refine g_iald g1 ad2 rt2 (by omega) (by omega) (fun v22613 ev22613 lv22613 uv22613 => ?_)
      have xv22613 := (g1.ex.1.1 (x4 : Int).toNat (by rw [(ev22599)]; omega))
      rw [ev22613] at xv22613
      refine ev_goto f141_18 ?_
      refine ev_ret rfl (by decide) (by decide) ?_
      show jEv _ _ _ _ _ _ _ (_, [(2, 7), (2, 1), (0, 3), (0, a3), (0, x4), (0, x5), (0, x6)], [(0, v22613), (0, x6)], _, _, _)
      refine ev_icmpge f79_126 (fun c22614 => ?_) (fun c22614 => ?_)
      · refine ev_aload_n rfl ?_
        refine ev_bipush ?_
        refine ev_call (jcall_v (A := [(0, 41)]) (S' := []) (r := 7) rfl (g1.lt ad7) (g1.tg ad7) (Nat.le_of_ble_eq_true rfl)) (jOk_le (by decide) (s71 g1 (by omega) (by omega) (ey0) (by omega) (by omega))) (by decide) (by decide) (fun w22615 h22615 q22615 => ?_)
        obtain ⟨v22616, rfl, g22615, kk22615, ev22616, p22615_0⟩ := q22615
        have bv22616 := g22615.rg ad7 (i := 1) (by decide) rf7_1
        rw [ev22616] at bv22616
        have k22615 := k1.tr kk22615 (by decide)
        show jEv _ _ _ _ _ _ _ (_, [(2, 7), (2, 1), (0, 3), (0, a3), (0, x4), (0, x5), (0, x6)], [], _, _, _)
        refine ev_aload_n rfl ?_
        refine g_getv (r := 7) (v := v22616) g22615 ad7 (by decide) ft5_1 (ev22616) ?_
        refine ev_ifge f79_144 (fun c22617 => ?_) (fun c22617 => ?_)
        · refine ev_iconst ?_
          exact ev_ret rfl (by decide) (by decide) ⟨_, _, rfl, by omega, by omega, g22615, k22615, (ev22616), by omega, by omega⟩
        · refine ev_iload rfl ?_
          refine ev_ifge f79_146 (fun c22618 => ?_) (fun c22618 => absurd c22618 (by omega))
          refine ev_aload_n rfl ?_
          refine g_getp (r := 7) (c := 11) g22615 ad7 (by decide) (by decide) rf7_8 ft5_8 ?_
          refine ev_iload rfl ?_
          refine ev_iload rfl ?_
          refine g_iast g22615 ad11 rt11 (fun _ => rfl) (by omega) (by omega) (by omega) (by omega) (fun h22619 e22619 g22619 => ?_)
          have k22619 := k22615.wr e22619 rfl
          refine ev_aload_n rfl ?_
          refine g_getp (r := 7) (c := 15) g22619 ad7 (by decide) (by decide) rf7_12 ft5_12 ?_
          refine ev_iload rfl ?_
          refine ev_dup2 (by decide) (by decide) ?_
          refine g_iald g22619 ad15 rt15 (by omega) (by omega) (fun v22620 ev22620 lv22620 uv22620 => ?_)
          refine ev_iconst ?_
          refine ev_iload rfl ?_
          refine g_ishlB (a' := 1) (a := 1) (b := 3) (hi := 8) (by omega) (by omega) (by omega) (by omega) (by decide) (by decide) (fun v22621 ev22621 lv22621 uv22621 => ?_)
          refine g_iorG (fun v22622 ev22622 lv22622 uv22622 => ?_)
          refine g_iast g22619 ad15 rt15 (fun _ => rfl) (by omega) (by omega) (by omega) (by omega) (fun h22623 e22623 g22623 => ?_)
          have k22623 := k22619.wr e22623 rfl
          refine ev_iload rfl ?_
          exact ev_ret rfl (by decide) (by decide) ⟨_, _, rfl, by omega, by omega, g22623, k22623, (((jw_ne e22623 (Or.inl (by decide))).trans ((jw_ne e22619 (Or.inl (by decide))).trans ev22616))), by omega, by omega⟩
      · refine ev_aload_n rfl ?_
        refine g_getv (r := 7) (v := y0) g1 ad7 (by decide) ft5_1 (ey0) ?_
        refine ev_ifge f79_126 (fun c22624 => ?_) (fun c22624 => ?_)
        · refine ev_aload_n rfl ?_
          refine ev_bipush ?_
          refine ev_call (jcall_v (A := [(0, 41)]) (S' := []) (r := 7) rfl (g1.lt ad7) (g1.tg ad7) (Nat.le_of_ble_eq_true rfl)) (jOk_le (by decide) (s71 g1 (by omega) (by omega) (ey0) (by omega) (by omega))) (by decide) (by decide) (fun w22625 h22625 q22625 => ?_)
          obtain ⟨v22626, rfl, g22625, kk22625, ev22626, p22625_0⟩ := q22625
          have bv22626 := g22625.rg ad7 (i := 1) (by decide) rf7_1
          rw [ev22626] at bv22626
          have k22625 := k1.tr kk22625 (by decide)
          show jEv _ _ _ _ _ _ _ (_, [(2, 7), (2, 1), (0, 3), (0, a3), (0, x4), (0, x5), (0, x6)], [], _, _, _)
          refine ev_aload_n rfl ?_
          refine g_getv (r := 7) (v := v22626) g22625 ad7 (by decide) ft5_1 (ev22626) ?_
          refine ev_ifge f79_144 (fun c22627 => ?_) (fun c22627 => absurd c22627 (by omega))
          refine ev_iconst ?_
          exact ev_ret rfl (by decide) (by decide) ⟨_, _, rfl, by omega, by omega, g22625, k22625, (ev22626), by omega, by omega⟩
        · refine ev_iload rfl ?_
          refine ev_ifle f79_97 (fun c22628 => ?_) (fun c22628 => ?_)
          · refine ev_aload_n rfl ?_
            refine ev_iload rfl ?_
            refine ev_iload rfl ?_
            refine ev_iconst ?_
            refine ev_aload_n rfl ?_
            refine ev_aload_n rfl ?_
            refine ev_iload_n rfl ?_
            refine ev_iconst ?_
            refine ev_iadd (r := 4) (by decide) ?_
            refine ev_iload_n rfl ?_
            refine ev_iconst ?_
            refine ev_iload rfl ?_
            refine g_ishlB (a' := 1) (a := 1) (b := 3) (hi := 8) (by omega) (by omega) (by omega) (by omega) (by decide) (by decide) (fun v22629 ev22629 lv22629 uv22629 => ?_)
            refine g_iorG (fun v22630 ev22630 lv22630 uv22630 => ?_)
            refine ev_call (jcall_v (A := [(0, v22630), (0, 4), (2, 1)]) (S' := [(0, 0), (0, x6), (0, x5), (2, 7)]) (r := 7) rfl (g1.lt ad7) (g1.tg ad7) (Nat.le_of_ble_eq_true rfl)) (jOk_le (by decide) (s74_4 g1 (by omega) (by omega) (ey0) (by omega) (by omega))) (by decide) (by decide) (fun w22631 h22631 q22631 => ?_)
            obtain ⟨v22633, v22632, rfl, lv22633, uv22633, g22631, kk22631, ev22632, p22631_0, p22631_1⟩ := q22631
            have bv22632 := g22631.rg ad7 (i := 1) (by decide) rf7_1
            rw [ev22632] at bv22632
            have k22631 := k1.tr kk22631 (by decide)
            show jEv _ _ _ _ _ _ _ (_, [(2, 7), (2, 1), (0, 3), (0, a3), (0, x4), (0, x5), (0, x6)], [(0, v22633), (0, 0), (0, x6), (0, x5), (2, 7)], _, _, _)
            refine ev_call (jcall_v (A := [(0, v22633), (0, 0), (0, x6), (0, x5)]) (S' := []) (r := 7) rfl (g22631.lt ad7) (g22631.tg ad7) (Nat.le_of_ble_eq_true rfl)) (jOk_le (by decide) (s80 g22631 (by omega) (by omega) (by omega) (by omega) (by omega) (by omega) (by omega) (by omega))) (by decide) (by decide) (fun w22634 h22634 q22634 => ?_)
            obtain ⟨rfl, g22634, kk22634⟩ := q22634
            have k22634 := k22631.tr kk22634 (by decide)
            show jEv _ _ _ _ _ _ _ (_, [(2, 7), (2, 1), (0, 3), (0, a3), (0, x4), (0, x5), (0, x6)], [], _, _, _)
            refine ev_iinc (w := (x6 + 1)) (L' := [(2, 7), (2, 1), (0, 3), (0, a3), (0, x4), (0, x5), (0, (x6 + 1))]) rfl (by unfold w32; omega) rfl ?_
            refine ev_goto f79_68 ?_
            exact ih _ _ _ _ _ g22634 k22634 (by omega) (by omega) (by omega) (by omega) (by omega) (by omega) (by omega) (by omega) (by omega) (by omega) (((kk22634.v (by decide)).trans ev22632)) (by omega) (by omega) (by omega)
          · refine ev_aload_n rfl ?_
            refine ev_bipush ?_
            refine ev_call (jcall_v (A := [(0, 44)]) (S' := []) (r := 7) rfl (g1.lt ad7) (g1.tg ad7) (Nat.le_of_ble_eq_true rfl)) (jOk_le (by decide) (s71 g1 (by omega) (by omega) (ey0) (by omega) (by omega))) (by decide) (by decide) (fun w22635 h22635 q22635 => ?_)
            obtain ⟨v22636, rfl, g22635, kk22635, ev22636, p22635_0⟩ := q22635
            have bv22636 := g22635.rg ad7 (i := 1) (by decide) rf7_1
            rw [ev22636] at bv22636
            have k22635 := k1.tr kk22635 (by decide)
            show jEv _ _ _ _ _ _ _ (_, [(2, 7), (2, 1), (0, 3), (0, a3), (0, x4), (0, x5), (0, x6)], [], _, _, _)
            refine ev_aload_n rfl ?_
            refine ev_iload rfl ?_
            refine ev_iload rfl ?_
            refine ev_iconst ?_
            refine ev_aload_n rfl ?_
            refine ev_aload_n rfl ?_
            refine ev_iload_n rfl ?_
            refine ev_iconst ?_
            refine ev_iadd (r := 4) (by decide) ?_
            refine ev_iload_n rfl ?_
            refine ev_iconst ?_
            refine ev_iload rfl ?_
            refine g_ishlB (a' := 1) (a := 1) (b := 3) (hi := 8) (by omega) (by omega) (by omega) (by omega) (by decide) (by decide) (fun v22637 ev22637 lv22637 uv22637 => ?_)
            refine g_iorG (fun v22638 ev22638 lv22638 uv22638 => ?_)
            refine ev_call (jcall_v (A := [(0, v22638), (0, 4), (2, 1)]) (S' := [(0, 0), (0, x6), (0, x5), (2, 7)]) (r := 7) rfl (g22635.lt ad7) (g22635.tg ad7) (Nat.le_of_ble_eq_true rfl)) (jOk_le (by decide) (s74_4 g22635 (by omega) (by omega) (ev22636) (by omega) (by omega))) (by decide) (by decide) (fun w22639 h22639 q22639 => ?_)
            obtain ⟨v22641, v22640, rfl, lv22641, uv22641, g22639, kk22639, ev22640, p22639_0, p22639_1⟩ := q22639
            have bv22640 := g22639.rg ad7 (i := 1) (by decide) rf7_1
            rw [ev22640] at bv22640
            have k22639 := k22635.tr kk22639 (by decide)
            show jEv _ _ _ _ _ _ _ (_, [(2, 7), (2, 1), (0, 3), (0, a3), (0, x4), (0, x5), (0, x6)], [(0, v22641), (0, 0), (0, x6), (0, x5), (2, 7)], _, _, _)
            refine ev_call (jcall_v (A := [(0, v22641), (0, 0), (0, x6), (0, x5)]) (S' := []) (r := 7) rfl (g22639.lt ad7) (g22639.tg ad7) (Nat.le_of_ble_eq_true rfl)) (jOk_le (by decide) (s80 g22639 (by omega) (by omega) (by omega) (by omega) (by omega) (by omega) (by omega) (by omega))) (by decide) (by decide) (fun w22642 h22642 q22642 => ?_)
            obtain ⟨rfl, g22642, kk22642⟩ := q22642
            have k22642 := k22639.tr kk22642 (by decide)
            show jEv _ _ _ _ _ _ _ (_, [(2, 7), (2, 1), (0, 3), (0, a3), (0, x4), (0, x5), (0, x6)], [], _, _, _)
            refine ev_iinc (w := (x6 + 1)) (L' := [(2, 7), (2, 1), (0, 3), (0, a3), (0, x4), (0, x5), (0, (x6 + 1))]) rfl (by unfold w32; omega) rfl ?_
            refine ev_goto f79_68 ?_
            exact ih _ _ _ _ _ g22642 k22642 (by omega) (by omega) (by omega) (by omega) (by omega) (by omega) (by omega) (by omega) (by omega) (by omega) (((kk22642.v (by decide)).trans ev22640)) (by omega) (by omega) (by omega)
set_option maxHeartbeats 4000000 in
theorem s79_3 {G : GH} {h : JH} (g : Gd G h) {a3 : Int} (la3 : (-2147483648) ≤ a3) (ua3 : a3 ≤ 2147483647) {w0 : Int} (ew0 : h.2.2 7 1 = w0) (lw0 : (-1) ≤ w0) (uw0 : w0 ≤ 200) {w1 : Int} (ew1 : h.2.2 7 2 = w1) (lw1 : 0 ≤ w1) (uw1 : w1 ≤ 199) : jOk 22 0 0 79 [(2, 7), (2, 1), (0, 3), (0, a3)] h (fun v h' => ∃ r F : Int, v = some (0, r) ∧ (-1) ≤ r ∧ r ≤ 199 ∧ Gd G h' ∧ Kp [(7, 2), (7, 3), (7, 4), (10, 0), (11, 0), (12, 0), (13, 0), (14, 0), (15, 0), (16, 0), (17, 0)] h h' ∧ h'.2.2 7 1 = F ∧ ((-F) + w0) ≤ 0 ∧ ((-F) + (-r)) ≤ 1) := by
  refine ⟨by decide, by rw [ml79]; exact Nat.le_of_ble_eq_true rfl, ?_⟩
  rw [ml79, pp79]
  show jEv _ none _ c79_0 0 0 _ (c79_0, [(2, 7), (2, 1), (0, 3), (0, a3), (9, 0), (9, 0), (9, 0)], [], h, 0, 0)
  have k0 := Kp.rf [(7, 2), (7, 3), (7, 4), (10, 0), (11, 0), (12, 0), (13, 0), (14, 0), (15, 0), (16, 0), (17, 0)] h
  refine ev_aload_n rfl ?_
  refine ev_dup (by decide) ?_
  refine g_getv (r := 7) (v := w1) g ad7 (by decide) ft5_2 (ew1) ?_
  refine ev_iconst ?_
  refine ev_iadd (r := (w1 + 1)) (by unfold w32; omega) ?_
  refine g_putf (r := 7) g ad7 (by decide) ft5_2 (by decide) (fun e => absurd e nz5_2) rf7_2 (by decide) (by omega) (by omega) (fun h22643 e22643 g22643 => ?_)
  have k22643 := k0.wr e22643 rfl
  refine ev_aload_n rfl ?_
  refine ev_in (d := 20) (a := 0) (b := 0) (cd' := c68_0) (m := 1) (L0 := [(2, 7)]) (jcall_v (A := []) (S' := []) (r := 7) rfl (g22643.lt ad7) (g22643.tg ad7) (Nat.le_of_ble_eq_true rfl)) (by decide) ml68 pp68 (Nat.le_of_ble_eq_true rfl) rfl (by decide) (by decide) ?_
  refine ev_aload_n rfl ?_
  refine g_getv (r := 7) (v := (w1 + 1)) g22643 ad7 (by decide) ft5_2 ((jw_eq e22643)) ?_
  refine ev_aload_n rfl ?_
  obtain ⟨v22644, ev22644, lv22644, uv22644⟩ := g22643.rd ad7 (show 0 < 15 by decide) rf7_0
  refine g_getv (r := 7) (v := v22644) g22643 ad7 (by decide) ft5_0 ev22644 ?_
  refine ev_icmpge f68_27 (fun c22645 => ?_) (fun c22645 => ?_)
  · refine ev_iconst ?_
    refine ev_ret rfl (by decide) (by decide) ?_
    show jEv _ _ _ _ _ _ _ (_, [(2, 7), (2, 1), (0, 3), (0, a3), (9, 0), (9, 0), (9, 0)], [(0, (-1))], _, _, _)
    refine ev_bipush ?_
    refine ev_isub (r := (-98)) (by decide) ?_
    refine ev_istore (L' := [(2, 7), (2, 1), (0, 3), (0, a3), (0, (-98)), (9, 0), (9, 0)]) (Nat.le_of_ble_eq_true rfl) rfl ?_
    refine ev_aload_n rfl ?_
    refine ev_iload rfl ?_
    refine ev_in (d := 20) (a := 0) (b := 0) (cd' := c140_0) (m := 2) (L0 := [(2, 1), (0, (-98))]) (jcall_v (A := [(0, (-98))]) (S' := []) (r := 1) rfl (g22643.lt ad1) (g22643.tg ad1) (Nat.le_of_ble_eq_true rfl)) (by decide) ml140 pp140 (Nat.le_of_ble_eq_true rfl) rfl (by decide) (by decide) ?_
    refine ev_iload_n rfl ?_
    refine ev_iflt f140_16 (fun c22646 => ?_) (fun c22646 => absurd c22646 (by omega))
    refine ev_iconst ?_
    refine ev_ret rfl (by decide) (by decide) ?_
    show jEv _ _ _ _ _ _ _ (_, [(2, 7), (2, 1), (0, 3), (0, a3), (0, (-98)), (9, 0), (9, 0)], [(0, 0)], _, _, _)
    refine ev_ifeq f79_37 (fun c22647 => ?_) (fun c22647 => absurd c22647 (by omega))
    refine ev_aload_n rfl ?_
    refine ev_in (d := 20) (a := 0) (b := 0) (cd' := c70_0) (m := 1) (L0 := [(2, 7)]) (jcall_v (A := []) (S' := []) (r := 7) rfl (g22643.lt ad7) (g22643.tg ad7) (Nat.le_of_ble_eq_true rfl)) (by decide) ml70 pp70 (Nat.le_of_ble_eq_true rfl) rfl (by decide) (by decide) ?_
    refine ev_aload_n rfl ?_
    refine g_getv (r := 7) (v := w0) g22643 ad7 (by decide) ft5_1 (((jw_ne e22643 (Or.inr (by decide))).trans ew0)) ?_
    refine ev_ifge f70_15 (fun c22648 => ?_) (fun c22648 => ?_)
    · refine ev_ret rfl (by decide) (by decide) ?_
      show jEv _ _ _ _ _ _ _ (_, [(2, 7), (2, 1), (0, 3), (0, a3), (0, (-98)), (9, 0), (9, 0)], [], _, _, _)
      refine ev_iconst ?_
      exact ev_ret rfl (by decide) (by decide) ⟨_, _, rfl, by omega, by omega, g22643, k22643, (((jw_ne e22643 (Or.inr (by decide))).trans ew0)), by omega, by omega⟩
    · refine ev_aload_n rfl ?_
      refine ev_aload_n rfl ?_
      refine g_getv (r := 7) (v := (w1 + 1)) g22643 ad7 (by decide) ft5_2 ((jw_eq e22643)) ?_
      refine g_putf (r := 7) g22643 ad7 (by decide) ft5_1 (by decide) (fun e => absurd e nz5_1) rf7_1 (by decide) (by omega) (by omega) (fun h22649 e22649 g22649 => ?_)
      have k22649 := k22643.wr e22649 rfl
      refine ev_ret rfl (by decide) (by decide) ?_
      show jEv _ _ _ _ _ _ _ (_, [(2, 7), (2, 1), (0, 3), (0, a3), (0, (-98)), (9, 0), (9, 0)], [], _, _, _)
      refine ev_iconst ?_
      exact ev_ret rfl (by decide) (by decide) ⟨_, _, rfl, by omega, by omega, g22649, k22649, ((jw_eq e22649)), by omega, by omega⟩
  · refine ev_aload_n rfl ?_
    refine g_getp (r := 7) (c := 8) g22643 ad7 (by decide) (by decide) rf7_5 ft5_5 ?_
    refine ev_aload_n rfl ?_
    refine g_getv (r := 7) (v := (w1 + 1)) g22643 ad7 (by decide) ft5_2 ((jw_eq e22643)) ?_
    refine g_bald g22643 ad8 rt8 (by omega) (by omega) (fun v22650 ev22650 lv22650 uv22650 => ?_)
    refine ev_sipush ?_
    refine g_iandB (b := 255) (by omega) (by omega) (by decide) (fun v22651 ev22651 lv22651 uv22651 => ?_)
    refine ev_goto f68_28 ?_
    refine ev_ret rfl (by decide) (by decide) ?_
    show jEv _ _ _ _ _ _ _ (_, [(2, 7), (2, 1), (0, 3), (0, a3), (9, 0), (9, 0), (9, 0)], [(0, v22651)], _, _, _)
    refine ev_bipush ?_
    refine ev_isub (r := (v22651 - 97)) (by unfold w32; omega) ?_
    refine ev_istore (L' := [(2, 7), (2, 1), (0, 3), (0, a3), (0, (v22651 - 97)), (9, 0), (9, 0)]) (Nat.le_of_ble_eq_true rfl) rfl ?_
    refine ev_aload_n rfl ?_
    refine ev_iload rfl ?_
    refine ev_in (d := 20) (a := 0) (b := 0) (cd' := c140_0) (m := 2) (L0 := [(2, 1), (0, (v22651 - 97))]) (jcall_v (A := [(0, (v22651 - 97))]) (S' := []) (r := 1) rfl (g22643.lt ad1) (g22643.tg ad1) (Nat.le_of_ble_eq_true rfl)) (by decide) ml140 pp140 (Nat.le_of_ble_eq_true rfl) rfl (by decide) (by decide) ?_
    refine ev_iload_n rfl ?_
    refine ev_iflt f140_16 (fun c22652 => ?_) (fun c22652 => ?_)
    · refine ev_iconst ?_
      refine ev_ret rfl (by decide) (by decide) ?_
      show jEv _ _ _ _ _ _ _ (_, [(2, 7), (2, 1), (0, 3), (0, a3), (0, (v22651 - 97)), (9, 0), (9, 0)], [(0, 0)], _, _, _)
      refine ev_ifeq f79_37 (fun c22653 => ?_) (fun c22653 => absurd c22653 (by omega))
      refine ev_aload_n rfl ?_
      refine ev_in (d := 20) (a := 0) (b := 0) (cd' := c70_0) (m := 1) (L0 := [(2, 7)]) (jcall_v (A := []) (S' := []) (r := 7) rfl (g22643.lt ad7) (g22643.tg ad7) (Nat.le_of_ble_eq_true rfl)) (by decide) ml70 pp70 (Nat.le_of_ble_eq_true rfl) rfl (by decide) (by decide) ?_
      refine ev_aload_n rfl ?_
      refine g_getv (r := 7) (v := w0) g22643 ad7 (by decide) ft5_1 (((jw_ne e22643 (Or.inr (by decide))).trans ew0)) ?_
      refine ev_ifge f70_15 (fun c22654 => ?_) (fun c22654 => ?_)
      · refine ev_ret rfl (by decide) (by decide) ?_
        show jEv _ _ _ _ _ _ _ (_, [(2, 7), (2, 1), (0, 3), (0, a3), (0, (v22651 - 97)), (9, 0), (9, 0)], [], _, _, _)
        refine ev_iconst ?_
        exact ev_ret rfl (by decide) (by decide) ⟨_, _, rfl, by omega, by omega, g22643, k22643, (((jw_ne e22643 (Or.inr (by decide))).trans ew0)), by omega, by omega⟩
      · refine ev_aload_n rfl ?_
        refine ev_aload_n rfl ?_
        refine g_getv (r := 7) (v := (w1 + 1)) g22643 ad7 (by decide) ft5_2 ((jw_eq e22643)) ?_
        refine g_putf (r := 7) g22643 ad7 (by decide) ft5_1 (by decide) (fun e => absurd e nz5_1) rf7_1 (by decide) (by omega) (by omega) (fun h22655 e22655 g22655 => ?_)
        have k22655 := k22643.wr e22655 rfl
        refine ev_ret rfl (by decide) (by decide) ?_
        show jEv _ _ _ _ _ _ _ (_, [(2, 7), (2, 1), (0, 3), (0, a3), (0, (v22651 - 97)), (9, 0), (9, 0)], [], _, _, _)
        refine ev_iconst ?_
        exact ev_ret rfl (by decide) (by decide) ⟨_, _, rfl, by omega, by omega, g22655, k22655, ((jw_eq e22655)), by omega, by omega⟩
    · refine ev_iload_n rfl ?_
      refine ev_aload_n rfl ?_
      obtain ⟨v22656, ev22656, lv22656, uv22656⟩ := g22643.rd ad1 (show 0 < 8 by decide) rf1_0
      refine g_getv (r := 1) (v := v22656) g22643 ad1 (by decide) ft10_0 ev22656 ?_
      refine ev_icmpge f140_16 (fun c22657 => ?_) (fun c22657 => ?_)
      · refine ev_iconst ?_
        refine ev_ret rfl (by decide) (by decide) ?_
        show jEv _ _ _ _ _ _ _ (_, [(2, 7), (2, 1), (0, 3), (0, a3), (0, (v22651 - 97)), (9, 0), (9, 0)], [(0, 0)], _, _, _)
        refine ev_ifeq f79_37 (fun c22658 => ?_) (fun c22658 => absurd c22658 (by omega))
        refine ev_aload_n rfl ?_
        refine ev_in (d := 20) (a := 0) (b := 0) (cd' := c70_0) (m := 1) (L0 := [(2, 7)]) (jcall_v (A := []) (S' := []) (r := 7) rfl (g22643.lt ad7) (g22643.tg ad7) (Nat.le_of_ble_eq_true rfl)) (by decide) ml70 pp70 (Nat.le_of_ble_eq_true rfl) rfl (by decide) (by decide) ?_
        refine ev_aload_n rfl ?_
        refine g_getv (r := 7) (v := w0) g22643 ad7 (by decide) ft5_1 (((jw_ne e22643 (Or.inr (by decide))).trans ew0)) ?_
        refine ev_ifge f70_15 (fun c22659 => ?_) (fun c22659 => ?_)
        · refine ev_ret rfl (by decide) (by decide) ?_
          show jEv _ _ _ _ _ _ _ (_, [(2, 7), (2, 1), (0, 3), (0, a3), (0, (v22651 - 97)), (9, 0), (9, 0)], [], _, _, _)
          refine ev_iconst ?_
          exact ev_ret rfl (by decide) (by decide) ⟨_, _, rfl, by omega, by omega, g22643, k22643, (((jw_ne e22643 (Or.inr (by decide))).trans ew0)), by omega, by omega⟩
        · refine ev_aload_n rfl ?_
          refine ev_aload_n rfl ?_
          refine g_getv (r := 7) (v := (w1 + 1)) g22643 ad7 (by decide) ft5_2 ((jw_eq e22643)) ?_
          refine g_putf (r := 7) g22643 ad7 (by decide) ft5_1 (by decide) (fun e => absurd e nz5_1) rf7_1 (by decide) (by omega) (by omega) (fun h22660 e22660 g22660 => ?_)
          have k22660 := k22643.wr e22660 rfl
          refine ev_ret rfl (by decide) (by decide) ?_
          show jEv _ _ _ _ _ _ _ (_, [(2, 7), (2, 1), (0, 3), (0, a3), (0, (v22651 - 97)), (9, 0), (9, 0)], [], _, _, _)
          refine ev_iconst ?_
          exact ev_ret rfl (by decide) (by decide) ⟨_, _, rfl, by omega, by omega, g22660, k22660, ((jw_eq e22660)), by omega, by omega⟩
      · refine ev_iconst ?_
        refine ev_goto f140_17 ?_
        refine ev_ret rfl (by decide) (by decide) ?_
        show jEv _ _ _ _ _ _ _ (_, [(2, 7), (2, 1), (0, 3), (0, a3), (0, (v22651 - 97)), (9, 0), (9, 0)], [(0, 1)], _, _, _)
        refine ev_ifeq f79_37 (fun c22661 => absurd c22661 (by omega)) (fun c22661 => ?_)
        refine ev_iload_n rfl ?_
        refine ev_iload rfl ?_
        refine g_ishrG (fun v22662 ev22662 lv22662 uv22662 => ?_)
        refine ev_iconst ?_
        refine g_iandB (b := 1) (by omega) (by omega) (by decide) (fun v22663 ev22663 lv22663 uv22663 => ?_)
        refine ev_ifeq f79_43 (fun c22664 => ?_) (fun c22664 => ?_)
        · refine ev_aload_n rfl ?_
          refine ev_dup (by decide) ?_
          refine g_getv (r := 7) (v := (w1 + 1)) g22643 ad7 (by decide) ft5_2 ((jw_eq e22643)) ?_
          refine ev_iconst ?_
          refine ev_iadd (r := (w1 + 2)) (by unfold w32; omega) ?_
          refine g_putf (r := 7) g22643 ad7 (by decide) ft5_2 (by decide) (fun e => absurd e nz5_2) rf7_2 (by decide) (by omega) (by omega) (fun h22665 e22665 g22665 => ?_)
          have k22665 := k22643.wr e22665 rfl
          refine ev_aload_n rfl ?_
          refine ev_iload_n rfl ?_
          refine ev_call (jcall_v (A := [(0, 3)]) (S' := []) (r := 7) rfl (g22665.lt ad7) (g22665.tg ad7) (Nat.le_of_ble_eq_true rfl)) (jOk_le (by decide) (s72 g22665 (by omega) (by omega) (((jw_ne e22665 (Or.inr (by decide))).trans ((jw_ne e22643 (Or.inr (by decide))).trans ew0))) (by omega) (by omega))) (by decide) (by decide) (fun w22666 h22666 q22666 => ?_)
          obtain ⟨v22667, rfl, g22666, kk22666, ev22667, p22666_0⟩ := q22666
          have bv22667 := g22666.rg ad7 (i := 1) (by decide) rf7_1
          rw [ev22667] at bv22667
          have k22666 := k22665.tr kk22666 (by decide)
          show jEv _ _ _ _ _ _ _ (_, [(2, 7), (2, 1), (0, 3), (0, a3), (0, (v22651 - 97)), (9, 0), (9, 0)], [], _, _, _)
          refine ev_aload_n rfl ?_
          refine ev_iconst ?_
          refine ev_call (jcall_v (A := [(0, 2)]) (S' := []) (r := 7) rfl (g22666.lt ad7) (g22666.tg ad7) (Nat.le_of_ble_eq_true rfl)) (jOk_le (by decide) (s73 g22666 (by omega) (by omega) (ev22667) (by omega) (by omega))) (by decide) (by decide) (fun w22668 h22668 q22668 => ?_)
          obtain ⟨v22670, v22669, rfl, lv22670, uv22670, g22668, kk22668, ev22669, p22668_0, p22668_1⟩ := q22668
          have bv22669 := g22668.rg ad7 (i := 1) (by decide) rf7_1
          rw [ev22669] at bv22669
          have k22668 := k22666.tr kk22668 (by decide)
          show jEv _ _ _ _ _ _ _ (_, [(2, 7), (2, 1), (0, 3), (0, a3), (0, (v22651 - 97)), (9, 0), (9, 0)], [(0, v22670)], _, _, _)
          refine ev_istore (L' := [(2, 7), (2, 1), (0, 3), (0, a3), (0, (v22651 - 97)), (0, v22670), (9, 0)]) (Nat.le_of_ble_eq_true rfl) rfl ?_
          refine ev_iconst ?_
          refine ev_istore (L' := [(2, 7), (2, 1), (0, 3), (0, a3), (0, (v22651 - 97)), (0, v22670), (0, 0)]) (Nat.le_of_ble_eq_true rfl) rfl ?_
          exact (s79_3_l la3 ua3 ew0 lw0 uw0 ew1 lw1 uw1 8) _ _ _ _ _ g22668 k22668 (by omega) (by omega) (by omega) (by omega) (by omega) (by omega) (by omega) (by omega) (by omega) (by omega) (ev22669) (by omega) (by omega) (by omega)
        · refine ev_aload_n rfl ?_
          refine ev_in (d := 20) (a := 0) (b := 0) (cd' := c70_0) (m := 1) (L0 := [(2, 7)]) (jcall_v (A := []) (S' := []) (r := 7) rfl (g22643.lt ad7) (g22643.tg ad7) (Nat.le_of_ble_eq_true rfl)) (by decide) ml70 pp70 (Nat.le_of_ble_eq_true rfl) rfl (by decide) (by decide) ?_
          refine ev_aload_n rfl ?_
          refine g_getv (r := 7) (v := w0) g22643 ad7 (by decide) ft5_1 (((jw_ne e22643 (Or.inr (by decide))).trans ew0)) ?_
          refine ev_ifge f70_15 (fun c22671 => ?_) (fun c22671 => ?_)
          · refine ev_ret rfl (by decide) (by decide) ?_
            show jEv _ _ _ _ _ _ _ (_, [(2, 7), (2, 1), (0, 3), (0, a3), (0, (v22651 - 97)), (9, 0), (9, 0)], [], _, _, _)
            refine ev_iconst ?_
            exact ev_ret rfl (by decide) (by decide) ⟨_, _, rfl, by omega, by omega, g22643, k22643, (((jw_ne e22643 (Or.inr (by decide))).trans ew0)), by omega, by omega⟩
          · refine ev_aload_n rfl ?_
            refine ev_aload_n rfl ?_
            refine g_getv (r := 7) (v := (w1 + 1)) g22643 ad7 (by decide) ft5_2 ((jw_eq e22643)) ?_
            refine g_putf (r := 7) g22643 ad7 (by decide) ft5_1 (by decide) (fun e => absurd e nz5_1) rf7_1 (by decide) (by omega) (by omega) (fun h22672 e22672 g22672 => ?_)
            have k22672 := k22643.wr e22672 rfl
            refine ev_ret rfl (by decide) (by decide) ?_
            show jEv _ _ _ _ _ _ _ (_, [(2, 7), (2, 1), (0, 3), (0, a3), (0, (v22651 - 97)), (9, 0), (9, 0)], [], _, _, _)
            refine ev_iconst ?_
            exact ev_ret rfl (by decide) (by decide) ⟨_, _, rfl, by omega, by omega, g22672, k22672, ((jw_eq e22672)), by omega, by omega⟩
/-! s74_3  -/
set_option maxHeartbeats 4000000 in
theorem s74_3 {G : GH} {h : JH} (g : Gd G h) {a3 : Int} (la3 : (-2147483648) ≤ a3) (ua3 : a3 ≤ 2147483647) {w0 : Int} (ew0 : h.2.2 7 1 = w0) (lw0 : (-1) ≤ w0) (uw0 : w0 ≤ 200) : jOk 23 0 0 74 [(2, 7), (2, 1), (0, 3), (0, a3)] h (fun v h' => ∃ r F : Int, v = some (0, r) ∧ (-1) ≤ r ∧ r ≤ 199 ∧ Gd G h' ∧ Kp [(7, 2), (7, 3), (7, 4), (10, 0), (11, 0), (12, 0), (13, 0), (14, 0), (15, 0), (16, 0), (17, 0)] h h' ∧ h'.2.2 7 1 = F ∧ ((-F) + w0) ≤ 0 ∧ ((-F) + (-r)) ≤ 1) := by
  refine ⟨by decide, by rw [ml74]; exact Nat.le_of_ble_eq_true rfl, ?_⟩
  rw [ml74, pp74]
  show jEv _ none _ c74_0 0 0 _ (c74_0, [(2, 7), (2, 1), (0, 3), (0, a3), (9, 0)], [], h, 0, 0)
  have k0 := Kp.rf [(7, 2), (7, 3), (7, 4), (10, 0), (11, 0), (12, 0), (13, 0), (14, 0), (15, 0), (16, 0), (17, 0)] h
  refine ev_aload_n rfl ?_
  refine g_getv (r := 7) (v := w0) g ad7 (by decide) ft5_1 (ew0) ?_
  refine ev_ifge f74_13 (fun c22739 => ?_) (fun c22739 => ?_)
  · refine ev_aload_n rfl ?_
    refine ev_in (d := 21) (a := 0) (b := 0) (cd' := c70_0) (m := 1) (L0 := [(2, 7)]) (jcall_v (A := []) (S' := []) (r := 7) rfl (g.lt ad7) (g.tg ad7) (Nat.le_of_ble_eq_true rfl)) (by decide) ml70 pp70 (Nat.le_of_ble_eq_true rfl) rfl (by decide) (by decide) ?_
    refine ev_aload_n rfl ?_
    refine g_getv (r := 7) (v := w0) g ad7 (by decide) ft5_1 (ew0) ?_
    refine ev_ifge f70_15 (fun c22740 => ?_) (fun c22740 => absurd c22740 (by omega))
    refine ev_ret rfl (by decide) (by decide) ?_
    show jEv _ _ _ _ _ _ _ (_, [(2, 7), (2, 1), (0, 3), (0, a3), (9, 0)], [], _, _, _)
    refine ev_iconst ?_
    exact ev_ret rfl (by decide) (by decide) ⟨_, _, rfl, by omega, by omega, g, k0, (ew0), by omega, by omega⟩
  · refine ev_iload_n rfl ?_
    refine ev_bipush ?_
    refine ev_icmple f74_19 (fun c22741 => ?_) (fun c22741 => absurd c22741 (by omega))
    refine ev_aload_n rfl ?_
    refine ev_in (d := 21) (a := 0) (b := 0) (cd' := c68_0) (m := 1) (L0 := [(2, 7)]) (jcall_v (A := []) (S' := []) (r := 7) rfl (g.lt ad7) (g.tg ad7) (Nat.le_of_ble_eq_true rfl)) (by decide) ml68 pp68 (Nat.le_of_ble_eq_true rfl) rfl (by decide) (by decide) ?_
    refine ev_aload_n rfl ?_
    obtain ⟨v22742, ev22742, lv22742, uv22742⟩ := g.rd ad7 (show 2 < 15 by decide) rf7_2
    refine g_getv (r := 7) (v := v22742) g ad7 (by decide) ft5_2 ev22742 ?_
    refine ev_aload_n rfl ?_
    obtain ⟨v22743, ev22743, lv22743, uv22743⟩ := g.rd ad7 (show 0 < 15 by decide) rf7_0
    refine g_getv (r := 7) (v := v22743) g ad7 (by decide) ft5_0 ev22743 ?_
    refine ev_icmpge f68_27 (fun c22744 => ?_) (fun c22744 => ?_)
    · refine ev_iconst ?_
      refine ev_ret rfl (by decide) (by decide) ?_
      show jEv _ _ _ _ _ _ _ (_, [(2, 7), (2, 1), (0, 3), (0, a3), (9, 0)], [(0, (-1))], _, _, _)
      refine ev_istore (L' := [(2, 7), (2, 1), (0, 3), (0, a3), (0, (-1))]) (Nat.le_of_ble_eq_true rfl) rfl ?_
      refine ev_iload rfl ?_
      refine ev_bipush ?_
      refine ev_icmpne f74_40 (fun c22745 => ?_) (fun c22745 => absurd c22745 (by omega))
      refine ev_iload rfl ?_
      refine ev_bipush ?_
      refine ev_icmpne f74_55 (fun c22746 => ?_) (fun c22746 => absurd c22746 (by omega))
      refine ev_iload rfl ?_
      refine ev_bipush ?_
      refine ev_icmplt f74_78 (fun c22747 => ?_) (fun c22747 => absurd c22747 (by omega))
      refine ev_aload_n rfl ?_
      refine ev_call (jcall_v (A := []) (S' := []) (r := 7) rfl (g.lt ad7) (g.tg ad7) (Nat.le_of_ble_eq_true rfl)) (jOk_le (by decide) (s75 g (ew0) (by omega) (by omega))) (by decide) (by decide) (fun w22748 h22748 q22748 => ?_)
      obtain ⟨v22750, v22749, rfl, lv22750, uv22750, g22748, kk22748, ev22749, p22748_0, p22748_1⟩ := q22748
      have bv22749 := g22748.rg ad7 (i := 1) (by decide) rf7_1
      rw [ev22749] at bv22749
      have k22748 := k0.tr kk22748 (by decide)
      show jEv _ _ _ _ _ _ _ (_, [(2, 7), (2, 1), (0, 3), (0, a3), (0, (-1))], [(0, v22750)], _, _, _)
      exact ev_ret rfl (by decide) (by decide) ⟨_, _, rfl, by omega, by omega, g22748, k22748, (ev22749), by omega, by omega⟩
    · refine ev_aload_n rfl ?_
      refine g_getp (r := 7) (c := 8) g ad7 (by decide) (by decide) rf7_5 ft5_5 ?_
      refine ev_aload_n rfl ?_
      refine g_getv (r := 7) (v := v22742) g ad7 (by decide) ft5_2 (ev22742) ?_
      refine g_bald g ad8 rt8 (by omega) (by omega) (fun v22751 ev22751 lv22751 uv22751 => ?_)
      refine ev_sipush ?_
      refine g_iandB (b := 255) (by omega) (by omega) (by decide) (fun v22752 ev22752 lv22752 uv22752 => ?_)
      refine ev_goto f68_28 ?_
      refine ev_ret rfl (by decide) (by decide) ?_
      show jEv _ _ _ _ _ _ _ (_, [(2, 7), (2, 1), (0, 3), (0, a3), (9, 0)], [(0, v22752)], _, _, _)
      refine ev_istore (L' := [(2, 7), (2, 1), (0, 3), (0, a3), (0, v22752)]) (Nat.le_of_ble_eq_true rfl) rfl ?_
      refine ev_iload rfl ?_
      refine ev_bipush ?_
      refine ev_icmpne f74_40 (fun c22753 => ?_) (fun c22753 => ?_)
      · refine ev_iload rfl ?_
        refine ev_bipush ?_
        refine ev_icmpne f74_55 (fun c22754 => ?_) (fun c22754 => ?_)
        · refine ev_iload rfl ?_
          refine ev_bipush ?_
          refine ev_icmplt f74_78 (fun c22755 => ?_) (fun c22755 => ?_)
          · refine ev_aload_n rfl ?_
            refine ev_call (jcall_v (A := []) (S' := []) (r := 7) rfl (g.lt ad7) (g.tg ad7) (Nat.le_of_ble_eq_true rfl)) (jOk_le (by decide) (s75 g (ew0) (by omega) (by omega))) (by decide) (by decide) (fun w22756 h22756 q22756 => ?_)
            obtain ⟨v22758, v22757, rfl, lv22758, uv22758, g22756, kk22756, ev22757, p22756_0, p22756_1⟩ := q22756
            have bv22757 := g22756.rg ad7 (i := 1) (by decide) rf7_1
            rw [ev22757] at bv22757
            have k22756 := k0.tr kk22756 (by decide)
            show jEv _ _ _ _ _ _ _ (_, [(2, 7), (2, 1), (0, 3), (0, a3), (0, v22752)], [(0, v22758)], _, _, _)
            exact ev_ret rfl (by decide) (by decide) ⟨_, _, rfl, by omega, by omega, g22756, k22756, (ev22757), by omega, by omega⟩
          · refine ev_iload rfl ?_
            refine ev_bipush ?_
            refine ev_icmpge f74_78 (fun c22759 => ?_) (fun c22759 => ?_)
            · refine ev_aload_n rfl ?_
              refine ev_call (jcall_v (A := []) (S' := []) (r := 7) rfl (g.lt ad7) (g.tg ad7) (Nat.le_of_ble_eq_true rfl)) (jOk_le (by decide) (s75 g (ew0) (by omega) (by omega))) (by decide) (by decide) (fun w22760 h22760 q22760 => ?_)
              obtain ⟨v22762, v22761, rfl, lv22762, uv22762, g22760, kk22760, ev22761, p22760_0, p22760_1⟩ := q22760
              have bv22761 := g22760.rg ad7 (i := 1) (by decide) rf7_1
              rw [ev22761] at bv22761
              have k22760 := k0.tr kk22760 (by decide)
              show jEv _ _ _ _ _ _ _ (_, [(2, 7), (2, 1), (0, 3), (0, a3), (0, v22752)], [(0, v22762)], _, _, _)
              exact ev_ret rfl (by decide) (by decide) ⟨_, _, rfl, by omega, by omega, g22760, k22760, (ev22761), by omega, by omega⟩
            · refine ev_aload_n rfl ?_
              refine ev_iload_n rfl ?_
              refine ev_iload_n rfl ?_
              refine ev_call (jcall_v (A := [(0, a3), (0, 3)]) (S' := []) (r := 7) rfl (g.lt ad7) (g.tg ad7) (Nat.le_of_ble_eq_true rfl)) (jOk_le (by decide) (s77 g (by omega) (by omega) (by omega) (by omega) (ew0) (by omega) (by omega))) (by decide) (by decide) (fun w22763 h22763 q22763 => ?_)
              obtain ⟨v22765, v22764, rfl, lv22765, uv22765, g22763, kk22763, ev22764, p22763_0, p22763_1⟩ := q22763
              have bv22764 := g22763.rg ad7 (i := 1) (by decide) rf7_1
              rw [ev22764] at bv22764
              have k22763 := k0.tr kk22763 (by decide)
              show jEv _ _ _ _ _ _ _ (_, [(2, 7), (2, 1), (0, 3), (0, a3), (0, v22752)], [(0, v22765)], _, _, _)
              refine ev_goto f74_82 ?_
              exact ev_ret rfl (by decide) (by decide) ⟨_, _, rfl, by omega, by omega, g22763, k22763, (ev22764), by omega, by omega⟩
        · refine ev_aload_n rfl ?_
          refine ev_aload_n rfl ?_
          refine ev_iload_n rfl ?_
          refine ev_iload_n rfl ?_
          refine ev_call (jcall_v (A := [(0, a3), (0, 3), (2, 1)]) (S' := []) (r := 7) rfl (g.lt ad7) (g.tg ad7) (Nat.le_of_ble_eq_true rfl)) (jOk_le (by decide) (s79_3 g (by omega) (by omega) (ew0) (by omega) (by omega) (ev22742) (by omega) (by omega))) (by decide) (by decide) (fun w22766 h22766 q22766 => ?_)
          obtain ⟨v22768, v22767, rfl, lv22768, uv22768, g22766, kk22766, ev22767, p22766_0, p22766_1⟩ := q22766
          have bv22767 := g22766.rg ad7 (i := 1) (by decide) rf7_1
          rw [ev22767] at bv22767
          have k22766 := k0.tr kk22766 (by decide)
          show jEv _ _ _ _ _ _ _ (_, [(2, 7), (2, 1), (0, 3), (0, a3), (0, v22752)], [(0, v22768)], _, _, _)
          exact ev_ret rfl (by decide) (by decide) ⟨_, _, rfl, by omega, by omega, g22766, k22766, (ev22767), by omega, by omega⟩
      · refine ev_aload_n rfl ?_
        refine ev_aload_n rfl ?_
        refine ev_iload_n rfl ?_
        refine ev_iload_n rfl ?_
        refine ev_call (jcall_v (A := [(0, a3), (0, 3), (2, 1)]) (S' := []) (r := 7) rfl (g.lt ad7) (g.tg ad7) (Nat.le_of_ble_eq_true rfl)) (jOk_le (by decide) (s78_3 g (by omega) (by omega) (ew0) (by omega) (by omega) (ev22742) (by omega) (by omega))) (by decide) (by decide) (fun w22769 h22769 q22769 => ?_)
        obtain ⟨v22771, v22770, rfl, lv22771, uv22771, g22769, kk22769, ev22770, p22769_0, p22769_1⟩ := q22769
        have bv22770 := g22769.rg ad7 (i := 1) (by decide) rf7_1
        rw [ev22770] at bv22770
        have k22769 := k0.tr kk22769 (by decide)
        show jEv _ _ _ _ _ _ _ (_, [(2, 7), (2, 1), (0, 3), (0, a3), (0, v22752)], [(0, v22771)], _, _, _)
        exact ev_ret rfl (by decide) (by decide) ⟨_, _, rfl, by omega, by omega, g22769, k22769, (ev22770), by omega, by omega⟩
/-! s78_2  -/
set_option maxHeartbeats 4000000 in
theorem s78_2_l {G : GH} {h : JH} {a3 : Int} (la3 : (-2147483648) ≤ a3) (ua3 : a3 ≤ 2147483647) {w0 : Int} (ew0 : h.2.2 7 1 = w0) (lw0 : (-1) ≤ w0) (uw0 : w0 ≤ 200) {w1 : Int} (ew1 : h.2.2 7 2 = w1) (lw1 : 0 ≤ w1) (uw1 : w1 ≤ 199) : ∀ N : Nat, (∀ (h1 : JH) (x4 x5 y0 : Int) (j6 : AV), Gd G h1 → Kp [(7, 2), (7, 3), (7, 4), (10, 0), (11, 0), (12, 0), (13, 0), (14, 0), (15, 0), (16, 0), (17, 0)] h h1 → (-2147483648) ≤ a3 → a3 ≤ 2147483647 → (-1) ≤ x4 → x4 ≤ 199 → 0 ≤ x5 → x5 ≤ 3 → (w0 + (-y0)) ≤ 0 → ((-x4) + (-y0)) ≤ 1 → h1.2.2 7 1 = y0 → (-1) ≤ y0 → y0 ≤ 200 → ((-x5) + 3) < N → jEv (jOk 23) none (fun _ => 0) c78_0 0 0 (fun v h' => ∃ r F : Int, v = some (0, r) ∧ (-1) ≤ r ∧ r ≤ 199 ∧ Gd G h' ∧ Kp [(7, 2), (7, 3), (7, 4), (10, 0), (11, 0), (12, 0), (13, 0), (14, 0), (15, 0), (16, 0), (17, 0)] h h' ∧ h'.2.2 7 1 = F ∧ ((-F) + w0) ≤ 0 ∧ ((-F) + (-r)) ≤ 1) (c78_25, [(2, 7), (2, 1), (0, 2), (0, a3), (0, x4), (0, x5), j6], [], h1, 0, 0)) := by
  intro N
  induction N with
  | zero => exact fun h1 x4 x5 y0 j6 g1 k1 b0 b1 b2 b3 b4 b5 b6 b7 b8 b9 b10 hm => absurd hm (by omega)
  | succ N ih =>
    show _
    intro h1 x4 x5 y0 j6 g1 k1 b0 b1 b2 b3 b4 b5 b6 b7 ey0 ly0 uy0 hm
    refine ev_iload rfl ?_
    refine ev_iconst ?_
    refine ev_icmpge f78_100 (fun c22940 => absurd c22940 (by omega)) (fun c22940 => ?_)
    refine ev_aload_n rfl ?_
    refine g_getv (r := 7) (v := y0) g1 ad7 (by decide) ft5_1 (ey0) ?_
    refine ev_ifge f78_100 (fun c22941 => ?_) (fun c22941 => ?_)
    · refine ev_aload_n rfl ?_
      refine ev_bipush ?_
      refine ev_call (jcall_v (A := [(0, 41)]) (S' := []) (r := 7) rfl (g1.lt ad7) (g1.tg ad7) (Nat.le_of_ble_eq_true rfl)) (jOk_le (by decide) (s71 g1 (by omega) (by omega) (ey0) (by omega) (by omega))) (by decide) (by decide) (fun w22942 h22942 q22942 => ?_)
      obtain ⟨v22943, rfl, g22942, kk22942, ev22943, p22942_0⟩ := q22942
      have bv22943 := g22942.rg ad7 (i := 1) (by decide) rf7_1
      rw [ev22943] at bv22943
      have k22942 := k1.tr kk22942 (by decide)
      show jEv _ _ _ _ _ _ _ (_, [(2, 7), (2, 1), (0, 2), (0, a3), (0, x4), (0, x5), j6], [], _, _, _)
      refine ev_aload_n rfl ?_
      refine g_getv (r := 7) (v := v22943) g22942 ad7 (by decide) ft5_1 (ev22943) ?_
      refine ev_iflt f78_117 (fun c22944 => absurd c22944 (by omega)) (fun c22944 => ?_)
      refine ev_iconst ?_
      refine ev_goto f78_119 ?_
      exact ev_ret rfl (by decide) (by decide) ⟨_, _, rfl, by omega, by omega, g22942, k22942, (ev22943), by omega, by omega⟩
    · refine ev_aload_n rfl ?_
      refine ev_iconst ?_
      refine ev_call (jcall_v (A := [(0, 2)]) (S' := []) (r := 7) rfl (g1.lt ad7) (g1.tg ad7) (Nat.le_of_ble_eq_true rfl)) (jOk_le (by decide) (s76 g1 (by omega) (by omega) (ey0) (by omega) (by omega))) (by decide) (by decide) (fun w22945 h22945 q22945 => ?_)
      obtain ⟨v22947, v22946, rfl, lv22947, uv22947, g22945, kk22945, ev22946, p22945_0⟩ := q22945
      have bv22946 := g22945.rg ad7 (i := 1) (by decide) rf7_1
      rw [ev22946] at bv22946
      have k22945 := k1.tr kk22945 (by decide)
      show jEv _ _ _ _ _ _ _ (_, [(2, 7), (2, 1), (0, 2), (0, a3), (0, x4), (0, x5), j6], [(0, v22947)], _, _, _)
      refine ev_istore (L' := [(2, 7), (2, 1), (0, 2), (0, a3), (0, x4), (0, x5), (0, v22947)]) (Nat.le_of_ble_eq_true rfl) rfl ?_
      refine ev_aload_n rfl ?_
      refine ev_bipush ?_
      refine ev_call (jcall_v (A := [(0, 58)]) (S' := []) (r := 7) rfl (g22945.lt ad7) (g22945.tg ad7) (Nat.le_of_ble_eq_true rfl)) (jOk_le (by decide) (s71 g22945 (by omega) (by omega) (ev22946) (by omega) (by omega))) (by decide) (by decide) (fun w22948 h22948 q22948 => ?_)
      obtain ⟨v22949, rfl, g22948, kk22948, ev22949, p22948_0⟩ := q22948
      have bv22949 := g22948.rg ad7 (i := 1) (by decide) rf7_1
      rw [ev22949] at bv22949
      have k22948 := k22945.tr kk22948 (by decide)
      show jEv _ _ _ _ _ _ _ (_, [(2, 7), (2, 1), (0, 2), (0, a3), (0, x4), (0, x5), (0, v22947)], [], _, _, _)
      refine ev_aload_n rfl ?_
      refine ev_iload rfl ?_
      refine ev_iload rfl ?_
      refine ev_iload rfl ?_
      refine ev_aload_n rfl ?_
      refine ev_aload_n rfl ?_
      refine ev_iload_n rfl ?_
      refine ev_iconst ?_
      refine ev_iadd (r := 3) (by decide) ?_
      refine ev_iload_n rfl ?_
      refine ev_call (jcall_v (A := [(0, a3), (0, 3), (2, 1)]) (S' := [(0, v22947), (0, x5), (0, x4), (2, 7)]) (r := 7) rfl (g22948.lt ad7) (g22948.tg ad7) (Nat.le_of_ble_eq_true rfl)) (jOk_le (by decide) (s74_3 g22948 (by omega) (by omega) (ev22949) (by omega) (by omega))) (by decide) (by decide) (fun w22950 h22950 q22950 => ?_)
      obtain ⟨v22952, v22951, rfl, lv22952, uv22952, g22950, kk22950, ev22951, p22950_0, p22950_1⟩ := q22950
      have bv22951 := g22950.rg ad7 (i := 1) (by decide) rf7_1
      rw [ev22951] at bv22951
      have k22950 := k22948.tr kk22950 (by decide)
      show jEv _ _ _ _ _ _ _ (_, [(2, 7), (2, 1), (0, 2), (0, a3), (0, x4), (0, x5), (0, v22947)], [(0, v22952), (0, v22947), (0, x5), (0, x4), (2, 7)], _, _, _)
      refine ev_call (jcall_v (A := [(0, v22952), (0, v22947), (0, x5), (0, x4)]) (S' := []) (r := 7) rfl (g22950.lt ad7) (g22950.tg ad7) (Nat.le_of_ble_eq_true rfl)) (jOk_le (by decide) (s80 g22950 (by omega) (by omega) (by omega) (by omega) (by omega) (by omega) (by omega) (by omega))) (by decide) (by decide) (fun w22953 h22953 q22953 => ?_)
      obtain ⟨rfl, g22953, kk22953⟩ := q22953
      have k22953 := k22950.tr kk22953 (by decide)
      show jEv _ _ _ _ _ _ _ (_, [(2, 7), (2, 1), (0, 2), (0, a3), (0, x4), (0, x5), (0, v22947)], [], _, _, _)
      refine ev_aload_n rfl ?_
      refine ev_in (d := 22) (a := 0) (b := 0) (cd' := c68_0) (m := 1) (L0 := [(2, 7)]) (jcall_v (A := []) (S' := []) (r := 7) rfl (g22953.lt ad7) (g22953.tg ad7) (Nat.le_of_ble_eq_true rfl)) (by decide) ml68 pp68 (Nat.le_of_ble_eq_true rfl) rfl (by decide) (by decide) ?_
      refine ev_aload_n rfl ?_
      obtain ⟨v22954, ev22954, lv22954, uv22954⟩ := g22953.rd ad7 (show 2 < 15 by decide) rf7_2
      refine g_getv (r := 7) (v := v22954) g22953 ad7 (by decide) ft5_2 ev22954 ?_
      refine ev_aload_n rfl ?_
      obtain ⟨v22955, ev22955, lv22955, uv22955⟩ := g22953.rd ad7 (show 0 < 15 by decide) rf7_0
      refine g_getv (r := 7) (v := v22955) g22953 ad7 (by decide) ft5_0 ev22955 ?_
      refine ev_icmpge f68_27 (fun c22956 => ?_) (fun c22956 => ?_)
      · refine ev_iconst ?_
        refine ev_ret rfl (by decide) (by decide) ?_
        show jEv _ _ _ _ _ _ _ (_, [(2, 7), (2, 1), (0, 2), (0, a3), (0, x4), (0, x5), (0, v22947)], [(0, (-1))], _, _, _)
        refine ev_bipush ?_
        refine ev_icmpne f78_100 (fun c22957 => ?_) (fun c22957 => absurd c22957 (by omega))
        refine ev_aload_n rfl ?_
        refine ev_bipush ?_
        refine ev_call (jcall_v (A := [(0, 41)]) (S' := []) (r := 7) rfl (g22953.lt ad7) (g22953.tg ad7) (Nat.le_of_ble_eq_true rfl)) (jOk_le (by decide) (s71 g22953 (by omega) (by omega) (((kk22953.v (by decide)).trans ev22951)) (by omega) (by omega))) (by decide) (by decide) (fun w22958 h22958 q22958 => ?_)
        obtain ⟨v22959, rfl, g22958, kk22958, ev22959, p22958_0⟩ := q22958
        have bv22959 := g22958.rg ad7 (i := 1) (by decide) rf7_1
        rw [ev22959] at bv22959
        have k22958 := k22953.tr kk22958 (by decide)
        show jEv _ _ _ _ _ _ _ (_, [(2, 7), (2, 1), (0, 2), (0, a3), (0, x4), (0, x5), (0, v22947)], [], _, _, _)
        refine ev_aload_n rfl ?_
        refine g_getv (r := 7) (v := v22959) g22958 ad7 (by decide) ft5_1 (ev22959) ?_
        refine ev_iflt f78_117 (fun c22960 => ?_) (fun c22960 => ?_)
        · refine ev_iload rfl ?_
          exact ev_ret rfl (by decide) (by decide) ⟨_, _, rfl, by omega, by omega, g22958, k22958, (ev22959), by omega, by omega⟩
        · refine ev_iconst ?_
          refine ev_goto f78_119 ?_
          exact ev_ret rfl (by decide) (by decide) ⟨_, _, rfl, by omega, by omega, g22958, k22958, (ev22959), by omega, by omega⟩
      · refine ev_aload_n rfl ?_
        refine g_getp (r := 7) (c := 8) g22953 ad7 (by decide) (by decide) rf7_5 ft5_5 ?_
        refine ev_aload_n rfl ?_
        refine g_getv (r := 7) (v := v22954) g22953 ad7 (by decide) ft5_2 (ev22954) ?_
        refine g_bald g22953 ad8 rt8 (by omega) (by omega) (fun v22961 ev22961 lv22961 uv22961 => ?_)
        refine ev_sipush ?_
        refine g_iandB (b := 255) (by omega) (by omega) (by decide) (fun v22962 ev22962 lv22962 uv22962 => ?_)
        refine ev_goto f68_28 ?_
        refine ev_ret rfl (by decide) (by decide) ?_
        show jEv _ _ _ _ _ _ _ (_, [(2, 7), (2, 1), (0, 2), (0, a3), (0, x4), (0, x5), (0, v22947)], [(0, v22962)], _, _, _)
        refine ev_bipush ?_
        refine ev_icmpne f78_100 (fun c22963 => ?_) (fun c22963 => ?_)
        · refine ev_aload_n rfl ?_
          refine ev_bipush ?_
          refine ev_call (jcall_v (A := [(0, 41)]) (S' := []) (r := 7) rfl (g22953.lt ad7) (g22953.tg ad7) (Nat.le_of_ble_eq_true rfl)) (jOk_le (by decide) (s71 g22953 (by omega) (by omega) (((kk22953.v (by decide)).trans ev22951)) (by omega) (by omega))) (by decide) (by decide) (fun w22964 h22964 q22964 => ?_)
          obtain ⟨v22965, rfl, g22964, kk22964, ev22965, p22964_0⟩ := q22964
          have bv22965 := g22964.rg ad7 (i := 1) (by decide) rf7_1
          rw [ev22965] at bv22965
          have k22964 := k22953.tr kk22964 (by decide)
          show jEv _ _ _ _ _ _ _ (_, [(2, 7), (2, 1), (0, 2), (0, a3), (0, x4), (0, x5), (0, v22947)], [], _, _, _)
          refine ev_aload_n rfl ?_
          refine g_getv (r := 7) (v := v22965) g22964 ad7 (by decide) ft5_1 (ev22965) ?_
          refine ev_iflt f78_117 (fun c22966 => ?_) (fun c22966 => ?_)
          · refine ev_iload rfl ?_
            exact ev_ret rfl (by decide) (by decide) ⟨_, _, rfl, by omega, by omega, g22964, k22964, (ev22965), by omega, by omega⟩
          · refine ev_iconst ?_
            refine ev_goto f78_119 ?_
            exact ev_ret rfl (by decide) (by decide) ⟨_, _, rfl, by omega, by omega, g22964, k22964, (ev22965), by omega, by omega⟩
        · refine ev_iload rfl ?_
          refine ev_iconst ?_
          refine ev_icmpne f78_88 (fun c22967 => ?_) (fun c22967 => ?_)
          · refine ev_aload_n rfl ?_
            refine ev_bipush ?_
            refine ev_call (jcall_v (A := [(0, 44)]) (S' := []) (r := 7) rfl (g22953.lt ad7) (g22953.tg ad7) (Nat.le_of_ble_eq_true rfl)) (jOk_le (by decide) (s71 g22953 (by omega) (by omega) (((kk22953.v (by decide)).trans ev22951)) (by omega) (by omega))) (by decide) (by decide) (fun w22968 h22968 q22968 => ?_)
            obtain ⟨v22969, rfl, g22968, kk22968, ev22969, p22968_0⟩ := q22968
            have bv22969 := g22968.rg ad7 (i := 1) (by decide) rf7_1
            rw [ev22969] at bv22969
            have k22968 := k22953.tr kk22968 (by decide)
            show jEv _ _ _ _ _ _ _ (_, [(2, 7), (2, 1), (0, 2), (0, a3), (0, x4), (0, x5), (0, v22947)], [], _, _, _)
            refine ev_iinc (w := (x5 + 1)) (L' := [(2, 7), (2, 1), (0, 2), (0, a3), (0, x4), (0, (x5 + 1)), (0, v22947)]) rfl (by unfold w32; omega) rfl ?_
            refine ev_goto f78_25 ?_
            exact ih _ _ _ _ _ g22968 k22968 (by omega) (by omega) (by omega) (by omega) (by omega) (by omega) (by omega) (by omega) (ev22969) (by omega) (by omega) (by omega)
          · refine ev_goto f78_100 ?_
            refine ev_aload_n rfl ?_
            refine ev_bipush ?_
            refine ev_call (jcall_v (A := [(0, 41)]) (S' := []) (r := 7) rfl (g22953.lt ad7) (g22953.tg ad7) (Nat.le_of_ble_eq_true rfl)) (jOk_le (by decide) (s71 g22953 (by omega) (by omega) (((kk22953.v (by decide)).trans ev22951)) (by omega) (by omega))) (by decide) (by decide) (fun w22970 h22970 q22970 => ?_)
            obtain ⟨v22971, rfl, g22970, kk22970, ev22971, p22970_0⟩ := q22970
            have bv22971 := g22970.rg ad7 (i := 1) (by decide) rf7_1
            rw [ev22971] at bv22971
            have k22970 := k22953.tr kk22970 (by decide)
            show jEv _ _ _ _ _ _ _ (_, [(2, 7), (2, 1), (0, 2), (0, a3), (0, x4), (0, x5), (0, v22947)], [], _, _, _)
            refine ev_aload_n rfl ?_
            refine g_getv (r := 7) (v := v22971) g22970 ad7 (by decide) ft5_1 (ev22971) ?_
            refine ev_iflt f78_117 (fun c22972 => ?_) (fun c22972 => ?_)
            · refine ev_iload rfl ?_
              exact ev_ret rfl (by decide) (by decide) ⟨_, _, rfl, by omega, by omega, g22970, k22970, (ev22971), by omega, by omega⟩
            · refine ev_iconst ?_
              refine ev_goto f78_119 ?_
              exact ev_ret rfl (by decide) (by decide) ⟨_, _, rfl, by omega, by omega, g22970, k22970, (ev22971), by omega, by omega⟩
set_option maxHeartbeats 4000000 in
theorem s78_2 {G : GH} {h : JH} (g : Gd G h) {a3 : Int} (la3 : (-2147483648) ≤ a3) (ua3 : a3 ≤ 2147483647) {w0 : Int} (ew0 : h.2.2 7 1 = w0) (lw0 : (-1) ≤ w0) (uw0 : w0 ≤ 200) {w1 : Int} (ew1 : h.2.2 7 2 = w1) (lw1 : 0 ≤ w1) (uw1 : w1 ≤ 199) : jOk 24 0 0 78 [(2, 7), (2, 1), (0, 2), (0, a3)] h (fun v h' => ∃ r F : Int, v = some (0, r) ∧ (-1) ≤ r ∧ r ≤ 199 ∧ Gd G h' ∧ Kp [(7, 2), (7, 3), (7, 4), (10, 0), (11, 0), (12, 0), (13, 0), (14, 0), (15, 0), (16, 0), (17, 0)] h h' ∧ h'.2.2 7 1 = F ∧ ((-F) + w0) ≤ 0 ∧ ((-F) + (-r)) ≤ 1) := by
  refine ⟨by decide, by rw [ml78]; exact Nat.le_of_ble_eq_true rfl, ?_⟩
  rw [ml78, pp78]
  show jEv _ none _ c78_0 0 0 _ (c78_0, [(2, 7), (2, 1), (0, 2), (0, a3), (9, 0), (9, 0), (9, 0)], [], h, 0, 0)
  have k0 := Kp.rf [(7, 2), (7, 3), (7, 4), (10, 0), (11, 0), (12, 0), (13, 0), (14, 0), (15, 0), (16, 0), (17, 0)] h
  refine ev_aload_n rfl ?_
  refine ev_dup (by decide) ?_
  refine g_getv (r := 7) (v := w1) g ad7 (by decide) ft5_2 (ew1) ?_
  refine ev_iconst ?_
  refine ev_iadd (r := (w1 + 1)) (by unfold w32; omega) ?_
  refine g_putf (r := 7) g ad7 (by decide) ft5_2 (by decide) (fun e => absurd e nz5_2) rf7_2 (by decide) (by omega) (by omega) (fun h22973 e22973 g22973 => ?_)
  have k22973 := k0.wr e22973 rfl
  refine ev_aload_n rfl ?_
  refine ev_iload_n rfl ?_
  refine ev_call (jcall_v (A := [(0, 2)]) (S' := []) (r := 7) rfl (g22973.lt ad7) (g22973.tg ad7) (Nat.le_of_ble_eq_true rfl)) (jOk_le (by decide) (s72 g22973 (by omega) (by omega) (((jw_ne e22973 (Or.inr (by decide))).trans ew0)) (by omega) (by omega))) (by decide) (by decide) (fun w22974 h22974 q22974 => ?_)
  obtain ⟨v22975, rfl, g22974, kk22974, ev22975, p22974_0⟩ := q22974
  have bv22975 := g22974.rg ad7 (i := 1) (by decide) rf7_1
  rw [ev22975] at bv22975
  have k22974 := k22973.tr kk22974 (by decide)
  show jEv _ _ _ _ _ _ _ (_, [(2, 7), (2, 1), (0, 2), (0, a3), (9, 0), (9, 0), (9, 0)], [], _, _, _)
  refine ev_aload_n rfl ?_
  refine ev_iconst ?_
  refine ev_call (jcall_v (A := [(0, 1)]) (S' := []) (r := 7) rfl (g22974.lt ad7) (g22974.tg ad7) (Nat.le_of_ble_eq_true rfl)) (jOk_le (by decide) (s73 g22974 (by omega) (by omega) (ev22975) (by omega) (by omega))) (by decide) (by decide) (fun w22976 h22976 q22976 => ?_)
  obtain ⟨v22978, v22977, rfl, lv22978, uv22978, g22976, kk22976, ev22977, p22976_0, p22976_1⟩ := q22976
  have bv22977 := g22976.rg ad7 (i := 1) (by decide) rf7_1
  rw [ev22977] at bv22977
  have k22976 := k22974.tr kk22976 (by decide)
  show jEv _ _ _ _ _ _ _ (_, [(2, 7), (2, 1), (0, 2), (0, a3), (9, 0), (9, 0), (9, 0)], [(0, v22978)], _, _, _)
  refine ev_istore (L' := [(2, 7), (2, 1), (0, 2), (0, a3), (0, v22978), (9, 0), (9, 0)]) (Nat.le_of_ble_eq_true rfl) rfl ?_
  refine ev_iconst ?_
  refine ev_istore (L' := [(2, 7), (2, 1), (0, 2), (0, a3), (0, v22978), (0, 0), (9, 0)]) (Nat.le_of_ble_eq_true rfl) rfl ?_
  exact (s78_2_l la3 ua3 ew0 lw0 uw0 ew1 lw1 uw1 8) _ _ _ _ _ g22976 k22976 (by omega) (by omega) (by omega) (by omega) (by omega) (by omega) (by omega) (by omega) (ev22977) (by omega) (by omega) (by omega)
/-! s79_2  -/
set_option maxHeartbeats 4000000 in
theorem s79_2_l {G : GH} {h : JH} {a3 : Int} (la3 : (-2147483648) ≤ a3) (ua3 : a3 ≤ 2147483647) {w0 : Int} (ew0 : h.2.2 7 1 = w0) (lw0 : (-1) ≤ w0) (uw0 : w0 ≤ 200) {w1 : Int} (ew1 : h.2.2 7 2 = w1) (lw1 : 0 ≤ w1) (uw1 : w1 ≤ 199) : ∀ N : Nat, (∀ (h1 : JH) (x4 x5 x6 y0 : Int), Gd G h1 → Kp [(7, 2), (7, 3), (7, 4), (10, 0), (11, 0), (12, 0), (13, 0), (14, 0), (15, 0), (16, 0), (17, 0)] h h1 → (-2147483648) ≤ a3 → a3 ≤ 2147483647 → 0 ≤ x4 → x4 ≤ 3 → (-1) ≤ x5 → x5 ≤ 199 → 0 ≤ x6 → x6 ≤ 3 → (w0 + (-y0)) ≤ 0 → ((-x5) + (-y0)) ≤ 1 → h1.2.2 7 1 = y0 → (-1) ≤ y0 → y0 ≤ 200 → ((-x6) + 3) < N → jEv (jOk 23) none (fun _ => 0) c79_0 0 0 (fun v h' => ∃ r F : Int, v = some (0, r) ∧ (-1) ≤ r ∧ r ≤ 199 ∧ Gd G h' ∧ Kp [(7, 2), (7, 3), (7, 4), (10, 0), (11, 0), (12, 0), (13, 0), (14, 0), (15, 0), (16, 0), (17, 0)] h h' ∧ h'.2.2 7 1 = F ∧ ((-F) + w0) ≤ 0 ∧ ((-F) + (-r)) ≤ 1) (c79_68, [(2, 7), (2, 1), (0, 2), (0, a3), (0, x4), (0, x5), (0, x6)], [], h1, 0, 0)) := by
  intro N
  induction N with
  | zero => exact fun h1 x4 x5 x6 y0 g1 k1 b0 b1 b2 b3 b4 b5 b6 b7 b8 b9 b10 b11 b12 hm => absurd hm (by omega)
  | succ N ih =>
    show _
    intro h1 x4 x5 x6 y0 g1 k1 b0 b1 b2 b3 b4 b5 b6 b7 b8 b9 ey0 ly0 uy0 hm
    refine ev_iload rfl ?_
    refine ev_aload_n rfl ?_
    refine ev_iload rfl ?_
    refine ev_in (d := 22) (a := 0) (b := 0) (cd' := c141_0) (m := 2) (L0 := [(2, 1), (0, x4)]) (jcall_v (A := [(0, x4)]) (S' := [(0, x6)]) (r := 1) rfl (g1.lt ad1) (g1.tg ad1) (Nat.le_of_ble_eq_true rfl)) (by decide) ml141 pp141 (Nat.le_of_ble_eq_true rfl) rfl (by decide) (by decide) ?_
    refine ev_aload_n rfl ?_
    refine ev_iload_n rfl ?_
    refine ev_in (d := 21) (a := 0) (b := 0) (cd' := c140_0) (m := 2) (L0 := [(2, 1), (0, x4)]) (jcall_v (A := [(0, x4)]) (S' := []) (r := 1) rfl (g1.lt ad1) (g1.tg ad1) (Nat.le_of_ble_eq_true rfl)) (by decide) ml140 pp140 (Nat.le_of_ble_eq_true rfl) rfl (by decide) (by decide) ?_
    refine ev_iload_n rfl ?_
    refine ev_iflt f140_16 (fun c23238 => absurd c23238 (by omega)) (fun c23238 => ?_)
    refine ev_iload_n rfl ?_
    refine ev_aload_n rfl ?_
    obtain ⟨v23239, ev23239, lv23239, uv23239⟩ := g1.rd ad1 (show 0 < 8 by decide) rf1_0
    refine g_getv (r := 1) (v := v23239) g1 ad1 (by decide) ft10_0 ev23239 ?_
    refine ev_icmpge f140_16 (fun c23240 => ?_) (fun c23240 => ?_)
    · refine ev_iconst ?_
      refine ev_ret rfl (by decide) (by decide) ?_
      show jEv _ _ _ _ _ _ _ (_, [(2, 1), (0, x4)], [(0, 0)], _, _, _)
      refine ev_ifeq f141_17 (fun c23241 => ?_) (fun c23241 => absurd c23241 (by omega))
      refine ev_iconst ?_
      refine ev_ret rfl (by decide) (by decide) ?_
      show jEv _ _ _ _ _ _ _ (_, [(2, 7), (2, 1), (0, 2), (0, a3), (0, x4), (0, x5), (0, x6)], [(0, 0), (0, x6)], _, _, _)
      refine ev_icmpge f79_126 (fun c23242 => ?_) (fun c23242 => absurd c23242 (by omega))
      refine ev_aload_n rfl ?_
      refine ev_bipush ?_
      refine ev_call (jcall_v (A := [(0, 41)]) (S' := []) (r := 7) rfl (g1.lt ad7) (g1.tg ad7) (Nat.le_of_ble_eq_true rfl)) (jOk_le (by decide) (s71 g1 (by omega) (by omega) (ey0) (by omega) (by omega))) (by decide) (by decide) (fun w23243 h23243 q23243 => ?_)
      obtain ⟨v23244, rfl, g23243, kk23243, ev23244, p23243_0⟩ := q23243
      have bv23244 := g23243.rg ad7 (i := 1) (by decide) rf7_1
      rw [ev23244] at bv23244
      have k23243 := k1.tr kk23243 (by decide)
      show jEv _ _ _ _ _ _ _ (_, [(2, 7), (2, 1), (0, 2), (0, a3), (0, x4), (0, x5), (0, x6)], [], _, _, _)
      refine ev_aload_n rfl ?_
      refine g_getv (r := 7) (v := v23244) g23243 ad7 (by decide) ft5_1 (ev23244) ?_
      refine ev_ifge f79_144 (fun c23245 => ?_) (fun c23245 => ?_)
      · refine ev_iconst ?_
        exact ev_ret rfl (by decide) (by decide) ⟨_, _, rfl, by omega, by omega, g23243, k23243, (ev23244), by omega, by omega⟩
      · refine ev_iload rfl ?_
        refine ev_ifge f79_146 (fun c23246 => ?_) (fun c23246 => absurd c23246 (by omega))
        refine ev_aload_n rfl ?_
        refine g_getp (r := 7) (c := 11) g23243 ad7 (by decide) (by decide) rf7_8 ft5_8 ?_
        refine ev_iload rfl ?_
        refine ev_iload rfl ?_
        refine g_iast g23243 ad11 rt11 (fun _ => rfl) (by omega) (by omega) (by omega) (by omega) (fun h23247 e23247 g23247 => ?_)
        have k23247 := k23243.wr e23247 rfl
        refine ev_aload_n rfl ?_
        refine g_getp (r := 7) (c := 15) g23247 ad7 (by decide) (by decide) rf7_12 ft5_12 ?_
        refine ev_iload rfl ?_
        refine ev_dup2 (by decide) (by decide) ?_
        refine g_iald g23247 ad15 rt15 (by omega) (by omega) (fun v23248 ev23248 lv23248 uv23248 => ?_)
        refine ev_iconst ?_
        refine ev_iload rfl ?_
        refine g_ishlB (a' := 1) (a := 1) (b := 3) (hi := 8) (by omega) (by omega) (by omega) (by omega) (by decide) (by decide) (fun v23249 ev23249 lv23249 uv23249 => ?_)
        refine g_iorG (fun v23250 ev23250 lv23250 uv23250 => ?_)
        refine g_iast g23247 ad15 rt15 (fun _ => rfl) (by omega) (by omega) (by omega) (by omega) (fun h23251 e23251 g23251 => ?_)
        have k23251 := k23247.wr e23251 rfl
        refine ev_iload rfl ?_
        exact ev_ret rfl (by decide) (by decide) ⟨_, _, rfl, by omega, by omega, g23251, k23251, (((jw_ne e23251 (Or.inl (by decide))).trans ((jw_ne e23247 (Or.inl (by decide))).trans ev23244))), by omega, by omega⟩
    · refine ev_iconst ?_
      refine ev_goto f140_17 ?_
      refine ev_ret rfl (by decide) (by decide) ?_
      show jEv _ _ _ _ _ _ _ (_, [(2, 1), (0, x4)], [(0, 1)], _, _, _)
      refine ev_ifeq f141_17 (fun c23252 => absurd c23252 (by omega)) (fun c23252 => ?_)
      refine ev_aload_n rfl ?_
      refine g_getp (r := 1) (c := 2) g1 ad1 (by decide) (by decide) rf1_3 ft10_3 ?_
      refine ev_iload_n rfl ?_
      refine g_iald g1 ad2 rt2 (by omega) (by omega) (fun v23253 ev23253 lv23253 uv23253 => ?_)
      have xv23253 := (g1.ex.1.1 (x4 : Int).toNat (by rw [(ev23239)]; omega))
      rw [ev23253] at xv23253
      refine ev_goto f141_18 ?_
      refine ev_ret rfl (by decide) (by decide) ?_
      show jEv _ _ _ _ _ _ _ (_, [(2, 7), (2, 1), (0, 2), (0, a3), (0, x4), (0, x5), (0, x6)], [(0, v23253), (0, x6)], _, _, _)
      refine ev_icmpge f79_126 (fun c23254 => ?_) (fun c23254 => ?_)
      · refine ev_aload_n rfl ?_
        refine ev_bipush ?_
        refine ev_call (jcall_v (A := [(0, 41)]) (S' := []) (r := 7) rfl (g1.lt ad7) (g1.tg ad7) (Nat.le_of_ble_eq_true rfl)) (jOk_le (by decide) (s71 g1 (by omega) (by omega) (ey0) (by omega) (by omega))) (by decide) (by decide) (fun w23255 h23255 q23255 => ?_)
        obtain ⟨v23256, rfl, g23255, kk23255, ev23256, p23255_0⟩ := q23255
        have bv23256 := g23255.rg ad7 (i := 1) (by decide) rf7_1
        rw [ev23256] at bv23256
        have k23255 := k1.tr kk23255 (by decide)
        show jEv _ _ _ _ _ _ _ (_, [(2, 7), (2, 1), (0, 2), (0, a3), (0, x4), (0, x5), (0, x6)], [], _, _, _)
        refine ev_aload_n rfl ?_
        refine g_getv (r := 7) (v := v23256) g23255 ad7 (by decide) ft5_1 (ev23256) ?_
        refine ev_ifge f79_144 (fun c23257 => ?_) (fun c23257 => ?_)
        · refine ev_iconst ?_
          exact ev_ret rfl (by decide) (by decide) ⟨_, _, rfl, by omega, by omega, g23255, k23255, (ev23256), by omega, by omega⟩
        · refine ev_iload rfl ?_
          refine ev_ifge f79_146 (fun c23258 => ?_) (fun c23258 => absurd c23258 (by omega))
          refine ev_aload_n rfl ?_
          refine g_getp (r := 7) (c := 11) g23255 ad7 (by decide) (by decide) rf7_8 ft5_8 ?_
          refine ev_iload rfl ?_
          refine ev_iload rfl ?_
          refine g_iast g23255 ad11 rt11 (fun _ => rfl) (by omega) (by omega) (by omega) (by omega) (fun h23259 e23259 g23259 => ?_)
          have k23259 := k23255.wr e23259 rfl
          refine ev_aload_n rfl ?_
          refine g_getp (r := 7) (c := 15) g23259 ad7 (by decide) (by decide) rf7_12 ft5_12 ?_
          refine ev_iload rfl ?_
          refine ev_dup2 (by decide) (by decide) ?_
          refine g_iald g23259 ad15 rt15 (by omega) (by omega) (fun v23260 ev23260 lv23260 uv23260 => ?_)
          refine ev_iconst ?_
          refine ev_iload rfl ?_
          refine g_ishlB (a' := 1) (a := 1) (b := 3) (hi := 8) (by omega) (by omega) (by omega) (by omega) (by decide) (by decide) (fun v23261 ev23261 lv23261 uv23261 => ?_)
          refine g_iorG (fun v23262 ev23262 lv23262 uv23262 => ?_)
          refine g_iast g23259 ad15 rt15 (fun _ => rfl) (by omega) (by omega) (by omega) (by omega) (fun h23263 e23263 g23263 => ?_)
          have k23263 := k23259.wr e23263 rfl
          refine ev_iload rfl ?_
          exact ev_ret rfl (by decide) (by decide) ⟨_, _, rfl, by omega, by omega, g23263, k23263, (((jw_ne e23263 (Or.inl (by decide))).trans ((jw_ne e23259 (Or.inl (by decide))).trans ev23256))), by omega, by omega⟩
      · refine ev_aload_n rfl ?_
        refine g_getv (r := 7) (v := y0) g1 ad7 (by decide) ft5_1 (ey0) ?_
        refine ev_ifge f79_126 (fun c23264 => ?_) (fun c23264 => ?_)
        · refine ev_aload_n rfl ?_
          refine ev_bipush ?_
          refine ev_call (jcall_v (A := [(0, 41)]) (S' := []) (r := 7) rfl (g1.lt ad7) (g1.tg ad7) (Nat.le_of_ble_eq_true rfl)) (jOk_le (by decide) (s71 g1 (by omega) (by omega) (ey0) (by omega) (by omega))) (by decide) (by decide) (fun w23265 h23265 q23265 => ?_)
          obtain ⟨v23266, rfl, g23265, kk23265, ev23266, p23265_0⟩ := q23265
          have bv23266 := g23265.rg ad7 (i := 1) (by decide) rf7_1
          rw [ev23266] at bv23266
          have k23265 := k1.tr kk23265 (by decide)
          show jEv _ _ _ _ _ _ _ (_, [(2, 7), (2, 1), (0, 2), (0, a3), (0, x4), (0, x5), (0, x6)], [], _, _, _)
          refine ev_aload_n rfl ?_
          refine g_getv (r := 7) (v := v23266) g23265 ad7 (by decide) ft5_1 (ev23266) ?_
          refine ev_ifge f79_144 (fun c23267 => ?_) (fun c23267 => absurd c23267 (by omega))
          refine ev_iconst ?_
          exact ev_ret rfl (by decide) (by decide) ⟨_, _, rfl, by omega, by omega, g23265, k23265, (ev23266), by omega, by omega⟩
        · refine ev_iload rfl ?_
          refine ev_ifle f79_97 (fun c23268 => ?_) (fun c23268 => ?_)
          · refine ev_aload_n rfl ?_
            refine ev_iload rfl ?_
            refine ev_iload rfl ?_
            refine ev_iconst ?_
            refine ev_aload_n rfl ?_
            refine ev_aload_n rfl ?_
            refine ev_iload_n rfl ?_
            refine ev_iconst ?_
            refine ev_iadd (r := 3) (by decide) ?_
            refine ev_iload_n rfl ?_
            refine ev_iconst ?_
            refine ev_iload rfl ?_
            refine g_ishlB (a' := 1) (a := 1) (b := 3) (hi := 8) (by omega) (by omega) (by omega) (by omega) (by decide) (by decide) (fun v23269 ev23269 lv23269 uv23269 => ?_)
            refine g_iorG (fun v23270 ev23270 lv23270 uv23270 => ?_)
            refine ev_call (jcall_v (A := [(0, v23270), (0, 3), (2, 1)]) (S' := [(0, 0), (0, x6), (0, x5), (2, 7)]) (r := 7) rfl (g1.lt ad7) (g1.tg ad7) (Nat.le_of_ble_eq_true rfl)) (jOk_le (by decide) (s74_3 g1 (by omega) (by omega) (ey0) (by omega) (by omega))) (by decide) (by decide) (fun w23271 h23271 q23271 => ?_)
            obtain ⟨v23273, v23272, rfl, lv23273, uv23273, g23271, kk23271, ev23272, p23271_0, p23271_1⟩ := q23271
            have bv23272 := g23271.rg ad7 (i := 1) (by decide) rf7_1
            rw [ev23272] at bv23272
            have k23271 := k1.tr kk23271 (by decide)
            show jEv _ _ _ _ _ _ _ (_, [(2, 7), (2, 1), (0, 2), (0, a3), (0, x4), (0, x5), (0, x6)], [(0, v23273), (0, 0), (0, x6), (0, x5), (2, 7)], _, _, _)
            refine ev_call (jcall_v (A := [(0, v23273), (0, 0), (0, x6), (0, x5)]) (S' := []) (r := 7) rfl (g23271.lt ad7) (g23271.tg ad7) (Nat.le_of_ble_eq_true rfl)) (jOk_le (by decide) (s80 g23271 (by omega) (by omega) (by omega) (by omega) (by omega) (by omega) (by omega) (by omega))) (by decide) (by decide) (fun w23274 h23274 q23274 => ?_)
            obtain ⟨rfl, g23274, kk23274⟩ := q23274
            have k23274 := k23271.tr kk23274 (by decide)
            show jEv _ _ _ _ _ _ _ (_, [(2, 7), (2, 1), (0, 2), (0, a3), (0, x4), (0, x5), (0, x6)], [], _, _, _)
            refine ev_iinc (w := (x6 + 1)) (L' := [(2, 7), (2, 1), (0, 2), (0, a3), (0, x4), (0, x5), (0, (x6 + 1))]) rfl (by unfold w32; omega) rfl ?_
            refine ev_goto f79_68 ?_
            exact ih _ _ _ _ _ g23274 k23274 (by omega) (by omega) (by omega) (by omega) (by omega) (by omega) (by omega) (by omega) (by omega) (by omega) (((kk23274.v (by decide)).trans ev23272)) (by omega) (by omega) (by omega)
          · refine ev_aload_n rfl ?_
            refine ev_bipush ?_
            refine ev_call (jcall_v (A := [(0, 44)]) (S' := []) (r := 7) rfl (g1.lt ad7) (g1.tg ad7) (Nat.le_of_ble_eq_true rfl)) (jOk_le (by decide) (s71 g1 (by omega) (by omega) (ey0) (by omega) (by omega))) (by decide) (by decide) (fun w23275 h23275 q23275 => ?_)
            obtain ⟨v23276, rfl, g23275, kk23275, ev23276, p23275_0⟩ := q23275
            have bv23276 := g23275.rg ad7 (i := 1) (by decide) rf7_1
            rw [ev23276] at bv23276
            have k23275 := k1.tr kk23275 (by decide)
            show jEv _ _ _ _ _ _ _ (_, [(2, 7), (2, 1), (0, 2), (0, a3), (0, x4), (0, x5), (0, x6)], [], _, _, _)
            refine ev_aload_n rfl ?_
            refine ev_iload rfl ?_
            refine ev_iload rfl ?_
            refine ev_iconst ?_
            refine ev_aload_n rfl ?_
            refine ev_aload_n rfl ?_
            refine ev_iload_n rfl ?_
            refine ev_iconst ?_
            refine ev_iadd (r := 3) (by decide) ?_
            refine ev_iload_n rfl ?_
            refine ev_iconst ?_
            refine ev_iload rfl ?_
            refine g_ishlB (a' := 1) (a := 1) (b := 3) (hi := 8) (by omega) (by omega) (by omega) (by omega) (by decide) (by decide) (fun v23277 ev23277 lv23277 uv23277 => ?_)
            refine g_iorG (fun v23278 ev23278 lv23278 uv23278 => ?_)
            refine ev_call (jcall_v (A := [(0, v23278), (0, 3), (2, 1)]) (S' := [(0, 0), (0, x6), (0, x5), (2, 7)]) (r := 7) rfl (g23275.lt ad7) (g23275.tg ad7) (Nat.le_of_ble_eq_true rfl)) (jOk_le (by decide) (s74_3 g23275 (by omega) (by omega) (ev23276) (by omega) (by omega))) (by decide) (by decide) (fun w23279 h23279 q23279 => ?_)
            obtain ⟨v23281, v23280, rfl, lv23281, uv23281, g23279, kk23279, ev23280, p23279_0, p23279_1⟩ := q23279
            have bv23280 := g23279.rg ad7 (i := 1) (by decide) rf7_1
            rw [ev23280] at bv23280
            have k23279 := k23275.tr kk23279 (by decide)
            show jEv _ _ _ _ _ _ _ (_, [(2, 7), (2, 1), (0, 2), (0, a3), (0, x4), (0, x5), (0, x6)], [(0, v23281), (0, 0), (0, x6), (0, x5), (2, 7)], _, _, _)
            refine ev_call (jcall_v (A := [(0, v23281), (0, 0), (0, x6), (0, x5)]) (S' := []) (r := 7) rfl (g23279.lt ad7) (g23279.tg ad7) (Nat.le_of_ble_eq_true rfl)) (jOk_le (by decide) (s80 g23279 (by omega) (by omega) (by omega) (by omega) (by omega) (by omega) (by omega) (by omega))) (by decide) (by decide) (fun w23282 h23282 q23282 => ?_)
            obtain ⟨rfl, g23282, kk23282⟩ := q23282
            have k23282 := k23279.tr kk23282 (by decide)
            show jEv _ _ _ _ _ _ _ (_, [(2, 7), (2, 1), (0, 2), (0, a3), (0, x4), (0, x5), (0, x6)], [], _, _, _)
            refine ev_iinc (w := (x6 + 1)) (L' := [(2, 7), (2, 1), (0, 2), (0, a3), (0, x4), (0, x5), (0, (x6 + 1))]) rfl (by unfold w32; omega) rfl ?_
            refine ev_goto f79_68 ?_
            exact ih _ _ _ _ _ g23282 k23282 (by omega) (by omega) (by omega) (by omega) (by omega) (by omega) (by omega) (by omega) (by omega) (by omega) (((kk23282.v (by decide)).trans ev23280)) (by omega) (by omega) (by omega)
set_option maxHeartbeats 4000000 in
theorem s79_2 {G : GH} {h : JH} (g : Gd G h) {a3 : Int} (la3 : (-2147483648) ≤ a3) (ua3 : a3 ≤ 2147483647) {w0 : Int} (ew0 : h.2.2 7 1 = w0) (lw0 : (-1) ≤ w0) (uw0 : w0 ≤ 200) {w1 : Int} (ew1 : h.2.2 7 2 = w1) (lw1 : 0 ≤ w1) (uw1 : w1 ≤ 199) : jOk 24 0 0 79 [(2, 7), (2, 1), (0, 2), (0, a3)] h (fun v h' => ∃ r F : Int, v = some (0, r) ∧ (-1) ≤ r ∧ r ≤ 199 ∧ Gd G h' ∧ Kp [(7, 2), (7, 3), (7, 4), (10, 0), (11, 0), (12, 0), (13, 0), (14, 0), (15, 0), (16, 0), (17, 0)] h h' ∧ h'.2.2 7 1 = F ∧ ((-F) + w0) ≤ 0 ∧ ((-F) + (-r)) ≤ 1) := by
  refine ⟨by decide, by rw [ml79]; exact Nat.le_of_ble_eq_true rfl, ?_⟩
  rw [ml79, pp79]
  show jEv _ none _ c79_0 0 0 _ (c79_0, [(2, 7), (2, 1), (0, 2), (0, a3), (9, 0), (9, 0), (9, 0)], [], h, 0, 0)
  have k0 := Kp.rf [(7, 2), (7, 3), (7, 4), (10, 0), (11, 0), (12, 0), (13, 0), (14, 0), (15, 0), (16, 0), (17, 0)] h
  refine ev_aload_n rfl ?_
  refine ev_dup (by decide) ?_
  refine g_getv (r := 7) (v := w1) g ad7 (by decide) ft5_2 (ew1) ?_
  refine ev_iconst ?_
  refine ev_iadd (r := (w1 + 1)) (by unfold w32; omega) ?_
  refine g_putf (r := 7) g ad7 (by decide) ft5_2 (by decide) (fun e => absurd e nz5_2) rf7_2 (by decide) (by omega) (by omega) (fun h23283 e23283 g23283 => ?_)
  have k23283 := k0.wr e23283 rfl
  refine ev_aload_n rfl ?_
  refine ev_in (d := 22) (a := 0) (b := 0) (cd' := c68_0) (m := 1) (L0 := [(2, 7)]) (jcall_v (A := []) (S' := []) (r := 7) rfl (g23283.lt ad7) (g23283.tg ad7) (Nat.le_of_ble_eq_true rfl)) (by decide) ml68 pp68 (Nat.le_of_ble_eq_true rfl) rfl (by decide) (by decide) ?_
  refine ev_aload_n rfl ?_
  refine g_getv (r := 7) (v := (w1 + 1)) g23283 ad7 (by decide) ft5_2 ((jw_eq e23283)) ?_
  refine ev_aload_n rfl ?_
  obtain ⟨v23284, ev23284, lv23284, uv23284⟩ := g23283.rd ad7 (show 0 < 15 by decide) rf7_0
  refine g_getv (r := 7) (v := v23284) g23283 ad7 (by decide) ft5_0 ev23284 ?_
  refine ev_icmpge f68_27 (fun c23285 => ?_) (fun c23285 => ?_)
  · refine ev_iconst ?_
    refine ev_ret rfl (by decide) (by decide) ?_
    show jEv _ _ _ _ _ _ _ (_, [(2, 7), (2, 1), (0, 2), (0, a3), (9, 0), (9, 0), (9, 0)], [(0, (-1))], _, _, _)
    refine ev_bipush ?_
    refine ev_isub (r := (-98)) (by decide) ?_
    refine ev_istore (L' := [(2, 7), (2, 1), (0, 2), (0, a3), (0, (-98)), (9, 0), (9, 0)]) (Nat.le_of_ble_eq_true rfl) rfl ?_
    refine ev_aload_n rfl ?_
    refine ev_iload rfl ?_
    refine ev_in (d := 22) (a := 0) (b := 0) (cd' := c140_0) (m := 2) (L0 := [(2, 1), (0, (-98))]) (jcall_v (A := [(0, (-98))]) (S' := []) (r := 1) rfl (g23283.lt ad1) (g23283.tg ad1) (Nat.le_of_ble_eq_true rfl)) (by decide) ml140 pp140 (Nat.le_of_ble_eq_true rfl) rfl (by decide) (by decide) ?_
    refine ev_iload_n rfl ?_
    refine ev_iflt f140_16 (fun c23286 => ?_) (fun c23286 => absurd c23286 (by omega))
    refine ev_iconst ?_
    refine ev_ret rfl (by decide) (by decide) ?_
    show jEv _ _ _ _ _ _ _ (_, [(2, 7), (2, 1), (0, 2), (0, a3), (0, (-98)), (9, 0), (9, 0)], [(0, 0)], _, _, _)
    refine ev_ifeq f79_37 (fun c23287 => ?_) (fun c23287 => absurd c23287 (by omega))
    refine ev_aload_n rfl ?_
    refine ev_in (d := 22) (a := 0) (b := 0) (cd' := c70_0) (m := 1) (L0 := [(2, 7)]) (jcall_v (A := []) (S' := []) (r := 7) rfl (g23283.lt ad7) (g23283.tg ad7) (Nat.le_of_ble_eq_true rfl)) (by decide) ml70 pp70 (Nat.le_of_ble_eq_true rfl) rfl (by decide) (by decide) ?_
    refine ev_aload_n rfl ?_
    refine g_getv (r := 7) (v := w0) g23283 ad7 (by decide) ft5_1 (((jw_ne e23283 (Or.inr (by decide))).trans ew0)) ?_
    refine ev_ifge f70_15 (fun c23288 => ?_) (fun c23288 => ?_)
    · refine ev_ret rfl (by decide) (by decide) ?_
      show jEv _ _ _ _ _ _ _ (_, [(2, 7), (2, 1), (0, 2), (0, a3), (0, (-98)), (9, 0), (9, 0)], [], _, _, _)
      refine ev_iconst ?_
      exact ev_ret rfl (by decide) (by decide) ⟨_, _, rfl, by omega, by omega, g23283, k23283, (((jw_ne e23283 (Or.inr (by decide))).trans ew0)), by omega, by omega⟩
    · refine ev_aload_n rfl ?_
      refine ev_aload_n rfl ?_
      refine g_getv (r := 7) (v := (w1 + 1)) g23283 ad7 (by decide) ft5_2 ((jw_eq e23283)) ?_
      refine g_putf (r := 7) g23283 ad7 (by decide) ft5_1 (by decide) (fun e => absurd e nz5_1) rf7_1 (by decide) (by omega) (by omega) (fun h23289 e23289 g23289 => ?_)
      have k23289 := k23283.wr e23289 rfl
      refine ev_ret rfl (by decide) (by decide) ?_
      show jEv _ _ _ _ _ _ _ (_, [(2, 7), (2, 1), (0, 2), (0, a3), (0, (-98)), (9, 0), (9, 0)], [], _, _, _)
      refine ev_iconst ?_
      exact ev_ret rfl (by decide) (by decide) ⟨_, _, rfl, by omega, by omega, g23289, k23289, ((jw_eq e23289)), by omega, by omega⟩
  · refine ev_aload_n rfl ?_
    refine g_getp (r := 7) (c := 8) g23283 ad7 (by decide) (by decide) rf7_5 ft5_5 ?_
    refine ev_aload_n rfl ?_
    refine g_getv (r := 7) (v := (w1 + 1)) g23283 ad7 (by decide) ft5_2 ((jw_eq e23283)) ?_
    refine g_bald g23283 ad8 rt8 (by omega) (by omega) (fun v23290 ev23290 lv23290 uv23290 => ?_)
    refine ev_sipush ?_
    refine g_iandB (b := 255) (by omega) (by omega) (by decide) (fun v23291 ev23291 lv23291 uv23291 => ?_)
    refine ev_goto f68_28 ?_
    refine ev_ret rfl (by decide) (by decide) ?_
    show jEv _ _ _ _ _ _ _ (_, [(2, 7), (2, 1), (0, 2), (0, a3), (9, 0), (9, 0), (9, 0)], [(0, v23291)], _, _, _)
    refine ev_bipush ?_
    refine ev_isub (r := (v23291 - 97)) (by unfold w32; omega) ?_
    refine ev_istore (L' := [(2, 7), (2, 1), (0, 2), (0, a3), (0, (v23291 - 97)), (9, 0), (9, 0)]) (Nat.le_of_ble_eq_true rfl) rfl ?_
    refine ev_aload_n rfl ?_
    refine ev_iload rfl ?_
    refine ev_in (d := 22) (a := 0) (b := 0) (cd' := c140_0) (m := 2) (L0 := [(2, 1), (0, (v23291 - 97))]) (jcall_v (A := [(0, (v23291 - 97))]) (S' := []) (r := 1) rfl (g23283.lt ad1) (g23283.tg ad1) (Nat.le_of_ble_eq_true rfl)) (by decide) ml140 pp140 (Nat.le_of_ble_eq_true rfl) rfl (by decide) (by decide) ?_
    refine ev_iload_n rfl ?_
    refine ev_iflt f140_16 (fun c23292 => ?_) (fun c23292 => ?_)
    · refine ev_iconst ?_
      refine ev_ret rfl (by decide) (by decide) ?_
      show jEv _ _ _ _ _ _ _ (_, [(2, 7), (2, 1), (0, 2), (0, a3), (0, (v23291 - 97)), (9, 0), (9, 0)], [(0, 0)], _, _, _)
      refine ev_ifeq f79_37 (fun c23293 => ?_) (fun c23293 => absurd c23293 (by omega))
      refine ev_aload_n rfl ?_
      refine ev_in (d := 22) (a := 0) (b := 0) (cd' := c70_0) (m := 1) (L0 := [(2, 7)]) (jcall_v (A := []) (S' := []) (r := 7) rfl (g23283.lt ad7) (g23283.tg ad7) (Nat.le_of_ble_eq_true rfl)) (by decide) ml70 pp70 (Nat.le_of_ble_eq_true rfl) rfl (by decide) (by decide) ?_
      refine ev_aload_n rfl ?_
      refine g_getv (r := 7) (v := w0) g23283 ad7 (by decide) ft5_1 (((jw_ne e23283 (Or.inr (by decide))).trans ew0)) ?_
      refine ev_ifge f70_15 (fun c23294 => ?_) (fun c23294 => ?_)
      · refine ev_ret rfl (by decide) (by decide) ?_
        show jEv _ _ _ _ _ _ _ (_, [(2, 7), (2, 1), (0, 2), (0, a3), (0, (v23291 - 97)), (9, 0), (9, 0)], [], _, _, _)
        refine ev_iconst ?_
        exact ev_ret rfl (by decide) (by decide) ⟨_, _, rfl, by omega, by omega, g23283, k23283, (((jw_ne e23283 (Or.inr (by decide))).trans ew0)), by omega, by omega⟩
      · refine ev_aload_n rfl ?_
        refine ev_aload_n rfl ?_
        refine g_getv (r := 7) (v := (w1 + 1)) g23283 ad7 (by decide) ft5_2 ((jw_eq e23283)) ?_
        refine g_putf (r := 7) g23283 ad7 (by decide) ft5_1 (by decide) (fun e => absurd e nz5_1) rf7_1 (by decide) (by omega) (by omega) (fun h23295 e23295 g23295 => ?_)
        have k23295 := k23283.wr e23295 rfl
        refine ev_ret rfl (by decide) (by decide) ?_
        show jEv _ _ _ _ _ _ _ (_, [(2, 7), (2, 1), (0, 2), (0, a3), (0, (v23291 - 97)), (9, 0), (9, 0)], [], _, _, _)
        refine ev_iconst ?_
        exact ev_ret rfl (by decide) (by decide) ⟨_, _, rfl, by omega, by omega, g23295, k23295, ((jw_eq e23295)), by omega, by omega⟩
    · refine ev_iload_n rfl ?_
      refine ev_aload_n rfl ?_
      obtain ⟨v23296, ev23296, lv23296, uv23296⟩ := g23283.rd ad1 (show 0 < 8 by decide) rf1_0
      refine g_getv (r := 1) (v := v23296) g23283 ad1 (by decide) ft10_0 ev23296 ?_
      refine ev_icmpge f140_16 (fun c23297 => ?_) (fun c23297 => ?_)
      · refine ev_iconst ?_
        refine ev_ret rfl (by decide) (by decide) ?_
        show jEv _ _ _ _ _ _ _ (_, [(2, 7), (2, 1), (0, 2), (0, a3), (0, (v23291 - 97)), (9, 0), (9, 0)], [(0, 0)], _, _, _)
        refine ev_ifeq f79_37 (fun c23298 => ?_) (fun c23298 => absurd c23298 (by omega))
        refine ev_aload_n rfl ?_
        refine ev_in (d := 22) (a := 0) (b := 0) (cd' := c70_0) (m := 1) (L0 := [(2, 7)]) (jcall_v (A := []) (S' := []) (r := 7) rfl (g23283.lt ad7) (g23283.tg ad7) (Nat.le_of_ble_eq_true rfl)) (by decide) ml70 pp70 (Nat.le_of_ble_eq_true rfl) rfl (by decide) (by decide) ?_
        refine ev_aload_n rfl ?_
        refine g_getv (r := 7) (v := w0) g23283 ad7 (by decide) ft5_1 (((jw_ne e23283 (Or.inr (by decide))).trans ew0)) ?_
        refine ev_ifge f70_15 (fun c23299 => ?_) (fun c23299 => ?_)
        · refine ev_ret rfl (by decide) (by decide) ?_
          show jEv _ _ _ _ _ _ _ (_, [(2, 7), (2, 1), (0, 2), (0, a3), (0, (v23291 - 97)), (9, 0), (9, 0)], [], _, _, _)
          refine ev_iconst ?_
          exact ev_ret rfl (by decide) (by decide) ⟨_, _, rfl, by omega, by omega, g23283, k23283, (((jw_ne e23283 (Or.inr (by decide))).trans ew0)), by omega, by omega⟩
        · refine ev_aload_n rfl ?_
          refine ev_aload_n rfl ?_
          refine g_getv (r := 7) (v := (w1 + 1)) g23283 ad7 (by decide) ft5_2 ((jw_eq e23283)) ?_
          refine g_putf (r := 7) g23283 ad7 (by decide) ft5_1 (by decide) (fun e => absurd e nz5_1) rf7_1 (by decide) (by omega) (by omega) (fun h23300 e23300 g23300 => ?_)
          have k23300 := k23283.wr e23300 rfl
          refine ev_ret rfl (by decide) (by decide) ?_
          show jEv _ _ _ _ _ _ _ (_, [(2, 7), (2, 1), (0, 2), (0, a3), (0, (v23291 - 97)), (9, 0), (9, 0)], [], _, _, _)
          refine ev_iconst ?_
          exact ev_ret rfl (by decide) (by decide) ⟨_, _, rfl, by omega, by omega, g23300, k23300, ((jw_eq e23300)), by omega, by omega⟩
      · refine ev_iconst ?_
        refine ev_goto f140_17 ?_
        refine ev_ret rfl (by decide) (by decide) ?_
        show jEv _ _ _ _ _ _ _ (_, [(2, 7), (2, 1), (0, 2), (0, a3), (0, (v23291 - 97)), (9, 0), (9, 0)], [(0, 1)], _, _, _)
        refine ev_ifeq f79_37 (fun c23301 => absurd c23301 (by omega)) (fun c23301 => ?_)
        refine ev_iload_n rfl ?_
        refine ev_iload rfl ?_
        refine g_ishrG (fun v23302 ev23302 lv23302 uv23302 => ?_)
        refine ev_iconst ?_
        refine g_iandB (b := 1) (by omega) (by omega) (by decide) (fun v23303 ev23303 lv23303 uv23303 => ?_)
        refine ev_ifeq f79_43 (fun c23304 => ?_) (fun c23304 => ?_)
        · refine ev_aload_n rfl ?_
          refine ev_dup (by decide) ?_
          refine g_getv (r := 7) (v := (w1 + 1)) g23283 ad7 (by decide) ft5_2 ((jw_eq e23283)) ?_
          refine ev_iconst ?_
          refine ev_iadd (r := (w1 + 2)) (by unfold w32; omega) ?_
          refine g_putf (r := 7) g23283 ad7 (by decide) ft5_2 (by decide) (fun e => absurd e nz5_2) rf7_2 (by decide) (by omega) (by omega) (fun h23305 e23305 g23305 => ?_)
          have k23305 := k23283.wr e23305 rfl
          refine ev_aload_n rfl ?_
          refine ev_iload_n rfl ?_
          refine ev_call (jcall_v (A := [(0, 2)]) (S' := []) (r := 7) rfl (g23305.lt ad7) (g23305.tg ad7) (Nat.le_of_ble_eq_true rfl)) (jOk_le (by decide) (s72 g23305 (by omega) (by omega) (((jw_ne e23305 (Or.inr (by decide))).trans ((jw_ne e23283 (Or.inr (by decide))).trans ew0))) (by omega) (by omega))) (by decide) (by decide) (fun w23306 h23306 q23306 => ?_)
          obtain ⟨v23307, rfl, g23306, kk23306, ev23307, p23306_0⟩ := q23306
          have bv23307 := g23306.rg ad7 (i := 1) (by decide) rf7_1
          rw [ev23307] at bv23307
          have k23306 := k23305.tr kk23306 (by decide)
          show jEv _ _ _ _ _ _ _ (_, [(2, 7), (2, 1), (0, 2), (0, a3), (0, (v23291 - 97)), (9, 0), (9, 0)], [], _, _, _)
          refine ev_aload_n rfl ?_
          refine ev_iconst ?_
          refine ev_call (jcall_v (A := [(0, 2)]) (S' := []) (r := 7) rfl (g23306.lt ad7) (g23306.tg ad7) (Nat.le_of_ble_eq_true rfl)) (jOk_le (by decide) (s73 g23306 (by omega) (by omega) (ev23307) (by omega) (by omega))) (by decide) (by decide) (fun w23308 h23308 q23308 => ?_)
          obtain ⟨v23310, v23309, rfl, lv23310, uv23310, g23308, kk23308, ev23309, p23308_0, p23308_1⟩ := q23308
          have bv23309 := g23308.rg ad7 (i := 1) (by decide) rf7_1
          rw [ev23309] at bv23309
          have k23308 := k23306.tr kk23308 (by decide)
          show jEv _ _ _ _ _ _ _ (_, [(2, 7), (2, 1), (0, 2), (0, a3), (0, (v23291 - 97)), (9, 0), (9, 0)], [(0, v23310)], _, _, _)
          refine ev_istore (L' := [(2, 7), (2, 1), (0, 2), (0, a3), (0, (v23291 - 97)), (0, v23310), (9, 0)]) (Nat.le_of_ble_eq_true rfl) rfl ?_
          refine ev_iconst ?_
          refine ev_istore (L' := [(2, 7), (2, 1), (0, 2), (0, a3), (0, (v23291 - 97)), (0, v23310), (0, 0)]) (Nat.le_of_ble_eq_true rfl) rfl ?_
          exact (s79_2_l la3 ua3 ew0 lw0 uw0 ew1 lw1 uw1 8) _ _ _ _ _ g23308 k23308 (by omega) (by omega) (by omega) (by omega) (by omega) (by omega) (by omega) (by omega) (by omega) (by omega) (ev23309) (by omega) (by omega) (by omega)
        · refine ev_aload_n rfl ?_
          refine ev_in (d := 22) (a := 0) (b := 0) (cd' := c70_0) (m := 1) (L0 := [(2, 7)]) (jcall_v (A := []) (S' := []) (r := 7) rfl (g23283.lt ad7) (g23283.tg ad7) (Nat.le_of_ble_eq_true rfl)) (by decide) ml70 pp70 (Nat.le_of_ble_eq_true rfl) rfl (by decide) (by decide) ?_
          refine ev_aload_n rfl ?_
          refine g_getv (r := 7) (v := w0) g23283 ad7 (by decide) ft5_1 (((jw_ne e23283 (Or.inr (by decide))).trans ew0)) ?_
          refine ev_ifge f70_15 (fun c23311 => ?_) (fun c23311 => ?_)
          · refine ev_ret rfl (by decide) (by decide) ?_
            show jEv _ _ _ _ _ _ _ (_, [(2, 7), (2, 1), (0, 2), (0, a3), (0, (v23291 - 97)), (9, 0), (9, 0)], [], _, _, _)
            refine ev_iconst ?_
            exact ev_ret rfl (by decide) (by decide) ⟨_, _, rfl, by omega, by omega, g23283, k23283, (((jw_ne e23283 (Or.inr (by decide))).trans ew0)), by omega, by omega⟩
          · refine ev_aload_n rfl ?_
            refine ev_aload_n rfl ?_
            refine g_getv (r := 7) (v := (w1 + 1)) g23283 ad7 (by decide) ft5_2 ((jw_eq e23283)) ?_
            refine g_putf (r := 7) g23283 ad7 (by decide) ft5_1 (by decide) (fun e => absurd e nz5_1) rf7_1 (by decide) (by omega) (by omega) (fun h23312 e23312 g23312 => ?_)
            have k23312 := k23283.wr e23312 rfl
            refine ev_ret rfl (by decide) (by decide) ?_
            show jEv _ _ _ _ _ _ _ (_, [(2, 7), (2, 1), (0, 2), (0, a3), (0, (v23291 - 97)), (9, 0), (9, 0)], [], _, _, _)
            refine ev_iconst ?_
            exact ev_ret rfl (by decide) (by decide) ⟨_, _, rfl, by omega, by omega, g23312, k23312, ((jw_eq e23312)), by omega, by omega⟩
/-! s74_2  -/
set_option maxHeartbeats 4000000 in
theorem s74_2 {G : GH} {h : JH} (g : Gd G h) {a3 : Int} (la3 : (-2147483648) ≤ a3) (ua3 : a3 ≤ 2147483647) {w0 : Int} (ew0 : h.2.2 7 1 = w0) (lw0 : (-1) ≤ w0) (uw0 : w0 ≤ 200) : jOk 25 0 0 74 [(2, 7), (2, 1), (0, 2), (0, a3)] h (fun v h' => ∃ r F : Int, v = some (0, r) ∧ (-1) ≤ r ∧ r ≤ 199 ∧ Gd G h' ∧ Kp [(7, 2), (7, 3), (7, 4), (10, 0), (11, 0), (12, 0), (13, 0), (14, 0), (15, 0), (16, 0), (17, 0)] h h' ∧ h'.2.2 7 1 = F ∧ ((-F) + w0) ≤ 0 ∧ ((-F) + (-r)) ≤ 1) := by
  refine ⟨by decide, by rw [ml74]; exact Nat.le_of_ble_eq_true rfl, ?_⟩
  rw [ml74, pp74]
  show jEv _ none _ c74_0 0 0 _ (c74_0, [(2, 7), (2, 1), (0, 2), (0, a3), (9, 0)], [], h, 0, 0)
  have k0 := Kp.rf [(7, 2), (7, 3), (7, 4), (10, 0), (11, 0), (12, 0), (13, 0), (14, 0), (15, 0), (16, 0), (17, 0)] h
  refine ev_aload_n rfl ?_
  refine g_getv (r := 7) (v := w0) g ad7 (by decide) ft5_1 (ew0) ?_
  refine ev_ifge f74_13 (fun c23379 => ?_) (fun c23379 => ?_)
  · refine ev_aload_n rfl ?_
    refine ev_in (d := 23) (a := 0) (b := 0) (cd' := c70_0) (m := 1) (L0 := [(2, 7)]) (jcall_v (A := []) (S' := []) (r := 7) rfl (g.lt ad7) (g.tg ad7) (Nat.le_of_ble_eq_true rfl)) (by decide) ml70 pp70 (Nat.le_of_ble_eq_true rfl) rfl (by decide) (by decide) ?_
    refine ev_aload_n rfl ?_
    refine g_getv (r := 7) (v := w0) g ad7 (by decide) ft5_1 (ew0) ?_
    refine ev_ifge f70_15 (fun c23380 => ?_) (fun c23380 => absurd c23380 (by omega))
    refine ev_ret rfl (by decide) (by decide) ?_
    show jEv _ _ _ _ _ _ _ (_, [(2, 7), (2, 1), (0, 2), (0, a3), (9, 0)], [], _, _, _)
    refine ev_iconst ?_
    exact ev_ret rfl (by decide) (by decide) ⟨_, _, rfl, by omega, by omega, g, k0, (ew0), by omega, by omega⟩
  · refine ev_iload_n rfl ?_
    refine ev_bipush ?_
    refine ev_icmple f74_19 (fun c23381 => ?_) (fun c23381 => absurd c23381 (by omega))
    refine ev_aload_n rfl ?_
    refine ev_in (d := 23) (a := 0) (b := 0) (cd' := c68_0) (m := 1) (L0 := [(2, 7)]) (jcall_v (A := []) (S' := []) (r := 7) rfl (g.lt ad7) (g.tg ad7) (Nat.le_of_ble_eq_true rfl)) (by decide) ml68 pp68 (Nat.le_of_ble_eq_true rfl) rfl (by decide) (by decide) ?_
    refine ev_aload_n rfl ?_
    obtain ⟨v23382, ev23382, lv23382, uv23382⟩ := g.rd ad7 (show 2 < 15 by decide) rf7_2
    refine g_getv (r := 7) (v := v23382) g ad7 (by decide) ft5_2 ev23382 ?_
    refine ev_aload_n rfl ?_
    obtain ⟨v23383, ev23383, lv23383, uv23383⟩ := g.rd ad7 (show 0 < 15 by decide) rf7_0
    refine g_getv (r := 7) (v := v23383) g ad7 (by decide) ft5_0 ev23383 ?_
    refine ev_icmpge f68_27 (fun c23384 => ?_) (fun c23384 => ?_)
    · refine ev_iconst ?_
      refine ev_ret rfl (by decide) (by decide) ?_
      show jEv _ _ _ _ _ _ _ (_, [(2, 7), (2, 1), (0, 2), (0, a3), (9, 0)], [(0, (-1))], _, _, _)
      refine ev_istore (L' := [(2, 7), (2, 1), (0, 2), (0, a3), (0, (-1))]) (Nat.le_of_ble_eq_true rfl) rfl ?_
      refine ev_iload rfl ?_
      refine ev_bipush ?_
      refine ev_icmpne f74_40 (fun c23385 => ?_) (fun c23385 => absurd c23385 (by omega))
      refine ev_iload rfl ?_
      refine ev_bipush ?_
      refine ev_icmpne f74_55 (fun c23386 => ?_) (fun c23386 => absurd c23386 (by omega))
      refine ev_iload rfl ?_
      refine ev_bipush ?_
      refine ev_icmplt f74_78 (fun c23387 => ?_) (fun c23387 => absurd c23387 (by omega))
      refine ev_aload_n rfl ?_
      refine ev_call (jcall_v (A := []) (S' := []) (r := 7) rfl (g.lt ad7) (g.tg ad7) (Nat.le_of_ble_eq_true rfl)) (jOk_le (by decide) (s75 g (ew0) (by omega) (by omega))) (by decide) (by decide) (fun w23388 h23388 q23388 => ?_)
      obtain ⟨v23390, v23389, rfl, lv23390, uv23390, g23388, kk23388, ev23389, p23388_0, p23388_1⟩ := q23388
      have bv23389 := g23388.rg ad7 (i := 1) (by decide) rf7_1
      rw [ev23389] at bv23389
      have k23388 := k0.tr kk23388 (by decide)
      show jEv _ _ _ _ _ _ _ (_, [(2, 7), (2, 1), (0, 2), (0, a3), (0, (-1))], [(0, v23390)], _, _, _)
      exact ev_ret rfl (by decide) (by decide) ⟨_, _, rfl, by omega, by omega, g23388, k23388, (ev23389), by omega, by omega⟩
    · refine ev_aload_n rfl ?_
      refine g_getp (r := 7) (c := 8) g ad7 (by decide) (by decide) rf7_5 ft5_5 ?_
      refine ev_aload_n rfl ?_
      refine g_getv (r := 7) (v := v23382) g ad7 (by decide) ft5_2 (ev23382) ?_
      refine g_bald g ad8 rt8 (by omega) (by omega) (fun v23391 ev23391 lv23391 uv23391 => ?_)
      refine ev_sipush ?_
      refine g_iandB (b := 255) (by omega) (by omega) (by decide) (fun v23392 ev23392 lv23392 uv23392 => ?_)
      refine ev_goto f68_28 ?_
      refine ev_ret rfl (by decide) (by decide) ?_
      show jEv _ _ _ _ _ _ _ (_, [(2, 7), (2, 1), (0, 2), (0, a3), (9, 0)], [(0, v23392)], _, _, _)
      refine ev_istore (L' := [(2, 7), (2, 1), (0, 2), (0, a3), (0, v23392)]) (Nat.le_of_ble_eq_true rfl) rfl ?_
      refine ev_iload rfl ?_
      refine ev_bipush ?_
      refine ev_icmpne f74_40 (fun c23393 => ?_) (fun c23393 => ?_)
      · refine ev_iload rfl ?_
        refine ev_bipush ?_
        refine ev_icmpne f74_55 (fun c23394 => ?_) (fun c23394 => ?_)
        · refine ev_iload rfl ?_
          refine ev_bipush ?_
          refine ev_icmplt f74_78 (fun c23395 => ?_) (fun c23395 => ?_)
          · refine ev_aload_n rfl ?_
            refine ev_call (jcall_v (A := []) (S' := []) (r := 7) rfl (g.lt ad7) (g.tg ad7) (Nat.le_of_ble_eq_true rfl)) (jOk_le (by decide) (s75 g (ew0) (by omega) (by omega))) (by decide) (by decide) (fun w23396 h23396 q23396 => ?_)
            obtain ⟨v23398, v23397, rfl, lv23398, uv23398, g23396, kk23396, ev23397, p23396_0, p23396_1⟩ := q23396
            have bv23397 := g23396.rg ad7 (i := 1) (by decide) rf7_1
            rw [ev23397] at bv23397
            have k23396 := k0.tr kk23396 (by decide)
            show jEv _ _ _ _ _ _ _ (_, [(2, 7), (2, 1), (0, 2), (0, a3), (0, v23392)], [(0, v23398)], _, _, _)
            exact ev_ret rfl (by decide) (by decide) ⟨_, _, rfl, by omega, by omega, g23396, k23396, (ev23397), by omega, by omega⟩
          · refine ev_iload rfl ?_
            refine ev_bipush ?_
            refine ev_icmpge f74_78 (fun c23399 => ?_) (fun c23399 => ?_)
            · refine ev_aload_n rfl ?_
              refine ev_call (jcall_v (A := []) (S' := []) (r := 7) rfl (g.lt ad7) (g.tg ad7) (Nat.le_of_ble_eq_true rfl)) (jOk_le (by decide) (s75 g (ew0) (by omega) (by omega))) (by decide) (by decide) (fun w23400 h23400 q23400 => ?_)
              obtain ⟨v23402, v23401, rfl, lv23402, uv23402, g23400, kk23400, ev23401, p23400_0, p23400_1⟩ := q23400
              have bv23401 := g23400.rg ad7 (i := 1) (by decide) rf7_1
              rw [ev23401] at bv23401
              have k23400 := k0.tr kk23400 (by decide)
              show jEv _ _ _ _ _ _ _ (_, [(2, 7), (2, 1), (0, 2), (0, a3), (0, v23392)], [(0, v23402)], _, _, _)
              exact ev_ret rfl (by decide) (by decide) ⟨_, _, rfl, by omega, by omega, g23400, k23400, (ev23401), by omega, by omega⟩
            · refine ev_aload_n rfl ?_
              refine ev_iload_n rfl ?_
              refine ev_iload_n rfl ?_
              refine ev_call (jcall_v (A := [(0, a3), (0, 2)]) (S' := []) (r := 7) rfl (g.lt ad7) (g.tg ad7) (Nat.le_of_ble_eq_true rfl)) (jOk_le (by decide) (s77 g (by omega) (by omega) (by omega) (by omega) (ew0) (by omega) (by omega))) (by decide) (by decide) (fun w23403 h23403 q23403 => ?_)
              obtain ⟨v23405, v23404, rfl, lv23405, uv23405, g23403, kk23403, ev23404, p23403_0, p23403_1⟩ := q23403
              have bv23404 := g23403.rg ad7 (i := 1) (by decide) rf7_1
              rw [ev23404] at bv23404
              have k23403 := k0.tr kk23403 (by decide)
              show jEv _ _ _ _ _ _ _ (_, [(2, 7), (2, 1), (0, 2), (0, a3), (0, v23392)], [(0, v23405)], _, _, _)
              refine ev_goto f74_82 ?_
              exact ev_ret rfl (by decide) (by decide) ⟨_, _, rfl, by omega, by omega, g23403, k23403, (ev23404), by omega, by omega⟩
        · refine ev_aload_n rfl ?_
          refine ev_aload_n rfl ?_
          refine ev_iload_n rfl ?_
          refine ev_iload_n rfl ?_
          refine ev_call (jcall_v (A := [(0, a3), (0, 2), (2, 1)]) (S' := []) (r := 7) rfl (g.lt ad7) (g.tg ad7) (Nat.le_of_ble_eq_true rfl)) (jOk_le (by decide) (s79_2 g (by omega) (by omega) (ew0) (by omega) (by omega) (ev23382) (by omega) (by omega))) (by decide) (by decide) (fun w23406 h23406 q23406 => ?_)
          obtain ⟨v23408, v23407, rfl, lv23408, uv23408, g23406, kk23406, ev23407, p23406_0, p23406_1⟩ := q23406
          have bv23407 := g23406.rg ad7 (i := 1) (by decide) rf7_1
          rw [ev23407] at bv23407
          have k23406 := k0.tr kk23406 (by decide)
          show jEv _ _ _ _ _ _ _ (_, [(2, 7), (2, 1), (0, 2), (0, a3), (0, v23392)], [(0, v23408)], _, _, _)
          exact ev_ret rfl (by decide) (by decide) ⟨_, _, rfl, by omega, by omega, g23406, k23406, (ev23407), by omega, by omega⟩
      · refine ev_aload_n rfl ?_
        refine ev_aload_n rfl ?_
        refine ev_iload_n rfl ?_
        refine ev_iload_n rfl ?_
        refine ev_call (jcall_v (A := [(0, a3), (0, 2), (2, 1)]) (S' := []) (r := 7) rfl (g.lt ad7) (g.tg ad7) (Nat.le_of_ble_eq_true rfl)) (jOk_le (by decide) (s78_2 g (by omega) (by omega) (ew0) (by omega) (by omega) (ev23382) (by omega) (by omega))) (by decide) (by decide) (fun w23409 h23409 q23409 => ?_)
        obtain ⟨v23411, v23410, rfl, lv23411, uv23411, g23409, kk23409, ev23410, p23409_0, p23409_1⟩ := q23409
        have bv23410 := g23409.rg ad7 (i := 1) (by decide) rf7_1
        rw [ev23410] at bv23410
        have k23409 := k0.tr kk23409 (by decide)
        show jEv _ _ _ _ _ _ _ (_, [(2, 7), (2, 1), (0, 2), (0, a3), (0, v23392)], [(0, v23411)], _, _, _)
        exact ev_ret rfl (by decide) (by decide) ⟨_, _, rfl, by omega, by omega, g23409, k23409, (ev23410), by omega, by omega⟩
/-! s78_1  -/
set_option maxHeartbeats 4000000 in
theorem s78_1_l {G : GH} {h : JH} {a3 : Int} (la3 : (-2147483648) ≤ a3) (ua3 : a3 ≤ 2147483647) {w0 : Int} (ew0 : h.2.2 7 1 = w0) (lw0 : (-1) ≤ w0) (uw0 : w0 ≤ 200) {w1 : Int} (ew1 : h.2.2 7 2 = w1) (lw1 : 0 ≤ w1) (uw1 : w1 ≤ 199) : ∀ N : Nat, (∀ (h1 : JH) (x4 x5 y0 : Int) (j6 : AV), Gd G h1 → Kp [(7, 2), (7, 3), (7, 4), (10, 0), (11, 0), (12, 0), (13, 0), (14, 0), (15, 0), (16, 0), (17, 0)] h h1 → (-2147483648) ≤ a3 → a3 ≤ 2147483647 → (-1) ≤ x4 → x4 ≤ 199 → 0 ≤ x5 → x5 ≤ 3 → (w0 + (-y0)) ≤ 0 → ((-x4) + (-y0)) ≤ 1 → h1.2.2 7 1 = y0 → (-1) ≤ y0 → y0 ≤ 200 → ((-x5) + 3) < N → jEv (jOk 25) none (fun _ => 0) c78_0 0 0 (fun v h' => ∃ r F : Int, v = some (0, r) ∧ (-1) ≤ r ∧ r ≤ 199 ∧ Gd G h' ∧ Kp [(7, 2), (7, 3), (7, 4), (10, 0), (11, 0), (12, 0), (13, 0), (14, 0), (15, 0), (16, 0), (17, 0)] h h' ∧ h'.2.2 7 1 = F ∧ ((-F) + w0) ≤ 0 ∧ ((-F) + (-r)) ≤ 1) (c78_25, [(2, 7), (2, 1), (0, 1), (0, a3), (0, x4), (0, x5), j6], [], h1, 0, 0)) := by
  intro N
  induction N with
  | zero => exact fun h1 x4 x5 y0 j6 g1 k1 b0 b1 b2 b3 b4 b5 b6 b7 b8 b9 b10 hm => absurd hm (by omega)
  | succ N ih =>
    show _
    intro h1 x4 x5 y0 j6 g1 k1 b0 b1 b2 b3 b4 b5 b6 b7 ey0 ly0 uy0 hm
    refine ev_iload rfl ?_
    refine ev_iconst ?_
    refine ev_icmpge f78_100 (fun c23580 => absurd c23580 (by omega)) (fun c23580 => ?_)
    refine ev_aload_n rfl ?_
    refine g_getv (r := 7) (v := y0) g1 ad7 (by decide) ft5_1 (ey0) ?_
    refine ev_ifge f78_100 (fun c23581 => ?_) (fun c23581 => ?_)
    · refine ev_aload_n rfl ?_
      refine ev_bipush ?_
      refine ev_call (jcall_v (A := [(0, 41)]) (S' := []) (r := 7) rfl (g1.lt ad7) (g1.tg ad7) (Nat.le_of_ble_eq_true rfl)) (jOk_le (by decide) (s71 g1 (by omega) (by omega) (ey0) (by omega) (by omega))) (by decide) (by decide) (fun w23582 h23582 q23582 => ?_)
      obtain ⟨v23583, rfl, g23582, kk23582, ev23583, p23582_0⟩ := q23582
      have bv23583 := g23582.rg ad7 (i := 1) (by decide) rf7_1
      rw [ev23583] at bv23583
      have k23582 := k1.tr kk23582 (by decide)
      show jEv _ _ _ _ _ _ _ (_, [(2, 7), (2, 1), (0, 1), (0, a3), (0, x4), (0, x5), j6], [], _, _, _)
      refine ev_aload_n rfl ?_
      refine g_getv (r := 7) (v := v23583) g23582 ad7 (by decide) ft5_1 (ev23583) ?_
      refine ev_iflt f78_117 (fun c23584 => absurd c23584 (by omega)) (fun c23584 => ?_)
      refine ev_iconst ?_
      refine ev_goto f78_119 ?_
      exact ev_ret rfl (by decide) (by decide) ⟨_, _, rfl, by omega, by omega, g23582, k23582, (ev23583), by omega, by omega⟩
    · refine ev_aload_n rfl ?_
      refine ev_iconst ?_
      refine ev_call (jcall_v (A := [(0, 2)]) (S' := []) (r := 7) rfl (g1.lt ad7) (g1.tg ad7) (Nat.le_of_ble_eq_true rfl)) (jOk_le (by decide) (s76 g1 (by omega) (by omega) (ey0) (by omega) (by omega))) (by decide) (by decide) (fun w23585 h23585 q23585 => ?_)
      obtain ⟨v23587, v23586, rfl, lv23587, uv23587, g23585, kk23585, ev23586, p23585_0⟩ := q23585
      have bv23586 := g23585.rg ad7 (i := 1) (by decide) rf7_1
      rw [ev23586] at bv23586
      have k23585 := k1.tr kk23585 (by decide)
      show jEv _ _ _ _ _ _ _ (_, [(2, 7), (2, 1), (0, 1), (0, a3), (0, x4), (0, x5), j6], [(0, v23587)], _, _, _)
      refine ev_istore (L' := [(2, 7), (2, 1), (0, 1), (0, a3), (0, x4), (0, x5), (0, v23587)]) (Nat.le_of_ble_eq_true rfl) rfl ?_
      refine ev_aload_n rfl ?_
      refine ev_bipush ?_
      refine ev_call (jcall_v (A := [(0, 58)]) (S' := []) (r := 7) rfl (g23585.lt ad7) (g23585.tg ad7) (Nat.le_of_ble_eq_true rfl)) (jOk_le (by decide) (s71 g23585 (by omega) (by omega) (ev23586) (by omega) (by omega))) (by decide) (by decide) (fun w23588 h23588 q23588 => ?_)
      obtain ⟨v23589, rfl, g23588, kk23588, ev23589, p23588_0⟩ := q23588
      have bv23589 := g23588.rg ad7 (i := 1) (by decide) rf7_1
      rw [ev23589] at bv23589
      have k23588 := k23585.tr kk23588 (by decide)
      show jEv _ _ _ _ _ _ _ (_, [(2, 7), (2, 1), (0, 1), (0, a3), (0, x4), (0, x5), (0, v23587)], [], _, _, _)
      refine ev_aload_n rfl ?_
      refine ev_iload rfl ?_
      refine ev_iload rfl ?_
      refine ev_iload rfl ?_
      refine ev_aload_n rfl ?_
      refine ev_aload_n rfl ?_
      refine ev_iload_n rfl ?_
      refine ev_iconst ?_
      refine ev_iadd (r := 2) (by decide) ?_
      refine ev_iload_n rfl ?_
      refine ev_call (jcall_v (A := [(0, a3), (0, 2), (2, 1)]) (S' := [(0, v23587), (0, x5), (0, x4), (2, 7)]) (r := 7) rfl (g23588.lt ad7) (g23588.tg ad7) (Nat.le_of_ble_eq_true rfl)) (jOk_le (by decide) (s74_2 g23588 (by omega) (by omega) (ev23589) (by omega) (by omega))) (by decide) (by decide) (fun w23590 h23590 q23590 => ?_)
      obtain ⟨v23592, v23591, rfl, lv23592, uv23592, g23590, kk23590, ev23591, p23590_0, p23590_1⟩ := q23590
      have bv23591 := g23590.rg ad7 (i := 1) (by decide) rf7_1
      rw [ev23591] at bv23591
      have k23590 := k23588.tr kk23590 (by decide)
      show jEv _ _ _ _ _ _ _ (_, [(2, 7), (2, 1), (0, 1), (0, a3), (0, x4), (0, x5), (0, v23587)], [(0, v23592), (0, v23587), (0, x5), (0, x4), (2, 7)], _, _, _)
      refine ev_call (jcall_v (A := [(0, v23592), (0, v23587), (0, x5), (0, x4)]) (S' := []) (r := 7) rfl (g23590.lt ad7) (g23590.tg ad7) (Nat.le_of_ble_eq_true rfl)) (jOk_le (by decide) (s80 g23590 (by omega) (by omega) (by omega) (by omega) (by omega) (by omega) (by omega) (by omega))) (by decide) (by decide) (fun w23593 h23593 q23593 => ?_)
      obtain ⟨rfl, g23593, kk23593⟩ := q23593
      have k23593 := k23590.tr kk23593 (by decide)
      show jEv _ _ _ _ _ _ _ (_, [(2, 7), (2, 1), (0, 1), (0, a3), (0, x4), (0, x5), (0, v23587)], [], _, _, _)
      refine ev_aload_n rfl ?_
      refine ev_in (d := 24) (a := 0) (b := 0) (cd' := c68_0) (m := 1) (L0 := [(2, 7)]) (jcall_v (A := []) (S' := []) (r := 7) rfl (g23593.lt ad7) (g23593.tg ad7) (Nat.le_of_ble_eq_true rfl)) (by decide) ml68 pp68 (Nat.le_of_ble_eq_true rfl) rfl (by decide) (by decide) ?_
      refine ev_aload_n rfl ?_
      obtain ⟨v23594, ev23594, lv23594, uv23594⟩ := g23593.rd ad7 (show 2 < 15 by decide) rf7_2
      refine g_getv (r := 7) (v := v23594) g23593 ad7 (by decide) ft5_2 ev23594 ?_
      refine ev_aload_n rfl ?_
      obtain ⟨v23595, ev23595, lv23595, uv23595⟩ := g23593.rd ad7 (show 0 < 15 by decide) rf7_0
      refine g_getv (r := 7) (v := v23595) g23593 ad7 (by decide) ft5_0 ev23595 ?_
      refine ev_icmpge f68_27 (fun c23596 => ?_) (fun c23596 => ?_)
      · refine ev_iconst ?_
        refine ev_ret rfl (by decide) (by decide) ?_
        show jEv _ _ _ _ _ _ _ (_, [(2, 7), (2, 1), (0, 1), (0, a3), (0, x4), (0, x5), (0, v23587)], [(0, (-1))], _, _, _)
        refine ev_bipush ?_
        refine ev_icmpne f78_100 (fun c23597 => ?_) (fun c23597 => absurd c23597 (by omega))
        refine ev_aload_n rfl ?_
        refine ev_bipush ?_
        refine ev_call (jcall_v (A := [(0, 41)]) (S' := []) (r := 7) rfl (g23593.lt ad7) (g23593.tg ad7) (Nat.le_of_ble_eq_true rfl)) (jOk_le (by decide) (s71 g23593 (by omega) (by omega) (((kk23593.v (by decide)).trans ev23591)) (by omega) (by omega))) (by decide) (by decide) (fun w23598 h23598 q23598 => ?_)
        obtain ⟨v23599, rfl, g23598, kk23598, ev23599, p23598_0⟩ := q23598
        have bv23599 := g23598.rg ad7 (i := 1) (by decide) rf7_1
        rw [ev23599] at bv23599
        have k23598 := k23593.tr kk23598 (by decide)
        show jEv _ _ _ _ _ _ _ (_, [(2, 7), (2, 1), (0, 1), (0, a3), (0, x4), (0, x5), (0, v23587)], [], _, _, _)
        refine ev_aload_n rfl ?_
        refine g_getv (r := 7) (v := v23599) g23598 ad7 (by decide) ft5_1 (ev23599) ?_
        refine ev_iflt f78_117 (fun c23600 => ?_) (fun c23600 => ?_)
        · refine ev_iload rfl ?_
          exact ev_ret rfl (by decide) (by decide) ⟨_, _, rfl, by omega, by omega, g23598, k23598, (ev23599), by omega, by omega⟩
        · refine ev_iconst ?_
          refine ev_goto f78_119 ?_
          exact ev_ret rfl (by decide) (by decide) ⟨_, _, rfl, by omega, by omega, g23598, k23598, (ev23599), by omega, by omega⟩
      · refine ev_aload_n rfl ?_
        refine g_getp (r := 7) (c := 8) g23593 ad7 (by decide) (by decide) rf7_5 ft5_5 ?_
        refine ev_aload_n rfl ?_
        refine g_getv (r := 7) (v := v23594) g23593 ad7 (by decide) ft5_2 (ev23594) ?_
        refine g_bald g23593 ad8 rt8 (by omega) (by omega) (fun v23601 ev23601 lv23601 uv23601 => ?_)
        refine ev_sipush ?_
        refine g_iandB (b := 255) (by omega) (by omega) (by decide) (fun v23602 ev23602 lv23602 uv23602 => ?_)
        refine ev_goto f68_28 ?_
        refine ev_ret rfl (by decide) (by decide) ?_
        show jEv _ _ _ _ _ _ _ (_, [(2, 7), (2, 1), (0, 1), (0, a3), (0, x4), (0, x5), (0, v23587)], [(0, v23602)], _, _, _)
        refine ev_bipush ?_
        refine ev_icmpne f78_100 (fun c23603 => ?_) (fun c23603 => ?_)
        · refine ev_aload_n rfl ?_
          refine ev_bipush ?_
          refine ev_call (jcall_v (A := [(0, 41)]) (S' := []) (r := 7) rfl (g23593.lt ad7) (g23593.tg ad7) (Nat.le_of_ble_eq_true rfl)) (jOk_le (by decide) (s71 g23593 (by omega) (by omega) (((kk23593.v (by decide)).trans ev23591)) (by omega) (by omega))) (by decide) (by decide) (fun w23604 h23604 q23604 => ?_)
          obtain ⟨v23605, rfl, g23604, kk23604, ev23605, p23604_0⟩ := q23604
          have bv23605 := g23604.rg ad7 (i := 1) (by decide) rf7_1
          rw [ev23605] at bv23605
          have k23604 := k23593.tr kk23604 (by decide)
          show jEv _ _ _ _ _ _ _ (_, [(2, 7), (2, 1), (0, 1), (0, a3), (0, x4), (0, x5), (0, v23587)], [], _, _, _)
          refine ev_aload_n rfl ?_
          refine g_getv (r := 7) (v := v23605) g23604 ad7 (by decide) ft5_1 (ev23605) ?_
          refine ev_iflt f78_117 (fun c23606 => ?_) (fun c23606 => ?_)
          · refine ev_iload rfl ?_
            exact ev_ret rfl (by decide) (by decide) ⟨_, _, rfl, by omega, by omega, g23604, k23604, (ev23605), by omega, by omega⟩
          · refine ev_iconst ?_
            refine ev_goto f78_119 ?_
            exact ev_ret rfl (by decide) (by decide) ⟨_, _, rfl, by omega, by omega, g23604, k23604, (ev23605), by omega, by omega⟩
        · refine ev_iload rfl ?_
          refine ev_iconst ?_
          refine ev_icmpne f78_88 (fun c23607 => ?_) (fun c23607 => ?_)
          · refine ev_aload_n rfl ?_
            refine ev_bipush ?_
            refine ev_call (jcall_v (A := [(0, 44)]) (S' := []) (r := 7) rfl (g23593.lt ad7) (g23593.tg ad7) (Nat.le_of_ble_eq_true rfl)) (jOk_le (by decide) (s71 g23593 (by omega) (by omega) (((kk23593.v (by decide)).trans ev23591)) (by omega) (by omega))) (by decide) (by decide) (fun w23608 h23608 q23608 => ?_)
            obtain ⟨v23609, rfl, g23608, kk23608, ev23609, p23608_0⟩ := q23608
            have bv23609 := g23608.rg ad7 (i := 1) (by decide) rf7_1
            rw [ev23609] at bv23609
            have k23608 := k23593.tr kk23608 (by decide)
            show jEv _ _ _ _ _ _ _ (_, [(2, 7), (2, 1), (0, 1), (0, a3), (0, x4), (0, x5), (0, v23587)], [], _, _, _)
            refine ev_iinc (w := (x5 + 1)) (L' := [(2, 7), (2, 1), (0, 1), (0, a3), (0, x4), (0, (x5 + 1)), (0, v23587)]) rfl (by unfold w32; omega) rfl ?_
            refine ev_goto f78_25 ?_
            exact ih _ _ _ _ _ g23608 k23608 (by omega) (by omega) (by omega) (by omega) (by omega) (by omega) (by omega) (by omega) (ev23609) (by omega) (by omega) (by omega)
          · refine ev_goto f78_100 ?_
            refine ev_aload_n rfl ?_
            refine ev_bipush ?_
            refine ev_call (jcall_v (A := [(0, 41)]) (S' := []) (r := 7) rfl (g23593.lt ad7) (g23593.tg ad7) (Nat.le_of_ble_eq_true rfl)) (jOk_le (by decide) (s71 g23593 (by omega) (by omega) (((kk23593.v (by decide)).trans ev23591)) (by omega) (by omega))) (by decide) (by decide) (fun w23610 h23610 q23610 => ?_)
            obtain ⟨v23611, rfl, g23610, kk23610, ev23611, p23610_0⟩ := q23610
            have bv23611 := g23610.rg ad7 (i := 1) (by decide) rf7_1
            rw [ev23611] at bv23611
            have k23610 := k23593.tr kk23610 (by decide)
            show jEv _ _ _ _ _ _ _ (_, [(2, 7), (2, 1), (0, 1), (0, a3), (0, x4), (0, x5), (0, v23587)], [], _, _, _)
            refine ev_aload_n rfl ?_
            refine g_getv (r := 7) (v := v23611) g23610 ad7 (by decide) ft5_1 (ev23611) ?_
            refine ev_iflt f78_117 (fun c23612 => ?_) (fun c23612 => ?_)
            · refine ev_iload rfl ?_
              exact ev_ret rfl (by decide) (by decide) ⟨_, _, rfl, by omega, by omega, g23610, k23610, (ev23611), by omega, by omega⟩
            · refine ev_iconst ?_
              refine ev_goto f78_119 ?_
              exact ev_ret rfl (by decide) (by decide) ⟨_, _, rfl, by omega, by omega, g23610, k23610, (ev23611), by omega, by omega⟩
set_option maxHeartbeats 4000000 in
theorem s78_1 {G : GH} {h : JH} (g : Gd G h) {a3 : Int} (la3 : (-2147483648) ≤ a3) (ua3 : a3 ≤ 2147483647) {w0 : Int} (ew0 : h.2.2 7 1 = w0) (lw0 : (-1) ≤ w0) (uw0 : w0 ≤ 200) {w1 : Int} (ew1 : h.2.2 7 2 = w1) (lw1 : 0 ≤ w1) (uw1 : w1 ≤ 199) : jOk 26 0 0 78 [(2, 7), (2, 1), (0, 1), (0, a3)] h (fun v h' => ∃ r F : Int, v = some (0, r) ∧ (-1) ≤ r ∧ r ≤ 199 ∧ Gd G h' ∧ Kp [(7, 2), (7, 3), (7, 4), (10, 0), (11, 0), (12, 0), (13, 0), (14, 0), (15, 0), (16, 0), (17, 0)] h h' ∧ h'.2.2 7 1 = F ∧ ((-F) + w0) ≤ 0 ∧ ((-F) + (-r)) ≤ 1) := by
  refine ⟨by decide, by rw [ml78]; exact Nat.le_of_ble_eq_true rfl, ?_⟩
  rw [ml78, pp78]
  show jEv _ none _ c78_0 0 0 _ (c78_0, [(2, 7), (2, 1), (0, 1), (0, a3), (9, 0), (9, 0), (9, 0)], [], h, 0, 0)
  have k0 := Kp.rf [(7, 2), (7, 3), (7, 4), (10, 0), (11, 0), (12, 0), (13, 0), (14, 0), (15, 0), (16, 0), (17, 0)] h
  refine ev_aload_n rfl ?_
  refine ev_dup (by decide) ?_
  refine g_getv (r := 7) (v := w1) g ad7 (by decide) ft5_2 (ew1) ?_
  refine ev_iconst ?_
  refine ev_iadd (r := (w1 + 1)) (by unfold w32; omega) ?_
  refine g_putf (r := 7) g ad7 (by decide) ft5_2 (by decide) (fun e => absurd e nz5_2) rf7_2 (by decide) (by omega) (by omega) (fun h23613 e23613 g23613 => ?_)
  have k23613 := k0.wr e23613 rfl
  refine ev_aload_n rfl ?_
  refine ev_iload_n rfl ?_
  refine ev_call (jcall_v (A := [(0, 1)]) (S' := []) (r := 7) rfl (g23613.lt ad7) (g23613.tg ad7) (Nat.le_of_ble_eq_true rfl)) (jOk_le (by decide) (s72 g23613 (by omega) (by omega) (((jw_ne e23613 (Or.inr (by decide))).trans ew0)) (by omega) (by omega))) (by decide) (by decide) (fun w23614 h23614 q23614 => ?_)
  obtain ⟨v23615, rfl, g23614, kk23614, ev23615, p23614_0⟩ := q23614
  have bv23615 := g23614.rg ad7 (i := 1) (by decide) rf7_1
  rw [ev23615] at bv23615
  have k23614 := k23613.tr kk23614 (by decide)
  show jEv _ _ _ _ _ _ _ (_, [(2, 7), (2, 1), (0, 1), (0, a3), (9, 0), (9, 0), (9, 0)], [], _, _, _)
  refine ev_aload_n rfl ?_
  refine ev_iconst ?_
  refine ev_call (jcall_v (A := [(0, 1)]) (S' := []) (r := 7) rfl (g23614.lt ad7) (g23614.tg ad7) (Nat.le_of_ble_eq_true rfl)) (jOk_le (by decide) (s73 g23614 (by omega) (by omega) (ev23615) (by omega) (by omega))) (by decide) (by decide) (fun w23616 h23616 q23616 => ?_)
  obtain ⟨v23618, v23617, rfl, lv23618, uv23618, g23616, kk23616, ev23617, p23616_0, p23616_1⟩ := q23616
  have bv23617 := g23616.rg ad7 (i := 1) (by decide) rf7_1
  rw [ev23617] at bv23617
  have k23616 := k23614.tr kk23616 (by decide)
  show jEv _ _ _ _ _ _ _ (_, [(2, 7), (2, 1), (0, 1), (0, a3), (9, 0), (9, 0), (9, 0)], [(0, v23618)], _, _, _)
  refine ev_istore (L' := [(2, 7), (2, 1), (0, 1), (0, a3), (0, v23618), (9, 0), (9, 0)]) (Nat.le_of_ble_eq_true rfl) rfl ?_
  refine ev_iconst ?_
  refine ev_istore (L' := [(2, 7), (2, 1), (0, 1), (0, a3), (0, v23618), (0, 0), (9, 0)]) (Nat.le_of_ble_eq_true rfl) rfl ?_
  exact (s78_1_l la3 ua3 ew0 lw0 uw0 ew1 lw1 uw1 8) _ _ _ _ _ g23616 k23616 (by omega) (by omega) (by omega) (by omega) (by omega) (by omega) (by omega) (by omega) (ev23617) (by omega) (by omega) (by omega)
/-! s79_1  -/
set_option maxHeartbeats 4000000 in
theorem s79_1_l {G : GH} {h : JH} {a3 : Int} (la3 : (-2147483648) ≤ a3) (ua3 : a3 ≤ 2147483647) {w0 : Int} (ew0 : h.2.2 7 1 = w0) (lw0 : (-1) ≤ w0) (uw0 : w0 ≤ 200) {w1 : Int} (ew1 : h.2.2 7 2 = w1) (lw1 : 0 ≤ w1) (uw1 : w1 ≤ 199) : ∀ N : Nat, (∀ (h1 : JH) (x4 x5 x6 y0 : Int), Gd G h1 → Kp [(7, 2), (7, 3), (7, 4), (10, 0), (11, 0), (12, 0), (13, 0), (14, 0), (15, 0), (16, 0), (17, 0)] h h1 → (-2147483648) ≤ a3 → a3 ≤ 2147483647 → 0 ≤ x4 → x4 ≤ 3 → (-1) ≤ x5 → x5 ≤ 199 → 0 ≤ x6 → x6 ≤ 3 → (w0 + (-y0)) ≤ 0 → ((-x5) + (-y0)) ≤ 1 → h1.2.2 7 1 = y0 → (-1) ≤ y0 → y0 ≤ 200 → ((-x6) + 3) < N → jEv (jOk 25) none (fun _ => 0) c79_0 0 0 (fun v h' => ∃ r F : Int, v = some (0, r) ∧ (-1) ≤ r ∧ r ≤ 199 ∧ Gd G h' ∧ Kp [(7, 2), (7, 3), (7, 4), (10, 0), (11, 0), (12, 0), (13, 0), (14, 0), (15, 0), (16, 0), (17, 0)] h h' ∧ h'.2.2 7 1 = F ∧ ((-F) + w0) ≤ 0 ∧ ((-F) + (-r)) ≤ 1) (c79_68, [(2, 7), (2, 1), (0, 1), (0, a3), (0, x4), (0, x5), (0, x6)], [], h1, 0, 0)) := by
  intro N
  induction N with
  | zero => exact fun h1 x4 x5 x6 y0 g1 k1 b0 b1 b2 b3 b4 b5 b6 b7 b8 b9 b10 b11 b12 hm => absurd hm (by omega)
  | succ N ih =>
    show _
    intro h1 x4 x5 x6 y0 g1 k1 b0 b1 b2 b3 b4 b5 b6 b7 b8 b9 ey0 ly0 uy0 hm
    refine ev_iload rfl ?_
    refine ev_aload_n rfl ?_
    refine ev_iload rfl ?_
    refine ev_in (d := 24) (a := 0) (b := 0) (cd' := c141_0) (m := 2) (L0 := [(2, 1), (0, x4)]) (jcall_v (A := [(0, x4)]) (S' := [(0, x6)]) (r := 1) rfl (g1.lt ad1) (g1.tg ad1) (Nat.le_of_ble_eq_true rfl)) (by decide) ml141 pp141 (Nat.le_of_ble_eq_true rfl) rfl (by decide) (by decide) ?_
    refine ev_aload_n rfl ?_
    refine ev_iload_n rfl ?_
    refine ev_in (d := 23) (a := 0) (b := 0) (cd' := c140_0) (m := 2) (L0 := [(2, 1), (0, x4)]) (jcall_v (A := [(0, x4)]) (S' := []) (r := 1) rfl (g1.lt ad1) (g1.tg ad1) (Nat.le_of_ble_eq_true rfl)) (by decide) ml140 pp140 (Nat.le_of_ble_eq_true rfl) rfl (by decide) (by decide) ?_
    refine ev_iload_n rfl ?_
    refine ev_iflt f140_16 (fun c23878 => absurd c23878 (by omega)) (fun c23878 => ?_)
    refine ev_iload_n rfl ?_
    refine ev_aload_n rfl ?_
    obtain ⟨v23879, ev23879, lv23879, uv23879⟩ := g1.rd ad1 (show 0 < 8 by decide) rf1_0
    refine g_getv (r := 1) (v := v23879) g1 ad1 (by decide) ft10_0 ev23879 ?_
    refine ev_icmpge f140_16 (fun c23880 => ?_) (fun c23880 => ?_)
    · refine ev_iconst ?_
      refine ev_ret rfl (by decide) (by decide) ?_
      show jEv _ _ _ _ _ _ _ (_, [(2, 1), (0, x4)], [(0, 0)], _, _, _)
      refine ev_ifeq f141_17 (fun c23881 => ?_) (fun c23881 => absurd c23881 (by omega))
      refine ev_iconst ?_
      refine ev_ret rfl (by decide) (by decide) ?_
      show jEv _ _ _ _ _ _ _ (_, [(2, 7), (2, 1), (0, 1), (0, a3), (0, x4), (0, x5), (0, x6)], [(0, 0), (0, x6)], _, _, _)
      refine ev_icmpge f79_126 (fun c23882 => ?_) (fun c23882 => absurd c23882 (by omega))
      refine ev_aload_n rfl ?_
      refine ev_bipush ?_
      refine ev_call (jcall_v (A := [(0, 41)]) (S' := []) (r := 7) rfl (g1.lt ad7) (g1.tg ad7) (Nat.le_of_ble_eq_true rfl)) (jOk_le (by decide) (s71 g1 (by omega) (by omega) (ey0) (by omega) (by omega))) (by decide) (by decide) (fun w23883 h23883 q23883 => ?_)
      obtain ⟨v23884, rfl, g23883, kk23883, ev23884, p23883_0⟩ := q23883
      have bv23884 := g23883.rg ad7 (i := 1) (by decide) rf7_1
      rw [ev23884] at bv23884
      have k23883 := k1.tr kk23883 (by decide)
      show jEv _ _ _ _ _ _ _ (_, [(2, 7), (2, 1), (0, 1), (0, a3), (0, x4), (0, x5), (0, x6)], [], _, _, _)
      refine ev_aload_n rfl ?_
      refine g_getv (r := 7) (v := v23884) g23883 ad7 (by decide) ft5_1 (ev23884) ?_
      refine ev_ifge f79_144 (fun c23885 => ?_) (fun c23885 => ?_)
      · refine ev_iconst ?_
        exact ev_ret rfl (by decide) (by decide) ⟨_, _, rfl, by omega, by omega, g23883, k23883, (ev23884), by omega, by omega⟩
      · refine ev_iload rfl ?_
        refine ev_ifge f79_146 (fun c23886 => ?_) (fun c23886 => absurd c23886 (by omega))
        refine ev_aload_n rfl ?_
        refine g_getp (r := 7) (c := 11) g23883 ad7 (by decide) (by decide) rf7_8 ft5_8 ?_
        refine ev_iload rfl ?_
        refine ev_iload rfl ?_
        refine g_iast g23883 ad11 rt11 (fun _ => rfl) (by omega) (by omega) (by omega) (by omega) (fun h23887 e23887 g23887 => ?_)
        have k23887 := k23883.wr e23887 rfl
        refine ev_aload_n rfl ?_
        refine g_getp (r := 7) (c := 15) g23887 ad7 (by decide) (by decide) rf7_12 ft5_12 ?_
        refine ev_iload rfl ?_
        refine ev_dup2 (by decide) (by decide) ?_
        refine g_iald g23887 ad15 rt15 (by omega) (by omega) (fun v23888 ev23888 lv23888 uv23888 => ?_)
        refine ev_iconst ?_
        refine ev_iload rfl ?_
        refine g_ishlB (a' := 1) (a := 1) (b := 3) (hi := 8) (by omega) (by omega) (by omega) (by omega) (by decide) (by decide) (fun v23889 ev23889 lv23889 uv23889 => ?_)
        refine g_iorG (fun v23890 ev23890 lv23890 uv23890 => ?_)
        refine g_iast g23887 ad15 rt15 (fun _ => rfl) (by omega) (by omega) (by omega) (by omega) (fun h23891 e23891 g23891 => ?_)
        have k23891 := k23887.wr e23891 rfl
        refine ev_iload rfl ?_
        exact ev_ret rfl (by decide) (by decide) ⟨_, _, rfl, by omega, by omega, g23891, k23891, (((jw_ne e23891 (Or.inl (by decide))).trans ((jw_ne e23887 (Or.inl (by decide))).trans ev23884))), by omega, by omega⟩
    · refine ev_iconst ?_
      refine ev_goto f140_17 ?_
      refine ev_ret rfl (by decide) (by decide) ?_
      show jEv _ _ _ _ _ _ _ (_, [(2, 1), (0, x4)], [(0, 1)], _, _, _)
      refine ev_ifeq f141_17 (fun c23892 => absurd c23892 (by omega)) (fun c23892 => ?_)
      refine ev_aload_n rfl ?_
      refine g_getp (r := 1) (c := 2) g1 ad1 (by decide) (by decide) rf1_3 ft10_3 ?_
      refine ev_iload_n rfl ?_
      refine g_iald g1 ad2 rt2 (by omega) (by omega) (fun v23893 ev23893 lv23893 uv23893 => ?_)
      have xv23893 := (g1.ex.1.1 (x4 : Int).toNat (by rw [(ev23879)]; omega))
      rw [ev23893] at xv23893
      refine ev_goto f141_18 ?_
      refine ev_ret rfl (by decide) (by decide) ?_
      show jEv _ _ _ _ _ _ _ (_, [(2, 7), (2, 1), (0, 1), (0, a3), (0, x4), (0, x5), (0, x6)], [(0, v23893), (0, x6)], _, _, _)
      refine ev_icmpge f79_126 (fun c23894 => ?_) (fun c23894 => ?_)
      · refine ev_aload_n rfl ?_
        refine ev_bipush ?_
        refine ev_call (jcall_v (A := [(0, 41)]) (S' := []) (r := 7) rfl (g1.lt ad7) (g1.tg ad7) (Nat.le_of_ble_eq_true rfl)) (jOk_le (by decide) (s71 g1 (by omega) (by omega) (ey0) (by omega) (by omega))) (by decide) (by decide) (fun w23895 h23895 q23895 => ?_)
        obtain ⟨v23896, rfl, g23895, kk23895, ev23896, p23895_0⟩ := q23895
        have bv23896 := g23895.rg ad7 (i := 1) (by decide) rf7_1
        rw [ev23896] at bv23896
        have k23895 := k1.tr kk23895 (by decide)
        show jEv _ _ _ _ _ _ _ (_, [(2, 7), (2, 1), (0, 1), (0, a3), (0, x4), (0, x5), (0, x6)], [], _, _, _)
        refine ev_aload_n rfl ?_
        refine g_getv (r := 7) (v := v23896) g23895 ad7 (by decide) ft5_1 (ev23896) ?_
        refine ev_ifge f79_144 (fun c23897 => ?_) (fun c23897 => ?_)
        · refine ev_iconst ?_
          exact ev_ret rfl (by decide) (by decide) ⟨_, _, rfl, by omega, by omega, g23895, k23895, (ev23896), by omega, by omega⟩
        · refine ev_iload rfl ?_
          refine ev_ifge f79_146 (fun c23898 => ?_) (fun c23898 => absurd c23898 (by omega))
          refine ev_aload_n rfl ?_
          refine g_getp (r := 7) (c := 11) g23895 ad7 (by decide) (by decide) rf7_8 ft5_8 ?_
          refine ev_iload rfl ?_
          refine ev_iload rfl ?_
          refine g_iast g23895 ad11 rt11 (fun _ => rfl) (by omega) (by omega) (by omega) (by omega) (fun h23899 e23899 g23899 => ?_)
          have k23899 := k23895.wr e23899 rfl
          refine ev_aload_n rfl ?_
          refine g_getp (r := 7) (c := 15) g23899 ad7 (by decide) (by decide) rf7_12 ft5_12 ?_
          refine ev_iload rfl ?_
          refine ev_dup2 (by decide) (by decide) ?_
          refine g_iald g23899 ad15 rt15 (by omega) (by omega) (fun v23900 ev23900 lv23900 uv23900 => ?_)
          refine ev_iconst ?_
          refine ev_iload rfl ?_
          refine g_ishlB (a' := 1) (a := 1) (b := 3) (hi := 8) (by omega) (by omega) (by omega) (by omega) (by decide) (by decide) (fun v23901 ev23901 lv23901 uv23901 => ?_)
          refine g_iorG (fun v23902 ev23902 lv23902 uv23902 => ?_)
          refine g_iast g23899 ad15 rt15 (fun _ => rfl) (by omega) (by omega) (by omega) (by omega) (fun h23903 e23903 g23903 => ?_)
          have k23903 := k23899.wr e23903 rfl
          refine ev_iload rfl ?_
          exact ev_ret rfl (by decide) (by decide) ⟨_, _, rfl, by omega, by omega, g23903, k23903, (((jw_ne e23903 (Or.inl (by decide))).trans ((jw_ne e23899 (Or.inl (by decide))).trans ev23896))), by omega, by omega⟩
      · refine ev_aload_n rfl ?_
        refine g_getv (r := 7) (v := y0) g1 ad7 (by decide) ft5_1 (ey0) ?_
        refine ev_ifge f79_126 (fun c23904 => ?_) (fun c23904 => ?_)
        · refine ev_aload_n rfl ?_
          refine ev_bipush ?_
          refine ev_call (jcall_v (A := [(0, 41)]) (S' := []) (r := 7) rfl (g1.lt ad7) (g1.tg ad7) (Nat.le_of_ble_eq_true rfl)) (jOk_le (by decide) (s71 g1 (by omega) (by omega) (ey0) (by omega) (by omega))) (by decide) (by decide) (fun w23905 h23905 q23905 => ?_)
          obtain ⟨v23906, rfl, g23905, kk23905, ev23906, p23905_0⟩ := q23905
          have bv23906 := g23905.rg ad7 (i := 1) (by decide) rf7_1
          rw [ev23906] at bv23906
          have k23905 := k1.tr kk23905 (by decide)
          show jEv _ _ _ _ _ _ _ (_, [(2, 7), (2, 1), (0, 1), (0, a3), (0, x4), (0, x5), (0, x6)], [], _, _, _)
          refine ev_aload_n rfl ?_
          refine g_getv (r := 7) (v := v23906) g23905 ad7 (by decide) ft5_1 (ev23906) ?_
          refine ev_ifge f79_144 (fun c23907 => ?_) (fun c23907 => absurd c23907 (by omega))
          refine ev_iconst ?_
          exact ev_ret rfl (by decide) (by decide) ⟨_, _, rfl, by omega, by omega, g23905, k23905, (ev23906), by omega, by omega⟩
        · refine ev_iload rfl ?_
          refine ev_ifle f79_97 (fun c23908 => ?_) (fun c23908 => ?_)
          · refine ev_aload_n rfl ?_
            refine ev_iload rfl ?_
            refine ev_iload rfl ?_
            refine ev_iconst ?_
            refine ev_aload_n rfl ?_
            refine ev_aload_n rfl ?_
            refine ev_iload_n rfl ?_
            refine ev_iconst ?_
            refine ev_iadd (r := 2) (by decide) ?_
            refine ev_iload_n rfl ?_
            refine ev_iconst ?_
            refine ev_iload rfl ?_
            refine g_ishlB (a' := 1) (a := 1) (b := 3) (hi := 8) (by omega) (by omega) (by omega) (by omega) (by decide) (by decide) (fun v23909 ev23909 lv23909 uv23909 => ?_)
            refine g_iorG (fun v23910 ev23910 lv23910 uv23910 => ?_)
            refine ev_call (jcall_v (A := [(0, v23910), (0, 2), (2, 1)]) (S' := [(0, 0), (0, x6), (0, x5), (2, 7)]) (r := 7) rfl (g1.lt ad7) (g1.tg ad7) (Nat.le_of_ble_eq_true rfl)) (jOk_le (by decide) (s74_2 g1 (by omega) (by omega) (ey0) (by omega) (by omega))) (by decide) (by decide) (fun w23911 h23911 q23911 => ?_)
            obtain ⟨v23913, v23912, rfl, lv23913, uv23913, g23911, kk23911, ev23912, p23911_0, p23911_1⟩ := q23911
            have bv23912 := g23911.rg ad7 (i := 1) (by decide) rf7_1
            rw [ev23912] at bv23912
            have k23911 := k1.tr kk23911 (by decide)
            show jEv _ _ _ _ _ _ _ (_, [(2, 7), (2, 1), (0, 1), (0, a3), (0, x4), (0, x5), (0, x6)], [(0, v23913), (0, 0), (0, x6), (0, x5), (2, 7)], _, _, _)
            refine ev_call (jcall_v (A := [(0, v23913), (0, 0), (0, x6), (0, x5)]) (S' := []) (r := 7) rfl (g23911.lt ad7) (g23911.tg ad7) (Nat.le_of_ble_eq_true rfl)) (jOk_le (by decide) (s80 g23911 (by omega) (by omega) (by omega) (by omega) (by omega) (by omega) (by omega) (by omega))) (by decide) (by decide) (fun w23914 h23914 q23914 => ?_)
            obtain ⟨rfl, g23914, kk23914⟩ := q23914
            have k23914 := k23911.tr kk23914 (by decide)
            show jEv _ _ _ _ _ _ _ (_, [(2, 7), (2, 1), (0, 1), (0, a3), (0, x4), (0, x5), (0, x6)], [], _, _, _)
            refine ev_iinc (w := (x6 + 1)) (L' := [(2, 7), (2, 1), (0, 1), (0, a3), (0, x4), (0, x5), (0, (x6 + 1))]) rfl (by unfold w32; omega) rfl ?_
            refine ev_goto f79_68 ?_
            exact ih _ _ _ _ _ g23914 k23914 (by omega) (by omega) (by omega) (by omega) (by omega) (by omega) (by omega) (by omega) (by omega) (by omega) (((kk23914.v (by decide)).trans ev23912)) (by omega) (by omega) (by omega)
          · refine ev_aload_n rfl ?_
            refine ev_bipush ?_
            refine ev_call (jcall_v (A := [(0, 44)]) (S' := []) (r := 7) rfl (g1.lt ad7) (g1.tg ad7) (Nat.le_of_ble_eq_true rfl)) (jOk_le (by decide) (s71 g1 (by omega) (by omega) (ey0) (by omega) (by omega))) (by decide) (by decide) (fun w23915 h23915 q23915 => ?_)
            obtain ⟨v23916, rfl, g23915, kk23915, ev23916, p23915_0⟩ := q23915
            have bv23916 := g23915.rg ad7 (i := 1) (by decide) rf7_1
            rw [ev23916] at bv23916
            have k23915 := k1.tr kk23915 (by decide)
            show jEv _ _ _ _ _ _ _ (_, [(2, 7), (2, 1), (0, 1), (0, a3), (0, x4), (0, x5), (0, x6)], [], _, _, _)
            refine ev_aload_n rfl ?_
            refine ev_iload rfl ?_
            refine ev_iload rfl ?_
            refine ev_iconst ?_
            refine ev_aload_n rfl ?_
            refine ev_aload_n rfl ?_
            refine ev_iload_n rfl ?_
            refine ev_iconst ?_
            refine ev_iadd (r := 2) (by decide) ?_
            refine ev_iload_n rfl ?_
            refine ev_iconst ?_
            refine ev_iload rfl ?_
            refine g_ishlB (a' := 1) (a := 1) (b := 3) (hi := 8) (by omega) (by omega) (by omega) (by omega) (by decide) (by decide) (fun v23917 ev23917 lv23917 uv23917 => ?_)
            refine g_iorG (fun v23918 ev23918 lv23918 uv23918 => ?_)
            refine ev_call (jcall_v (A := [(0, v23918), (0, 2), (2, 1)]) (S' := [(0, 0), (0, x6), (0, x5), (2, 7)]) (r := 7) rfl (g23915.lt ad7) (g23915.tg ad7) (Nat.le_of_ble_eq_true rfl)) (jOk_le (by decide) (s74_2 g23915 (by omega) (by omega) (ev23916) (by omega) (by omega))) (by decide) (by decide) (fun w23919 h23919 q23919 => ?_)
            obtain ⟨v23921, v23920, rfl, lv23921, uv23921, g23919, kk23919, ev23920, p23919_0, p23919_1⟩ := q23919
            have bv23920 := g23919.rg ad7 (i := 1) (by decide) rf7_1
            rw [ev23920] at bv23920
            have k23919 := k23915.tr kk23919 (by decide)
            show jEv _ _ _ _ _ _ _ (_, [(2, 7), (2, 1), (0, 1), (0, a3), (0, x4), (0, x5), (0, x6)], [(0, v23921), (0, 0), (0, x6), (0, x5), (2, 7)], _, _, _)
            refine ev_call (jcall_v (A := [(0, v23921), (0, 0), (0, x6), (0, x5)]) (S' := []) (r := 7) rfl (g23919.lt ad7) (g23919.tg ad7) (Nat.le_of_ble_eq_true rfl)) (jOk_le (by decide) (s80 g23919 (by omega) (by omega) (by omega) (by omega) (by omega) (by omega) (by omega) (by omega))) (by decide) (by decide) (fun w23922 h23922 q23922 => ?_)
            obtain ⟨rfl, g23922, kk23922⟩ := q23922
            have k23922 := k23919.tr kk23922 (by decide)
            show jEv _ _ _ _ _ _ _ (_, [(2, 7), (2, 1), (0, 1), (0, a3), (0, x4), (0, x5), (0, x6)], [], _, _, _)
            refine ev_iinc (w := (x6 + 1)) (L' := [(2, 7), (2, 1), (0, 1), (0, a3), (0, x4), (0, x5), (0, (x6 + 1))]) rfl (by unfold w32; omega) rfl ?_
            refine ev_goto f79_68 ?_
            exact ih _ _ _ _ _ g23922 k23922 (by omega) (by omega) (by omega) (by omega) (by omega) (by omega) (by omega) (by omega) (by omega) (by omega) (((kk23922.v (by decide)).trans ev23920)) (by omega) (by omega) (by omega)
set_option maxHeartbeats 4000000 in
theorem s79_1 {G : GH} {h : JH} (g : Gd G h) {a3 : Int} (la3 : (-2147483648) ≤ a3) (ua3 : a3 ≤ 2147483647) {w0 : Int} (ew0 : h.2.2 7 1 = w0) (lw0 : (-1) ≤ w0) (uw0 : w0 ≤ 200) {w1 : Int} (ew1 : h.2.2 7 2 = w1) (lw1 : 0 ≤ w1) (uw1 : w1 ≤ 199) : jOk 26 0 0 79 [(2, 7), (2, 1), (0, 1), (0, a3)] h (fun v h' => ∃ r F : Int, v = some (0, r) ∧ (-1) ≤ r ∧ r ≤ 199 ∧ Gd G h' ∧ Kp [(7, 2), (7, 3), (7, 4), (10, 0), (11, 0), (12, 0), (13, 0), (14, 0), (15, 0), (16, 0), (17, 0)] h h' ∧ h'.2.2 7 1 = F ∧ ((-F) + w0) ≤ 0 ∧ ((-F) + (-r)) ≤ 1) := by
  refine ⟨by decide, by rw [ml79]; exact Nat.le_of_ble_eq_true rfl, ?_⟩
  rw [ml79, pp79]
  show jEv _ none _ c79_0 0 0 _ (c79_0, [(2, 7), (2, 1), (0, 1), (0, a3), (9, 0), (9, 0), (9, 0)], [], h, 0, 0)
  have k0 := Kp.rf [(7, 2), (7, 3), (7, 4), (10, 0), (11, 0), (12, 0), (13, 0), (14, 0), (15, 0), (16, 0), (17, 0)] h
  refine ev_aload_n rfl ?_
  refine ev_dup (by decide) ?_
  refine g_getv (r := 7) (v := w1) g ad7 (by decide) ft5_2 (ew1) ?_
  refine ev_iconst ?_
  refine ev_iadd (r := (w1 + 1)) (by unfold w32; omega) ?_
  refine g_putf (r := 7) g ad7 (by decide) ft5_2 (by decide) (fun e => absurd e nz5_2) rf7_2 (by decide) (by omega) (by omega) (fun h23923 e23923 g23923 => ?_)
  have k23923 := k0.wr e23923 rfl
  refine ev_aload_n rfl ?_
  refine ev_in (d := 24) (a := 0) (b := 0) (cd' := c68_0) (m := 1) (L0 := [(2, 7)]) (jcall_v (A := []) (S' := []) (r := 7) rfl (g23923.lt ad7) (g23923.tg ad7) (Nat.le_of_ble_eq_true rfl)) (by decide) ml68 pp68 (Nat.le_of_ble_eq_true rfl) rfl (by decide) (by decide) ?_
  refine ev_aload_n rfl ?_
  refine g_getv (r := 7) (v := (w1 + 1)) g23923 ad7 (by decide) ft5_2 ((jw_eq e23923)) ?_
  refine ev_aload_n rfl ?_
  obtain ⟨v23924, ev23924, lv23924, uv23924⟩ := g23923.rd ad7 (show 0 < 15 by decide) rf7_0
  refine g_getv (r := 7) (v := v23924) g23923 ad7 (by decide) ft5_0 ev23924 ?_
  refine ev_icmpge f68_27 (fun c23925 => ?_) (fun c23925 => ?_)
  · refine ev_iconst ?_
    refine ev_ret rfl (by decide) (by decide) ?_
    show jEv _ _ _ _ _ _ _ (_, [(2, 7), (2, 1), (0, 1), (0, a3), (9, 0), (9, 0), (9, 0)], [(0, (-1))], _, _, _)
    refine ev_bipush ?_
    refine ev_isub (r := (-98)) (by decide) ?_
    refine ev_istore (L' := [(2, 7), (2, 1), (0, 1), (0, a3), (0, (-98)), (9, 0), (9, 0)]) (Nat.le_of_ble_eq_true rfl) rfl ?_
    refine ev_aload_n rfl ?_
    refine ev_iload rfl ?_
    refine ev_in (d := 24) (a := 0) (b := 0) (cd' := c140_0) (m := 2) (L0 := [(2, 1), (0, (-98))]) (jcall_v (A := [(0, (-98))]) (S' := []) (r := 1) rfl (g23923.lt ad1) (g23923.tg ad1) (Nat.le_of_ble_eq_true rfl)) (by decide) ml140 pp140 (Nat.le_of_ble_eq_true rfl) rfl (by decide) (by decide) ?_
    refine ev_iload_n rfl ?_
    refine ev_iflt f140_16 (fun c23926 => ?_) (fun c23926 => absurd c23926 (by omega))
    refine ev_iconst ?_
    refine ev_ret rfl (by decide) (by decide) ?_
    show jEv _ _ _ _ _ _ _ (_, [(2, 7), (2, 1), (0, 1), (0, a3), (0, (-98)), (9, 0), (9, 0)], [(0, 0)], _, _, _)
    refine ev_ifeq f79_37 (fun c23927 => ?_) (fun c23927 => absurd c23927 (by omega))
    refine ev_aload_n rfl ?_
    refine ev_in (d := 24) (a := 0) (b := 0) (cd' := c70_0) (m := 1) (L0 := [(2, 7)]) (jcall_v (A := []) (S' := []) (r := 7) rfl (g23923.lt ad7) (g23923.tg ad7) (Nat.le_of_ble_eq_true rfl)) (by decide) ml70 pp70 (Nat.le_of_ble_eq_true rfl) rfl (by decide) (by decide) ?_
    refine ev_aload_n rfl ?_
    refine g_getv (r := 7) (v := w0) g23923 ad7 (by decide) ft5_1 (((jw_ne e23923 (Or.inr (by decide))).trans ew0)) ?_
    refine ev_ifge f70_15 (fun c23928 => ?_) (fun c23928 => ?_)
    · refine ev_ret rfl (by decide) (by decide) ?_
      show jEv _ _ _ _ _ _ _ (_, [(2, 7), (2, 1), (0, 1), (0, a3), (0, (-98)), (9, 0), (9, 0)], [], _, _, _)
      refine ev_iconst ?_
      exact ev_ret rfl (by decide) (by decide) ⟨_, _, rfl, by omega, by omega, g23923, k23923, (((jw_ne e23923 (Or.inr (by decide))).trans ew0)), by omega, by omega⟩
    · refine ev_aload_n rfl ?_
      refine ev_aload_n rfl ?_
      refine g_getv (r := 7) (v := (w1 + 1)) g23923 ad7 (by decide) ft5_2 ((jw_eq e23923)) ?_
      refine g_putf (r := 7) g23923 ad7 (by decide) ft5_1 (by decide) (fun e => absurd e nz5_1) rf7_1 (by decide) (by omega) (by omega) (fun h23929 e23929 g23929 => ?_)
      have k23929 := k23923.wr e23929 rfl
      refine ev_ret rfl (by decide) (by decide) ?_
      show jEv _ _ _ _ _ _ _ (_, [(2, 7), (2, 1), (0, 1), (0, a3), (0, (-98)), (9, 0), (9, 0)], [], _, _, _)
      refine ev_iconst ?_
      exact ev_ret rfl (by decide) (by decide) ⟨_, _, rfl, by omega, by omega, g23929, k23929, ((jw_eq e23929)), by omega, by omega⟩
  · refine ev_aload_n rfl ?_
    refine g_getp (r := 7) (c := 8) g23923 ad7 (by decide) (by decide) rf7_5 ft5_5 ?_
    refine ev_aload_n rfl ?_
    refine g_getv (r := 7) (v := (w1 + 1)) g23923 ad7 (by decide) ft5_2 ((jw_eq e23923)) ?_
    refine g_bald g23923 ad8 rt8 (by omega) (by omega) (fun v23930 ev23930 lv23930 uv23930 => ?_)
    refine ev_sipush ?_
    refine g_iandB (b := 255) (by omega) (by omega) (by decide) (fun v23931 ev23931 lv23931 uv23931 => ?_)
    refine ev_goto f68_28 ?_
    refine ev_ret rfl (by decide) (by decide) ?_
    show jEv _ _ _ _ _ _ _ (_, [(2, 7), (2, 1), (0, 1), (0, a3), (9, 0), (9, 0), (9, 0)], [(0, v23931)], _, _, _)
    refine ev_bipush ?_
    refine ev_isub (r := (v23931 - 97)) (by unfold w32; omega) ?_
    refine ev_istore (L' := [(2, 7), (2, 1), (0, 1), (0, a3), (0, (v23931 - 97)), (9, 0), (9, 0)]) (Nat.le_of_ble_eq_true rfl) rfl ?_
    refine ev_aload_n rfl ?_
    refine ev_iload rfl ?_
    refine ev_in (d := 24) (a := 0) (b := 0) (cd' := c140_0) (m := 2) (L0 := [(2, 1), (0, (v23931 - 97))]) (jcall_v (A := [(0, (v23931 - 97))]) (S' := []) (r := 1) rfl (g23923.lt ad1) (g23923.tg ad1) (Nat.le_of_ble_eq_true rfl)) (by decide) ml140 pp140 (Nat.le_of_ble_eq_true rfl) rfl (by decide) (by decide) ?_
    refine ev_iload_n rfl ?_
    refine ev_iflt f140_16 (fun c23932 => ?_) (fun c23932 => ?_)
    · refine ev_iconst ?_
      refine ev_ret rfl (by decide) (by decide) ?_
      show jEv _ _ _ _ _ _ _ (_, [(2, 7), (2, 1), (0, 1), (0, a3), (0, (v23931 - 97)), (9, 0), (9, 0)], [(0, 0)], _, _, _)
      refine ev_ifeq f79_37 (fun c23933 => ?_) (fun c23933 => absurd c23933 (by omega))
      refine ev_aload_n rfl ?_
      refine ev_in (d := 24) (a := 0) (b := 0) (cd' := c70_0) (m := 1) (L0 := [(2, 7)]) (jcall_v (A := []) (S' := []) (r := 7) rfl (g23923.lt ad7) (g23923.tg ad7) (Nat.le_of_ble_eq_true rfl)) (by decide) ml70 pp70 (Nat.le_of_ble_eq_true rfl) rfl (by decide) (by decide) ?_
      refine ev_aload_n rfl ?_
      refine g_getv (r := 7) (v := w0) g23923 ad7 (by decide) ft5_1 (((jw_ne e23923 (Or.inr (by decide))).trans ew0)) ?_
      refine ev_ifge f70_15 (fun c23934 => ?_) (fun c23934 => ?_)
      · refine ev_ret rfl (by decide) (by decide) ?_
        show jEv _ _ _ _ _ _ _ (_, [(2, 7), (2, 1), (0, 1), (0, a3), (0, (v23931 - 97)), (9, 0), (9, 0)], [], _, _, _)
        refine ev_iconst ?_
        exact ev_ret rfl (by decide) (by decide) ⟨_, _, rfl, by omega, by omega, g23923, k23923, (((jw_ne e23923 (Or.inr (by decide))).trans ew0)), by omega, by omega⟩
      · refine ev_aload_n rfl ?_
        refine ev_aload_n rfl ?_
        refine g_getv (r := 7) (v := (w1 + 1)) g23923 ad7 (by decide) ft5_2 ((jw_eq e23923)) ?_
        refine g_putf (r := 7) g23923 ad7 (by decide) ft5_1 (by decide) (fun e => absurd e nz5_1) rf7_1 (by decide) (by omega) (by omega) (fun h23935 e23935 g23935 => ?_)
        have k23935 := k23923.wr e23935 rfl
        refine ev_ret rfl (by decide) (by decide) ?_
        show jEv _ _ _ _ _ _ _ (_, [(2, 7), (2, 1), (0, 1), (0, a3), (0, (v23931 - 97)), (9, 0), (9, 0)], [], _, _, _)
        refine ev_iconst ?_
        exact ev_ret rfl (by decide) (by decide) ⟨_, _, rfl, by omega, by omega, g23935, k23935, ((jw_eq e23935)), by omega, by omega⟩
    · refine ev_iload_n rfl ?_
      refine ev_aload_n rfl ?_
      obtain ⟨v23936, ev23936, lv23936, uv23936⟩ := g23923.rd ad1 (show 0 < 8 by decide) rf1_0
      refine g_getv (r := 1) (v := v23936) g23923 ad1 (by decide) ft10_0 ev23936 ?_
      refine ev_icmpge f140_16 (fun c23937 => ?_) (fun c23937 => ?_)
      · refine ev_iconst ?_
        refine ev_ret rfl (by decide) (by decide) ?_
        show jEv _ _ _ _ _ _ _ (_, [(2, 7), (2, 1), (0, 1), (0, a3), (0, (v23931 - 97)), (9, 0), (9, 0)], [(0, 0)], _, _, _)
        refine ev_ifeq f79_37 (fun c23938 => ?_) (fun c23938 => absurd c23938 (by omega))
        refine ev_aload_n rfl ?_
        refine ev_in (d := 24) (a := 0) (b := 0) (cd' := c70_0) (m := 1) (L0 := [(2, 7)]) (jcall_v (A := []) (S' := []) (r := 7) rfl (g23923.lt ad7) (g23923.tg ad7) (Nat.le_of_ble_eq_true rfl)) (by decide) ml70 pp70 (Nat.le_of_ble_eq_true rfl) rfl (by decide) (by decide) ?_
        refine ev_aload_n rfl ?_
        refine g_getv (r := 7) (v := w0) g23923 ad7 (by decide) ft5_1 (((jw_ne e23923 (Or.inr (by decide))).trans ew0)) ?_
        refine ev_ifge f70_15 (fun c23939 => ?_) (fun c23939 => ?_)
        · refine ev_ret rfl (by decide) (by decide) ?_
          show jEv _ _ _ _ _ _ _ (_, [(2, 7), (2, 1), (0, 1), (0, a3), (0, (v23931 - 97)), (9, 0), (9, 0)], [], _, _, _)
          refine ev_iconst ?_
          exact ev_ret rfl (by decide) (by decide) ⟨_, _, rfl, by omega, by omega, g23923, k23923, (((jw_ne e23923 (Or.inr (by decide))).trans ew0)), by omega, by omega⟩
        · refine ev_aload_n rfl ?_
          refine ev_aload_n rfl ?_
          refine g_getv (r := 7) (v := (w1 + 1)) g23923 ad7 (by decide) ft5_2 ((jw_eq e23923)) ?_
          refine g_putf (r := 7) g23923 ad7 (by decide) ft5_1 (by decide) (fun e => absurd e nz5_1) rf7_1 (by decide) (by omega) (by omega) (fun h23940 e23940 g23940 => ?_)
          have k23940 := k23923.wr e23940 rfl
          refine ev_ret rfl (by decide) (by decide) ?_
          show jEv _ _ _ _ _ _ _ (_, [(2, 7), (2, 1), (0, 1), (0, a3), (0, (v23931 - 97)), (9, 0), (9, 0)], [], _, _, _)
          refine ev_iconst ?_
          exact ev_ret rfl (by decide) (by decide) ⟨_, _, rfl, by omega, by omega, g23940, k23940, ((jw_eq e23940)), by omega, by omega⟩
      · refine ev_iconst ?_
        refine ev_goto f140_17 ?_
        refine ev_ret rfl (by decide) (by decide) ?_
        show jEv _ _ _ _ _ _ _ (_, [(2, 7), (2, 1), (0, 1), (0, a3), (0, (v23931 - 97)), (9, 0), (9, 0)], [(0, 1)], _, _, _)
        refine ev_ifeq f79_37 (fun c23941 => absurd c23941 (by omega)) (fun c23941 => ?_)
        refine ev_iload_n rfl ?_
        refine ev_iload rfl ?_
        refine g_ishrG (fun v23942 ev23942 lv23942 uv23942 => ?_)
        refine ev_iconst ?_
        refine g_iandB (b := 1) (by omega) (by omega) (by decide) (fun v23943 ev23943 lv23943 uv23943 => ?_)
        refine ev_ifeq f79_43 (fun c23944 => ?_) (fun c23944 => ?_)
        · refine ev_aload_n rfl ?_
          refine ev_dup (by decide) ?_
          refine g_getv (r := 7) (v := (w1 + 1)) g23923 ad7 (by decide) ft5_2 ((jw_eq e23923)) ?_
          refine ev_iconst ?_
          refine ev_iadd (r := (w1 + 2)) (by unfold w32; omega) ?_
          refine g_putf (r := 7) g23923 ad7 (by decide) ft5_2 (by decide) (fun e => absurd e nz5_2) rf7_2 (by decide) (by omega) (by omega) (fun h23945 e23945 g23945 => ?_)
          have k23945 := k23923.wr e23945 rfl
          refine ev_aload_n rfl ?_
          refine ev_iload_n rfl ?_
          refine ev_call (jcall_v (A := [(0, 1)]) (S' := []) (r := 7) rfl (g23945.lt ad7) (g23945.tg ad7) (Nat.le_of_ble_eq_true rfl)) (jOk_le (by decide) (s72 g23945 (by omega) (by omega) (((jw_ne e23945 (Or.inr (by decide))).trans ((jw_ne e23923 (Or.inr (by decide))).trans ew0))) (by omega) (by omega))) (by decide) (by decide) (fun w23946 h23946 q23946 => ?_)
          obtain ⟨v23947, rfl, g23946, kk23946, ev23947, p23946_0⟩ := q23946
          have bv23947 := g23946.rg ad7 (i := 1) (by decide) rf7_1
          rw [ev23947] at bv23947
          have k23946 := k23945.tr kk23946 (by decide)
          show jEv _ _ _ _ _ _ _ (_, [(2, 7), (2, 1), (0, 1), (0, a3), (0, (v23931 - 97)), (9, 0), (9, 0)], [], _, _, _)
          refine ev_aload_n rfl ?_
          refine ev_iconst ?_
          refine ev_call (jcall_v (A := [(0, 2)]) (S' := []) (r := 7) rfl (g23946.lt ad7) (g23946.tg ad7) (Nat.le_of_ble_eq_true rfl)) (jOk_le (by decide) (s73 g23946 (by omega) (by omega) (ev23947) (by omega) (by omega))) (by decide) (by decide) (fun w23948 h23948 q23948 => ?_)
          obtain ⟨v23950, v23949, rfl, lv23950, uv23950, g23948, kk23948, ev23949, p23948_0, p23948_1⟩ := q23948
          have bv23949 := g23948.rg ad7 (i := 1) (by decide) rf7_1
          rw [ev23949] at bv23949
          have k23948 := k23946.tr kk23948 (by decide)
          show jEv _ _ _ _ _ _ _ (_, [(2, 7), (2, 1), (0, 1), (0, a3), (0, (v23931 - 97)), (9, 0), (9, 0)], [(0, v23950)], _, _, _)
          refine ev_istore (L' := [(2, 7), (2, 1), (0, 1), (0, a3), (0, (v23931 - 97)), (0, v23950), (9, 0)]) (Nat.le_of_ble_eq_true rfl) rfl ?_
          refine ev_iconst ?_
          refine ev_istore (L' := [(2, 7), (2, 1), (0, 1), (0, a3), (0, (v23931 - 97)), (0, v23950), (0, 0)]) (Nat.le_of_ble_eq_true rfl) rfl ?_
          exact (s79_1_l la3 ua3 ew0 lw0 uw0 ew1 lw1 uw1 8) _ _ _ _ _ g23948 k23948 (by omega) (by omega) (by omega) (by omega) (by omega) (by omega) (by omega) (by omega) (by omega) (by omega) (ev23949) (by omega) (by omega) (by omega)
        · refine ev_aload_n rfl ?_
          refine ev_in (d := 24) (a := 0) (b := 0) (cd' := c70_0) (m := 1) (L0 := [(2, 7)]) (jcall_v (A := []) (S' := []) (r := 7) rfl (g23923.lt ad7) (g23923.tg ad7) (Nat.le_of_ble_eq_true rfl)) (by decide) ml70 pp70 (Nat.le_of_ble_eq_true rfl) rfl (by decide) (by decide) ?_
          refine ev_aload_n rfl ?_
          refine g_getv (r := 7) (v := w0) g23923 ad7 (by decide) ft5_1 (((jw_ne e23923 (Or.inr (by decide))).trans ew0)) ?_
          refine ev_ifge f70_15 (fun c23951 => ?_) (fun c23951 => ?_)
          · refine ev_ret rfl (by decide) (by decide) ?_
            show jEv _ _ _ _ _ _ _ (_, [(2, 7), (2, 1), (0, 1), (0, a3), (0, (v23931 - 97)), (9, 0), (9, 0)], [], _, _, _)
            refine ev_iconst ?_
            exact ev_ret rfl (by decide) (by decide) ⟨_, _, rfl, by omega, by omega, g23923, k23923, (((jw_ne e23923 (Or.inr (by decide))).trans ew0)), by omega, by omega⟩
          · refine ev_aload_n rfl ?_
            refine ev_aload_n rfl ?_
            refine g_getv (r := 7) (v := (w1 + 1)) g23923 ad7 (by decide) ft5_2 ((jw_eq e23923)) ?_
            refine g_putf (r := 7) g23923 ad7 (by decide) ft5_1 (by decide) (fun e => absurd e nz5_1) rf7_1 (by decide) (by omega) (by omega) (fun h23952 e23952 g23952 => ?_)
            have k23952 := k23923.wr e23952 rfl
            refine ev_ret rfl (by decide) (by decide) ?_
            show jEv _ _ _ _ _ _ _ (_, [(2, 7), (2, 1), (0, 1), (0, a3), (0, (v23931 - 97)), (9, 0), (9, 0)], [], _, _, _)
            refine ev_iconst ?_
            exact ev_ret rfl (by decide) (by decide) ⟨_, _, rfl, by omega, by omega, g23952, k23952, ((jw_eq e23952)), by omega, by omega⟩
/-! s74_1  -/
set_option maxHeartbeats 4000000 in
theorem s74_1 {G : GH} {h : JH} (g : Gd G h) {a3 : Int} (la3 : (-2147483648) ≤ a3) (ua3 : a3 ≤ 2147483647) {w0 : Int} (ew0 : h.2.2 7 1 = w0) (lw0 : (-1) ≤ w0) (uw0 : w0 ≤ 200) : jOk 27 0 0 74 [(2, 7), (2, 1), (0, 1), (0, a3)] h (fun v h' => ∃ r F : Int, v = some (0, r) ∧ (-1) ≤ r ∧ r ≤ 199 ∧ Gd G h' ∧ Kp [(7, 2), (7, 3), (7, 4), (10, 0), (11, 0), (12, 0), (13, 0), (14, 0), (15, 0), (16, 0), (17, 0)] h h' ∧ h'.2.2 7 1 = F ∧ ((-F) + w0) ≤ 0 ∧ ((-F) + (-r)) ≤ 1) := by
  refine ⟨by decide, by rw [ml74]; exact Nat.le_of_ble_eq_true rfl, ?_⟩
  rw [ml74, pp74]
  show jEv _ none _ c74_0 0 0 _ (c74_0, [(2, 7), (2, 1), (0, 1), (0, a3), (9, 0)], [], h, 0, 0)
  have k0 := Kp.rf [(7, 2), (7, 3), (7, 4), (10, 0), (11, 0), (12, 0), (13, 0), (14, 0), (15, 0), (16, 0), (17, 0)] h
  refine ev_aload_n rfl ?_
  refine g_getv (r := 7) (v := w0) g ad7 (by decide) ft5_1 (ew0) ?_
  refine ev_ifge f74_13 (fun c24019 => ?_) (fun c24019 => ?_)
  · refine ev_aload_n rfl ?_
    refine ev_in (d := 25) (a := 0) (b := 0) (cd' := c70_0) (m := 1) (L0 := [(2, 7)]) (jcall_v (A := []) (S' := []) (r := 7) rfl (g.lt ad7) (g.tg ad7) (Nat.le_of_ble_eq_true rfl)) (by decide) ml70 pp70 (Nat.le_of_ble_eq_true rfl) rfl (by decide) (by decide) ?_
    refine ev_aload_n rfl ?_
    refine g_getv (r := 7) (v := w0) g ad7 (by decide) ft5_1 (ew0) ?_
    refine ev_ifge f70_15 (fun c24020 => ?_) (fun c24020 => absurd c24020 (by omega))
    refine ev_ret rfl (by decide) (by decide) ?_
    show jEv _ _ _ _ _ _ _ (_, [(2, 7), (2, 1), (0, 1), (0, a3), (9, 0)], [], _, _, _)
    refine ev_iconst ?_
    exact ev_ret rfl (by decide) (by decide) ⟨_, _, rfl, by omega, by omega, g, k0, (ew0), by omega, by omega⟩
  · refine ev_iload_n rfl ?_
    refine ev_bipush ?_
    refine ev_icmple f74_19 (fun c24021 => ?_) (fun c24021 => absurd c24021 (by omega))
    refine ev_aload_n rfl ?_
    refine ev_in (d := 25) (a := 0) (b := 0) (cd' := c68_0) (m := 1) (L0 := [(2, 7)]) (jcall_v (A := []) (S' := []) (r := 7) rfl (g.lt ad7) (g.tg ad7) (Nat.le_of_ble_eq_true rfl)) (by decide) ml68 pp68 (Nat.le_of_ble_eq_true rfl) rfl (by decide) (by decide) ?_
    refine ev_aload_n rfl ?_
    obtain ⟨v24022, ev24022, lv24022, uv24022⟩ := g.rd ad7 (show 2 < 15 by decide) rf7_2
    refine g_getv (r := 7) (v := v24022) g ad7 (by decide) ft5_2 ev24022 ?_
    refine ev_aload_n rfl ?_
    obtain ⟨v24023, ev24023, lv24023, uv24023⟩ := g.rd ad7 (show 0 < 15 by decide) rf7_0
    refine g_getv (r := 7) (v := v24023) g ad7 (by decide) ft5_0 ev24023 ?_
    refine ev_icmpge f68_27 (fun c24024 => ?_) (fun c24024 => ?_)
    · refine ev_iconst ?_
      refine ev_ret rfl (by decide) (by decide) ?_
      show jEv _ _ _ _ _ _ _ (_, [(2, 7), (2, 1), (0, 1), (0, a3), (9, 0)], [(0, (-1))], _, _, _)
      refine ev_istore (L' := [(2, 7), (2, 1), (0, 1), (0, a3), (0, (-1))]) (Nat.le_of_ble_eq_true rfl) rfl ?_
      refine ev_iload rfl ?_
      refine ev_bipush ?_
      refine ev_icmpne f74_40 (fun c24025 => ?_) (fun c24025 => absurd c24025 (by omega))
      refine ev_iload rfl ?_
      refine ev_bipush ?_
      refine ev_icmpne f74_55 (fun c24026 => ?_) (fun c24026 => absurd c24026 (by omega))
      refine ev_iload rfl ?_
      refine ev_bipush ?_
      refine ev_icmplt f74_78 (fun c24027 => ?_) (fun c24027 => absurd c24027 (by omega))
      refine ev_aload_n rfl ?_
      refine ev_call (jcall_v (A := []) (S' := []) (r := 7) rfl (g.lt ad7) (g.tg ad7) (Nat.le_of_ble_eq_true rfl)) (jOk_le (by decide) (s75 g (ew0) (by omega) (by omega))) (by decide) (by decide) (fun w24028 h24028 q24028 => ?_)
      obtain ⟨v24030, v24029, rfl, lv24030, uv24030, g24028, kk24028, ev24029, p24028_0, p24028_1⟩ := q24028
      have bv24029 := g24028.rg ad7 (i := 1) (by decide) rf7_1
      rw [ev24029] at bv24029
      have k24028 := k0.tr kk24028 (by decide)
      show jEv _ _ _ _ _ _ _ (_, [(2, 7), (2, 1), (0, 1), (0, a3), (0, (-1))], [(0, v24030)], _, _, _)
      exact ev_ret rfl (by decide) (by decide) ⟨_, _, rfl, by omega, by omega, g24028, k24028, (ev24029), by omega, by omega⟩
    · refine ev_aload_n rfl ?_
      refine g_getp (r := 7) (c := 8) g ad7 (by decide) (by decide) rf7_5 ft5_5 ?_
      refine ev_aload_n rfl ?_
      refine g_getv (r := 7) (v := v24022) g ad7 (by decide) ft5_2 (ev24022) ?_
      refine g_bald g ad8 rt8 (by omega) (by omega) (fun v24031 ev24031 lv24031 uv24031 => ?_)
      refine ev_sipush ?_
      refine g_iandB (b := 255) (by omega) (by omega) (by decide) (fun v24032 ev24032 lv24032 uv24032 => ?_)
      refine ev_goto f68_28 ?_
      refine ev_ret rfl (by decide) (by decide) ?_
      show jEv _ _ _ _ _ _ _ (_, [(2, 7), (2, 1), (0, 1), (0, a3), (9, 0)], [(0, v24032)], _, _, _)
      refine ev_istore (L' := [(2, 7), (2, 1), (0, 1), (0, a3), (0, v24032)]) (Nat.le_of_ble_eq_true rfl) rfl ?_
      refine ev_iload rfl ?_
      refine ev_bipush ?_
      refine ev_icmpne f74_40 (fun c24033 => ?_) (fun c24033 => ?_)
      · refine ev_iload rfl ?_
        refine ev_bipush ?_
        refine ev_icmpne f74_55 (fun c24034 => ?_) (fun c24034 => ?_)
        · refine ev_iload rfl ?_
          refine ev_bipush ?_
          refine ev_icmplt f74_78 (fun c24035 => ?_) (fun c24035 => ?_)
          · refine ev_aload_n rfl ?_
            refine ev_call (jcall_v (A := []) (S' := []) (r := 7) rfl (g.lt ad7) (g.tg ad7) (Nat.le_of_ble_eq_true rfl)) (jOk_le (by decide) (s75 g (ew0) (by omega) (by omega))) (by decide) (by decide) (fun w24036 h24036 q24036 => ?_)
            obtain ⟨v24038, v24037, rfl, lv24038, uv24038, g24036, kk24036, ev24037, p24036_0, p24036_1⟩ := q24036
            have bv24037 := g24036.rg ad7 (i := 1) (by decide) rf7_1
            rw [ev24037] at bv24037
            have k24036 := k0.tr kk24036 (by decide)
            show jEv _ _ _ _ _ _ _ (_, [(2, 7), (2, 1), (0, 1), (0, a3), (0, v24032)], [(0, v24038)], _, _, _)
            exact ev_ret rfl (by decide) (by decide) ⟨_, _, rfl, by omega, by omega, g24036, k24036, (ev24037), by omega, by omega⟩
          · refine ev_iload rfl ?_
            refine ev_bipush ?_
            refine ev_icmpge f74_78 (fun c24039 => ?_) (fun c24039 => ?_)
            · refine ev_aload_n rfl ?_
              refine ev_call (jcall_v (A := []) (S' := []) (r := 7) rfl (g.lt ad7) (g.tg ad7) (Nat.le_of_ble_eq_true rfl)) (jOk_le (by decide) (s75 g (ew0) (by omega) (by omega))) (by decide) (by decide) (fun w24040 h24040 q24040 => ?_)
              obtain ⟨v24042, v24041, rfl, lv24042, uv24042, g24040, kk24040, ev24041, p24040_0, p24040_1⟩ := q24040
              have bv24041 := g24040.rg ad7 (i := 1) (by decide) rf7_1
              rw [ev24041] at bv24041
              have k24040 := k0.tr kk24040 (by decide)
              show jEv _ _ _ _ _ _ _ (_, [(2, 7), (2, 1), (0, 1), (0, a3), (0, v24032)], [(0, v24042)], _, _, _)
              exact ev_ret rfl (by decide) (by decide) ⟨_, _, rfl, by omega, by omega, g24040, k24040, (ev24041), by omega, by omega⟩
            · refine ev_aload_n rfl ?_
              refine ev_iload_n rfl ?_
              refine ev_iload_n rfl ?_
              refine ev_call (jcall_v (A := [(0, a3), (0, 1)]) (S' := []) (r := 7) rfl (g.lt ad7) (g.tg ad7) (Nat.le_of_ble_eq_true rfl)) (jOk_le (by decide) (s77 g (by omega) (by omega) (by omega) (by omega) (ew0) (by omega) (by omega))) (by decide) (by decide) (fun w24043 h24043 q24043 => ?_)
              obtain ⟨v24045, v24044, rfl, lv24045, uv24045, g24043, kk24043, ev24044, p24043_0, p24043_1⟩ := q24043
              have bv24044 := g24043.rg ad7 (i := 1) (by decide) rf7_1
              rw [ev24044] at bv24044
              have k24043 := k0.tr kk24043 (by decide)
              show jEv _ _ _ _ _ _ _ (_, [(2, 7), (2, 1), (0, 1), (0, a3), (0, v24032)], [(0, v24045)], _, _, _)
              refine ev_goto f74_82 ?_
              exact ev_ret rfl (by decide) (by decide) ⟨_, _, rfl, by omega, by omega, g24043, k24043, (ev24044), by omega, by omega⟩
        · refine ev_aload_n rfl ?_
          refine ev_aload_n rfl ?_
          refine ev_iload_n rfl ?_
          refine ev_iload_n rfl ?_
          refine ev_call (jcall_v (A := [(0, a3), (0, 1), (2, 1)]) (S' := []) (r := 7) rfl (g.lt ad7) (g.tg ad7) (Nat.le_of_ble_eq_true rfl)) (jOk_le (by decide) (s79_1 g (by omega) (by omega) (ew0) (by omega) (by omega) (ev24022) (by omega) (by omega))) (by decide) (by decide) (fun w24046 h24046 q24046 => ?_)
          obtain ⟨v24048, v24047, rfl, lv24048, uv24048, g24046, kk24046, ev24047, p24046_0, p24046_1⟩ := q24046
          have bv24047 := g24046.rg ad7 (i := 1) (by decide) rf7_1
          rw [ev24047] at bv24047
          have k24046 := k0.tr kk24046 (by decide)
          show jEv _ _ _ _ _ _ _ (_, [(2, 7), (2, 1), (0, 1), (0, a3), (0, v24032)], [(0, v24048)], _, _, _)
          exact ev_ret rfl (by decide) (by decide) ⟨_, _, rfl, by omega, by omega, g24046, k24046, (ev24047), by omega, by omega⟩
      · refine ev_aload_n rfl ?_
        refine ev_aload_n rfl ?_
        refine ev_iload_n rfl ?_
        refine ev_iload_n rfl ?_
        refine ev_call (jcall_v (A := [(0, a3), (0, 1), (2, 1)]) (S' := []) (r := 7) rfl (g.lt ad7) (g.tg ad7) (Nat.le_of_ble_eq_true rfl)) (jOk_le (by decide) (s78_1 g (by omega) (by omega) (ew0) (by omega) (by omega) (ev24022) (by omega) (by omega))) (by decide) (by decide) (fun w24049 h24049 q24049 => ?_)
        obtain ⟨v24051, v24050, rfl, lv24051, uv24051, g24049, kk24049, ev24050, p24049_0, p24049_1⟩ := q24049
        have bv24050 := g24049.rg ad7 (i := 1) (by decide) rf7_1
        rw [ev24050] at bv24050
        have k24049 := k0.tr kk24049 (by decide)
        show jEv _ _ _ _ _ _ _ (_, [(2, 7), (2, 1), (0, 1), (0, a3), (0, v24032)], [(0, v24051)], _, _, _)
        exact ev_ret rfl (by decide) (by decide) ⟨_, _, rfl, by omega, by omega, g24049, k24049, (ev24050), by omega, by omega⟩
/-! s78_0  -/
set_option maxHeartbeats 4000000 in
theorem s78_0_l {G : GH} {h : JH} {a3 : Int} (la3 : (-2147483648) ≤ a3) (ua3 : a3 ≤ 2147483647) {w0 : Int} (ew0 : h.2.2 7 1 = w0) (lw0 : (-1) ≤ w0) (uw0 : w0 ≤ 200) {w1 : Int} (ew1 : h.2.2 7 2 = w1) (lw1 : 0 ≤ w1) (uw1 : w1 ≤ 199) : ∀ N : Nat, (∀ (h1 : JH) (x4 x5 y0 : Int) (j6 : AV), Gd G h1 → Kp [(7, 2), (7, 3), (7, 4), (10, 0), (11, 0), (12, 0), (13, 0), (14, 0), (15, 0), (16, 0), (17, 0)] h h1 → (-2147483648) ≤ a3 → a3 ≤ 2147483647 → (-1) ≤ x4 → x4 ≤ 199 → 0 ≤ x5 → x5 ≤ 3 → (w0 + (-y0)) ≤ 0 → ((-x4) + (-y0)) ≤ 1 → h1.2.2 7 1 = y0 → (-1) ≤ y0 → y0 ≤ 200 → ((-x5) + 3) < N → jEv (jOk 27) none (fun _ => 0) c78_0 0 0 (fun v h' => ∃ r F : Int, v = some (0, r) ∧ (-1) ≤ r ∧ r ≤ 199 ∧ Gd G h' ∧ Kp [(7, 2), (7, 3), (7, 4), (10, 0), (11, 0), (12, 0), (13, 0), (14, 0), (15, 0), (16, 0), (17, 0)] h h' ∧ h'.2.2 7 1 = F ∧ ((-F) + w0) ≤ 0 ∧ ((-F) + (-r)) ≤ 1) (c78_25, [(2, 7), (2, 1), (0, 0), (0, a3), (0, x4), (0, x5), j6], [], h1, 0, 0)) := by
  intro N
  induction N with
  | zero => exact fun h1 x4 x5 y0 j6 g1 k1 b0 b1 b2 b3 b4 b5 b6 b7 b8 b9 b10 hm => absurd hm (by omega)
  | succ N ih =>
    show _
    intro h1 x4 x5 y0 j6 g1 k1 b0 b1 b2 b3 b4 b5 b6 b7 ey0 ly0 uy0 hm
    refine ev_iload rfl ?_
    refine ev_iconst ?_
    refine ev_icmpge f78_100 (fun c24220 => absurd c24220 (by omega)) (fun c24220 => ?_)
    refine ev_aload_n rfl ?_
    refine g_getv (r := 7) (v := y0) g1 ad7 (by decide) ft5_1 (ey0) ?_
    refine ev_ifge f78_100 (fun c24221 => ?_) (fun c24221 => ?_)
    · refine ev_aload_n rfl ?_
      refine ev_bipush ?_
      refine ev_call (jcall_v (A := [(0, 41)]) (S' := []) (r := 7) rfl (g1.lt ad7) (g1.tg ad7) (Nat.le_of_ble_eq_true rfl)) (jOk_le (by decide) (s71 g1 (by omega) (by omega) (ey0) (by omega) (by omega))) (by decide) (by decide) (fun w24222 h24222 q24222 => ?_)
      obtain ⟨v24223, rfl, g24222, kk24222, ev24223, p24222_0⟩ := q24222
      have bv24223 := g24222.rg ad7 (i := 1) (by decide) rf7_1
      rw [ev24223] at bv24223
      have k24222 := k1.tr kk24222 (by decide)
      show jEv _ _ _ _ _ _ _ (_, [(2, 7), (2, 1), (0, 0), (0, a3), (0, x4), (0, x5), j6], [], _, _, _)
      refine ev_aload_n rfl ?_
      refine g_getv (r := 7) (v := v24223) g24222 ad7 (by decide) ft5_1 (ev24223) ?_
      refine ev_iflt f78_117 (fun c24224 => absurd c24224 (by omega)) (fun c24224 => ?_)
      refine ev_iconst ?_
      refine ev_goto f78_119 ?_
      exact ev_ret rfl (by decide) (by decide) ⟨_, _, rfl, by omega, by omega, g24222, k24222, (ev24223), by omega, by omega⟩
    · refine ev_aload_n rfl ?_
      refine ev_iconst ?_
      refine ev_call (jcall_v (A := [(0, 2)]) (S' := []) (r := 7) rfl (g1.lt ad7) (g1.tg ad7) (Nat.le_of_ble_eq_true rfl)) (jOk_le (by decide) (s76 g1 (by omega) (by omega) (ey0) (by omega) (by omega))) (by decide) (by decide) (fun w24225 h24225 q24225 => ?_)
      obtain ⟨v24227, v24226, rfl, lv24227, uv24227, g24225, kk24225, ev24226, p24225_0⟩ := q24225
      have bv24226 := g24225.rg ad7 (i := 1) (by decide) rf7_1
      rw [ev24226] at bv24226
      have k24225 := k1.tr kk24225 (by decide)
      show jEv _ _ _ _ _ _ _ (_, [(2, 7), (2, 1), (0, 0), (0, a3), (0, x4), (0, x5), j6], [(0, v24227)], _, _, _)
      refine ev_istore (L' := [(2, 7), (2, 1), (0, 0), (0, a3), (0, x4), (0, x5), (0, v24227)]) (Nat.le_of_ble_eq_true rfl) rfl ?_
      refine ev_aload_n rfl ?_
      refine ev_bipush ?_
      refine ev_call (jcall_v (A := [(0, 58)]) (S' := []) (r := 7) rfl (g24225.lt ad7) (g24225.tg ad7) (Nat.le_of_ble_eq_true rfl)) (jOk_le (by decide) (s71 g24225 (by omega) (by omega) (ev24226) (by omega) (by omega))) (by decide) (by decide) (fun w24228 h24228 q24228 => ?_)
      obtain ⟨v24229, rfl, g24228, kk24228, ev24229, p24228_0⟩ := q24228
      have bv24229 := g24228.rg ad7 (i := 1) (by decide) rf7_1
      rw [ev24229] at bv24229
      have k24228 := k24225.tr kk24228 (by decide)
      show jEv _ _ _ _ _ _ _ (_, [(2, 7), (2, 1), (0, 0), (0, a3), (0, x4), (0, x5), (0, v24227)], [], _, _, _)
      refine ev_aload_n rfl ?_
      refine ev_iload rfl ?_
      refine ev_iload rfl ?_
      refine ev_iload rfl ?_
      refine ev_aload_n rfl ?_
      refine ev_aload_n rfl ?_
      refine ev_iload_n rfl ?_
      refine ev_iconst ?_
      refine ev_iadd (r := 1) (by decide) ?_
      refine ev_iload_n rfl ?_
      refine ev_call (jcall_v (A := [(0, a3), (0, 1), (2, 1)]) (S' := [(0, v24227), (0, x5), (0, x4), (2, 7)]) (r := 7) rfl (g24228.lt ad7) (g24228.tg ad7) (Nat.le_of_ble_eq_true rfl)) (jOk_le (by decide) (s74_1 g24228 (by omega) (by omega) (ev24229) (by omega) (by omega))) (by decide) (by decide) (fun w24230 h24230 q24230 => ?_)
      obtain ⟨v24232, v24231, rfl, lv24232, uv24232, g24230, kk24230, ev24231, p24230_0, p24230_1⟩ := q24230
      have bv24231 := g24230.rg ad7 (i := 1) (by decide) rf7_1
      rw [ev24231] at bv24231
      have k24230 := k24228.tr kk24230 (by decide)
      show jEv _ _ _ _ _ _ _ (_, [(2, 7), (2, 1), (0, 0), (0, a3), (0, x4), (0, x5), (0, v24227)], [(0, v24232), (0, v24227), (0, x5), (0, x4), (2, 7)], _, _, _)
      refine ev_call (jcall_v (A := [(0, v24232), (0, v24227), (0, x5), (0, x4)]) (S' := []) (r := 7) rfl (g24230.lt ad7) (g24230.tg ad7) (Nat.le_of_ble_eq_true rfl)) (jOk_le (by decide) (s80 g24230 (by omega) (by omega) (by omega) (by omega) (by omega) (by omega) (by omega) (by omega))) (by decide) (by decide) (fun w24233 h24233 q24233 => ?_)
      obtain ⟨rfl, g24233, kk24233⟩ := q24233
      have k24233 := k24230.tr kk24233 (by decide)
      show jEv _ _ _ _ _ _ _ (_, [(2, 7), (2, 1), (0, 0), (0, a3), (0, x4), (0, x5), (0, v24227)], [], _, _, _)
      refine ev_aload_n rfl ?_
      refine ev_in (d := 26) (a := 0) (b := 0) (cd' := c68_0) (m := 1) (L0 := [(2, 7)]) (jcall_v (A := []) (S' := []) (r := 7) rfl (g24233.lt ad7) (g24233.tg ad7) (Nat.le_of_ble_eq_true rfl)) (by decide) ml68 pp68 (Nat.le_of_ble_eq_true rfl) rfl (by decide) (by decide) ?_
      refine ev_aload_n rfl ?_
      obtain ⟨v24234, ev24234, lv24234, uv24234⟩ := g24233.rd ad7 (show 2 < 15 by decide) rf7_2
      refine g_getv (r := 7) (v := v24234) g24233 ad7 (by decide) ft5_2 ev24234 ?_
      refine ev_aload_n rfl ?_
      obtain ⟨v24235, ev24235, lv24235, uv24235⟩ := g24233.rd ad7 (show 0 < 15 by decide) rf7_0
      refine g_getv (r := 7) (v := v24235) g24233 ad7 (by decide) ft5_0 ev24235 ?_
      refine ev_icmpge f68_27 (fun c24236 => ?_) (fun c24236 => ?_)
      · refine ev_iconst ?_
        refine ev_ret rfl (by decide) (by decide) ?_
        show jEv _ _ _ _ _ _ _ (_, [(2, 7), (2, 1), (0, 0), (0, a3), (0, x4), (0, x5), (0, v24227)], [(0, (-1))], _, _, _)
        refine ev_bipush ?_
        refine ev_icmpne f78_100 (fun c24237 => ?_) (fun c24237 => absurd c24237 (by omega))
        refine ev_aload_n rfl ?_
        refine ev_bipush ?_
        refine ev_call (jcall_v (A := [(0, 41)]) (S' := []) (r := 7) rfl (g24233.lt ad7) (g24233.tg ad7) (Nat.le_of_ble_eq_true rfl)) (jOk_le (by decide) (s71 g24233 (by omega) (by omega) (((kk24233.v (by decide)).trans ev24231)) (by omega) (by omega))) (by decide) (by decide) (fun w24238 h24238 q24238 => ?_)
        obtain ⟨v24239, rfl, g24238, kk24238, ev24239, p24238_0⟩ := q24238
        have bv24239 := g24238.rg ad7 (i := 1) (by decide) rf7_1
        rw [ev24239] at bv24239
        have k24238 := k24233.tr kk24238 (by decide)
        show jEv _ _ _ _ _ _ _ (_, [(2, 7), (2, 1), (0, 0), (0, a3), (0, x4), (0, x5), (0, v24227)], [], _, _, _)
        refine ev_aload_n rfl ?_
        refine g_getv (r := 7) (v := v24239) g24238 ad7 (by decide) ft5_1 (ev24239) ?_
        refine ev_iflt f78_117 (fun c24240 => ?_) (fun c24240 => ?_)
        · refine ev_iload rfl ?_
          exact ev_ret rfl (by decide) (by decide) ⟨_, _, rfl, by omega, by omega, g24238, k24238, (ev24239), by omega, by omega⟩
        · refine ev_iconst ?_
          refine ev_goto f78_119 ?_
          exact ev_ret rfl (by decide) (by decide) ⟨_, _, rfl, by omega, by omega, g24238, k24238, (ev24239), by omega, by omega⟩
      · refine ev_aload_n rfl ?_
        refine g_getp (r := 7) (c := 8) g24233 ad7 (by decide) (by decide) rf7_5 ft5_5 ?_
        refine ev_aload_n rfl ?_
        refine g_getv (r := 7) (v := v24234) g24233 ad7 (by decide) ft5_2 (ev24234) ?_
        refine g_bald g24233 ad8 rt8 (by omega) (by omega) (fun v24241 ev24241 lv24241 uv24241 => ?_)
        refine ev_sipush ?_
        refine g_iandB (b := 255) (by omega) (by omega) (by decide) (fun v24242 ev24242 lv24242 uv24242 => ?_)
        refine ev_goto f68_28 ?_
        refine ev_ret rfl (by decide) (by decide) ?_
        show jEv _ _ _ _ _ _ _ (_, [(2, 7), (2, 1), (0, 0), (0, a3), (0, x4), (0, x5), (0, v24227)], [(0, v24242)], _, _, _)
        refine ev_bipush ?_
        refine ev_icmpne f78_100 (fun c24243 => ?_) (fun c24243 => ?_)
        · refine ev_aload_n rfl ?_
          refine ev_bipush ?_
          refine ev_call (jcall_v (A := [(0, 41)]) (S' := []) (r := 7) rfl (g24233.lt ad7) (g24233.tg ad7) (Nat.le_of_ble_eq_true rfl)) (jOk_le (by decide) (s71 g24233 (by omega) (by omega) (((kk24233.v (by decide)).trans ev24231)) (by omega) (by omega))) (by decide) (by decide) (fun w24244 h24244 q24244 => ?_)
          obtain ⟨v24245, rfl, g24244, kk24244, ev24245, p24244_0⟩ := q24244
          have bv24245 := g24244.rg ad7 (i := 1) (by decide) rf7_1
          rw [ev24245] at bv24245
          have k24244 := k24233.tr kk24244 (by decide)
          show jEv _ _ _ _ _ _ _ (_, [(2, 7), (2, 1), (0, 0), (0, a3), (0, x4), (0, x5), (0, v24227)], [], _, _, _)
          refine ev_aload_n rfl ?_
          refine g_getv (r := 7) (v := v24245) g24244 ad7 (by decide) ft5_1 (ev24245) ?_
          refine ev_iflt f78_117 (fun c24246 => ?_) (fun c24246 => ?_)
          · refine ev_iload rfl ?_
            exact ev_ret rfl (by decide) (by decide) ⟨_, _, rfl, by omega, by omega, g24244, k24244, (ev24245), by omega, by omega⟩
          · refine ev_iconst ?_
            refine ev_goto f78_119 ?_
            exact ev_ret rfl (by decide) (by decide) ⟨_, _, rfl, by omega, by omega, g24244, k24244, (ev24245), by omega, by omega⟩
        · refine ev_iload rfl ?_
          refine ev_iconst ?_
          refine ev_icmpne f78_88 (fun c24247 => ?_) (fun c24247 => ?_)
          · refine ev_aload_n rfl ?_
            refine ev_bipush ?_
            refine ev_call (jcall_v (A := [(0, 44)]) (S' := []) (r := 7) rfl (g24233.lt ad7) (g24233.tg ad7) (Nat.le_of_ble_eq_true rfl)) (jOk_le (by decide) (s71 g24233 (by omega) (by omega) (((kk24233.v (by decide)).trans ev24231)) (by omega) (by omega))) (by decide) (by decide) (fun w24248 h24248 q24248 => ?_)
            obtain ⟨v24249, rfl, g24248, kk24248, ev24249, p24248_0⟩ := q24248
            have bv24249 := g24248.rg ad7 (i := 1) (by decide) rf7_1
            rw [ev24249] at bv24249
            have k24248 := k24233.tr kk24248 (by decide)
            show jEv _ _ _ _ _ _ _ (_, [(2, 7), (2, 1), (0, 0), (0, a3), (0, x4), (0, x5), (0, v24227)], [], _, _, _)
            refine ev_iinc (w := (x5 + 1)) (L' := [(2, 7), (2, 1), (0, 0), (0, a3), (0, x4), (0, (x5 + 1)), (0, v24227)]) rfl (by unfold w32; omega) rfl ?_
            refine ev_goto f78_25 ?_
            exact ih _ _ _ _ _ g24248 k24248 (by omega) (by omega) (by omega) (by omega) (by omega) (by omega) (by omega) (by omega) (ev24249) (by omega) (by omega) (by omega)
          · refine ev_goto f78_100 ?_
            refine ev_aload_n rfl ?_
            refine ev_bipush ?_
            refine ev_call (jcall_v (A := [(0, 41)]) (S' := []) (r := 7) rfl (g24233.lt ad7) (g24233.tg ad7) (Nat.le_of_ble_eq_true rfl)) (jOk_le (by decide) (s71 g24233 (by omega) (by omega) (((kk24233.v (by decide)).trans ev24231)) (by omega) (by omega))) (by decide) (by decide) (fun w24250 h24250 q24250 => ?_)
            obtain ⟨v24251, rfl, g24250, kk24250, ev24251, p24250_0⟩ := q24250
            have bv24251 := g24250.rg ad7 (i := 1) (by decide) rf7_1
            rw [ev24251] at bv24251
            have k24250 := k24233.tr kk24250 (by decide)
            show jEv _ _ _ _ _ _ _ (_, [(2, 7), (2, 1), (0, 0), (0, a3), (0, x4), (0, x5), (0, v24227)], [], _, _, _)
            refine ev_aload_n rfl ?_
            refine g_getv (r := 7) (v := v24251) g24250 ad7 (by decide) ft5_1 (ev24251) ?_
            refine ev_iflt f78_117 (fun c24252 => ?_) (fun c24252 => ?_)
            · refine ev_iload rfl ?_
              exact ev_ret rfl (by decide) (by decide) ⟨_, _, rfl, by omega, by omega, g24250, k24250, (ev24251), by omega, by omega⟩
            · refine ev_iconst ?_
              refine ev_goto f78_119 ?_
              exact ev_ret rfl (by decide) (by decide) ⟨_, _, rfl, by omega, by omega, g24250, k24250, (ev24251), by omega, by omega⟩
set_option maxHeartbeats 4000000 in
theorem s78_0 {G : GH} {h : JH} (g : Gd G h) {a3 : Int} (la3 : (-2147483648) ≤ a3) (ua3 : a3 ≤ 2147483647) {w0 : Int} (ew0 : h.2.2 7 1 = w0) (lw0 : (-1) ≤ w0) (uw0 : w0 ≤ 200) {w1 : Int} (ew1 : h.2.2 7 2 = w1) (lw1 : 0 ≤ w1) (uw1 : w1 ≤ 199) : jOk 28 0 0 78 [(2, 7), (2, 1), (0, 0), (0, a3)] h (fun v h' => ∃ r F : Int, v = some (0, r) ∧ (-1) ≤ r ∧ r ≤ 199 ∧ Gd G h' ∧ Kp [(7, 2), (7, 3), (7, 4), (10, 0), (11, 0), (12, 0), (13, 0), (14, 0), (15, 0), (16, 0), (17, 0)] h h' ∧ h'.2.2 7 1 = F ∧ ((-F) + w0) ≤ 0 ∧ ((-F) + (-r)) ≤ 1) := by
  refine ⟨by decide, by rw [ml78]; exact Nat.le_of_ble_eq_true rfl, ?_⟩
  rw [ml78, pp78]
  show jEv _ none _ c78_0 0 0 _ (c78_0, [(2, 7), (2, 1), (0, 0), (0, a3), (9, 0), (9, 0), (9, 0)], [], h, 0, 0)
  have k0 := Kp.rf [(7, 2), (7, 3), (7, 4), (10, 0), (11, 0), (12, 0), (13, 0), (14, 0), (15, 0), (16, 0), (17, 0)] h
  refine ev_aload_n rfl ?_
  refine ev_dup (by decide) ?_
  refine g_getv (r := 7) (v := w1) g ad7 (by decide) ft5_2 (ew1) ?_
  refine ev_iconst ?_
  refine ev_iadd (r := (w1 + 1)) (by unfold w32; omega) ?_
  refine g_putf (r := 7) g ad7 (by decide) ft5_2 (by decide) (fun e => absurd e nz5_2) rf7_2 (by decide) (by omega) (by omega) (fun h24253 e24253 g24253 => ?_)
  have k24253 := k0.wr e24253 rfl
  refine ev_aload_n rfl ?_
  refine ev_iload_n rfl ?_
  refine ev_call (jcall_v (A := [(0, 0)]) (S' := []) (r := 7) rfl (g24253.lt ad7) (g24253.tg ad7) (Nat.le_of_ble_eq_true rfl)) (jOk_le (by decide) (s72 g24253 (by omega) (by omega) (((jw_ne e24253 (Or.inr (by decide))).trans ew0)) (by omega) (by omega))) (by decide) (by decide) (fun w24254 h24254 q24254 => ?_)
  obtain ⟨v24255, rfl, g24254, kk24254, ev24255, p24254_0⟩ := q24254
  have bv24255 := g24254.rg ad7 (i := 1) (by decide) rf7_1
  rw [ev24255] at bv24255
  have k24254 := k24253.tr kk24254 (by decide)
  show jEv _ _ _ _ _ _ _ (_, [(2, 7), (2, 1), (0, 0), (0, a3), (9, 0), (9, 0), (9, 0)], [], _, _, _)
  refine ev_aload_n rfl ?_
  refine ev_iconst ?_
  refine ev_call (jcall_v (A := [(0, 1)]) (S' := []) (r := 7) rfl (g24254.lt ad7) (g24254.tg ad7) (Nat.le_of_ble_eq_true rfl)) (jOk_le (by decide) (s73 g24254 (by omega) (by omega) (ev24255) (by omega) (by omega))) (by decide) (by decide) (fun w24256 h24256 q24256 => ?_)
  obtain ⟨v24258, v24257, rfl, lv24258, uv24258, g24256, kk24256, ev24257, p24256_0, p24256_1⟩ := q24256
  have bv24257 := g24256.rg ad7 (i := 1) (by decide) rf7_1
  rw [ev24257] at bv24257
  have k24256 := k24254.tr kk24256 (by decide)
  show jEv _ _ _ _ _ _ _ (_, [(2, 7), (2, 1), (0, 0), (0, a3), (9, 0), (9, 0), (9, 0)], [(0, v24258)], _, _, _)
  refine ev_istore (L' := [(2, 7), (2, 1), (0, 0), (0, a3), (0, v24258), (9, 0), (9, 0)]) (Nat.le_of_ble_eq_true rfl) rfl ?_
  refine ev_iconst ?_
  refine ev_istore (L' := [(2, 7), (2, 1), (0, 0), (0, a3), (0, v24258), (0, 0), (9, 0)]) (Nat.le_of_ble_eq_true rfl) rfl ?_
  exact (s78_0_l la3 ua3 ew0 lw0 uw0 ew1 lw1 uw1 8) _ _ _ _ _ g24256 k24256 (by omega) (by omega) (by omega) (by omega) (by omega) (by omega) (by omega) (by omega) (ev24257) (by omega) (by omega) (by omega)
/-! s79_0  -/
set_option maxHeartbeats 4000000 in
theorem s79_0_l {G : GH} {h : JH} {a3 : Int} (la3 : (-2147483648) ≤ a3) (ua3 : a3 ≤ 2147483647) {w0 : Int} (ew0 : h.2.2 7 1 = w0) (lw0 : (-1) ≤ w0) (uw0 : w0 ≤ 200) {w1 : Int} (ew1 : h.2.2 7 2 = w1) (lw1 : 0 ≤ w1) (uw1 : w1 ≤ 199) : ∀ N : Nat, (∀ (h1 : JH) (x4 x5 x6 y0 : Int), Gd G h1 → Kp [(7, 2), (7, 3), (7, 4), (10, 0), (11, 0), (12, 0), (13, 0), (14, 0), (15, 0), (16, 0), (17, 0)] h h1 → (-2147483648) ≤ a3 → a3 ≤ 2147483647 → 0 ≤ x4 → x4 ≤ 3 → (-1) ≤ x5 → x5 ≤ 199 → 0 ≤ x6 → x6 ≤ 3 → (w0 + (-y0)) ≤ 0 → ((-x5) + (-y0)) ≤ 1 → h1.2.2 7 1 = y0 → (-1) ≤ y0 → y0 ≤ 200 → ((-x6) + 3) < N → jEv (jOk 27) none (fun _ => 0) c79_0 0 0 (fun v h' => ∃ r F : Int, v = some (0, r) ∧ (-1) ≤ r ∧ r ≤ 199 ∧ Gd G h' ∧ Kp [(7, 2), (7, 3), (7, 4), (10, 0), (11, 0), (12, 0), (13, 0), (14, 0), (15, 0), (16, 0), (17, 0)] h h' ∧ h'.2.2 7 1 = F ∧ ((-F) + w0) ≤ 0 ∧ ((-F) + (-r)) ≤ 1) (c79_68, [(2, 7), (2, 1), (0, 0), (0, a3), (0, x4), (0, x5), (0, x6)], [], h1, 0, 0)) := by
  intro N
  induction N with
  | zero => exact fun h1 x4 x5 x6 y0 g1 k1 b0 b1 b2 b3 b4 b5 b6 b7 b8 b9 b10 b11 b12 hm => absurd hm (by omega)
  | succ N ih =>
    show _
    intro h1 x4 x5 x6 y0 g1 k1 b0 b1 b2 b3 b4 b5 b6 b7 b8 b9 ey0 ly0 uy0 hm
    refine ev_iload rfl ?_
    refine ev_aload_n rfl ?_
    refine ev_iload rfl ?_
    refine ev_in (d := 26) (a := 0) (b := 0) (cd' := c141_0) (m := 2) (L0 := [(2, 1), (0, x4)]) (jcall_v (A := [(0, x4)]) (S' := [(0, x6)]) (r := 1) rfl (g1.lt ad1) (g1.tg ad1) (Nat.le_of_ble_eq_true rfl)) (by decide) ml141 pp141 (Nat.le_of_ble_eq_true rfl) rfl (by decide) (by decide) ?_
    refine ev_aload_n rfl ?_
    refine ev_iload_n rfl ?_
    refine ev_in (d := 25) (a := 0) (b := 0) (cd' := c140_0) (m := 2) (L0 := [(2, 1), (0, x4)]) (jcall_v (A := [(0, x4)]) (S' := []) (r := 1) rfl (g1.lt ad1) (g1.tg ad1) (Nat.le_of_ble_eq_true rfl)) (by decide) ml140 pp140 (Nat.le_of_ble_eq_true rfl) rfl (by decide) (by decide) ?_
    refine ev_iload_n rfl ?_
    refine ev_iflt f140_16 (fun c24518 => absurd c24518 (by omega)) (fun c24518 => ?_)
    refine ev_iload_n rfl ?_
    refine ev_aload_n rfl ?_
    obtain ⟨v24519, ev24519, lv24519, uv24519⟩ := g1.rd ad1 (show 0 < 8 by decide) rf1_0
    refine g_getv (r := 1) (v := v24519) g1 ad1 (by decide) ft10_0 ev24519 ?_
    refine ev_icmpge f140_16 (fun c24520 => ?_) (fun c24520 => ?_)
    · refine ev_iconst ?_
      refine ev_ret rfl (by decide) (by decide) ?_
      show jEv _ _ _ _ _ _ _ (_, [(2, 1), (0, x4)], [(0, 0)], _, _, _)
      refine ev_ifeq f141_17 (fun c24521 => ?_) (fun c24521 => absurd c24521 (by omega))
      refine ev_iconst ?_
      refine ev_ret rfl (by decide) (by decide) ?_
      show jEv _ _ _ _ _ _ _ (_, [(2, 7), (2, 1), (0, 0), (0, a3), (0, x4), (0, x5), (0, x6)], [(0, 0), (0, x6)], _, _, _)
      refine ev_icmpge f79_126 (fun c24522 => ?_) (fun c24522 => absurd c24522 (by omega))
      refine ev_aload_n rfl ?_
      refine ev_bipush ?_
      refine ev_call (jcall_v (A := [(0, 41)]) (S' := []) (r := 7) rfl (g1.lt ad7) (g1.tg ad7) (Nat.le_of_ble_eq_true rfl)) (jOk_le (by decide) (s71 g1 (by omega) (by omega) (ey0) (by omega) (by omega))) (by decide) (by decide) (fun w24523 h24523 q24523 => ?_)
      obtain ⟨v24524, rfl, g24523, kk24523, ev24524, p24523_0⟩ := q24523
      have bv24524 := g24523.rg ad7 (i := 1) (by decide) rf7_1
      rw [ev24524] at bv24524
      have k24523 := k1.tr kk24523 (by decide)
      show jEv _ _ _ _ _ _ _ (_, [(2, 7), (2, 1), (0, 0), (0, a3), (0, x4), (0, x5), (0, x6)], [], _, _, _)
      refine ev_aload_n rfl ?_
      refine g_getv (r := 7) (v := v24524) g24523 ad7 (by decide) ft5_1 (ev24524) ?_
      refine ev_ifge f79_144 (fun c24525 => ?_) (fun c24525 => ?_)
      · refine ev_iconst ?_
        exact ev_ret rfl (by decide) (by decide) ⟨_, _, rfl, by omega, by omega, g24523, k24523, (ev24524), by omega, by omega⟩
      · refine ev_iload rfl ?_
        refine ev_ifge f79_146 (fun c24526 => ?_) (fun c24526 => absurd c24526 (by omega))
        refine ev_aload_n rfl ?_
        refine g_getp (r := 7) (c := 11) g24523 ad7 (by decide) (by decide) rf7_8 ft5_8 ?_
        refine ev_iload rfl ?_
        refine ev_iload rfl ?_
        refine g_iast g24523 ad11 rt11 (fun _ => rfl) (by omega) (by omega) (by omega) (by omega) (fun h24527 e24527 g24527 => ?_)
        have k24527 := k24523.wr e24527 rfl
        refine ev_aload_n rfl ?_
        refine g_getp (r := 7) (c := 15) g24527 ad7 (by decide) (by decide) rf7_12 ft5_12 ?_
        refine ev_iload rfl ?_
        refine ev_dup2 (by decide) (by decide) ?_
        refine g_iald g24527 ad15 rt15 (by omega) (by omega) (fun v24528 ev24528 lv24528 uv24528 => ?_)
        refine ev_iconst ?_
        refine ev_iload rfl ?_
        refine g_ishlB (a' := 1) (a := 1) (b := 3) (hi := 8) (by omega) (by omega) (by omega) (by omega) (by decide) (by decide) (fun v24529 ev24529 lv24529 uv24529 => ?_)
        refine g_iorG (fun v24530 ev24530 lv24530 uv24530 => ?_)
        refine g_iast g24527 ad15 rt15 (fun _ => rfl) (by omega) (by omega) (by omega) (by omega) (fun h24531 e24531 g24531 => ?_)
        have k24531 := k24527.wr e24531 rfl
        refine ev_iload rfl ?_
        exact ev_ret rfl (by decide) (by decide) ⟨_, _, rfl, by omega, by omega, g24531, k24531, (((jw_ne e24531 (Or.inl (by decide))).trans ((jw_ne e24527 (Or.inl (by decide))).trans ev24524))), by omega, by omega⟩
    · refine ev_iconst ?_
      refine ev_goto f140_17 ?_
      refine ev_ret rfl (by decide) (by decide) ?_
      show jEv _ _ _ _ _ _ _ (_, [(2, 1), (0, x4)], [(0, 1)], _, _, _)
      refine ev_ifeq f141_17 (fun c24532 => absurd c24532 (by omega)) (fun c24532 => ?_)
      refine ev_aload_n rfl ?_
      refine g_getp (r := 1) (c := 2) g1 ad1 (by decide) (by decide) rf1_3 ft10_3 ?_
      refine ev_iload_n rfl ?_
      refine g_iald g1 ad2 rt2 (by omega) (by omega) (fun v24533 ev24533 lv24533 uv24533 => ?_)
      have xv24533 := (g1.ex.1.1 (x4 : Int).toNat (by rw [(ev24519)]; omega))
      rw [ev24533] at xv24533
      refine ev_goto f141_18 ?_
      refine ev_ret rfl (by decide) (by decide) ?_
      show jEv _ _ _ _ _ _ _ (_, [(2, 7), (2, 1), (0, 0), (0, a3), (0, x4), (0, x5), (0, x6)], [(0, v24533), (0, x6)], _, _, _)
      refine ev_icmpge f79_126 (fun c24534 => ?_) (fun c24534 => ?_)
      · refine ev_aload_n rfl ?_
        refine ev_bipush ?_
        refine ev_call (jcall_v (A := [(0, 41)]) (S' := []) (r := 7) rfl (g1.lt ad7) (g1.tg ad7) (Nat.le_of_ble_eq_true rfl)) (jOk_le (by decide) (s71 g1 (by omega) (by omega) (ey0) (by omega) (by omega))) (by decide) (by decide) (fun w24535 h24535 q24535 => ?_)
        obtain ⟨v24536, rfl, g24535, kk24535, ev24536, p24535_0⟩ := q24535
        have bv24536 := g24535.rg ad7 (i := 1) (by decide) rf7_1
        rw [ev24536] at bv24536
        have k24535 := k1.tr kk24535 (by decide)
        show jEv _ _ _ _ _ _ _ (_, [(2, 7), (2, 1), (0, 0), (0, a3), (0, x4), (0, x5), (0, x6)], [], _, _, _)
        refine ev_aload_n rfl ?_
        refine g_getv (r := 7) (v := v24536) g24535 ad7 (by decide) ft5_1 (ev24536) ?_
        refine ev_ifge f79_144 (fun c24537 => ?_) (fun c24537 => ?_)
        · refine ev_iconst ?_
          exact ev_ret rfl (by decide) (by decide) ⟨_, _, rfl, by omega, by omega, g24535, k24535, (ev24536), by omega, by omega⟩
        · refine ev_iload rfl ?_
          refine ev_ifge f79_146 (fun c24538 => ?_) (fun c24538 => absurd c24538 (by omega))
          refine ev_aload_n rfl ?_
          refine g_getp (r := 7) (c := 11) g24535 ad7 (by decide) (by decide) rf7_8 ft5_8 ?_
          refine ev_iload rfl ?_
          refine ev_iload rfl ?_
          refine g_iast g24535 ad11 rt11 (fun _ => rfl) (by omega) (by omega) (by omega) (by omega) (fun h24539 e24539 g24539 => ?_)
          have k24539 := k24535.wr e24539 rfl
          refine ev_aload_n rfl ?_
          refine g_getp (r := 7) (c := 15) g24539 ad7 (by decide) (by decide) rf7_12 ft5_12 ?_
          refine ev_iload rfl ?_
          refine ev_dup2 (by decide) (by decide) ?_
          refine g_iald g24539 ad15 rt15 (by omega) (by omega) (fun v24540 ev24540 lv24540 uv24540 => ?_)
          refine ev_iconst ?_
          refine ev_iload rfl ?_
          refine g_ishlB (a' := 1) (a := 1) (b := 3) (hi := 8) (by omega) (by omega) (by omega) (by omega) (by decide) (by decide) (fun v24541 ev24541 lv24541 uv24541 => ?_)
          refine g_iorG (fun v24542 ev24542 lv24542 uv24542 => ?_)
          refine g_iast g24539 ad15 rt15 (fun _ => rfl) (by omega) (by omega) (by omega) (by omega) (fun h24543 e24543 g24543 => ?_)
          have k24543 := k24539.wr e24543 rfl
          refine ev_iload rfl ?_
          exact ev_ret rfl (by decide) (by decide) ⟨_, _, rfl, by omega, by omega, g24543, k24543, (((jw_ne e24543 (Or.inl (by decide))).trans ((jw_ne e24539 (Or.inl (by decide))).trans ev24536))), by omega, by omega⟩
      · refine ev_aload_n rfl ?_
        refine g_getv (r := 7) (v := y0) g1 ad7 (by decide) ft5_1 (ey0) ?_
        refine ev_ifge f79_126 (fun c24544 => ?_) (fun c24544 => ?_)
        · refine ev_aload_n rfl ?_
          refine ev_bipush ?_
          refine ev_call (jcall_v (A := [(0, 41)]) (S' := []) (r := 7) rfl (g1.lt ad7) (g1.tg ad7) (Nat.le_of_ble_eq_true rfl)) (jOk_le (by decide) (s71 g1 (by omega) (by omega) (ey0) (by omega) (by omega))) (by decide) (by decide) (fun w24545 h24545 q24545 => ?_)
          obtain ⟨v24546, rfl, g24545, kk24545, ev24546, p24545_0⟩ := q24545
          have bv24546 := g24545.rg ad7 (i := 1) (by decide) rf7_1
          rw [ev24546] at bv24546
          have k24545 := k1.tr kk24545 (by decide)
          show jEv _ _ _ _ _ _ _ (_, [(2, 7), (2, 1), (0, 0), (0, a3), (0, x4), (0, x5), (0, x6)], [], _, _, _)
          refine ev_aload_n rfl ?_
          refine g_getv (r := 7) (v := v24546) g24545 ad7 (by decide) ft5_1 (ev24546) ?_
          refine ev_ifge f79_144 (fun c24547 => ?_) (fun c24547 => absurd c24547 (by omega))
          refine ev_iconst ?_
          exact ev_ret rfl (by decide) (by decide) ⟨_, _, rfl, by omega, by omega, g24545, k24545, (ev24546), by omega, by omega⟩
        · refine ev_iload rfl ?_
          refine ev_ifle f79_97 (fun c24548 => ?_) (fun c24548 => ?_)
          · refine ev_aload_n rfl ?_
            refine ev_iload rfl ?_
            refine ev_iload rfl ?_
            refine ev_iconst ?_
            refine ev_aload_n rfl ?_
            refine ev_aload_n rfl ?_
            refine ev_iload_n rfl ?_
            refine ev_iconst ?_
            refine ev_iadd (r := 1) (by decide) ?_
            refine ev_iload_n rfl ?_
            refine ev_iconst ?_
            refine ev_iload rfl ?_
            refine g_ishlB (a' := 1) (a := 1) (b := 3) (hi := 8) (by omega) (by omega) (by omega) (by omega) (by decide) (by decide) (fun v24549 ev24549 lv24549 uv24549 => ?_)
            refine g_iorG (fun v24550 ev24550 lv24550 uv24550 => ?_)
            refine ev_call (jcall_v (A := [(0, v24550), (0, 1), (2, 1)]) (S' := [(0, 0), (0, x6), (0, x5), (2, 7)]) (r := 7) rfl (g1.lt ad7) (g1.tg ad7) (Nat.le_of_ble_eq_true rfl)) (jOk_le (by decide) (s74_1 g1 (by omega) (by omega) (ey0) (by omega) (by omega))) (by decide) (by decide) (fun w24551 h24551 q24551 => ?_)
            obtain ⟨v24553, v24552, rfl, lv24553, uv24553, g24551, kk24551, ev24552, p24551_0, p24551_1⟩ := q24551
            have bv24552 := g24551.rg ad7 (i := 1) (by decide) rf7_1
            rw [ev24552] at bv24552
            have k24551 := k1.tr kk24551 (by decide)
            show jEv _ _ _ _ _ _ _ (_, [(2, 7), (2, 1), (0, 0), (0, a3), (0, x4), (0, x5), (0, x6)], [(0, v24553), (0, 0), (0, x6), (0, x5), (2, 7)], _, _, _)
            refine ev_call (jcall_v (A := [(0, v24553), (0, 0), (0, x6), (0, x5)]) (S' := []) (r := 7) rfl (g24551.lt ad7) (g24551.tg ad7) (Nat.le_of_ble_eq_true rfl)) (jOk_le (by decide) (s80 g24551 (by omega) (by omega) (by omega) (by omega) (by omega) (by omega) (by omega) (by omega))) (by decide) (by decide) (fun w24554 h24554 q24554 => ?_)
            obtain ⟨rfl, g24554, kk24554⟩ := q24554
            have k24554 := k24551.tr kk24554 (by decide)
            show jEv _ _ _ _ _ _ _ (_, [(2, 7), (2, 1), (0, 0), (0, a3), (0, x4), (0, x5), (0, x6)], [], _, _, _)
            refine ev_iinc (w := (x6 + 1)) (L' := [(2, 7), (2, 1), (0, 0), (0, a3), (0, x4), (0, x5), (0, (x6 + 1))]) rfl (by unfold w32; omega) rfl ?_
            refine ev_goto f79_68 ?_
            exact ih _ _ _ _ _ g24554 k24554 (by omega) (by omega) (by omega) (by omega) (by omega) (by omega) (by omega) (by omega) (by omega) (by omega) (((kk24554.v (by decide)).trans ev24552)) (by omega) (by omega) (by omega)
          · refine ev_aload_n rfl ?_
            refine ev_bipush ?_
            refine ev_call (jcall_v (A := [(0, 44)]) (S' := []) (r := 7) rfl (g1.lt ad7) (g1.tg ad7) (Nat.le_of_ble_eq_true rfl)) (jOk_le (by decide) (s71 g1 (by omega) (by omega) (ey0) (by omega) (by omega))) (by decide) (by decide) (fun w24555 h24555 q24555 => ?_)
            obtain ⟨v24556, rfl, g24555, kk24555, ev24556, p24555_0⟩ := q24555
            have bv24556 := g24555.rg ad7 (i := 1) (by decide) rf7_1
            rw [ev24556] at bv24556
            have k24555 := k1.tr kk24555 (by decide)
            show jEv _ _ _ _ _ _ _ (_, [(2, 7), (2, 1), (0, 0), (0, a3), (0, x4), (0, x5), (0, x6)], [], _, _, _)
            refine ev_aload_n rfl ?_
            refine ev_iload rfl ?_
            refine ev_iload rfl ?_
            refine ev_iconst ?_
            refine ev_aload_n rfl ?_
            refine ev_aload_n rfl ?_
            refine ev_iload_n rfl ?_
            refine ev_iconst ?_
            refine ev_iadd (r := 1) (by decide) ?_
            refine ev_iload_n rfl ?_
            refine ev_iconst ?_
            refine ev_iload rfl ?_
            refine g_ishlB (a' := 1) (a := 1) (b := 3) (hi := 8) (by omega) (by omega) (by omega) (by omega) (by decide) (by decide) (fun v24557 ev24557 lv24557 uv24557 => ?_)
            refine g_iorG (fun v24558 ev24558 lv24558 uv24558 => ?_)
            refine ev_call (jcall_v (A := [(0, v24558), (0, 1), (2, 1)]) (S' := [(0, 0), (0, x6), (0, x5), (2, 7)]) (r := 7) rfl (g24555.lt ad7) (g24555.tg ad7) (Nat.le_of_ble_eq_true rfl)) (jOk_le (by decide) (s74_1 g24555 (by omega) (by omega) (ev24556) (by omega) (by omega))) (by decide) (by decide) (fun w24559 h24559 q24559 => ?_)
            obtain ⟨v24561, v24560, rfl, lv24561, uv24561, g24559, kk24559, ev24560, p24559_0, p24559_1⟩ := q24559
            have bv24560 := g24559.rg ad7 (i := 1) (by decide) rf7_1
            rw [ev24560] at bv24560
            have k24559 := k24555.tr kk24559 (by decide)
            show jEv _ _ _ _ _ _ _ (_, [(2, 7), (2, 1), (0, 0), (0, a3), (0, x4), (0, x5), (0, x6)], [(0, v24561), (0, 0), (0, x6), (0, x5), (2, 7)], _, _, _)
            refine ev_call (jcall_v (A := [(0, v24561), (0, 0), (0, x6), (0, x5)]) (S' := []) (r := 7) rfl (g24559.lt ad7) (g24559.tg ad7) (Nat.le_of_ble_eq_true rfl)) (jOk_le (by decide) (s80 g24559 (by omega) (by omega) (by omega) (by omega) (by omega) (by omega) (by omega) (by omega))) (by decide) (by decide) (fun w24562 h24562 q24562 => ?_)
            obtain ⟨rfl, g24562, kk24562⟩ := q24562
            have k24562 := k24559.tr kk24562 (by decide)
            show jEv _ _ _ _ _ _ _ (_, [(2, 7), (2, 1), (0, 0), (0, a3), (0, x4), (0, x5), (0, x6)], [], _, _, _)
            refine ev_iinc (w := (x6 + 1)) (L' := [(2, 7), (2, 1), (0, 0), (0, a3), (0, x4), (0, x5), (0, (x6 + 1))]) rfl (by unfold w32; omega) rfl ?_
            refine ev_goto f79_68 ?_
            exact ih _ _ _ _ _ g24562 k24562 (by omega) (by omega) (by omega) (by omega) (by omega) (by omega) (by omega) (by omega) (by omega) (by omega) (((kk24562.v (by decide)).trans ev24560)) (by omega) (by omega) (by omega)
set_option maxHeartbeats 4000000 in
theorem s79_0 {G : GH} {h : JH} (g : Gd G h) {a3 : Int} (la3 : (-2147483648) ≤ a3) (ua3 : a3 ≤ 2147483647) {w0 : Int} (ew0 : h.2.2 7 1 = w0) (lw0 : (-1) ≤ w0) (uw0 : w0 ≤ 200) {w1 : Int} (ew1 : h.2.2 7 2 = w1) (lw1 : 0 ≤ w1) (uw1 : w1 ≤ 199) : jOk 28 0 0 79 [(2, 7), (2, 1), (0, 0), (0, a3)] h (fun v h' => ∃ r F : Int, v = some (0, r) ∧ (-1) ≤ r ∧ r ≤ 199 ∧ Gd G h' ∧ Kp [(7, 2), (7, 3), (7, 4), (10, 0), (11, 0), (12, 0), (13, 0), (14, 0), (15, 0), (16, 0), (17, 0)] h h' ∧ h'.2.2 7 1 = F ∧ ((-F) + w0) ≤ 0 ∧ ((-F) + (-r)) ≤ 1) := by
  refine ⟨by decide, by rw [ml79]; exact Nat.le_of_ble_eq_true rfl, ?_⟩
  rw [ml79, pp79]
  show jEv _ none _ c79_0 0 0 _ (c79_0, [(2, 7), (2, 1), (0, 0), (0, a3), (9, 0), (9, 0), (9, 0)], [], h, 0, 0)
  have k0 := Kp.rf [(7, 2), (7, 3), (7, 4), (10, 0), (11, 0), (12, 0), (13, 0), (14, 0), (15, 0), (16, 0), (17, 0)] h
  refine ev_aload_n rfl ?_
  refine ev_dup (by decide) ?_
  refine g_getv (r := 7) (v := w1) g ad7 (by decide) ft5_2 (ew1) ?_
  refine ev_iconst ?_
  refine ev_iadd (r := (w1 + 1)) (by unfold w32; omega) ?_
  refine g_putf (r := 7) g ad7 (by decide) ft5_2 (by decide) (fun e => absurd e nz5_2) rf7_2 (by decide) (by omega) (by omega) (fun h24563 e24563 g24563 => ?_)
  have k24563 := k0.wr e24563 rfl
  refine ev_aload_n rfl ?_
  refine ev_in (d := 26) (a := 0) (b := 0) (cd' := c68_0) (m := 1) (L0 := [(2, 7)]) (jcall_v (A := []) (S' := []) (r := 7) rfl (g24563.lt ad7) (g24563.tg ad7) (Nat.le_of_ble_eq_true rfl)) (by decide) ml68 pp68 (Nat.le_of_ble_eq_true rfl) rfl (by decide) (by decide) ?_
  refine ev_aload_n rfl ?_
  refine g_getv (r := 7) (v := (w1 + 1)) g24563 ad7 (by decide) ft5_2 ((jw_eq e24563)) ?_
  refine ev_aload_n rfl ?_
  obtain ⟨v24564, ev24564, lv24564, uv24564⟩ := g24563.rd ad7 (show 0 < 15 by decide) rf7_0
  refine g_getv (r := 7) (v := v24564) g24563 ad7 (by decide) ft5_0 ev24564 ?_
  refine ev_icmpge f68_27 (fun c24565 => ?_) (fun c24565 => ?_)
  · refine ev_iconst ?_
    refine ev_ret rfl (by decide) (by decide) ?_
    show jEv _ _ _ _ _ _ _ (_, [(2, 7), (2, 1), (0, 0), (0, a3), (9, 0), (9, 0), (9, 0)], [(0, (-1))], _, _, _)
    refine ev_bipush ?_
    refine ev_isub (r := (-98)) (by decide) ?_
    refine ev_istore (L' := [(2, 7), (2, 1), (0, 0), (0, a3), (0, (-98)), (9, 0), (9, 0)]) (Nat.le_of_ble_eq_true rfl) rfl ?_
    refine ev_aload_n rfl ?_
    refine ev_iload rfl ?_
    refine ev_in (d := 26) (a := 0) (b := 0) (cd' := c140_0) (m := 2) (L0 := [(2, 1), (0, (-98))]) (jcall_v (A := [(0, (-98))]) (S' := []) (r := 1) rfl (g24563.lt ad1) (g24563.tg ad1) (Nat.le_of_ble_eq_true rfl)) (by decide) ml140 pp140 (Nat.le_of_ble_eq_true rfl) rfl (by decide) (by decide) ?_
    refine ev_iload_n rfl ?_
    refine ev_iflt f140_16 (fun c24566 => ?_) (fun c24566 => absurd c24566 (by omega))
    refine ev_iconst ?_
    refine ev_ret rfl (by decide) (by decide) ?_
    show jEv _ _ _ _ _ _ _ (_, [(2, 7), (2, 1), (0, 0), (0, a3), (0, (-98)), (9, 0), (9, 0)], [(0, 0)], _, _, _)
    refine ev_ifeq f79_37 (fun c24567 => ?_) (fun c24567 => absurd c24567 (by omega))
    refine ev_aload_n rfl ?_
    refine ev_in (d := 26) (a := 0) (b := 0) (cd' := c70_0) (m := 1) (L0 := [(2, 7)]) (jcall_v (A := []) (S' := []) (r := 7) rfl (g24563.lt ad7) (g24563.tg ad7) (Nat.le_of_ble_eq_true rfl)) (by decide) ml70 pp70 (Nat.le_of_ble_eq_true rfl) rfl (by decide) (by decide) ?_
    refine ev_aload_n rfl ?_
    refine g_getv (r := 7) (v := w0) g24563 ad7 (by decide) ft5_1 (((jw_ne e24563 (Or.inr (by decide))).trans ew0)) ?_
    refine ev_ifge f70_15 (fun c24568 => ?_) (fun c24568 => ?_)
    · refine ev_ret rfl (by decide) (by decide) ?_
      show jEv _ _ _ _ _ _ _ (_, [(2, 7), (2, 1), (0, 0), (0, a3), (0, (-98)), (9, 0), (9, 0)], [], _, _, _)
      refine ev_iconst ?_
      exact ev_ret rfl (by decide) (by decide) ⟨_, _, rfl, by omega, by omega, g24563, k24563, (((jw_ne e24563 (Or.inr (by decide))).trans ew0)), by omega, by omega⟩
    · refine ev_aload_n rfl ?_
      refine ev_aload_n rfl ?_
      refine g_getv (r := 7) (v := (w1 + 1)) g24563 ad7 (by decide) ft5_2 ((jw_eq e24563)) ?_
      refine g_putf (r := 7) g24563 ad7 (by decide) ft5_1 (by decide) (fun e => absurd e nz5_1) rf7_1 (by decide) (by omega) (by omega) (fun h24569 e24569 g24569 => ?_)
      have k24569 := k24563.wr e24569 rfl
      refine ev_ret rfl (by decide) (by decide) ?_
      show jEv _ _ _ _ _ _ _ (_, [(2, 7), (2, 1), (0, 0), (0, a3), (0, (-98)), (9, 0), (9, 0)], [], _, _, _)
      refine ev_iconst ?_
      exact ev_ret rfl (by decide) (by decide) ⟨_, _, rfl, by omega, by omega, g24569, k24569, ((jw_eq e24569)), by omega, by omega⟩
  · refine ev_aload_n rfl ?_
    refine g_getp (r := 7) (c := 8) g24563 ad7 (by decide) (by decide) rf7_5 ft5_5 ?_
    refine ev_aload_n rfl ?_
    refine g_getv (r := 7) (v := (w1 + 1)) g24563 ad7 (by decide) ft5_2 ((jw_eq e24563)) ?_
    refine g_bald g24563 ad8 rt8 (by omega) (by omega) (fun v24570 ev24570 lv24570 uv24570 => ?_)
    refine ev_sipush ?_
    refine g_iandB (b := 255) (by omega) (by omega) (by decide) (fun v24571 ev24571 lv24571 uv24571 => ?_)
    refine ev_goto f68_28 ?_
    refine ev_ret rfl (by decide) (by decide) ?_
    show jEv _ _ _ _ _ _ _ (_, [(2, 7), (2, 1), (0, 0), (0, a3), (9, 0), (9, 0), (9, 0)], [(0, v24571)], _, _, _)
    refine ev_bipush ?_
    refine ev_isub (r := (v24571 - 97)) (by unfold w32; omega) ?_
    refine ev_istore (L' := [(2, 7), (2, 1), (0, 0), (0, a3), (0, (v24571 - 97)), (9, 0), (9, 0)]) (Nat.le_of_ble_eq_true rfl) rfl ?_
    refine ev_aload_n rfl ?_
    refine ev_iload rfl ?_
    refine ev_in (d := 26) (a := 0) (b := 0) (cd' := c140_0) (m := 2) (L0 := [(2, 1), (0, (v24571 - 97))]) (jcall_v (A := [(0, (v24571 - 97))]) (S' := []) (r := 1) rfl (g24563.lt ad1) (g24563.tg ad1) (Nat.le_of_ble_eq_true rfl)) (by decide) ml140 pp140 (Nat.le_of_ble_eq_true rfl) rfl (by decide) (by decide) ?_
    refine ev_iload_n rfl ?_
    refine ev_iflt f140_16 (fun c24572 => ?_) (fun c24572 => ?_)
    · refine ev_iconst ?_
      refine ev_ret rfl (by decide) (by decide) ?_
      show jEv _ _ _ _ _ _ _ (_, [(2, 7), (2, 1), (0, 0), (0, a3), (0, (v24571 - 97)), (9, 0), (9, 0)], [(0, 0)], _, _, _)
      refine ev_ifeq f79_37 (fun c24573 => ?_) (fun c24573 => absurd c24573 (by omega))
      refine ev_aload_n rfl ?_
      refine ev_in (d := 26) (a := 0) (b := 0) (cd' := c70_0) (m := 1) (L0 := [(2, 7)]) (jcall_v (A := []) (S' := []) (r := 7) rfl (g24563.lt ad7) (g24563.tg ad7) (Nat.le_of_ble_eq_true rfl)) (by decide) ml70 pp70 (Nat.le_of_ble_eq_true rfl) rfl (by decide) (by decide) ?_
      refine ev_aload_n rfl ?_
      refine g_getv (r := 7) (v := w0) g24563 ad7 (by decide) ft5_1 (((jw_ne e24563 (Or.inr (by decide))).trans ew0)) ?_
      refine ev_ifge f70_15 (fun c24574 => ?_) (fun c24574 => ?_)
      · refine ev_ret rfl (by decide) (by decide) ?_
        show jEv _ _ _ _ _ _ _ (_, [(2, 7), (2, 1), (0, 0), (0, a3), (0, (v24571 - 97)), (9, 0), (9, 0)], [], _, _, _)
        refine ev_iconst ?_
        exact ev_ret rfl (by decide) (by decide) ⟨_, _, rfl, by omega, by omega, g24563, k24563, (((jw_ne e24563 (Or.inr (by decide))).trans ew0)), by omega, by omega⟩
      · refine ev_aload_n rfl ?_
        refine ev_aload_n rfl ?_
        refine g_getv (r := 7) (v := (w1 + 1)) g24563 ad7 (by decide) ft5_2 ((jw_eq e24563)) ?_
        refine g_putf (r := 7) g24563 ad7 (by decide) ft5_1 (by decide) (fun e => absurd e nz5_1) rf7_1 (by decide) (by omega) (by omega) (fun h24575 e24575 g24575 => ?_)
        have k24575 := k24563.wr e24575 rfl
        refine ev_ret rfl (by decide) (by decide) ?_
        show jEv _ _ _ _ _ _ _ (_, [(2, 7), (2, 1), (0, 0), (0, a3), (0, (v24571 - 97)), (9, 0), (9, 0)], [], _, _, _)
        refine ev_iconst ?_
        exact ev_ret rfl (by decide) (by decide) ⟨_, _, rfl, by omega, by omega, g24575, k24575, ((jw_eq e24575)), by omega, by omega⟩
    · refine ev_iload_n rfl ?_
      refine ev_aload_n rfl ?_
      obtain ⟨v24576, ev24576, lv24576, uv24576⟩ := g24563.rd ad1 (show 0 < 8 by decide) rf1_0
      refine g_getv (r := 1) (v := v24576) g24563 ad1 (by decide) ft10_0 ev24576 ?_
      refine ev_icmpge f140_16 (fun c24577 => ?_) (fun c24577 => ?_)
      · refine ev_iconst ?_
        refine ev_ret rfl (by decide) (by decide) ?_
        show jEv _ _ _ _ _ _ _ (_, [(2, 7), (2, 1), (0, 0), (0, a3), (0, (v24571 - 97)), (9, 0), (9, 0)], [(0, 0)], _, _, _)
        refine ev_ifeq f79_37 (fun c24578 => ?_) (fun c24578 => absurd c24578 (by omega))
        refine ev_aload_n rfl ?_
        refine ev_in (d := 26) (a := 0) (b := 0) (cd' := c70_0) (m := 1) (L0 := [(2, 7)]) (jcall_v (A := []) (S' := []) (r := 7) rfl (g24563.lt ad7) (g24563.tg ad7) (Nat.le_of_ble_eq_true rfl)) (by decide) ml70 pp70 (Nat.le_of_ble_eq_true rfl) rfl (by decide) (by decide) ?_
        refine ev_aload_n rfl ?_
        refine g_getv (r := 7) (v := w0) g24563 ad7 (by decide) ft5_1 (((jw_ne e24563 (Or.inr (by decide))).trans ew0)) ?_
        refine ev_ifge f70_15 (fun c24579 => ?_) (fun c24579 => ?_)
        · refine ev_ret rfl (by decide) (by decide) ?_
          show jEv _ _ _ _ _ _ _ (_, [(2, 7), (2, 1), (0, 0), (0, a3), (0, (v24571 - 97)), (9, 0), (9, 0)], [], _, _, _)
          refine ev_iconst ?_
          exact ev_ret rfl (by decide) (by decide) ⟨_, _, rfl, by omega, by omega, g24563, k24563, (((jw_ne e24563 (Or.inr (by decide))).trans ew0)), by omega, by omega⟩
        · refine ev_aload_n rfl ?_
          refine ev_aload_n rfl ?_
          refine g_getv (r := 7) (v := (w1 + 1)) g24563 ad7 (by decide) ft5_2 ((jw_eq e24563)) ?_
          refine g_putf (r := 7) g24563 ad7 (by decide) ft5_1 (by decide) (fun e => absurd e nz5_1) rf7_1 (by decide) (by omega) (by omega) (fun h24580 e24580 g24580 => ?_)
          have k24580 := k24563.wr e24580 rfl
          refine ev_ret rfl (by decide) (by decide) ?_
          show jEv _ _ _ _ _ _ _ (_, [(2, 7), (2, 1), (0, 0), (0, a3), (0, (v24571 - 97)), (9, 0), (9, 0)], [], _, _, _)
          refine ev_iconst ?_
          exact ev_ret rfl (by decide) (by decide) ⟨_, _, rfl, by omega, by omega, g24580, k24580, ((jw_eq e24580)), by omega, by omega⟩
      · refine ev_iconst ?_
        refine ev_goto f140_17 ?_
        refine ev_ret rfl (by decide) (by decide) ?_
        show jEv _ _ _ _ _ _ _ (_, [(2, 7), (2, 1), (0, 0), (0, a3), (0, (v24571 - 97)), (9, 0), (9, 0)], [(0, 1)], _, _, _)
        refine ev_ifeq f79_37 (fun c24581 => absurd c24581 (by omega)) (fun c24581 => ?_)
        refine ev_iload_n rfl ?_
        refine ev_iload rfl ?_
        refine g_ishrG (fun v24582 ev24582 lv24582 uv24582 => ?_)
        refine ev_iconst ?_
        refine g_iandB (b := 1) (by omega) (by omega) (by decide) (fun v24583 ev24583 lv24583 uv24583 => ?_)
        refine ev_ifeq f79_43 (fun c24584 => ?_) (fun c24584 => ?_)
        · refine ev_aload_n rfl ?_
          refine ev_dup (by decide) ?_
          refine g_getv (r := 7) (v := (w1 + 1)) g24563 ad7 (by decide) ft5_2 ((jw_eq e24563)) ?_
          refine ev_iconst ?_
          refine ev_iadd (r := (w1 + 2)) (by unfold w32; omega) ?_
          refine g_putf (r := 7) g24563 ad7 (by decide) ft5_2 (by decide) (fun e => absurd e nz5_2) rf7_2 (by decide) (by omega) (by omega) (fun h24585 e24585 g24585 => ?_)
          have k24585 := k24563.wr e24585 rfl
          refine ev_aload_n rfl ?_
          refine ev_iload_n rfl ?_
          refine ev_call (jcall_v (A := [(0, 0)]) (S' := []) (r := 7) rfl (g24585.lt ad7) (g24585.tg ad7) (Nat.le_of_ble_eq_true rfl)) (jOk_le (by decide) (s72 g24585 (by omega) (by omega) (((jw_ne e24585 (Or.inr (by decide))).trans ((jw_ne e24563 (Or.inr (by decide))).trans ew0))) (by omega) (by omega))) (by decide) (by decide) (fun w24586 h24586 q24586 => ?_)
          obtain ⟨v24587, rfl, g24586, kk24586, ev24587, p24586_0⟩ := q24586
          have bv24587 := g24586.rg ad7 (i := 1) (by decide) rf7_1
          rw [ev24587] at bv24587
          have k24586 := k24585.tr kk24586 (by decide)
          show jEv _ _ _ _ _ _ _ (_, [(2, 7), (2, 1), (0, 0), (0, a3), (0, (v24571 - 97)), (9, 0), (9, 0)], [], _, _, _)
          refine ev_aload_n rfl ?_
          refine ev_iconst ?_
          refine ev_call (jcall_v (A := [(0, 2)]) (S' := []) (r := 7) rfl (g24586.lt ad7) (g24586.tg ad7) (Nat.le_of_ble_eq_true rfl)) (jOk_le (by decide) (s73 g24586 (by omega) (by omega) (ev24587) (by omega) (by omega))) (by decide) (by decide) (fun w24588 h24588 q24588 => ?_)
          obtain ⟨v24590, v24589, rfl, lv24590, uv24590, g24588, kk24588, ev24589, p24588_0, p24588_1⟩ := q24588
          have bv24589 := g24588.rg ad7 (i := 1) (by decide) rf7_1
          rw [ev24589] at bv24589
          have k24588 := k24586.tr kk24588 (by decide)
          show jEv _ _ _ _ _ _ _ (_, [(2, 7), (2, 1), (0, 0), (0, a3), (0, (v24571 - 97)), (9, 0), (9, 0)], [(0, v24590)], _, _, _)
          refine ev_istore (L' := [(2, 7), (2, 1), (0, 0), (0, a3), (0, (v24571 - 97)), (0, v24590), (9, 0)]) (Nat.le_of_ble_eq_true rfl) rfl ?_
          refine ev_iconst ?_
          refine ev_istore (L' := [(2, 7), (2, 1), (0, 0), (0, a3), (0, (v24571 - 97)), (0, v24590), (0, 0)]) (Nat.le_of_ble_eq_true rfl) rfl ?_
          exact (s79_0_l la3 ua3 ew0 lw0 uw0 ew1 lw1 uw1 8) _ _ _ _ _ g24588 k24588 (by omega) (by omega) (by omega) (by omega) (by omega) (by omega) (by omega) (by omega) (by omega) (by omega) (ev24589) (by omega) (by omega) (by omega)
        · refine ev_aload_n rfl ?_
          refine ev_in (d := 26) (a := 0) (b := 0) (cd' := c70_0) (m := 1) (L0 := [(2, 7)]) (jcall_v (A := []) (S' := []) (r := 7) rfl (g24563.lt ad7) (g24563.tg ad7) (Nat.le_of_ble_eq_true rfl)) (by decide) ml70 pp70 (Nat.le_of_ble_eq_true rfl) rfl (by decide) (by decide) ?_
          refine ev_aload_n rfl ?_
          refine g_getv (r := 7) (v := w0) g24563 ad7 (by decide) ft5_1 (((jw_ne e24563 (Or.inr (by decide))).trans ew0)) ?_
          refine ev_ifge f70_15 (fun c24591 => ?_) (fun c24591 => ?_)
          · refine ev_ret rfl (by decide) (by decide) ?_
            show jEv _ _ _ _ _ _ _ (_, [(2, 7), (2, 1), (0, 0), (0, a3), (0, (v24571 - 97)), (9, 0), (9, 0)], [], _, _, _)
            refine ev_iconst ?_
            exact ev_ret rfl (by decide) (by decide) ⟨_, _, rfl, by omega, by omega, g24563, k24563, (((jw_ne e24563 (Or.inr (by decide))).trans ew0)), by omega, by omega⟩
          · refine ev_aload_n rfl ?_
            refine ev_aload_n rfl ?_
            refine g_getv (r := 7) (v := (w1 + 1)) g24563 ad7 (by decide) ft5_2 ((jw_eq e24563)) ?_
            refine g_putf (r := 7) g24563 ad7 (by decide) ft5_1 (by decide) (fun e => absurd e nz5_1) rf7_1 (by decide) (by omega) (by omega) (fun h24592 e24592 g24592 => ?_)
            have k24592 := k24563.wr e24592 rfl
            refine ev_ret rfl (by decide) (by decide) ?_
            show jEv _ _ _ _ _ _ _ (_, [(2, 7), (2, 1), (0, 0), (0, a3), (0, (v24571 - 97)), (9, 0), (9, 0)], [], _, _, _)
            refine ev_iconst ?_
            exact ev_ret rfl (by decide) (by decide) ⟨_, _, rfl, by omega, by omega, g24592, k24592, ((jw_eq e24592)), by omega, by omega⟩
/-! s74_0  -/
set_option maxHeartbeats 4000000 in
theorem s74_0 {G : GH} {h : JH} (g : Gd G h) {a3 : Int} (la3 : (-2147483648) ≤ a3) (ua3 : a3 ≤ 2147483647) {w0 : Int} (ew0 : h.2.2 7 1 = w0) (lw0 : (-1) ≤ w0) (uw0 : w0 ≤ 200) : jOk 29 0 0 74 [(2, 7), (2, 1), (0, 0), (0, a3)] h (fun v h' => ∃ r F : Int, v = some (0, r) ∧ (-1) ≤ r ∧ r ≤ 199 ∧ Gd G h' ∧ Kp [(7, 2), (7, 3), (7, 4), (10, 0), (11, 0), (12, 0), (13, 0), (14, 0), (15, 0), (16, 0), (17, 0)] h h' ∧ h'.2.2 7 1 = F ∧ ((-F) + w0) ≤ 0 ∧ ((-F) + (-r)) ≤ 1) := by
  refine ⟨by decide, by rw [ml74]; exact Nat.le_of_ble_eq_true rfl, ?_⟩
  rw [ml74, pp74]
  show jEv _ none _ c74_0 0 0 _ (c74_0, [(2, 7), (2, 1), (0, 0), (0, a3), (9, 0)], [], h, 0, 0)
  have k0 := Kp.rf [(7, 2), (7, 3), (7, 4), (10, 0), (11, 0), (12, 0), (13, 0), (14, 0), (15, 0), (16, 0), (17, 0)] h
  refine ev_aload_n rfl ?_
  refine g_getv (r := 7) (v := w0) g ad7 (by decide) ft5_1 (ew0) ?_
  refine ev_ifge f74_13 (fun c24659 => ?_) (fun c24659 => ?_)
  · refine ev_aload_n rfl ?_
    refine ev_in (d := 27) (a := 0) (b := 0) (cd' := c70_0) (m := 1) (L0 := [(2, 7)]) (jcall_v (A := []) (S' := []) (r := 7) rfl (g.lt ad7) (g.tg ad7) (Nat.le_of_ble_eq_true rfl)) (by decide) ml70 pp70 (Nat.le_of_ble_eq_true rfl) rfl (by decide) (by decide) ?_
    refine ev_aload_n rfl ?_
    refine g_getv (r := 7) (v := w0) g ad7 (by decide) ft5_1 (ew0) ?_
    refine ev_ifge f70_15 (fun c24660 => ?_) (fun c24660 => absurd c24660 (by omega))
    refine ev_ret rfl (by decide) (by decide) ?_
    show jEv _ _ _ _ _ _ _ (_, [(2, 7), (2, 1), (0, 0), (0, a3), (9, 0)], [], _, _, _)
    refine ev_iconst ?_
    exact ev_ret rfl (by decide) (by decide) ⟨_, _, rfl, by omega, by omega, g, k0, (ew0), by omega, by omega⟩
  · refine ev_iload_n rfl ?_
    refine ev_bipush ?_
    refine ev_icmple f74_19 (fun c24661 => ?_) (fun c24661 => absurd c24661 (by omega))
    refine ev_aload_n rfl ?_
    refine ev_in (d := 27) (a := 0) (b := 0) (cd' := c68_0) (m := 1) (L0 := [(2, 7)]) (jcall_v (A := []) (S' := []) (r := 7) rfl (g.lt ad7) (g.tg ad7) (Nat.le_of_ble_eq_true rfl)) (by decide) ml68 pp68 (Nat.le_of_ble_eq_true rfl) rfl (by decide) (by decide) ?_
    refine ev_aload_n rfl ?_
    obtain ⟨v24662, ev24662, lv24662, uv24662⟩ := g.rd ad7 (show 2 < 15 by decide) rf7_2
    refine g_getv (r := 7) (v := v24662) g ad7 (by decide) ft5_2 ev24662 ?_
    refine ev_aload_n rfl ?_
    obtain ⟨v24663, ev24663, lv24663, uv24663⟩ := g.rd ad7 (show 0 < 15 by decide) rf7_0
    refine g_getv (r := 7) (v := v24663) g ad7 (by decide) ft5_0 ev24663 ?_
    refine ev_icmpge f68_27 (fun c24664 => ?_) (fun c24664 => ?_)
    · refine ev_iconst ?_
      refine ev_ret rfl (by decide) (by decide) ?_
      show jEv _ _ _ _ _ _ _ (_, [(2, 7), (2, 1), (0, 0), (0, a3), (9, 0)], [(0, (-1))], _, _, _)
      refine ev_istore (L' := [(2, 7), (2, 1), (0, 0), (0, a3), (0, (-1))]) (Nat.le_of_ble_eq_true rfl) rfl ?_
      refine ev_iload rfl ?_
      refine ev_bipush ?_
      refine ev_icmpne f74_40 (fun c24665 => ?_) (fun c24665 => absurd c24665 (by omega))
      refine ev_iload rfl ?_
      refine ev_bipush ?_
      refine ev_icmpne f74_55 (fun c24666 => ?_) (fun c24666 => absurd c24666 (by omega))
      refine ev_iload rfl ?_
      refine ev_bipush ?_
      refine ev_icmplt f74_78 (fun c24667 => ?_) (fun c24667 => absurd c24667 (by omega))
      refine ev_aload_n rfl ?_
      refine ev_call (jcall_v (A := []) (S' := []) (r := 7) rfl (g.lt ad7) (g.tg ad7) (Nat.le_of_ble_eq_true rfl)) (jOk_le (by decide) (s75 g (ew0) (by omega) (by omega))) (by decide) (by decide) (fun w24668 h24668 q24668 => ?_)
      obtain ⟨v24670, v24669, rfl, lv24670, uv24670, g24668, kk24668, ev24669, p24668_0, p24668_1⟩ := q24668
      have bv24669 := g24668.rg ad7 (i := 1) (by decide) rf7_1
      rw [ev24669] at bv24669
      have k24668 := k0.tr kk24668 (by decide)
      show jEv _ _ _ _ _ _ _ (_, [(2, 7), (2, 1), (0, 0), (0, a3), (0, (-1))], [(0, v24670)], _, _, _)
      exact ev_ret rfl (by decide) (by decide) ⟨_, _, rfl, by omega, by omega, g24668, k24668, (ev24669), by omega, by omega⟩
    · refine ev_aload_n rfl ?_
      refine g_getp (r := 7) (c := 8) g ad7 (by decide) (by decide) rf7_5 ft5_5 ?_
      refine ev_aload_n rfl ?_
      refine g_getv (r := 7) (v := v24662) g ad7 (by decide) ft5_2 (ev24662) ?_
      refine g_bald g ad8 rt8 (by omega) (by omega) (fun v24671 ev24671 lv24671 uv24671 => ?_)
      refine ev_sipush ?_
      refine g_iandB (b := 255) (by omega) (by omega) (by decide) (fun v24672 ev24672 lv24672 uv24672 => ?_)
      refine ev_goto f68_28 ?_
      refine ev_ret rfl (by decide) (by decide) ?_
      show jEv _ _ _ _ _ _ _ (_, [(2, 7), (2, 1), (0, 0), (0, a3), (9, 0)], [(0, v24672)], _, _, _)
      refine ev_istore (L' := [(2, 7), (2, 1), (0, 0), (0, a3), (0, v24672)]) (Nat.le_of_ble_eq_true rfl) rfl ?_
      refine ev_iload rfl ?_
      refine ev_bipush ?_
      refine ev_icmpne f74_40 (fun c24673 => ?_) (fun c24673 => ?_)
      · refine ev_iload rfl ?_
        refine ev_bipush ?_
        refine ev_icmpne f74_55 (fun c24674 => ?_) (fun c24674 => ?_)
        · refine ev_iload rfl ?_
          refine ev_bipush ?_
          refine ev_icmplt f74_78 (fun c24675 => ?_) (fun c24675 => ?_)
          · refine ev_aload_n rfl ?_
            refine ev_call (jcall_v (A := []) (S' := []) (r := 7) rfl (g.lt ad7) (g.tg ad7) (Nat.le_of_ble_eq_true rfl)) (jOk_le (by decide) (s75 g (ew0) (by omega) (by omega))) (by decide) (by decide) (fun w24676 h24676 q24676 => ?_)
            obtain ⟨v24678, v24677, rfl, lv24678, uv24678, g24676, kk24676, ev24677, p24676_0, p24676_1⟩ := q24676
            have bv24677 := g24676.rg ad7 (i := 1) (by decide) rf7_1
            rw [ev24677] at bv24677
            have k24676 := k0.tr kk24676 (by decide)
            show jEv _ _ _ _ _ _ _ (_, [(2, 7), (2, 1), (0, 0), (0, a3), (0, v24672)], [(0, v24678)], _, _, _)
            exact ev_ret rfl (by decide) (by decide) ⟨_, _, rfl, by omega, by omega, g24676, k24676, (ev24677), by omega, by omega⟩
          · refine ev_iload rfl ?_
            refine ev_bipush ?_
            refine ev_icmpge f74_78 (fun c24679 => ?_) (fun c24679 => ?_)
            · refine ev_aload_n rfl ?_
              refine ev_call (jcall_v (A := []) (S' := []) (r := 7) rfl (g.lt ad7) (g.tg ad7) (Nat.le_of_ble_eq_true rfl)) (jOk_le (by decide) (s75 g (ew0) (by omega) (by omega))) (by decide) (by decide) (fun w24680 h24680 q24680 => ?_)
              obtain ⟨v24682, v24681, rfl, lv24682, uv24682, g24680, kk24680, ev24681, p24680_0, p24680_1⟩ := q24680
              have bv24681 := g24680.rg ad7 (i := 1) (by decide) rf7_1
              rw [ev24681] at bv24681
              have k24680 := k0.tr kk24680 (by decide)
              show jEv _ _ _ _ _ _ _ (_, [(2, 7), (2, 1), (0, 0), (0, a3), (0, v24672)], [(0, v24682)], _, _, _)
              exact ev_ret rfl (by decide) (by decide) ⟨_, _, rfl, by omega, by omega, g24680, k24680, (ev24681), by omega, by omega⟩
            · refine ev_aload_n rfl ?_
              refine ev_iload_n rfl ?_
              refine ev_iload_n rfl ?_
              refine ev_call (jcall_v (A := [(0, a3), (0, 0)]) (S' := []) (r := 7) rfl (g.lt ad7) (g.tg ad7) (Nat.le_of_ble_eq_true rfl)) (jOk_le (by decide) (s77 g (by omega) (by omega) (by omega) (by omega) (ew0) (by omega) (by omega))) (by decide) (by decide) (fun w24683 h24683 q24683 => ?_)
              obtain ⟨v24685, v24684, rfl, lv24685, uv24685, g24683, kk24683, ev24684, p24683_0, p24683_1⟩ := q24683
              have bv24684 := g24683.rg ad7 (i := 1) (by decide) rf7_1
              rw [ev24684] at bv24684
              have k24683 := k0.tr kk24683 (by decide)
              show jEv _ _ _ _ _ _ _ (_, [(2, 7), (2, 1), (0, 0), (0, a3), (0, v24672)], [(0, v24685)], _, _, _)
              refine ev_goto f74_82 ?_
              exact ev_ret rfl (by decide) (by decide) ⟨_, _, rfl, by omega, by omega, g24683, k24683, (ev24684), by omega, by omega⟩
        · refine ev_aload_n rfl ?_
          refine ev_aload_n rfl ?_
          refine ev_iload_n rfl ?_
          refine ev_iload_n rfl ?_
          refine ev_call (jcall_v (A := [(0, a3), (0, 0), (2, 1)]) (S' := []) (r := 7) rfl (g.lt ad7) (g.tg ad7) (Nat.le_of_ble_eq_true rfl)) (jOk_le (by decide) (s79_0 g (by omega) (by omega) (ew0) (by omega) (by omega) (ev24662) (by omega) (by omega))) (by decide) (by decide) (fun w24686 h24686 q24686 => ?_)
          obtain ⟨v24688, v24687, rfl, lv24688, uv24688, g24686, kk24686, ev24687, p24686_0, p24686_1⟩ := q24686
          have bv24687 := g24686.rg ad7 (i := 1) (by decide) rf7_1
          rw [ev24687] at bv24687
          have k24686 := k0.tr kk24686 (by decide)
          show jEv _ _ _ _ _ _ _ (_, [(2, 7), (2, 1), (0, 0), (0, a3), (0, v24672)], [(0, v24688)], _, _, _)
          exact ev_ret rfl (by decide) (by decide) ⟨_, _, rfl, by omega, by omega, g24686, k24686, (ev24687), by omega, by omega⟩
      · refine ev_aload_n rfl ?_
        refine ev_aload_n rfl ?_
        refine ev_iload_n rfl ?_
        refine ev_iload_n rfl ?_
        refine ev_call (jcall_v (A := [(0, a3), (0, 0), (2, 1)]) (S' := []) (r := 7) rfl (g.lt ad7) (g.tg ad7) (Nat.le_of_ble_eq_true rfl)) (jOk_le (by decide) (s78_0 g (by omega) (by omega) (ew0) (by omega) (by omega) (ev24662) (by omega) (by omega))) (by decide) (by decide) (fun w24689 h24689 q24689 => ?_)
        obtain ⟨v24691, v24690, rfl, lv24691, uv24691, g24689, kk24689, ev24690, p24689_0, p24689_1⟩ := q24689
        have bv24690 := g24689.rg ad7 (i := 1) (by decide) rf7_1
        rw [ev24690] at bv24690
        have k24689 := k0.tr kk24689 (by decide)
        show jEv _ _ _ _ _ _ _ (_, [(2, 7), (2, 1), (0, 0), (0, a3), (0, v24672)], [(0, v24691)], _, _, _)
        exact ev_ret rfl (by decide) (by decide) ⟨_, _, rfl, by omega, by omega, g24689, k24689, (ev24690), by omega, by omega⟩
/-! 67 readText -/
set_option maxHeartbeats 4000000 in
theorem s67_l {G : GH} {h : JH}  : ∀ N : Nat, (∀ (h1 : JH) (y0 : Int) (j2 : AV), Gd G h1 → Kp [(7, 2), (7, 3), (7, 4), (10, 0), (11, 0), (12, 0), (13, 0), (14, 0), (15, 0), (16, 0), (17, 0), (7, 5), (9, 0)] h h1 → h1.2.2 7 4 = y0 → 0 ≤ y0 → y0 ≤ 6 → ((-y0) + 6) < N → jEv (jOk 29) none (fun _ => 0) c67_0 0 0 (PI G [(7, 2), (7, 3), (7, 4), (10, 0), (11, 0), (12, 0), (13, 0), (14, 0), (15, 0), (16, 0), (17, 0), (7, 5), (9, 0)] h 0 (-1) 199) (c67_20, [(2, 7), (2, 1), j2], [], h1, 0, 0)) := by
  intro N
  induction N with
  | zero => exact fun h1 y0 j2 g1 k1 b0 b1 b2 hm => absurd hm (by omega)
  | succ N ih =>
    show _
    intro h1 y0 j2 g1 k1 ey0 ly0 uy0 hm
    refine ev_aload_n rfl ?_
    refine g_getv (r := 7) (v := y0) g1 ad7 (by decide) ft5_4 (ey0) ?_
    refine ev_bipush ?_
    refine ev_icmpge f67_105 (fun c24808 => ?_) (fun c24808 => ?_)
    · refine ev_aload_n rfl ?_
      refine ev_aload_n rfl ?_
      refine ev_iconst ?_
      refine ev_iconst ?_
      obtain ⟨v24809, ev24809, lv24809, uv24809⟩ := g1.rd ad7 (show 1 < 15 by decide) rf7_1
      refine ev_call (jcall_v (A := [(0, 0), (0, 0), (2, 1)]) (S' := []) (r := 7) rfl (g1.lt ad7) (g1.tg ad7) (Nat.le_of_ble_eq_true rfl)) (jOk_le (by decide) (s74_0 g1 (by omega) (by omega) ev24809 (by omega) (by omega))) (by decide) (by decide) (fun w24810 h24810 q24810 => ?_)
      obtain ⟨v24812, v24811, rfl, lv24812, uv24812, g24810, kk24810, ev24811, p24810_0, p24810_1⟩ := q24810
      have bv24811 := g24810.rg ad7 (i := 1) (by decide) rf7_1
      rw [ev24811] at bv24811
      have k24810 := k1.tr kk24810 (by decide)
      show jEv _ _ _ _ _ _ _ (_, [(2, 7), (2, 1), j2], [(0, v24812)], _, _, _)
      refine ev_istore_n (L' := [(2, 7), (2, 1), (0, v24812)]) (Nat.le_of_ble_eq_true rfl) rfl ?_
      refine ev_aload_n rfl ?_
      refine g_getv (r := 7) (v := v24811) g24810 ad7 (by decide) ft5_1 (ev24811) ?_
      refine ev_ifge f67_139 (fun c24813 => ?_) (fun c24813 => ?_)
      · refine ev_aload_n rfl ?_
        refine g_getv (r := 7) (v := v24811) g24810 ad7 (by decide) ft5_1 (ev24811) ?_
        refine ev_iflt f67_150 (fun c24814 => absurd c24814 (by omega)) (fun c24814 => ?_)
        refine ev_iconst ?_
        refine ev_goto f67_151 ?_
        exact ev_ret rfl (by decide) (by decide) ⟨_, rfl, by omega, by omega, g24810, k24810⟩
      · refine ev_aload_n rfl ?_
        obtain ⟨v24815, ev24815, lv24815, uv24815⟩ := g24810.rd ad7 (show 2 < 15 by decide) rf7_2
        refine g_getv (r := 7) (v := v24815) g24810 ad7 (by decide) ft5_2 ev24815 ?_
        refine ev_aload_n rfl ?_
        obtain ⟨v24816, ev24816, lv24816, uv24816⟩ := g24810.rd ad7 (show 0 < 15 by decide) rf7_0
        refine g_getv (r := 7) (v := v24816) g24810 ad7 (by decide) ft5_0 ev24816 ?_
        refine ev_icmpge f67_139 (fun c24817 => ?_) (fun c24817 => ?_)
        · refine ev_aload_n rfl ?_
          refine g_getv (r := 7) (v := v24811) g24810 ad7 (by decide) ft5_1 (ev24811) ?_
          refine ev_iflt f67_150 (fun c24818 => ?_) (fun c24818 => absurd c24818 (by omega))
          refine ev_iload_n rfl ?_
          exact ev_ret rfl (by decide) (by decide) ⟨_, rfl, by omega, by omega, g24810, k24810⟩
        · refine ev_aload_n rfl ?_
          refine ev_aload_n rfl ?_
          refine g_getv (r := 7) (v := v24815) g24810 ad7 (by decide) ft5_2 (ev24815) ?_
          refine g_putf (r := 7) g24810 ad7 (by decide) ft5_1 (by decide) (fun e => absurd e nz5_1) rf7_1 (by decide) (by omega) (by omega) (fun h24819 e24819 g24819 => ?_)
          have k24819 := k24810.wr e24819 rfl
          refine ev_aload_n rfl ?_
          refine g_getv (r := 7) (v := v24815) g24819 ad7 (by decide) ft5_1 ((jw_eq e24819)) ?_
          refine ev_iflt f67_150 (fun c24820 => absurd c24820 (by omega)) (fun c24820 => ?_)
          refine ev_iconst ?_
          refine ev_goto f67_151 ?_
          exact ev_ret rfl (by decide) (by decide) ⟨_, rfl, by omega, by omega, g24819, k24819⟩
    · refine ev_aload_n rfl ?_
      refine ev_in (d := 28) (a := 0) (b := 0) (cd' := c68_0) (m := 1) (L0 := [(2, 7)]) (jcall_v (A := []) (S' := []) (r := 7) rfl (g1.lt ad7) (g1.tg ad7) (Nat.le_of_ble_eq_true rfl)) (by decide) ml68 pp68 (Nat.le_of_ble_eq_true rfl) rfl (by decide) (by decide) ?_
      refine ev_aload_n rfl ?_
      obtain ⟨v24821, ev24821, lv24821, uv24821⟩ := g1.rd ad7 (show 2 < 15 by decide) rf7_2
      refine g_getv (r := 7) (v := v24821) g1 ad7 (by decide) ft5_2 ev24821 ?_
      refine ev_aload_n rfl ?_
      obtain ⟨v24822, ev24822, lv24822, uv24822⟩ := g1.rd ad7 (show 0 < 15 by decide) rf7_0
      refine g_getv (r := 7) (v := v24822) g1 ad7 (by decide) ft5_0 ev24822 ?_
      refine ev_icmpge f68_27 (fun c24823 => ?_) (fun c24823 => ?_)
      · refine ev_iconst ?_
        refine ev_ret rfl (by decide) (by decide) ?_
        show jEv _ _ _ _ _ _ _ (_, [(2, 7), (2, 1), j2], [(0, (-1))], _, _, _)
        refine ev_bipush ?_
        refine ev_aload_n rfl ?_
        refine g_getv (r := 7) (v := y0) g1 ad7 (by decide) ft5_4 (ey0) ?_
        refine ev_iadd (r := (y0 + 65)) (by unfold w32; omega) ?_
        refine ev_icmpne f67_105 (fun c24824 => ?_) (fun c24824 => absurd c24824 (by omega))
        refine ev_aload_n rfl ?_
        refine ev_aload_n rfl ?_
        refine ev_iconst ?_
        refine ev_iconst ?_
        obtain ⟨v24825, ev24825, lv24825, uv24825⟩ := g1.rd ad7 (show 1 < 15 by decide) rf7_1
        refine ev_call (jcall_v (A := [(0, 0), (0, 0), (2, 1)]) (S' := []) (r := 7) rfl (g1.lt ad7) (g1.tg ad7) (Nat.le_of_ble_eq_true rfl)) (jOk_le (by decide) (s74_0 g1 (by omega) (by omega) ev24825 (by omega) (by omega))) (by decide) (by decide) (fun w24826 h24826 q24826 => ?_)
        obtain ⟨v24828, v24827, rfl, lv24828, uv24828, g24826, kk24826, ev24827, p24826_0, p24826_1⟩ := q24826
        have bv24827 := g24826.rg ad7 (i := 1) (by decide) rf7_1
        rw [ev24827] at bv24827
        have k24826 := k1.tr kk24826 (by decide)
        show jEv _ _ _ _ _ _ _ (_, [(2, 7), (2, 1), j2], [(0, v24828)], _, _, _)
        refine ev_istore_n (L' := [(2, 7), (2, 1), (0, v24828)]) (Nat.le_of_ble_eq_true rfl) rfl ?_
        refine ev_aload_n rfl ?_
        refine g_getv (r := 7) (v := v24827) g24826 ad7 (by decide) ft5_1 (ev24827) ?_
        refine ev_ifge f67_139 (fun c24829 => ?_) (fun c24829 => ?_)
        · refine ev_aload_n rfl ?_
          refine g_getv (r := 7) (v := v24827) g24826 ad7 (by decide) ft5_1 (ev24827) ?_
          refine ev_iflt f67_150 (fun c24830 => absurd c24830 (by omega)) (fun c24830 => ?_)
          refine ev_iconst ?_
          refine ev_goto f67_151 ?_
          exact ev_ret rfl (by decide) (by decide) ⟨_, rfl, by omega, by omega, g24826, k24826⟩
        · refine ev_aload_n rfl ?_
          obtain ⟨v24831, ev24831, lv24831, uv24831⟩ := g24826.rd ad7 (show 2 < 15 by decide) rf7_2
          refine g_getv (r := 7) (v := v24831) g24826 ad7 (by decide) ft5_2 ev24831 ?_
          refine ev_aload_n rfl ?_
          refine g_getv (r := 7) (v := v24822) g24826 ad7 (by decide) ft5_0 (((kk24826.v (by decide)).trans ev24822)) ?_
          refine ev_icmpge f67_139 (fun c24832 => ?_) (fun c24832 => ?_)
          · refine ev_aload_n rfl ?_
            refine g_getv (r := 7) (v := v24827) g24826 ad7 (by decide) ft5_1 (ev24827) ?_
            refine ev_iflt f67_150 (fun c24833 => ?_) (fun c24833 => absurd c24833 (by omega))
            refine ev_iload_n rfl ?_
            exact ev_ret rfl (by decide) (by decide) ⟨_, rfl, by omega, by omega, g24826, k24826⟩
          · refine ev_aload_n rfl ?_
            refine ev_aload_n rfl ?_
            refine g_getv (r := 7) (v := v24831) g24826 ad7 (by decide) ft5_2 (ev24831) ?_
            refine g_putf (r := 7) g24826 ad7 (by decide) ft5_1 (by decide) (fun e => absurd e nz5_1) rf7_1 (by decide) (by omega) (by omega) (fun h24834 e24834 g24834 => ?_)
            have k24834 := k24826.wr e24834 rfl
            refine ev_aload_n rfl ?_
            refine g_getv (r := 7) (v := v24831) g24834 ad7 (by decide) ft5_1 ((jw_eq e24834)) ?_
            refine ev_iflt f67_150 (fun c24835 => absurd c24835 (by omega)) (fun c24835 => ?_)
            refine ev_iconst ?_
            refine ev_goto f67_151 ?_
            exact ev_ret rfl (by decide) (by decide) ⟨_, rfl, by omega, by omega, g24834, k24834⟩
      · refine ev_aload_n rfl ?_
        refine g_getp (r := 7) (c := 8) g1 ad7 (by decide) (by decide) rf7_5 ft5_5 ?_
        refine ev_aload_n rfl ?_
        refine g_getv (r := 7) (v := v24821) g1 ad7 (by decide) ft5_2 (ev24821) ?_
        refine g_bald g1 ad8 rt8 (by omega) (by omega) (fun v24836 ev24836 lv24836 uv24836 => ?_)
        refine ev_sipush ?_
        refine g_iandB (b := 255) (by omega) (by omega) (by decide) (fun v24837 ev24837 lv24837 uv24837 => ?_)
        refine ev_goto f68_28 ?_
        refine ev_ret rfl (by decide) (by decide) ?_
        show jEv _ _ _ _ _ _ _ (_, [(2, 7), (2, 1), j2], [(0, v24837)], _, _, _)
        refine ev_bipush ?_
        refine ev_aload_n rfl ?_
        refine g_getv (r := 7) (v := y0) g1 ad7 (by decide) ft5_4 (ey0) ?_
        refine ev_iadd (r := (y0 + 65)) (by unfold w32; omega) ?_
        refine ev_icmpne f67_105 (fun c24838 => ?_) (fun c24838 => ?_)
        · refine ev_aload_n rfl ?_
          refine ev_aload_n rfl ?_
          refine ev_iconst ?_
          refine ev_iconst ?_
          obtain ⟨v24839, ev24839, lv24839, uv24839⟩ := g1.rd ad7 (show 1 < 15 by decide) rf7_1
          refine ev_call (jcall_v (A := [(0, 0), (0, 0), (2, 1)]) (S' := []) (r := 7) rfl (g1.lt ad7) (g1.tg ad7) (Nat.le_of_ble_eq_true rfl)) (jOk_le (by decide) (s74_0 g1 (by omega) (by omega) ev24839 (by omega) (by omega))) (by decide) (by decide) (fun w24840 h24840 q24840 => ?_)
          obtain ⟨v24842, v24841, rfl, lv24842, uv24842, g24840, kk24840, ev24841, p24840_0, p24840_1⟩ := q24840
          have bv24841 := g24840.rg ad7 (i := 1) (by decide) rf7_1
          rw [ev24841] at bv24841
          have k24840 := k1.tr kk24840 (by decide)
          show jEv _ _ _ _ _ _ _ (_, [(2, 7), (2, 1), j2], [(0, v24842)], _, _, _)
          refine ev_istore_n (L' := [(2, 7), (2, 1), (0, v24842)]) (Nat.le_of_ble_eq_true rfl) rfl ?_
          refine ev_aload_n rfl ?_
          refine g_getv (r := 7) (v := v24841) g24840 ad7 (by decide) ft5_1 (ev24841) ?_
          refine ev_ifge f67_139 (fun c24843 => ?_) (fun c24843 => ?_)
          · refine ev_aload_n rfl ?_
            refine g_getv (r := 7) (v := v24841) g24840 ad7 (by decide) ft5_1 (ev24841) ?_
            refine ev_iflt f67_150 (fun c24844 => absurd c24844 (by omega)) (fun c24844 => ?_)
            refine ev_iconst ?_
            refine ev_goto f67_151 ?_
            exact ev_ret rfl (by decide) (by decide) ⟨_, rfl, by omega, by omega, g24840, k24840⟩
          · refine ev_aload_n rfl ?_
            obtain ⟨v24845, ev24845, lv24845, uv24845⟩ := g24840.rd ad7 (show 2 < 15 by decide) rf7_2
            refine g_getv (r := 7) (v := v24845) g24840 ad7 (by decide) ft5_2 ev24845 ?_
            refine ev_aload_n rfl ?_
            refine g_getv (r := 7) (v := v24822) g24840 ad7 (by decide) ft5_0 (((kk24840.v (by decide)).trans ev24822)) ?_
            refine ev_icmpge f67_139 (fun c24846 => ?_) (fun c24846 => ?_)
            · refine ev_aload_n rfl ?_
              refine g_getv (r := 7) (v := v24841) g24840 ad7 (by decide) ft5_1 (ev24841) ?_
              refine ev_iflt f67_150 (fun c24847 => ?_) (fun c24847 => absurd c24847 (by omega))
              refine ev_iload_n rfl ?_
              exact ev_ret rfl (by decide) (by decide) ⟨_, rfl, by omega, by omega, g24840, k24840⟩
            · refine ev_aload_n rfl ?_
              refine ev_aload_n rfl ?_
              refine g_getv (r := 7) (v := v24845) g24840 ad7 (by decide) ft5_2 (ev24845) ?_
              refine g_putf (r := 7) g24840 ad7 (by decide) ft5_1 (by decide) (fun e => absurd e nz5_1) rf7_1 (by decide) (by omega) (by omega) (fun h24848 e24848 g24848 => ?_)
              have k24848 := k24840.wr e24848 rfl
              refine ev_aload_n rfl ?_
              refine g_getv (r := 7) (v := v24845) g24848 ad7 (by decide) ft5_1 ((jw_eq e24848)) ?_
              refine ev_iflt f67_150 (fun c24849 => absurd c24849 (by omega)) (fun c24849 => ?_)
              refine ev_iconst ?_
              refine ev_goto f67_151 ?_
              exact ev_ret rfl (by decide) (by decide) ⟨_, rfl, by omega, by omega, g24848, k24848⟩
        · refine ev_aload_n rfl ?_
          refine ev_dup (by decide) ?_
          refine g_getv (r := 7) (v := v24821) g1 ad7 (by decide) ft5_2 (ev24821) ?_
          refine ev_iconst ?_
          refine ev_iadd (r := (v24821 + 1)) (by unfold w32; omega) ?_
          refine g_putf (r := 7) g1 ad7 (by decide) ft5_2 (by decide) (fun e => absurd e nz5_2) rf7_2 (by decide) (by omega) (by omega) (fun h24850 e24850 g24850 => ?_)
          have k24850 := k1.wr e24850 rfl
          refine ev_aload_n rfl ?_
          refine ev_bipush ?_
          obtain ⟨v24851, ev24851, lv24851, uv24851⟩ := g24850.rd ad7 (show 1 < 15 by decide) rf7_1
          refine ev_call (jcall_v (A := [(0, 61)]) (S' := []) (r := 7) rfl (g24850.lt ad7) (g24850.tg ad7) (Nat.le_of_ble_eq_true rfl)) (jOk_le (by decide) (s71 g24850 (by omega) (by omega) ev24851 (by omega) (by omega))) (by decide) (by decide) (fun w24852 h24852 q24852 => ?_)
          obtain ⟨v24853, rfl, g24852, kk24852, ev24853, p24852_0⟩ := q24852
          have bv24853 := g24852.rg ad7 (i := 1) (by decide) rf7_1
          rw [ev24853] at bv24853
          have k24852 := k24850.tr kk24852 (by decide)
          show jEv _ _ _ _ _ _ _ (_, [(2, 7), (2, 1), j2], [], _, _, _)
          refine ev_aload_n rfl ?_
          refine ev_aload_n rfl ?_
          refine ev_iconst ?_
          refine ev_iconst ?_
          refine ev_call (jcall_v (A := [(0, 0), (0, 0), (2, 1)]) (S' := []) (r := 7) rfl (g24852.lt ad7) (g24852.tg ad7) (Nat.le_of_ble_eq_true rfl)) (jOk_le (by decide) (s74_0 g24852 (by omega) (by omega) (ev24853) (by omega) (by omega))) (by decide) (by decide) (fun w24854 h24854 q24854 => ?_)
          obtain ⟨v24856, v24855, rfl, lv24856, uv24856, g24854, kk24854, ev24855, p24854_0, p24854_1⟩ := q24854
          have bv24855 := g24854.rg ad7 (i := 1) (by decide) rf7_1
          rw [ev24855] at bv24855
          have k24854 := k24852.tr kk24854 (by decide)
          show jEv _ _ _ _ _ _ _ (_, [(2, 7), (2, 1), j2], [(0, v24856)], _, _, _)
          refine ev_istore_n (L' := [(2, 7), (2, 1), (0, v24856)]) (Nat.le_of_ble_eq_true rfl) rfl ?_
          refine ev_aload_n rfl ?_
          refine ev_bipush ?_
          refine ev_call (jcall_v (A := [(0, 59)]) (S' := []) (r := 7) rfl (g24854.lt ad7) (g24854.tg ad7) (Nat.le_of_ble_eq_true rfl)) (jOk_le (by decide) (s71 g24854 (by omega) (by omega) (ev24855) (by omega) (by omega))) (by decide) (by decide) (fun w24857 h24857 q24857 => ?_)
          obtain ⟨v24858, rfl, g24857, kk24857, ev24858, p24857_0⟩ := q24857
          have bv24858 := g24857.rg ad7 (i := 1) (by decide) rf7_1
          rw [ev24858] at bv24858
          have k24857 := k24854.tr kk24857 (by decide)
          show jEv _ _ _ _ _ _ _ (_, [(2, 7), (2, 1), (0, v24856)], [], _, _, _)
          refine ev_aload_n rfl ?_
          refine g_getv (r := 7) (v := v24858) g24857 ad7 (by decide) ft5_1 (ev24858) ?_
          refine ev_iflt f67_82 (fun c24859 => ?_) (fun c24859 => ?_)
          · refine ev_aload_n rfl ?_
            refine g_getp (r := 7) (c := 9) g24857 ad7 (by decide) (by decide) rf7_6 ft5_6 ?_
            refine ev_aload_n rfl ?_
            refine g_getv (r := 7) (v := y0) g24857 ad7 (by decide) ft5_4 (((kk24857.v (by decide)).trans ((kk24854.v (by decide)).trans ((kk24852.v (by decide)).trans ((jw_ne e24850 (Or.inr (by decide))).trans ey0))))) ?_
            refine ev_iload_n rfl ?_
            refine g_iast g24857 ad9 rt9 (fun _ => rfl) (by omega) (by omega) (by omega) (by omega) (fun h24860 e24860 g24860 => ?_)
            have k24860 := k24857.wr e24860 rfl
            refine ev_aload_n rfl ?_
            refine ev_dup (by decide) ?_
            refine g_getv (r := 7) (v := y0) g24860 ad7 (by decide) ft5_4 (((jw_ne e24860 (Or.inl (by decide))).trans ((kk24857.v (by decide)).trans ((kk24854.v (by decide)).trans ((kk24852.v (by decide)).trans ((jw_ne e24850 (Or.inr (by decide))).trans ey0)))))) ?_
            refine ev_iconst ?_
            refine ev_iadd (r := (y0 + 1)) (by unfold w32; omega) ?_
            refine g_putf (r := 7) g24860 ad7 (by decide) ft5_4 (by decide) (fun e => absurd e nz5_4) rf7_4 (by decide) (by omega) (by omega) (fun h24861 e24861 g24861 => ?_)
            have k24861 := k24860.wr e24861 rfl
            refine ev_goto f67_20 ?_
            exact ih _ _ _ g24861 k24861 ((jw_eq e24861)) (by omega) (by omega) (by omega)
          · refine ev_iconst ?_
            exact ev_ret rfl (by decide) (by decide) ⟨_, rfl, by omega, by omega, g24857, k24857⟩
set_option maxHeartbeats 4000000 in
theorem s67 {G : GH} {h : JH} (g : Gd G h)  : jOk 30 0 0 67 [(2, 7), (2, 1)] h (PI G [(7, 2), (7, 3), (7, 4), (10, 0), (11, 0), (12, 0), (13, 0), (14, 0), (15, 0), (16, 0), (17, 0), (7, 5), (9, 0)] h 0 (-1) 199) := by
  refine ⟨by decide, by rw [ml67]; exact Nat.le_of_ble_eq_true rfl, ?_⟩
  rw [ml67, pp67]
  show jEv _ none _ c67_0 0 0 _ (c67_0, [(2, 7), (2, 1), (9, 0)], [], h, 0, 0)
  have k0 := Kp.rf [(7, 2), (7, 3), (7, 4), (10, 0), (11, 0), (12, 0), (13, 0), (14, 0), (15, 0), (16, 0), (17, 0), (7, 5), (9, 0)] h
  refine ev_aload_n rfl ?_
  refine ev_iconst ?_
  refine g_putf (r := 7) g ad7 (by decide) ft5_2 (by decide) (fun e => absurd e nz5_2) rf7_2 (by decide) (by omega) (by omega) (fun h24862 e24862 g24862 => ?_)
  have k24862 := k0.wr e24862 rfl
  refine ev_aload_n rfl ?_
  refine ev_iconst ?_
  refine g_putf (r := 7) g24862 ad7 (by decide) ft5_1 (by decide) (fun e => absurd e nz5_1) rf7_1 (by decide) (by omega) (by omega) (fun h24863 e24863 g24863 => ?_)
  have k24863 := k24862.wr e24863 rfl
  refine ev_aload_n rfl ?_
  refine ev_iconst ?_
  refine g_putf (r := 7) g24863 ad7 (by decide) ft5_3 (by decide) (fun e => absurd e nz5_3) rf7_3 (by decide) (by omega) (by omega) (fun h24864 e24864 g24864 => ?_)
  have k24864 := k24863.wr e24864 rfl
  refine ev_aload_n rfl ?_
  refine ev_iconst ?_
  refine g_putf (r := 7) g24864 ad7 (by decide) ft5_4 (by decide) (fun e => absurd e nz5_4) rf7_4 (by decide) (by omega) (by omega) (fun h24865 e24865 g24865 => ?_)
  have k24865 := k24864.wr e24865 rfl
  exact (s67_l  14) _ _ _ g24865 k24865 ((jw_eq e24865)) (by omega) (by omega) (by omega)
/-! s156_0_1  -/
set_option maxHeartbeats 4000000 in
theorem s156_0_1_l {G : GH} {h : JH} (ew0 : h.2.2 1 0 = 1) : ∀ N : Nat, (∀ (h1 : JH) (x3 y0 z0 : Int) (j4 j5 j7 : AV), Gd G h1 → Kp [(6, 0)] h h1 → 0 ≤ x3 → x3 ≤ 4 → 0 ≤ z0 → z0 ≤ 1 → (x3 + (-4) * z0) ≤ 0 → ((-x3) + 4 * z0) ≤ 0 → h1.2.2 1 0 = y0 → 1 ≤ y0 → y0 ≤ 1 → ((-32) * x3 + 148) < N → jEv (jOk 1) none (fun _ => 0) c156_0 0 0 (PV G [(6, 0)] h) (c156_8, [(2, 1), (0, 0), (0, 1), (0, x3), j4, j5, (9, 0), j7], [], h1, 0, 0)) ∧ (∀ (h1 : JH) (x3 x4 y0 z0 : Int) (j5 j7 : AV), Gd G h1 → Kp [(6, 0)] h h1 → 0 ≤ x3 → x3 ≤ 0 → 0 ≤ x4 → x4 ≤ 1 → 0 ≤ z0 → z0 ≤ 0 → (x3 + (-4) * z0) ≤ 0 → ((-x3) + 4 * z0) ≤ 0 → ((-x3) + x4) ≤ 1 → (x3 + (-x4)) ≤ 0 → h1.2.2 1 0 = y0 → 1 ≤ y0 → y0 ≤ 1 → ((-32) * x3 + (-8) * x4 + 140) < N → jEv (jOk 1) none (fun _ => 0) c156_0 0 0 (PV G [(6, 0)] h) (c156_19, [(2, 1), (0, 0), (0, 1), (0, x3), (0, x4), j5, (9, 0), j7], [], h1, 0, 0)) ∧ (∀ (h1 : JH) (x3 x4 x5 x7 y0 z0 : Int), Gd G h1 → Kp [(6, 0)] h h1 → 0 ≤ x3 → x3 ≤ 0 → 0 ≤ x4 → x4 ≤ 0 → (-9223372036854775808) ≤ x5 → x5 ≤ 9223372036854775807 → 1 ≤ x7 → x7 ≤ 4 → 0 ≤ z0 → z0 ≤ 0 → (x3 + (-4) * z0) ≤ 0 → ((-x3) + 4 * z0) ≤ 0 → ((-x3) + x4) ≤ 0 → (x3 + (-x4)) ≤ 0 → h1.2.2 1 0 = y0 → 1 ≤ y0 → y0 ≤ 1 → ((-32) * x3 + (-8) * x4 + (-x7) + 140) < N → jEv (jOk 1) none (fun _ => 0) c156_0 0 0 (PV G [(6, 0)] h) (c156_33, [(2, 1), (0, 0), (0, 1), (0, x3), (0, x4), (1, x5), (9, 0), (0, x7)], [], h1, 0, 0)) := by
  intro N
  induction N with
  | zero => exact ⟨fun h1 x3 y0 z0 j4 j5 j7 g1 k1 b0 b1 b2 b3 b4 b5 b6 b7 b8 hm => absurd hm (by omega), fun h1 x3 x4 y0 z0 j5 j7 g1 k1 b0 b1 b2 b3 b4 b5 b6 b7 b8 b9 b10 b11 b12 hm => absurd hm (by omega), fun h1 x3 x4 x5 x7 y0 z0 g1 k1 b0 b1 b2 b3 b4 b5 b6 b7 b8 b9 b10 b11 b12 b13 b14 b15 b16 hm => absurd hm (by omega)⟩
  | succ N ih =>
    refine ⟨?_, ?_, ?_⟩
    · intro h1 x3 y0 z0 j4 j5 j7 g1 k1 b0 b1 b2 b3 b4 b5 ey0 ly0 uy0 hm
      refine ev_iload_n rfl ?_
      refine ev_aload_n rfl ?_
      refine ev_in (d := 0) (a := 0) (b := 0) (cd' := c157_0) (m := 1) (L0 := [(2, 1)]) (jcall_v (A := []) (S' := [(0, x3)]) (r := 1) rfl (g1.lt ad1) (g1.tg ad1) (Nat.le_of_ble_eq_true rfl)) (by decide) ml157 pp157 (Nat.le_of_ble_eq_true rfl) rfl (by decide) (by decide) ?_
      refine ev_iconst ?_
      refine ev_iconst ?_
      refine ev_aload_n rfl ?_
      refine g_getv (r := 1) (v := y0) g1 ad1 (by decide) ft10_0 (ey0) ?_
      refine ev_imul (r := (2 * y0)) (by unfold w32; omega) ?_
      refine g_ishlB (a' := 1) (a := 1) (b := 2) (hi := 4) (by omega) (by omega) (by omega) (by omega) (by decide) (by decide) (fun v24898 ev24898 lv24898 uv24898 => ?_)
      refine ev_ret rfl (by decide) (by decide) ?_
      show jEv _ _ _ _ _ _ _ (_, [(2, 1), (0, 0), (0, 1), (0, x3), j4, j5, (9, 0), j7], [(0, v24898), (0, x3)], _, _, _)
      refine ev_icmpge f156_91 (fun c24899 => ?_) (fun c24899 => ?_)
      · exact ev_ret rfl (by decide) (by decide) ⟨rfl, g1, k1⟩
      · refine ev_iload_n rfl ?_
        refine ev_istore (L' := [(2, 1), (0, 0), (0, 1), (0, x3), (0, x3), j5, (9, 0), j7]) (Nat.le_of_ble_eq_true rfl) rfl ?_
        exact ih.2.1 _ _ _ _ z0 _ _ g1 k1 (by omega) (by omega) (by omega) (by omega) (by omega) (by omega) (by omega) (by omega) (by omega) (by omega) (ey0) (by omega) (by omega) (by omega)
    · intro h1 x3 x4 y0 z0 j5 j7 g1 k1 b0 b1 b2 b3 b4 b5 b6 b7 b8 b9 ey0 ly0 uy0 hm
      refine ev_iload rfl ?_
      refine ev_iload_n rfl ?_
      refine ev_iload_n rfl ?_
      refine ev_iadd (r := (x3 + 1)) (by unfold w32; omega) ?_
      refine ev_icmpge f156_82 (fun c24900 => ?_) (fun c24900 => ?_)
      · refine ev_iload_n rfl ?_
        refine ev_iconst ?_
        refine ev_iload_n rfl ?_
        refine ev_imul (r := 4) (by decide) ?_
        refine ev_iadd (r := (x3 + 4)) (by unfold w32; omega) ?_
        refine ev_istore_n (L' := [(2, 1), (0, 0), (0, 1), (0, (x3 + 4)), (0, x4), j5, (9, 0), j7]) (Nat.le_of_ble_eq_true rfl) rfl ?_
        refine ev_goto f156_8 ?_
        exact ih.1 _ _ _ (z0 + 1) _ _ _ g1 k1 (by omega) (by omega) (by omega) (by omega) (by omega) (by omega) (ey0) (by omega) (by omega) (by omega)
      · refine ev_lconst ?_
        refine ev_lstore (L' := [(2, 1), (0, 0), (0, 1), (0, x3), (0, x4), (1, 0), (9, 0), j7]) (Nat.le_of_ble_eq_true rfl) rfl ?_
        refine ev_iconst ?_
        refine ev_istore (L' := [(2, 1), (0, 0), (0, 1), (0, x3), (0, x4), (1, 0), (9, 0), (0, 1)]) (Nat.le_of_ble_eq_true rfl) rfl ?_
        exact ih.2.2 _ _ _ _ _ _ z0 g1 k1 (by omega) (by omega) (by omega) (by omega) (by omega) (by omega) (by omega) (by omega) (by omega) (by omega) (by omega) (by omega) (by omega) (by omega) (ey0) (by omega) (by omega) (by omega)
    · intro h1 x3 x4 x5 x7 y0 z0 g1 k1 b0 b1 b2 b3 b4 b5 b6 b7 b8 b9 b10 b11 b12 b13 ey0 ly0 uy0 hm
      refine ev_iload rfl ?_
      refine ev_aload_n rfl ?_
      refine g_getp (r := 1) (c := 2) g1 ad1 (by decide) (by decide) rf1_3 ft10_3 ?_
      refine ev_iload_n rfl ?_
      refine g_iald g1 ad2 rt2 (by omega) (by omega) (fun v24901 ev24901 lv24901 uv24901 => ?_)
      have xv24901 := (g1.ex.1.1 (0 : Int).toNat (by rw [(ey0)]; omega))
      rw [ev24901] at xv24901
      refine ev_icmpgt f156_67 (fun c24902 => ?_) (fun c24902 => ?_)
      · refine ev_aload_n rfl ?_
        refine g_getp (r := 1) (c := 6) g1 ad1 (by decide) (by decide) rf1_7 ft10_7 ?_
        refine ev_iload rfl ?_
        refine ev_lload rfl ?_
        refine g_last g1 ad6 rt6 (fun _ => rfl) (by omega) (by omega) (by omega) (by omega) (fun h24903 e24903 g24903 => ?_)
        have k24903 := k1.wr e24903 rfl
        refine ev_iinc (w := (x4 + 1)) (L' := [(2, 1), (0, 0), (0, 1), (0, x3), (0, (x4 + 1)), (1, x5), (9, 0), (0, x7)]) rfl (by unfold w32; omega) rfl ?_
        refine ev_goto f156_19 ?_
        exact ih.2.1 _ _ _ _ z0 _ _ g24903 k24903 (by omega) (by omega) (by omega) (by omega) (by omega) (by omega) (by omega) (by omega) (by omega) (by omega) (((jw_ne e24903 (Or.inl (by decide))).trans ey0)) (by omega) (by omega) (by omega)
      · refine ev_lload rfl ?_
        refine ev_aload_n rfl ?_
        refine g_getp (r := 1) (c := 6) g1 ad1 (by decide) (by decide) rf1_7 ft10_7 ?_
        refine ev_iload rfl ?_
        refine ev_iload rfl ?_
        refine ev_iload_n rfl ?_
        refine ev_imul (r := x7) (by unfold w32; omega) ?_
        refine ev_iadd (r := (x4 + x7)) (by unfold w32; omega) ?_
        refine g_lald g1 ad6 rt6 (by omega) (by omega) (fun v24904 ev24904 lv24904 uv24904 => ?_)
        refine g_laddG (fun v24905 ev24905 lv24905 uv24905 => ?_)
        refine ev_lstore (L' := [(2, 1), (0, 0), (0, 1), (0, x3), (0, x4), (1, v24905), (9, 0), (0, x7)]) (Nat.le_of_ble_eq_true rfl) rfl ?_
        refine ev_iinc (w := (x7 + 1)) (L' := [(2, 1), (0, 0), (0, 1), (0, x3), (0, x4), (1, v24905), (9, 0), (0, (x7 + 1))]) rfl (by unfold w32; omega) rfl ?_
        refine ev_goto f156_33 ?_
        exact ih.2.2 _ _ _ _ _ _ z0 g1 k1 (by omega) (by omega) (by omega) (by omega) (by omega) (by omega) (by omega) (by omega) (by omega) (by omega) (by omega) (by omega) (by omega) (by omega) (ey0) (by omega) (by omega) (by omega)
set_option maxHeartbeats 4000000 in
theorem s156_0_1 {G : GH} {h : JH} (g : Gd G h) (ew0 : h.2.2 1 0 = 1) : jOk 2 0 0 156 [(2, 1), (0, 0)] h (PV G [(6, 0)] h) := by
  refine ⟨by decide, by rw [ml156]; exact Nat.le_of_ble_eq_true rfl, ?_⟩
  rw [ml156, pp156]
  show jEv _ none _ c156_0 0 0 _ (c156_0, [(2, 1), (0, 0), (9, 0), (9, 0), (9, 0), (9, 0), (9, 0), (9, 0)], [], h, 0, 0)
  have k0 := Kp.rf [(6, 0)] h
  refine ev_iconst ?_
  refine ev_iconst ?_
  refine ev_iload_n rfl ?_
  refine ev_imul (r := 0) (by decide) ?_
  refine ev_ishl (r := 1) (by decide) ?_
  refine ev_istore_n (L' := [(2, 1), (0, 0), (0, 1), (9, 0), (9, 0), (9, 0), (9, 0), (9, 0)]) (Nat.le_of_ble_eq_true rfl) rfl ?_
  refine ev_iconst ?_
  refine ev_istore_n (L' := [(2, 1), (0, 0), (0, 1), (0, 0), (9, 0), (9, 0), (9, 0), (9, 0)]) (Nat.le_of_ble_eq_true rfl) rfl ?_
  exact (s156_0_1_l ew0 320).1 _ _ _ 0 _ _ _ g k0 (by omega) (by omega) (by omega) (by omega) (by omega) (by omega) (ew0) (by omega) (by omega) (by omega)
/-! s156_0_2  -/
set_option maxHeartbeats 4000000 in
theorem s156_0_2_l {G : GH} {h : JH} (ew0 : h.2.2 1 0 = 2) : ∀ N : Nat, (∀ (h1 : JH) (x3 y0 z0 : Int) (j4 j5 j7 : AV), Gd G h1 → Kp [(6, 0)] h h1 → 0 ≤ x3 → x3 ≤ 16 → 0 ≤ z0 → z0 ≤ 4 → (x3 + (-4) * z0) ≤ 0 → ((-x3) + 4 * z0) ≤ 0 → h1.2.2 1 0 = y0 → 2 ≤ y0 → y0 ≤ 2 → ((-224) * x3 + 3700) < N → jEv (jOk 1) none (fun _ => 0) c156_0 0 0 (PV G [(6, 0)] h) (c156_8, [(2, 1), (0, 0), (0, 1), (0, x3), j4, j5, (9, 0), j7], [], h1, 0, 0)) ∧ (∀ (h1 : JH) (x3 x4 y0 z0 : Int) (j5 j7 : AV), Gd G h1 → Kp [(6, 0)] h h1 → 0 ≤ x3 → x3 ≤ 12 → 0 ≤ x4 → x4 ≤ 13 → 0 ≤ z0 → z0 ≤ 3 → (x3 + (-4) * z0) ≤ 0 → ((-x3) + 4 * z0) ≤ 0 → ((-x3) + x4) ≤ 1 → (x3 + (-x4)) ≤ 0 → h1.2.2 1 0 = y0 → 2 ≤ y0 → y0 ≤ 2 → ((-224) * x3 + (-8) * x4 + 3692) < N → jEv (jOk 1) none (fun _ => 0) c156_0 0 0 (PV G [(6, 0)] h) (c156_19, [(2, 1), (0, 0), (0, 1), (0, x3), (0, x4), j5, (9, 0), j7], [], h1, 0, 0)) ∧ (∀ (h1 : JH) (x3 x4 x5 x7 y0 z0 : Int), Gd G h1 → Kp [(6, 0)] h h1 → 0 ≤ x3 → x3 ≤ 12 → 0 ≤ x4 → x4 ≤ 12 → (-9223372036854775808) ≤ x5 → x5 ≤ 9223372036854775807 → 1 ≤ x7 → x7 ≤ 4 → 0 ≤ z0 → z0 ≤ 3 → (x3 + (-4) * z0) ≤ 0 → ((-x3) + 4 * z0) ≤ 0 → ((-x3) + x4) ≤ 0 → (x3 + (-x4)) ≤ 0 → h1.2.2 1 0 = y0 → 2 ≤ y0 → y0 ≤ 2 → ((-224) * x3 + (-8) * x4 + (-x7) + 3692) < N → jEv (jOk 1) none (fun _ => 0) c156_0 0 0 (PV G [(6, 0)] h) (c156_33, [(2, 1), (0, 0), (0, 1), (0, x3), (0, x4), (1, x5), (9, 0), (0, x7)], [], h1, 0, 0)) := by
  intro N
  induction N with
  | zero => exact ⟨fun h1 x3 y0 z0 j4 j5 j7 g1 k1 b0 b1 b2 b3 b4 b5 b6 b7 b8 hm => absurd hm (by omega), fun h1 x3 x4 y0 z0 j5 j7 g1 k1 b0 b1 b2 b3 b4 b5 b6 b7 b8 b9 b10 b11 b12 hm => absurd hm (by omega), fun h1 x3 x4 x5 x7 y0 z0 g1 k1 b0 b1 b2 b3 b4 b5 b6 b7 b8 b9 b10 b11 b12 b13 b14 b15 b16 hm => absurd hm (by omega)⟩
  | succ N ih =>
    refine ⟨?_, ?_, ?_⟩
    · intro h1 x3 y0 z0 j4 j5 j7 g1 k1 b0 b1 b2 b3 b4 b5 ey0 ly0 uy0 hm
      refine ev_iload_n rfl ?_
      refine ev_aload_n rfl ?_
      refine ev_in (d := 0) (a := 0) (b := 0) (cd' := c157_0) (m := 1) (L0 := [(2, 1)]) (jcall_v (A := []) (S' := [(0, x3)]) (r := 1) rfl (g1.lt ad1) (g1.tg ad1) (Nat.le_of_ble_eq_true rfl)) (by decide) ml157 pp157 (Nat.le_of_ble_eq_true rfl) rfl (by decide) (by decide) ?_
      refine ev_iconst ?_
      refine ev_iconst ?_
      refine ev_aload_n rfl ?_
      refine g_getv (r := 1) (v := y0) g1 ad1 (by decide) ft10_0 (ey0) ?_
      refine ev_imul (r := (2 * y0)) (by unfold w32; omega) ?_
      refine g_ishlB (a' := 1) (a := 1) (b := 4) (hi := 16) (by omega) (by omega) (by omega) (by omega) (by decide) (by decide) (fun v24959 ev24959 lv24959 uv24959 => ?_)
      refine ev_ret rfl (by decide) (by decide) ?_
      show jEv _ _ _ _ _ _ _ (_, [(2, 1), (0, 0), (0, 1), (0, x3), j4, j5, (9, 0), j7], [(0, v24959), (0, x3)], _, _, _)
      refine ev_icmpge f156_91 (fun c24960 => ?_) (fun c24960 => ?_)
      · exact ev_ret rfl (by decide) (by decide) ⟨rfl, g1, k1⟩
      · refine ev_iload_n rfl ?_
        refine ev_istore (L' := [(2, 1), (0, 0), (0, 1), (0, x3), (0, x3), j5, (9, 0), j7]) (Nat.le_of_ble_eq_true rfl) rfl ?_
        exact ih.2.1 _ _ _ _ z0 _ _ g1 k1 (by omega) (by omega) (by omega) (by omega) (by omega) (by omega) (by omega) (by omega) (by omega) (by omega) (ey0) (by omega) (by omega) (by omega)
    · intro h1 x3 x4 y0 z0 j5 j7 g1 k1 b0 b1 b2 b3 b4 b5 b6 b7 b8 b9 ey0 ly0 uy0 hm
      refine ev_iload rfl ?_
      refine ev_iload_n rfl ?_
      refine ev_iload_n rfl ?_
      refine ev_iadd (r := (x3 + 1)) (by unfold w32; omega) ?_
      refine ev_icmpge f156_82 (fun c24961 => ?_) (fun c24961 => ?_)
      · refine ev_iload_n rfl ?_
        refine ev_iconst ?_
        refine ev_iload_n rfl ?_
        refine ev_imul (r := 4) (by decide) ?_
        refine ev_iadd (r := (x3 + 4)) (by unfold w32; omega) ?_
        refine ev_istore_n (L' := [(2, 1), (0, 0), (0, 1), (0, (x3 + 4)), (0, x4), j5, (9, 0), j7]) (Nat.le_of_ble_eq_true rfl) rfl ?_
        refine ev_goto f156_8 ?_
        exact ih.1 _ _ _ (z0 + 1) _ _ _ g1 k1 (by omega) (by omega) (by omega) (by omega) (by omega) (by omega) (ey0) (by omega) (by omega) (by omega)
      · refine ev_lconst ?_
        refine ev_lstore (L' := [(2, 1), (0, 0), (0, 1), (0, x3), (0, x4), (1, 0), (9, 0), j7]) (Nat.le_of_ble_eq_true rfl) rfl ?_
        refine ev_iconst ?_
        refine ev_istore (L' := [(2, 1), (0, 0), (0, 1), (0, x3), (0, x4), (1, 0), (9, 0), (0, 1)]) (Nat.le_of_ble_eq_true rfl) rfl ?_
        exact ih.2.2 _ _ _ _ _ _ z0 g1 k1 (by omega) (by omega) (by omega) (by omega) (by omega) (by omega) (by omega) (by omega) (by omega) (by omega) (by omega) (by omega) (by omega) (by omega) (ey0) (by omega) (by omega) (by omega)
    · intro h1 x3 x4 x5 x7 y0 z0 g1 k1 b0 b1 b2 b3 b4 b5 b6 b7 b8 b9 b10 b11 b12 b13 ey0 ly0 uy0 hm
      refine ev_iload rfl ?_
      refine ev_aload_n rfl ?_
      refine g_getp (r := 1) (c := 2) g1 ad1 (by decide) (by decide) rf1_3 ft10_3 ?_
      refine ev_iload_n rfl ?_
      refine g_iald g1 ad2 rt2 (by omega) (by omega) (fun v24962 ev24962 lv24962 uv24962 => ?_)
      have xv24962 := (g1.ex.1.1 (0 : Int).toNat (by rw [(ey0)]; omega))
      rw [ev24962] at xv24962
      refine ev_icmpgt f156_67 (fun c24963 => ?_) (fun c24963 => ?_)
      · refine ev_aload_n rfl ?_
        refine g_getp (r := 1) (c := 6) g1 ad1 (by decide) (by decide) rf1_7 ft10_7 ?_
        refine ev_iload rfl ?_
        refine ev_lload rfl ?_
        refine g_last g1 ad6 rt6 (fun _ => rfl) (by omega) (by omega) (by omega) (by omega) (fun h24964 e24964 g24964 => ?_)
        have k24964 := k1.wr e24964 rfl
        refine ev_iinc (w := (x4 + 1)) (L' := [(2, 1), (0, 0), (0, 1), (0, x3), (0, (x4 + 1)), (1, x5), (9, 0), (0, x7)]) rfl (by unfold w32; omega) rfl ?_
        refine ev_goto f156_19 ?_
        exact ih.2.1 _ _ _ _ z0 _ _ g24964 k24964 (by omega) (by omega) (by omega) (by omega) (by omega) (by omega) (by omega) (by omega) (by omega) (by omega) (((jw_ne e24964 (Or.inl (by decide))).trans ey0)) (by omega) (by omega) (by omega)
      · refine ev_lload rfl ?_
        refine ev_aload_n rfl ?_
        refine g_getp (r := 1) (c := 6) g1 ad1 (by decide) (by decide) rf1_7 ft10_7 ?_
        refine ev_iload rfl ?_
        refine ev_iload rfl ?_
        refine ev_iload_n rfl ?_
        refine ev_imul (r := x7) (by unfold w32; omega) ?_
        refine ev_iadd (r := (x4 + x7)) (by unfold w32; omega) ?_
        refine g_lald g1 ad6 rt6 (by omega) (by omega) (fun v24965 ev24965 lv24965 uv24965 => ?_)
        refine g_laddG (fun v24966 ev24966 lv24966 uv24966 => ?_)
        refine ev_lstore (L' := [(2, 1), (0, 0), (0, 1), (0, x3), (0, x4), (1, v24966), (9, 0), (0, x7)]) (Nat.le_of_ble_eq_true rfl) rfl ?_
        refine ev_iinc (w := (x7 + 1)) (L' := [(2, 1), (0, 0), (0, 1), (0, x3), (0, x4), (1, v24966), (9, 0), (0, (x7 + 1))]) rfl (by unfold w32; omega) rfl ?_
        refine ev_goto f156_33 ?_
        exact ih.2.2 _ _ _ _ _ _ z0 g1 k1 (by omega) (by omega) (by omega) (by omega) (by omega) (by omega) (by omega) (by omega) (by omega) (by omega) (by omega) (by omega) (by omega) (by omega) (ey0) (by omega) (by omega) (by omega)
set_option maxHeartbeats 4000000 in
theorem s156_0_2 {G : GH} {h : JH} (g : Gd G h) (ew0 : h.2.2 1 0 = 2) : jOk 2 0 0 156 [(2, 1), (0, 0)] h (PV G [(6, 0)] h) := by
  refine ⟨by decide, by rw [ml156]; exact Nat.le_of_ble_eq_true rfl, ?_⟩
  rw [ml156, pp156]
  show jEv _ none _ c156_0 0 0 _ (c156_0, [(2, 1), (0, 0), (9, 0), (9, 0), (9, 0), (9, 0), (9, 0), (9, 0)], [], h, 0, 0)
  have k0 := Kp.rf [(6, 0)] h
  refine ev_iconst ?_
  refine ev_iconst ?_
  refine ev_iload_n rfl ?_
  refine ev_imul (r := 0) (by decide) ?_
  refine ev_ishl (r := 1) (by decide) ?_
  refine ev_istore_n (L' := [(2, 1), (0, 0), (0, 1), (9, 0), (9, 0), (9, 0), (9, 0), (9, 0)]) (Nat.le_of_ble_eq_true rfl) rfl ?_
  refine ev_iconst ?_
  refine ev_istore_n (L' := [(2, 1), (0, 0), (0, 1), (0, 0), (9, 0), (9, 0), (9, 0), (9, 0)]) (Nat.le_of_ble_eq_true rfl) rfl ?_
  exact (s156_0_2_l ew0 7616).1 _ _ _ 0 _ _ _ g k0 (by omega) (by omega) (by omega) (by omega) (by omega) (by omega) (ew0) (by omega) (by omega) (by omega)
/-! s156_0_3  -/
set_option maxHeartbeats 4000000 in
theorem s156_0_3_l {G : GH} {h : JH} (ew0 : h.2.2 1 0 = 3) : ∀ N : Nat, (∀ (h1 : JH) (x3 y0 z0 : Int) (j4 j5 j7 : AV), Gd G h1 → Kp [(6, 0)] h h1 → 0 ≤ x3 → x3 ≤ 64 → 0 ≤ z0 → z0 ≤ 16 → (x3 + (-4) * z0) ≤ 0 → ((-x3) + 4 * z0) ≤ 0 → h1.2.2 1 0 = y0 → 3 ≤ y0 → y0 ≤ 3 → ((-1024) * x3 + 66052) < N → jEv (jOk 1) none (fun _ => 0) c156_0 0 0 (PV G [(6, 0)] h) (c156_8, [(2, 1), (0, 0), (0, 1), (0, x3), j4, j5, (9, 0), j7], [], h1, 0, 0)) ∧ (∀ (h1 : JH) (x3 x4 y0 z0 : Int) (j5 j7 : AV), Gd G h1 → Kp [(6, 0)] h h1 → 0 ≤ x3 → x3 ≤ 60 → 0 ≤ x4 → x4 ≤ 63 → 0 ≤ z0 → z0 ≤ 15 → (x3 + (-4) * z0) ≤ 0 → ((-x3) + 4 * z0) ≤ 0 → ((-x3) + x4) ≤ 1 → (x3 + (-x4)) ≤ 0 → h1.2.2 1 0 = y0 → 3 ≤ y0 → y0 ≤ 3 → ((-1024) * x3 + (-8) * x4 + 66044) < N → jEv (jOk 1) none (fun _ => 0) c156_0 0 0 (PV G [(6, 0)] h) (c156_19, [(2, 1), (0, 0), (0, 1), (0, x3), (0, x4), j5, (9, 0), j7], [], h1, 0, 0)) ∧ (∀ (h1 : JH) (x3 x4 x5 x7 y0 z0 : Int), Gd G h1 → Kp [(6, 0)] h h1 → 0 ≤ x3 → x3 ≤ 60 → 0 ≤ x4 → x4 ≤ 60 → (-9223372036854775808) ≤ x5 → x5 ≤ 9223372036854775807 → 1 ≤ x7 → x7 ≤ 4 → 0 ≤ z0 → z0 ≤ 15 → (x3 + (-4) * z0) ≤ 0 → ((-x3) + 4 * z0) ≤ 0 → ((-x3) + x4) ≤ 0 → (x3 + (-x4)) ≤ 0 → h1.2.2 1 0 = y0 → 3 ≤ y0 → y0 ≤ 3 → ((-1024) * x3 + (-8) * x4 + (-x7) + 66044) < N → jEv (jOk 1) none (fun _ => 0) c156_0 0 0 (PV G [(6, 0)] h) (c156_33, [(2, 1), (0, 0), (0, 1), (0, x3), (0, x4), (1, x5), (9, 0), (0, x7)], [], h1, 0, 0)) := by
  intro N
  induction N with
  | zero => exact ⟨fun h1 x3 y0 z0 j4 j5 j7 g1 k1 b0 b1 b2 b3 b4 b5 b6 b7 b8 hm => absurd hm (by omega), fun h1 x3 x4 y0 z0 j5 j7 g1 k1 b0 b1 b2 b3 b4 b5 b6 b7 b8 b9 b10 b11 b12 hm => absurd hm (by omega), fun h1 x3 x4 x5 x7 y0 z0 g1 k1 b0 b1 b2 b3 b4 b5 b6 b7 b8 b9 b10 b11 b12 b13 b14 b15 b16 hm => absurd hm (by omega)⟩
  | succ N ih =>
    refine ⟨?_, ?_, ?_⟩
    · intro h1 x3 y0 z0 j4 j5 j7 g1 k1 b0 b1 b2 b3 b4 b5 ey0 ly0 uy0 hm
      refine ev_iload_n rfl ?_
      refine ev_aload_n rfl ?_
      refine ev_in (d := 0) (a := 0) (b := 0) (cd' := c157_0) (m := 1) (L0 := [(2, 1)]) (jcall_v (A := []) (S' := [(0, x3)]) (r := 1) rfl (g1.lt ad1) (g1.tg ad1) (Nat.le_of_ble_eq_true rfl)) (by decide) ml157 pp157 (Nat.le_of_ble_eq_true rfl) rfl (by decide) (by decide) ?_
      refine ev_iconst ?_
      refine ev_iconst ?_
      refine ev_aload_n rfl ?_
      refine g_getv (r := 1) (v := y0) g1 ad1 (by decide) ft10_0 (ey0) ?_
      refine ev_imul (r := (2 * y0)) (by unfold w32; omega) ?_
      refine g_ishlB (a' := 1) (a := 1) (b := 6) (hi := 64) (by omega) (by omega) (by omega) (by omega) (by decide) (by decide) (fun v25089 ev25089 lv25089 uv25089 => ?_)
      refine ev_ret rfl (by decide) (by decide) ?_
      show jEv _ _ _ _ _ _ _ (_, [(2, 1), (0, 0), (0, 1), (0, x3), j4, j5, (9, 0), j7], [(0, v25089), (0, x3)], _, _, _)
      refine ev_icmpge f156_91 (fun c25090 => ?_) (fun c25090 => ?_)
      · exact ev_ret rfl (by decide) (by decide) ⟨rfl, g1, k1⟩
      · refine ev_iload_n rfl ?_
        refine ev_istore (L' := [(2, 1), (0, 0), (0, 1), (0, x3), (0, x3), j5, (9, 0), j7]) (Nat.le_of_ble_eq_true rfl) rfl ?_
        exact ih.2.1 _ _ _ _ z0 _ _ g1 k1 (by omega) (by omega) (by omega) (by omega) (by omega) (by omega) (by omega) (by omega) (by omega) (by omega) (ey0) (by omega) (by omega) (by omega)
    · intro h1 x3 x4 y0 z0 j5 j7 g1 k1 b0 b1 b2 b3 b4 b5 b6 b7 b8 b9 ey0 ly0 uy0 hm
      refine ev_iload rfl ?_
      refine ev_iload_n rfl ?_
      refine ev_iload_n rfl ?_
      refine ev_iadd (r := (x3 + 1)) (by unfold w32; omega) ?_
      refine ev_icmpge f156_82 (fun c25091 => ?_) (fun c25091 => ?_)
      · refine ev_iload_n rfl ?_
        refine ev_iconst ?_
        refine ev_iload_n rfl ?_
        refine ev_imul (r := 4) (by decide) ?_
        refine ev_iadd (r := (x3 + 4)) (by unfold w32; omega) ?_
        refine ev_istore_n (L' := [(2, 1), (0, 0), (0, 1), (0, (x3 + 4)), (0, x4), j5, (9, 0), j7]) (Nat.le_of_ble_eq_true rfl) rfl ?_
        refine ev_goto f156_8 ?_
        exact ih.1 _ _ _ (z0 + 1) _ _ _ g1 k1 (by omega) (by omega) (by omega) (by omega) (by omega) (by omega) (ey0) (by omega) (by omega) (by omega)
      · refine ev_lconst ?_
        refine ev_lstore (L' := [(2, 1), (0, 0), (0, 1), (0, x3), (0, x4), (1, 0), (9, 0), j7]) (Nat.le_of_ble_eq_true rfl) rfl ?_
        refine ev_iconst ?_
        refine ev_istore (L' := [(2, 1), (0, 0), (0, 1), (0, x3), (0, x4), (1, 0), (9, 0), (0, 1)]) (Nat.le_of_ble_eq_true rfl) rfl ?_
        exact ih.2.2 _ _ _ _ _ _ z0 g1 k1 (by omega) (by omega) (by omega) (by omega) (by omega) (by omega) (by omega) (by omega) (by omega) (by omega) (by omega) (by omega) (by omega) (by omega) (ey0) (by omega) (by omega) (by omega)
    · intro h1 x3 x4 x5 x7 y0 z0 g1 k1 b0 b1 b2 b3 b4 b5 b6 b7 b8 b9 b10 b11 b12 b13 ey0 ly0 uy0 hm
      refine ev_iload rfl ?_
      refine ev_aload_n rfl ?_
      refine g_getp (r := 1) (c := 2) g1 ad1 (by decide) (by decide) rf1_3 ft10_3 ?_
      refine ev_iload_n rfl ?_
      refine g_iald g1 ad2 rt2 (by omega) (by omega) (fun v25092 ev25092 lv25092 uv25092 => ?_)
      have xv25092 := (g1.ex.1.1 (0 : Int).toNat (by rw [(ey0)]; omega))
      rw [ev25092] at xv25092
      refine ev_icmpgt f156_67 (fun c25093 => ?_) (fun c25093 => ?_)
      · refine ev_aload_n rfl ?_
        refine g_getp (r := 1) (c := 6) g1 ad1 (by decide) (by decide) rf1_7 ft10_7 ?_
        refine ev_iload rfl ?_
        refine ev_lload rfl ?_
        refine g_last g1 ad6 rt6 (fun _ => rfl) (by omega) (by omega) (by omega) (by omega) (fun h25094 e25094 g25094 => ?_)
        have k25094 := k1.wr e25094 rfl
        refine ev_iinc (w := (x4 + 1)) (L' := [(2, 1), (0, 0), (0, 1), (0, x3), (0, (x4 + 1)), (1, x5), (9, 0), (0, x7)]) rfl (by unfold w32; omega) rfl ?_
        refine ev_goto f156_19 ?_
        exact ih.2.1 _ _ _ _ z0 _ _ g25094 k25094 (by omega) (by omega) (by omega) (by omega) (by omega) (by omega) (by omega) (by omega) (by omega) (by omega) (((jw_ne e25094 (Or.inl (by decide))).trans ey0)) (by omega) (by omega) (by omega)
      · refine ev_lload rfl ?_
        refine ev_aload_n rfl ?_
        refine g_getp (r := 1) (c := 6) g1 ad1 (by decide) (by decide) rf1_7 ft10_7 ?_
        refine ev_iload rfl ?_
        refine ev_iload rfl ?_
        refine ev_iload_n rfl ?_
        refine ev_imul (r := x7) (by unfold w32; omega) ?_
        refine ev_iadd (r := (x4 + x7)) (by unfold w32; omega) ?_
        refine g_lald g1 ad6 rt6 (by omega) (by omega) (fun v25095 ev25095 lv25095 uv25095 => ?_)
        refine g_laddG (fun v25096 ev25096 lv25096 uv25096 => ?_)
        refine ev_lstore (L' := [(2, 1), (0, 0), (0, 1), (0, x3), (0, x4), (1, v25096), (9, 0), (0, x7)]) (Nat.le_of_ble_eq_true rfl) rfl ?_
        refine ev_iinc (w := (x7 + 1)) (L' := [(2, 1), (0, 0), (0, 1), (0, x3), (0, x4), (1, v25096), (9, 0), (0, (x7 + 1))]) rfl (by unfold w32; omega) rfl ?_
        refine ev_goto f156_33 ?_
        exact ih.2.2 _ _ _ _ _ _ z0 g1 k1 (by omega) (by omega) (by omega) (by omega) (by omega) (by omega) (by omega) (by omega) (by omega) (by omega) (by omega) (by omega) (by omega) (by omega) (ey0) (by omega) (by omega) (by omega)
set_option maxHeartbeats 4000000 in
theorem s156_0_3 {G : GH} {h : JH} (g : Gd G h) (ew0 : h.2.2 1 0 = 3) : jOk 2 0 0 156 [(2, 1), (0, 0)] h (PV G [(6, 0)] h) := by
  refine ⟨by decide, by rw [ml156]; exact Nat.le_of_ble_eq_true rfl, ?_⟩
  rw [ml156, pp156]
  show jEv _ none _ c156_0 0 0 _ (c156_0, [(2, 1), (0, 0), (9, 0), (9, 0), (9, 0), (9, 0), (9, 0), (9, 0)], [], h, 0, 0)
  have k0 := Kp.rf [(6, 0)] h
  refine ev_iconst ?_
  refine ev_iconst ?_
  refine ev_iload_n rfl ?_
  refine ev_imul (r := 0) (by decide) ?_
  refine ev_ishl (r := 1) (by decide) ?_
  refine ev_istore_n (L' := [(2, 1), (0, 0), (0, 1), (9, 0), (9, 0), (9, 0), (9, 0), (9, 0)]) (Nat.le_of_ble_eq_true rfl) rfl ?_
  refine ev_iconst ?_
  refine ev_istore_n (L' := [(2, 1), (0, 0), (0, 1), (0, 0), (9, 0), (9, 0), (9, 0), (9, 0)]) (Nat.le_of_ble_eq_true rfl) rfl ?_
  exact (s156_0_3_l ew0 133120).1 _ _ _ 0 _ _ _ g k0 (by omega) (by omega) (by omega) (by omega) (by omega) (by omega) (ew0) (by omega) (by omega) (by omega)
