/-! s156_1_2  -/
set_option maxHeartbeats 4000000 in
theorem s156_1_2_l {G : GH} {h : JH} (ew0 : h.2.2 1 0 = 2) : ∀ N : Nat, (∀ (h1 : JH) (x3 y0 z0 : Int) (j4 j5 j7 : AV), Gd G h1 → Kp [(6, 0)] h h1 → 0 ≤ x3 → x3 ≤ 16 → 0 ≤ z0 → z0 ≤ 1 → (x3 + (-16) * z0) ≤ 0 → ((-x3) + 16 * z0) ≤ 0 → h1.2.2 1 0 = y0 → 2 ≤ y0 → y0 ≤ 2 → ((-80) * x3 + 1324) < N → jEv (jOk 1) none (fun _ => 0) c156_0 0 0 (PV G [(6, 0)] h) (c156_8, [(2, 1), (0, 1), (0, 4), (0, x3), j4, j5, (9, 0), j7], [], h1, 0, 0)) ∧ (∀ (h1 : JH) (x3 x4 y0 z0 : Int) (j5 j7 : AV), Gd G h1 → Kp [(6, 0)] h h1 → 0 ≤ x3 → x3 ≤ 0 → 0 ≤ x4 → x4 ≤ 4 → 0 ≤ z0 → z0 ≤ 0 → (x3 + (-16) * z0) ≤ 0 → ((-x3) + 16 * z0) ≤ 0 → ((-x3) + x4) ≤ 4 → (x3 + (-x4)) ≤ 0 → h1.2.2 1 0 = y0 → 2 ≤ y0 → y0 ≤ 2 → ((-80) * x3 + (-8) * x4 + 1316) < N → jEv (jOk 1) none (fun _ => 0) c156_0 0 0 (PV G [(6, 0)] h) (c156_19, [(2, 1), (0, 1), (0, 4), (0, x3), (0, x4), j5, (9, 0), j7], [], h1, 0, 0)) ∧ (∀ (h1 : JH) (x3 x4 x5 x7 y0 z0 : Int), Gd G h1 → Kp [(6, 0)] h h1 → 0 ≤ x3 → x3 ≤ 0 → 0 ≤ x4 → x4 ≤ 3 → (-9223372036854775808) ≤ x5 → x5 ≤ 9223372036854775807 → 1 ≤ x7 → x7 ≤ 4 → 0 ≤ z0 → z0 ≤ 0 → (x3 + (-16) * z0) ≤ 0 → ((-x3) + 16 * z0) ≤ 0 → ((-x3) + x4) ≤ 3 → (x3 + (-x4)) ≤ 0 → h1.2.2 1 0 = y0 → 2 ≤ y0 → y0 ≤ 2 → ((-80) * x3 + (-8) * x4 + (-x7) + 1316) < N → jEv (jOk 1) none (fun _ => 0) c156_0 0 0 (PV G [(6, 0)] h) (c156_33, [(2, 1), (0, 1), (0, 4), (0, x3), (0, x4), (1, x5), (9, 0), (0, x7)], [], h1, 0, 0)) := by
  intro N
  induction N with
  | zero => exact ⟨fun h1 x3 y0 z0 j4 j5 j7 g1 k1 b0 b1 b2 b3 b4 b5 b6 b7 b8 hm => absurd hm (by omega), fun h1 x3 x4 y0 z0 j5 j7 g1 k1 b0 b1 b2 b3 b4 b5 b6 b7 b8 b9 b10 b11 b12 hm => absurd hm (by omega), fun h1 x3 x4 x5 x7 y0 z0 g1 k1 b0 b1 b2 b3 b4 b5 b6 b7 b8 b9 b10 b11 b12 b13 b14 b15 b16 hm => absurd hm (by omega)⟩
  | succ N ih =>
    refine ⟨?_, ?_, ?_⟩
    · intro h1 x3 y0 z0 j4 j5 j7 g1 k1 b0 b1 b2 b3 b4 b5 ey0 ly0 uy0 hm
      refine ev_iload_n rfl ?_
      refine ev_aload_n rfl ?_
      refine ev_in (d := 0) (a := 0) (b := 0) (cd' := c157_0) (m := 1) (L0 := [(2, 1)]) (jcall_v (A := []) (S' := [(0, x3)]) (r := 1) rfl (g1.lt ad1) (g1.tg ad1) (Nat.le_of_ble_eq_true rfl)) (by decide) ml157 pp157 (Nat.le_of_ble_eq_true rfl) rfl (by decide) (by decide) ?_
      refine ev_iconst ?_
      refine ev_iconst ?_
      refine ev_aload_n rfl ?_
      refine g_getv (r := 1) (v := y0) g1 ad1 (by decide) ft10_0 (ey0) ?_
      refine ev_imul (r := (2 * y0)) (by unfold w32; omega) ?_
      refine g_ishlB (a' := 1) (a := 1) (b := 4) (hi := 16) (by omega) (by omega) (by omega) (by omega) (by decide) (by decide) (fun v25463 ev25463 lv25463 uv25463 => ?_)
      refine ev_ret rfl (by decide) (by decide) ?_
      show jEv _ _ _ _ _ _ _ (_, [(2, 1), (0, 1), (0, 4), (0, x3), j4, j5, (9, 0), j7], [(0, v25463), (0, x3)], _, _, _)
      refine ev_icmpge f156_91 (fun c25464 => ?_) (fun c25464 => ?_)
      · exact ev_ret rfl (by decide) (by decide) ⟨rfl, g1, k1⟩
      · refine ev_iload_n rfl ?_
        refine ev_istore (L' := [(2, 1), (0, 1), (0, 4), (0, x3), (0, x3), j5, (9, 0), j7]) (Nat.le_of_ble_eq_true rfl) rfl ?_
        exact ih.2.1 _ _ _ _ z0 _ _ g1 k1 (by omega) (by omega) (by omega) (by omega) (by omega) (by omega) (by omega) (by omega) (by omega) (by omega) (ey0) (by omega) (by omega) (by omega)
    · intro h1 x3 x4 y0 z0 j5 j7 g1 k1 b0 b1 b2 b3 b4 b5 b6 b7 b8 b9 ey0 ly0 uy0 hm
      refine ev_iload rfl ?_
      refine ev_iload_n rfl ?_
      refine ev_iload_n rfl ?_
      refine ev_iadd (r := (x3 + 4)) (by unfold w32; omega) ?_
      refine ev_icmpge f156_82 (fun c25465 => ?_) (fun c25465 => ?_)
      · refine ev_iload_n rfl ?_
        refine ev_iconst ?_
        refine ev_iload_n rfl ?_
        refine ev_imul (r := 16) (by decide) ?_
        refine ev_iadd (r := (x3 + 16)) (by unfold w32; omega) ?_
        refine ev_istore_n (L' := [(2, 1), (0, 1), (0, 4), (0, (x3 + 16)), (0, x4), j5, (9, 0), j7]) (Nat.le_of_ble_eq_true rfl) rfl ?_
        refine ev_goto f156_8 ?_
        exact ih.1 _ _ _ (z0 + 1) _ _ _ g1 k1 (by omega) (by omega) (by omega) (by omega) (by omega) (by omega) (ey0) (by omega) (by omega) (by omega)
      · refine ev_lconst ?_
        refine ev_lstore (L' := [(2, 1), (0, 1), (0, 4), (0, x3), (0, x4), (1, 0), (9, 0), j7]) (Nat.le_of_ble_eq_true rfl) rfl ?_
        refine ev_iconst ?_
        refine ev_istore (L' := [(2, 1), (0, 1), (0, 4), (0, x3), (0, x4), (1, 0), (9, 0), (0, 1)]) (Nat.le_of_ble_eq_true rfl) rfl ?_
        exact ih.2.2 _ _ _ _ _ _ z0 g1 k1 (by omega) (by omega) (by omega) (by omega) (by omega) (by omega) (by omega) (by omega) (by omega) (by omega) (by omega) (by omega) (by omega) (by omega) (ey0) (by omega) (by omega) (by omega)
    · intro h1 x3 x4 x5 x7 y0 z0 g1 k1 b0 b1 b2 b3 b4 b5 b6 b7 b8 b9 b10 b11 b12 b13 ey0 ly0 uy0 hm
      refine ev_iload rfl ?_
      refine ev_aload_n rfl ?_
      refine g_getp (r := 1) (c := 2) g1 ad1 (by decide) (by decide) rf1_3 ft10_3 ?_
      refine ev_iload_n rfl ?_
      refine g_iald g1 ad2 rt2 (by omega) (by omega) (fun v25466 ev25466 lv25466 uv25466 => ?_)
      refine ev_icmpgt f156_67 (fun c25467 => ?_) (fun c25467 => ?_)
      · refine ev_aload_n rfl ?_
        refine g_getp (r := 1) (c := 6) g1 ad1 (by decide) (by decide) rf1_7 ft10_7 ?_
        refine ev_iload rfl ?_
        refine ev_lload rfl ?_
        refine g_last g1 ad6 rt6 (fun _ => rfl) (by omega) (by omega) (by omega) (by omega) (fun h25468 e25468 g25468 => ?_)
        have k25468 := k1.wr e25468 rfl
        refine ev_iinc (w := (x4 + 1)) (L' := [(2, 1), (0, 1), (0, 4), (0, x3), (0, (x4 + 1)), (1, x5), (9, 0), (0, x7)]) rfl (by unfold w32; omega) rfl ?_
        refine ev_goto f156_19 ?_
        exact ih.2.1 _ _ _ _ z0 _ _ g25468 k25468 (by omega) (by omega) (by omega) (by omega) (by omega) (by omega) (by omega) (by omega) (by omega) (by omega) (((jw_ne e25468 (Or.inl (by decide))).trans ey0)) (by omega) (by omega) (by omega)
      · refine ev_lload rfl ?_
        refine ev_aload_n rfl ?_
        refine g_getp (r := 1) (c := 6) g1 ad1 (by decide) (by decide) rf1_7 ft10_7 ?_
        refine ev_iload rfl ?_
        refine ev_iload rfl ?_
        refine ev_iload_n rfl ?_
        refine ev_imul (r := (4 * x7)) (by unfold w32; omega) ?_
        refine ev_iadd (r := (x4 + 4 * x7)) (by unfold w32; omega) ?_
        refine g_lald g1 ad6 rt6 (by omega) (by omega) (fun v25469 ev25469 lv25469 uv25469 => ?_)
        refine g_laddG (fun v25470 ev25470 lv25470 uv25470 => ?_)
        refine ev_lstore (L' := [(2, 1), (0, 1), (0, 4), (0, x3), (0, x4), (1, v25470), (9, 0), (0, x7)]) (Nat.le_of_ble_eq_true rfl) rfl ?_
        refine ev_iinc (w := (x7 + 1)) (L' := [(2, 1), (0, 1), (0, 4), (0, x3), (0, x4), (1, v25470), (9, 0), (0, (x7 + 1))]) rfl (by unfold w32; omega) rfl ?_
        refine ev_goto f156_33 ?_
        exact ih.2.2 _ _ _ _ _ _ z0 g1 k1 (by omega) (by omega) (by omega) (by omega) (by omega) (by omega) (by omega) (by omega) (by omega) (by omega) (by omega) (by omega) (by omega) (by omega) (ey0) (by omega) (by omega) (by omega)
set_option maxHeartbeats 4000000 in
theorem s156_1_2 {G : GH} {h : JH} (g : Gd G h) (ew0 : h.2.2 1 0 = 2) : jOk 2 0 0 156 [(2, 1), (0, 1)] h (PV G [(6, 0)] h) := by
  refine ⟨by decide, by rw [ml156]; exact Nat.le_of_ble_eq_true rfl, ?_⟩
  rw [ml156, pp156]
  show jEv _ none _ c156_0 0 0 _ (c156_0, [(2, 1), (0, 1), (9, 0), (9, 0), (9, 0), (9, 0), (9, 0), (9, 0)], [], h, 0, 0)
  have k0 := Kp.rf [(6, 0)] h
  refine ev_iconst ?_
  refine ev_iconst ?_
  refine ev_iload_n rfl ?_
  refine ev_imul (r := 2) (by decide) ?_
  refine ev_ishl (r := 4) (by decide) ?_
  refine ev_istore_n (L' := [(2, 1), (0, 1), (0, 4), (9, 0), (9, 0), (9, 0), (9, 0), (9, 0)]) (Nat.le_of_ble_eq_true rfl) rfl ?_
  refine ev_iconst ?_
  refine ev_istore_n (L' := [(2, 1), (0, 1), (0, 4), (0, 0), (9, 0), (9, 0), (9, 0), (9, 0)]) (Nat.le_of_ble_eq_true rfl) rfl ?_
  exact (s156_1_2_l ew0 2720).1 _ _ _ 0 _ _ _ g k0 (by omega) (by omega) (by omega) (by omega) (by omega) (by omega) (ew0) (by omega) (by omega) (by omega)
/-! s156_1_3  -/
set_option maxHeartbeats 4000000 in
theorem s156_1_3_l {G : GH} {h : JH} (ew0 : h.2.2 1 0 = 3) : ∀ N : Nat, (∀ (h1 : JH) (x3 y0 z0 : Int) (j4 j5 j7 : AV), Gd G h1 → Kp [(6, 0)] h h1 → 0 ≤ x3 → x3 ≤ 64 → 0 ≤ z0 → z0 ≤ 4 → (x3 + (-16) * z0) ≤ 0 → ((-x3) + 16 * z0) ≤ 0 → h1.2.2 1 0 = y0 → 3 ≤ y0 → y0 ≤ 3 → ((-960) * x3 + 61924) < N → jEv (jOk 1) none (fun _ => 0) c156_0 0 0 (PV G [(6, 0)] h) (c156_8, [(2, 1), (0, 1), (0, 4), (0, x3), j4, j5, (9, 0), j7], [], h1, 0, 0)) ∧ (∀ (h1 : JH) (x3 x4 y0 z0 : Int) (j5 j7 : AV), Gd G h1 → Kp [(6, 0)] h h1 → 0 ≤ x3 → x3 ≤ 59 → 0 ≤ x4 → x4 ≤ 59 → 0 ≤ z0 → z0 ≤ 3 → (x3 + (-16) * z0) ≤ 0 → ((-x3) + 16 * z0) ≤ 0 → ((-x3) + x4) ≤ 4 → (x3 + (-x4)) ≤ 0 → h1.2.2 1 0 = y0 → 3 ≤ y0 → y0 ≤ 3 → ((-960) * x3 + (-8) * x4 + 61916) < N → jEv (jOk 1) none (fun _ => 0) c156_0 0 0 (PV G [(6, 0)] h) (c156_19, [(2, 1), (0, 1), (0, 4), (0, x3), (0, x4), j5, (9, 0), j7], [], h1, 0, 0)) ∧ (∀ (h1 : JH) (x3 x4 x5 x7 y0 z0 : Int), Gd G h1 → Kp [(6, 0)] h h1 → 0 ≤ x3 → x3 ≤ 59 → 0 ≤ x4 → x4 ≤ 59 → (-9223372036854775808) ≤ x5 → x5 ≤ 9223372036854775807 → 1 ≤ x7 → x7 ≤ 4 → 0 ≤ z0 → z0 ≤ 3 → (x3 + (-16) * z0) ≤ 0 → ((-x3) + 16 * z0) ≤ 0 → ((-x3) + x4) ≤ 3 → (x3 + (-x4)) ≤ 0 → h1.2.2 1 0 = y0 → 3 ≤ y0 → y0 ≤ 3 → ((-960) * x3 + (-8) * x4 + (-x7) + 61916) < N → jEv (jOk 1) none (fun _ => 0) c156_0 0 0 (PV G [(6, 0)] h) (c156_33, [(2, 1), (0, 1), (0, 4), (0, x3), (0, x4), (1, x5), (9, 0), (0, x7)], [], h1, 0, 0)) := by
  intro N
  induction N with
  | zero => exact ⟨fun h1 x3 y0 z0 j4 j5 j7 g1 k1 b0 b1 b2 b3 b4 b5 b6 b7 b8 hm => absurd hm (by omega), fun h1 x3 x4 y0 z0 j5 j7 g1 k1 b0 b1 b2 b3 b4 b5 b6 b7 b8 b9 b10 b11 b12 hm => absurd hm (by omega), fun h1 x3 x4 x5 x7 y0 z0 g1 k1 b0 b1 b2 b3 b4 b5 b6 b7 b8 b9 b10 b11 b12 b13 b14 b15 b16 hm => absurd hm (by omega)⟩
  | succ N ih =>
    refine ⟨?_, ?_, ?_⟩
    · intro h1 x3 y0 z0 j4 j5 j7 g1 k1 b0 b1 b2 b3 b4 b5 ey0 ly0 uy0 hm
      refine ev_iload_n rfl ?_
      refine ev_aload_n rfl ?_
      refine ev_in (d := 0) (a := 0) (b := 0) (cd' := c157_0) (m := 1) (L0 := [(2, 1)]) (jcall_v (A := []) (S' := [(0, x3)]) (r := 1) rfl (g1.lt ad1) (g1.tg ad1) (Nat.le_of_ble_eq_true rfl)) (by decide) ml157 pp157 (Nat.le_of_ble_eq_true rfl) rfl (by decide) (by decide) ?_
      refine ev_iconst ?_
      refine ev_iconst ?_
      refine ev_aload_n rfl ?_
      refine g_getv (r := 1) (v := y0) g1 ad1 (by decide) ft10_0 (ey0) ?_
      refine ev_imul (r := (2 * y0)) (by unfold w32; omega) ?_
      refine g_ishlB (a' := 1) (a := 1) (b := 6) (hi := 64) (by omega) (by omega) (by omega) (by omega) (by decide) (by decide) (fun v25545 ev25545 lv25545 uv25545 => ?_)
      refine ev_ret rfl (by decide) (by decide) ?_
      show jEv _ _ _ _ _ _ _ (_, [(2, 1), (0, 1), (0, 4), (0, x3), j4, j5, (9, 0), j7], [(0, v25545), (0, x3)], _, _, _)
      refine ev_icmpge f156_91 (fun c25546 => ?_) (fun c25546 => ?_)
      · exact ev_ret rfl (by decide) (by decide) ⟨rfl, g1, k1⟩
      · refine ev_iload_n rfl ?_
        refine ev_istore (L' := [(2, 1), (0, 1), (0, 4), (0, x3), (0, x3), j5, (9, 0), j7]) (Nat.le_of_ble_eq_true rfl) rfl ?_
        exact ih.2.1 _ _ _ _ z0 _ _ g1 k1 (by omega) (by omega) (by omega) (by omega) (by omega) (by omega) (by omega) (by omega) (by omega) (by omega) (ey0) (by omega) (by omega) (by omega)
    · intro h1 x3 x4 y0 z0 j5 j7 g1 k1 b0 b1 b2 b3 b4 b5 b6 b7 b8 b9 ey0 ly0 uy0 hm
      refine ev_iload rfl ?_
      refine ev_iload_n rfl ?_
      refine ev_iload_n rfl ?_
      refine ev_iadd (r := (x3 + 4)) (by unfold w32; omega) ?_
      refine ev_icmpge f156_82 (fun c25547 => ?_) (fun c25547 => ?_)
      · refine ev_iload_n rfl ?_
        refine ev_iconst ?_
        refine ev_iload_n rfl ?_
        refine ev_imul (r := 16) (by decide) ?_
        refine ev_iadd (r := (x3 + 16)) (by unfold w32; omega) ?_
        refine ev_istore_n (L' := [(2, 1), (0, 1), (0, 4), (0, (x3 + 16)), (0, x4), j5, (9, 0), j7]) (Nat.le_of_ble_eq_true rfl) rfl ?_
        refine ev_goto f156_8 ?_
        exact ih.1 _ _ _ (z0 + 1) _ _ _ g1 k1 (by omega) (by omega) (by omega) (by omega) (by omega) (by omega) (ey0) (by omega) (by omega) (by omega)
      · refine ev_lconst ?_
        refine ev_lstore (L' := [(2, 1), (0, 1), (0, 4), (0, x3), (0, x4), (1, 0), (9, 0), j7]) (Nat.le_of_ble_eq_true rfl) rfl ?_
        refine ev_iconst ?_
        refine ev_istore (L' := [(2, 1), (0, 1), (0, 4), (0, x3), (0, x4), (1, 0), (9, 0), (0, 1)]) (Nat.le_of_ble_eq_true rfl) rfl ?_
        exact ih.2.2 _ _ _ _ _ _ z0 g1 k1 (by omega) (by omega) (by omega) (by omega) (by omega) (by omega) (by omega) (by omega) (by omega) (by omega) (by omega) (by omega) (by omega) (by omega) (ey0) (by omega) (by omega) (by omega)
    · intro h1 x3 x4 x5 x7 y0 z0 g1 k1 b0 b1 b2 b3 b4 b5 b6 b7 b8 b9 b10 b11 b12 b13 ey0 ly0 uy0 hm
      refine ev_iload rfl ?_
      refine ev_aload_n rfl ?_
      refine g_getp (r := 1) (c := 2) g1 ad1 (by decide) (by decide) rf1_3 ft10_3 ?_
      refine ev_iload_n rfl ?_
      refine g_iald g1 ad2 rt2 (by omega) (by omega) (fun v25548 ev25548 lv25548 uv25548 => ?_)
      refine ev_icmpgt f156_67 (fun c25549 => ?_) (fun c25549 => ?_)
      · refine ev_aload_n rfl ?_
        refine g_getp (r := 1) (c := 6) g1 ad1 (by decide) (by decide) rf1_7 ft10_7 ?_
        refine ev_iload rfl ?_
        refine ev_lload rfl ?_
        refine g_last g1 ad6 rt6 (fun _ => rfl) (by omega) (by omega) (by omega) (by omega) (fun h25550 e25550 g25550 => ?_)
        have k25550 := k1.wr e25550 rfl
        refine ev_iinc (w := (x4 + 1)) (L' := [(2, 1), (0, 1), (0, 4), (0, x3), (0, (x4 + 1)), (1, x5), (9, 0), (0, x7)]) rfl (by unfold w32; omega) rfl ?_
        refine ev_goto f156_19 ?_
        exact ih.2.1 _ _ _ _ z0 _ _ g25550 k25550 (by omega) (by omega) (by omega) (by omega) (by omega) (by omega) (by omega) (by omega) (by omega) (by omega) (((jw_ne e25550 (Or.inl (by decide))).trans ey0)) (by omega) (by omega) (by omega)
      · refine ev_lload rfl ?_
        refine ev_aload_n rfl ?_
        refine g_getp (r := 1) (c := 6) g1 ad1 (by decide) (by decide) rf1_7 ft10_7 ?_
        refine ev_iload rfl ?_
        refine ev_iload rfl ?_
        refine ev_iload_n rfl ?_
        refine ev_imul (r := (4 * x7)) (by unfold w32; omega) ?_
        refine ev_iadd (r := (x4 + 4 * x7)) (by unfold w32; omega) ?_
        refine g_lald g1 ad6 rt6 (by omega) (by omega) (fun v25551 ev25551 lv25551 uv25551 => ?_)
        refine g_laddG (fun v25552 ev25552 lv25552 uv25552 => ?_)
        refine ev_lstore (L' := [(2, 1), (0, 1), (0, 4), (0, x3), (0, x4), (1, v25552), (9, 0), (0, x7)]) (Nat.le_of_ble_eq_true rfl) rfl ?_
        refine ev_iinc (w := (x7 + 1)) (L' := [(2, 1), (0, 1), (0, 4), (0, x3), (0, x4), (1, v25552), (9, 0), (0, (x7 + 1))]) rfl (by unfold w32; omega) rfl ?_
        refine ev_goto f156_33 ?_
        exact ih.2.2 _ _ _ _ _ _ z0 g1 k1 (by omega) (by omega) (by omega) (by omega) (by omega) (by omega) (by omega) (by omega) (by omega) (by omega) (by omega) (by omega) (by omega) (by omega) (ey0) (by omega) (by omega) (by omega)
set_option maxHeartbeats 4000000 in
theorem s156_1_3 {G : GH} {h : JH} (g : Gd G h) (ew0 : h.2.2 1 0 = 3) : jOk 2 0 0 156 [(2, 1), (0, 1)] h (PV G [(6, 0)] h) := by
  refine ⟨by decide, by rw [ml156]; exact Nat.le_of_ble_eq_true rfl, ?_⟩
  rw [ml156, pp156]
  show jEv _ none _ c156_0 0 0 _ (c156_0, [(2, 1), (0, 1), (9, 0), (9, 0), (9, 0), (9, 0), (9, 0), (9, 0)], [], h, 0, 0)
  have k0 := Kp.rf [(6, 0)] h
  refine ev_iconst ?_
  refine ev_iconst ?_
  refine ev_iload_n rfl ?_
  refine ev_imul (r := 2) (by decide) ?_
  refine ev_ishl (r := 4) (by decide) ?_
  refine ev_istore_n (L' := [(2, 1), (0, 1), (0, 4), (9, 0), (9, 0), (9, 0), (9, 0), (9, 0)]) (Nat.le_of_ble_eq_true rfl) rfl ?_
  refine ev_iconst ?_
  refine ev_istore_n (L' := [(2, 1), (0, 1), (0, 4), (0, 0), (9, 0), (9, 0), (9, 0), (9, 0)]) (Nat.le_of_ble_eq_true rfl) rfl ?_
  exact (s156_1_3_l ew0 124800).1 _ _ _ 0 _ _ _ g k0 (by omega) (by omega) (by omega) (by omega) (by omega) (by omega) (ew0) (by omega) (by omega) (by omega)
/-! s156_1_4  -/
set_option maxHeartbeats 4000000 in
theorem s156_1_4_l {G : GH} {h : JH} (ew0 : h.2.2 1 0 = 4) : ∀ N : Nat, (∀ (h1 : JH) (x3 y0 z0 : Int) (j4 j5 j7 : AV), Gd G h1 → Kp [(6, 0)] h h1 → 0 ≤ x3 → x3 ≤ 256 → 0 ≤ z0 → z0 ≤ 16 → (x3 + (-16) * z0) ≤ 0 → ((-x3) + 16 * z0) ≤ 0 → h1.2.2 1 0 = y0 → 4 ≤ y0 → y0 ≤ 4 → ((-4096) * x3 + 1050628) < N → jEv (jOk 1) none (fun _ => 0) c156_0 0 0 (PV G [(6, 0)] h) (c156_8, [(2, 1), (0, 1), (0, 4), (0, x3), j4, j5, (9, 0), j7], [], h1, 0, 0)) ∧ (∀ (h1 : JH) (x3 x4 y0 z0 : Int) (j5 j7 : AV), Gd G h1 → Kp [(6, 0)] h h1 → 0 ≤ x3 → x3 ≤ 255 → 0 ≤ x4 → x4 ≤ 255 → 0 ≤ z0 → z0 ≤ 15 → (x3 + (-16) * z0) ≤ 0 → ((-x3) + 16 * z0) ≤ 0 → ((-x3) + x4) ≤ 4 → (x3 + (-x4)) ≤ 0 → h1.2.2 1 0 = y0 → 4 ≤ y0 → y0 ≤ 4 → ((-4096) * x3 + (-8) * x4 + 1050620) < N → jEv (jOk 1) none (fun _ => 0) c156_0 0 0 (PV G [(6, 0)] h) (c156_19, [(2, 1), (0, 1), (0, 4), (0, x3), (0, x4), j5, (9, 0), j7], [], h1, 0, 0)) ∧ (∀ (h1 : JH) (x3 x4 x5 x7 y0 z0 : Int), Gd G h1 → Kp [(6, 0)] h h1 → 0 ≤ x3 → x3 ≤ 255 → 0 ≤ x4 → x4 ≤ 255 → (-9223372036854775808) ≤ x5 → x5 ≤ 9223372036854775807 → 1 ≤ x7 → x7 ≤ 4 → 0 ≤ z0 → z0 ≤ 15 → (x3 + (-16) * z0) ≤ 0 → ((-x3) + 16 * z0) ≤ 0 → ((-x3) + x4) ≤ 3 → (x3 + (-x4)) ≤ 0 → h1.2.2 1 0 = y0 → 4 ≤ y0 → y0 ≤ 4 → ((-4096) * x3 + (-8) * x4 + (-x7) + 1050620) < N → jEv (jOk 1) none (fun _ => 0) c156_0 0 0 (PV G [(6, 0)] h) (c156_33, [(2, 1), (0, 1), (0, 4), (0, x3), (0, x4), (1, x5), (9, 0), (0, x7)], [], h1, 0, 0)) := by
  intro N
  induction N with
  | zero => exact ⟨fun h1 x3 y0 z0 j4 j5 j7 g1 k1 b0 b1 b2 b3 b4 b5 b6 b7 b8 hm => absurd hm (by omega), fun h1 x3 x4 y0 z0 j5 j7 g1 k1 b0 b1 b2 b3 b4 b5 b6 b7 b8 b9 b10 b11 b12 hm => absurd hm (by omega), fun h1 x3 x4 x5 x7 y0 z0 g1 k1 b0 b1 b2 b3 b4 b5 b6 b7 b8 b9 b10 b11 b12 b13 b14 b15 b16 hm => absurd hm (by omega)⟩
  | succ N ih =>
    refine ⟨?_, ?_, ?_⟩
    · intro h1 x3 y0 z0 j4 j5 j7 g1 k1 b0 b1 b2 b3 b4 b5 ey0 ly0 uy0 hm
      refine ev_iload_n rfl ?_
      refine ev_aload_n rfl ?_
      refine ev_in (d := 0) (a := 0) (b := 0) (cd' := c157_0) (m := 1) (L0 := [(2, 1)]) (jcall_v (A := []) (S' := [(0, x3)]) (r := 1) rfl (g1.lt ad1) (g1.tg ad1) (Nat.le_of_ble_eq_true rfl)) (by decide) ml157 pp157 (Nat.le_of_ble_eq_true rfl) rfl (by decide) (by decide) ?_
      refine ev_iconst ?_
      refine ev_iconst ?_
      refine ev_aload_n rfl ?_
      refine g_getv (r := 1) (v := y0) g1 ad1 (by decide) ft10_0 (ey0) ?_
      refine ev_imul (r := (2 * y0)) (by unfold w32; omega) ?_
      refine g_ishlB (a' := 1) (a := 1) (b := 8) (hi := 256) (by omega) (by omega) (by omega) (by omega) (by decide) (by decide) (fun v25690 ev25690 lv25690 uv25690 => ?_)
      refine ev_ret rfl (by decide) (by decide) ?_
      show jEv _ _ _ _ _ _ _ (_, [(2, 1), (0, 1), (0, 4), (0, x3), j4, j5, (9, 0), j7], [(0, v25690), (0, x3)], _, _, _)
      refine ev_icmpge f156_91 (fun c25691 => ?_) (fun c25691 => ?_)
      · exact ev_ret rfl (by decide) (by decide) ⟨rfl, g1, k1⟩
      · refine ev_iload_n rfl ?_
        refine ev_istore (L' := [(2, 1), (0, 1), (0, 4), (0, x3), (0, x3), j5, (9, 0), j7]) (Nat.le_of_ble_eq_true rfl) rfl ?_
        exact ih.2.1 _ _ _ _ z0 _ _ g1 k1 (by omega) (by omega) (by omega) (by omega) (by omega) (by omega) (by omega) (by omega) (by omega) (by omega) (ey0) (by omega) (by omega) (by omega)
    · intro h1 x3 x4 y0 z0 j5 j7 g1 k1 b0 b1 b2 b3 b4 b5 b6 b7 b8 b9 ey0 ly0 uy0 hm
      refine ev_iload rfl ?_
      refine ev_iload_n rfl ?_
      refine ev_iload_n rfl ?_
      refine ev_iadd (r := (x3 + 4)) (by unfold w32; omega) ?_
      refine ev_icmpge f156_82 (fun c25692 => ?_) (fun c25692 => ?_)
      · refine ev_iload_n rfl ?_
        refine ev_iconst ?_
        refine ev_iload_n rfl ?_
        refine ev_imul (r := 16) (by decide) ?_
        refine ev_iadd (r := (x3 + 16)) (by unfold w32; omega) ?_
        refine ev_istore_n (L' := [(2, 1), (0, 1), (0, 4), (0, (x3 + 16)), (0, x4), j5, (9, 0), j7]) (Nat.le_of_ble_eq_true rfl) rfl ?_
        refine ev_goto f156_8 ?_
        exact ih.1 _ _ _ (z0 + 1) _ _ _ g1 k1 (by omega) (by omega) (by omega) (by omega) (by omega) (by omega) (ey0) (by omega) (by omega) (by omega)
      · refine ev_lconst ?_
        refine ev_lstore (L' := [(2, 1), (0, 1), (0, 4), (0, x3), (0, x4), (1, 0), (9, 0), j7]) (Nat.le_of_ble_eq_true rfl) rfl ?_
        refine ev_iconst ?_
        refine ev_istore (L' := [(2, 1), (0, 1), (0, 4), (0, x3), (0, x4), (1, 0), (9, 0), (0, 1)]) (Nat.le_of_ble_eq_true rfl) rfl ?_
        exact ih.2.2 _ _ _ _ _ _ z0 g1 k1 (by omega) (by omega) (by omega) (by omega) (by omega) (by omega) (by omega) (by omega) (by omega) (by omega) (by omega) (by omega) (by omega) (by omega) (ey0) (by omega) (by omega) (by omega)
    · intro h1 x3 x4 x5 x7 y0 z0 g1 k1 b0 b1 b2 b3 b4 b5 b6 b7 b8 b9 b10 b11 b12 b13 ey0 ly0 uy0 hm
      refine ev_iload rfl ?_
      refine ev_aload_n rfl ?_
      refine g_getp (r := 1) (c := 2) g1 ad1 (by decide) (by decide) rf1_3 ft10_3 ?_
      refine ev_iload_n rfl ?_
      refine g_iald g1 ad2 rt2 (by omega) (by omega) (fun v25693 ev25693 lv25693 uv25693 => ?_)
      refine ev_icmpgt f156_67 (fun c25694 => ?_) (fun c25694 => ?_)
      · refine ev_aload_n rfl ?_
        refine g_getp (r := 1) (c := 6) g1 ad1 (by decide) (by decide) rf1_7 ft10_7 ?_
        refine ev_iload rfl ?_
        refine ev_lload rfl ?_
        refine g_last g1 ad6 rt6 (fun _ => rfl) (by omega) (by omega) (by omega) (by omega) (fun h25695 e25695 g25695 => ?_)
        have k25695 := k1.wr e25695 rfl
        refine ev_iinc (w := (x4 + 1)) (L' := [(2, 1), (0, 1), (0, 4), (0, x3), (0, (x4 + 1)), (1, x5), (9, 0), (0, x7)]) rfl (by unfold w32; omega) rfl ?_
        refine ev_goto f156_19 ?_
        exact ih.2.1 _ _ _ _ z0 _ _ g25695 k25695 (by omega) (by omega) (by omega) (by omega) (by omega) (by omega) (by omega) (by omega) (by omega) (by omega) (((jw_ne e25695 (Or.inl (by decide))).trans ey0)) (by omega) (by omega) (by omega)
      · refine ev_lload rfl ?_
        refine ev_aload_n rfl ?_
        refine g_getp (r := 1) (c := 6) g1 ad1 (by decide) (by decide) rf1_7 ft10_7 ?_
        refine ev_iload rfl ?_
        refine ev_iload rfl ?_
        refine ev_iload_n rfl ?_
        refine ev_imul (r := (4 * x7)) (by unfold w32; omega) ?_
        refine ev_iadd (r := (x4 + 4 * x7)) (by unfold w32; omega) ?_
        refine g_lald g1 ad6 rt6 (by omega) (by omega) (fun v25696 ev25696 lv25696 uv25696 => ?_)
        refine g_laddG (fun v25697 ev25697 lv25697 uv25697 => ?_)
        refine ev_lstore (L' := [(2, 1), (0, 1), (0, 4), (0, x3), (0, x4), (1, v25697), (9, 0), (0, x7)]) (Nat.le_of_ble_eq_true rfl) rfl ?_
        refine ev_iinc (w := (x7 + 1)) (L' := [(2, 1), (0, 1), (0, 4), (0, x3), (0, x4), (1, v25697), (9, 0), (0, (x7 + 1))]) rfl (by unfold w32; omega) rfl ?_
        refine ev_goto f156_33 ?_
        exact ih.2.2 _ _ _ _ _ _ z0 g1 k1 (by omega) (by omega) (by omega) (by omega) (by omega) (by omega) (by omega) (by omega) (by omega) (by omega) (by omega) (by omega) (by omega) (by omega) (ey0) (by omega) (by omega) (by omega)
set_option maxHeartbeats 4000000 in
theorem s156_1_4 {G : GH} {h : JH} (g : Gd G h) (ew0 : h.2.2 1 0 = 4) : jOk 2 0 0 156 [(2, 1), (0, 1)] h (PV G [(6, 0)] h) := by
  refine ⟨by decide, by rw [ml156]; exact Nat.le_of_ble_eq_true rfl, ?_⟩
  rw [ml156, pp156]
  show jEv _ none _ c156_0 0 0 _ (c156_0, [(2, 1), (0, 1), (9, 0), (9, 0), (9, 0), (9, 0), (9, 0), (9, 0)], [], h, 0, 0)
  have k0 := Kp.rf [(6, 0)] h
  refine ev_iconst ?_
  refine ev_iconst ?_
  refine ev_iload_n rfl ?_
  refine ev_imul (r := 2) (by decide) ?_
  refine ev_ishl (r := 4) (by decide) ?_
  refine ev_istore_n (L' := [(2, 1), (0, 1), (0, 4), (9, 0), (9, 0), (9, 0), (9, 0), (9, 0)]) (Nat.le_of_ble_eq_true rfl) rfl ?_
  refine ev_iconst ?_
  refine ev_istore_n (L' := [(2, 1), (0, 1), (0, 4), (0, 0), (9, 0), (9, 0), (9, 0), (9, 0)]) (Nat.le_of_ble_eq_true rfl) rfl ?_
  exact (s156_1_4_l ew0 2105344).1 _ _ _ 0 _ _ _ g k0 (by omega) (by omega) (by omega) (by omega) (by omega) (by omega) (ew0) (by omega) (by omega) (by omega)
/-! s156_2_3  -/
set_option maxHeartbeats 4000000 in
theorem s156_2_3_l {G : GH} {h : JH} (ew0 : h.2.2 1 0 = 3) : ∀ N : Nat, (∀ (h1 : JH) (x3 y0 z0 : Int) (j4 j5 j7 : AV), Gd G h1 → Kp [(6, 0)] h h1 → 0 ≤ x3 → x3 ≤ 64 → 0 ≤ z0 → z0 ≤ 1 → (x3 + (-64) * z0) ≤ 0 → ((-x3) + 64 * z0) ≤ 0 → h1.2.2 1 0 = y0 → 3 ≤ y0 → y0 ≤ 3 → ((-272) * x3 + 17548) < N → jEv (jOk 1) none (fun _ => 0) c156_0 0 0 (PV G [(6, 0)] h) (c156_8, [(2, 1), (0, 2), (0, 16), (0, x3), j4, j5, (9, 0), j7], [], h1, 0, 0)) ∧ (∀ (h1 : JH) (x3 x4 y0 z0 : Int) (j5 j7 : AV), Gd G h1 → Kp [(6, 0)] h h1 → 0 ≤ x3 → x3 ≤ 0 → 0 ≤ x4 → x4 ≤ 16 → 0 ≤ z0 → z0 ≤ 0 → (x3 + (-64) * z0) ≤ 0 → ((-x3) + 64 * z0) ≤ 0 → ((-x3) + x4) ≤ 16 → (x3 + (-x4)) ≤ 0 → h1.2.2 1 0 = y0 → 3 ≤ y0 → y0 ≤ 3 → ((-272) * x3 + (-8) * x4 + 17540) < N → jEv (jOk 1) none (fun _ => 0) c156_0 0 0 (PV G [(6, 0)] h) (c156_19, [(2, 1), (0, 2), (0, 16), (0, x3), (0, x4), j5, (9, 0), j7], [], h1, 0, 0)) ∧ (∀ (h1 : JH) (x3 x4 x5 x7 y0 z0 : Int), Gd G h1 → Kp [(6, 0)] h h1 → 0 ≤ x3 → x3 ≤ 0 → 0 ≤ x4 → x4 ≤ 15 → (-9223372036854775808) ≤ x5 → x5 ≤ 9223372036854775807 → 1 ≤ x7 → x7 ≤ 4 → 0 ≤ z0 → z0 ≤ 0 → (x3 + (-64) * z0) ≤ 0 → ((-x3) + 64 * z0) ≤ 0 → ((-x3) + x4) ≤ 15 → (x3 + (-x4)) ≤ 0 → h1.2.2 1 0 = y0 → 3 ≤ y0 → y0 ≤ 3 → ((-272) * x3 + (-8) * x4 + (-x7) + 17540) < N → jEv (jOk 1) none (fun _ => 0) c156_0 0 0 (PV G [(6, 0)] h) (c156_33, [(2, 1), (0, 2), (0, 16), (0, x3), (0, x4), (1, x5), (9, 0), (0, x7)], [], h1, 0, 0)) := by
  intro N
  induction N with
  | zero => exact ⟨fun h1 x3 y0 z0 j4 j5 j7 g1 k1 b0 b1 b2 b3 b4 b5 b6 b7 b8 hm => absurd hm (by omega), fun h1 x3 x4 y0 z0 j5 j7 g1 k1 b0 b1 b2 b3 b4 b5 b6 b7 b8 b9 b10 b11 b12 hm => absurd hm (by omega), fun h1 x3 x4 x5 x7 y0 z0 g1 k1 b0 b1 b2 b3 b4 b5 b6 b7 b8 b9 b10 b11 b12 b13 b14 b15 b16 hm => absurd hm (by omega)⟩
  | succ N ih =>
    refine ⟨?_, ?_, ?_⟩
    · intro h1 x3 y0 z0 j4 j5 j7 g1 k1 b0 b1 b2 b3 b4 b5 ey0 ly0 uy0 hm
      refine ev_iload_n rfl ?_
      refine ev_aload_n rfl ?_
      refine ev_in (d := 0) (a := 0) (b := 0) (cd' := c157_0) (m := 1) (L0 := [(2, 1)]) (jcall_v (A := []) (S' := [(0, x3)]) (r := 1) rfl (g1.lt ad1) (g1.tg ad1) (Nat.le_of_ble_eq_true rfl)) (by decide) ml157 pp157 (Nat.le_of_ble_eq_true rfl) rfl (by decide) (by decide) ?_
      refine ev_iconst ?_
      refine ev_iconst ?_
      refine ev_aload_n rfl ?_
      refine g_getv (r := 1) (v := y0) g1 ad1 (by decide) ft10_0 (ey0) ?_
      refine ev_imul (r := (2 * y0)) (by unfold w32; omega) ?_
      refine g_ishlB (a' := 1) (a := 1) (b := 6) (hi := 64) (by omega) (by omega) (by omega) (by omega) (by decide) (by decide) (fun v25800 ev25800 lv25800 uv25800 => ?_)
      refine ev_ret rfl (by decide) (by decide) ?_
      show jEv _ _ _ _ _ _ _ (_, [(2, 1), (0, 2), (0, 16), (0, x3), j4, j5, (9, 0), j7], [(0, v25800), (0, x3)], _, _, _)
      refine ev_icmpge f156_91 (fun c25801 => ?_) (fun c25801 => ?_)
      · exact ev_ret rfl (by decide) (by decide) ⟨rfl, g1, k1⟩
      · refine ev_iload_n rfl ?_
        refine ev_istore (L' := [(2, 1), (0, 2), (0, 16), (0, x3), (0, x3), j5, (9, 0), j7]) (Nat.le_of_ble_eq_true rfl) rfl ?_
        exact ih.2.1 _ _ _ _ z0 _ _ g1 k1 (by omega) (by omega) (by omega) (by omega) (by omega) (by omega) (by omega) (by omega) (by omega) (by omega) (ey0) (by omega) (by omega) (by omega)
    · intro h1 x3 x4 y0 z0 j5 j7 g1 k1 b0 b1 b2 b3 b4 b5 b6 b7 b8 b9 ey0 ly0 uy0 hm
      refine ev_iload rfl ?_
      refine ev_iload_n rfl ?_
      refine ev_iload_n rfl ?_
      refine ev_iadd (r := (x3 + 16)) (by unfold w32; omega) ?_
      refine ev_icmpge f156_82 (fun c25802 => ?_) (fun c25802 => ?_)
      · refine ev_iload_n rfl ?_
        refine ev_iconst ?_
        refine ev_iload_n rfl ?_
        refine ev_imul (r := 64) (by decide) ?_
        refine ev_iadd (r := (x3 + 64)) (by unfold w32; omega) ?_
        refine ev_istore_n (L' := [(2, 1), (0, 2), (0, 16), (0, (x3 + 64)), (0, x4), j5, (9, 0), j7]) (Nat.le_of_ble_eq_true rfl) rfl ?_
        refine ev_goto f156_8 ?_
        exact ih.1 _ _ _ (z0 + 1) _ _ _ g1 k1 (by omega) (by omega) (by omega) (by omega) (by omega) (by omega) (ey0) (by omega) (by omega) (by omega)
      · refine ev_lconst ?_
        refine ev_lstore (L' := [(2, 1), (0, 2), (0, 16), (0, x3), (0, x4), (1, 0), (9, 0), j7]) (Nat.le_of_ble_eq_true rfl) rfl ?_
        refine ev_iconst ?_
        refine ev_istore (L' := [(2, 1), (0, 2), (0, 16), (0, x3), (0, x4), (1, 0), (9, 0), (0, 1)]) (Nat.le_of_ble_eq_true rfl) rfl ?_
        exact ih.2.2 _ _ _ _ _ _ z0 g1 k1 (by omega) (by omega) (by omega) (by omega) (by omega) (by omega) (by omega) (by omega) (by omega) (by omega) (by omega) (by omega) (by omega) (by omega) (ey0) (by omega) (by omega) (by omega)
    · intro h1 x3 x4 x5 x7 y0 z0 g1 k1 b0 b1 b2 b3 b4 b5 b6 b7 b8 b9 b10 b11 b12 b13 ey0 ly0 uy0 hm
      refine ev_iload rfl ?_
      refine ev_aload_n rfl ?_
      refine g_getp (r := 1) (c := 2) g1 ad1 (by decide) (by decide) rf1_3 ft10_3 ?_
      refine ev_iload_n rfl ?_
      refine g_iald g1 ad2 rt2 (by omega) (by omega) (fun v25803 ev25803 lv25803 uv25803 => ?_)
      refine ev_icmpgt f156_67 (fun c25804 => ?_) (fun c25804 => ?_)
      · refine ev_aload_n rfl ?_
        refine g_getp (r := 1) (c := 6) g1 ad1 (by decide) (by decide) rf1_7 ft10_7 ?_
        refine ev_iload rfl ?_
        refine ev_lload rfl ?_
        refine g_last g1 ad6 rt6 (fun _ => rfl) (by omega) (by omega) (by omega) (by omega) (fun h25805 e25805 g25805 => ?_)
        have k25805 := k1.wr e25805 rfl
        refine ev_iinc (w := (x4 + 1)) (L' := [(2, 1), (0, 2), (0, 16), (0, x3), (0, (x4 + 1)), (1, x5), (9, 0), (0, x7)]) rfl (by unfold w32; omega) rfl ?_
        refine ev_goto f156_19 ?_
        exact ih.2.1 _ _ _ _ z0 _ _ g25805 k25805 (by omega) (by omega) (by omega) (by omega) (by omega) (by omega) (by omega) (by omega) (by omega) (by omega) (((jw_ne e25805 (Or.inl (by decide))).trans ey0)) (by omega) (by omega) (by omega)
      · refine ev_lload rfl ?_
        refine ev_aload_n rfl ?_
        refine g_getp (r := 1) (c := 6) g1 ad1 (by decide) (by decide) rf1_7 ft10_7 ?_
        refine ev_iload rfl ?_
        refine ev_iload rfl ?_
        refine ev_iload_n rfl ?_
        refine ev_imul (r := (16 * x7)) (by unfold w32; omega) ?_
        refine ev_iadd (r := (x4 + 16 * x7)) (by unfold w32; omega) ?_
        refine g_lald g1 ad6 rt6 (by omega) (by omega) (fun v25806 ev25806 lv25806 uv25806 => ?_)
        refine g_laddG (fun v25807 ev25807 lv25807 uv25807 => ?_)
        refine ev_lstore (L' := [(2, 1), (0, 2), (0, 16), (0, x3), (0, x4), (1, v25807), (9, 0), (0, x7)]) (Nat.le_of_ble_eq_true rfl) rfl ?_
        refine ev_iinc (w := (x7 + 1)) (L' := [(2, 1), (0, 2), (0, 16), (0, x3), (0, x4), (1, v25807), (9, 0), (0, (x7 + 1))]) rfl (by unfold w32; omega) rfl ?_
        refine ev_goto f156_33 ?_
        exact ih.2.2 _ _ _ _ _ _ z0 g1 k1 (by omega) (by omega) (by omega) (by omega) (by omega) (by omega) (by omega) (by omega) (by omega) (by omega) (by omega) (by omega) (by omega) (by omega) (ey0) (by omega) (by omega) (by omega)
set_option maxHeartbeats 4000000 in
theorem s156_2_3 {G : GH} {h : JH} (g : Gd G h) (ew0 : h.2.2 1 0 = 3) : jOk 2 0 0 156 [(2, 1), (0, 2)] h (PV G [(6, 0)] h) := by
  refine ⟨by decide, by rw [ml156]; exact Nat.le_of_ble_eq_true rfl, ?_⟩
  rw [ml156, pp156]
  show jEv _ none _ c156_0 0 0 _ (c156_0, [(2, 1), (0, 2), (9, 0), (9, 0), (9, 0), (9, 0), (9, 0), (9, 0)], [], h, 0, 0)
  have k0 := Kp.rf [(6, 0)] h
  refine ev_iconst ?_
  refine ev_iconst ?_
  refine ev_iload_n rfl ?_
  refine ev_imul (r := 4) (by decide) ?_
  refine ev_ishl (r := 16) (by decide) ?_
  refine ev_istore_n (L' := [(2, 1), (0, 2), (0, 16), (9, 0), (9, 0), (9, 0), (9, 0), (9, 0)]) (Nat.le_of_ble_eq_true rfl) rfl ?_
  refine ev_iconst ?_
  refine ev_istore_n (L' := [(2, 1), (0, 2), (0, 16), (0, 0), (9, 0), (9, 0), (9, 0), (9, 0)]) (Nat.le_of_ble_eq_true rfl) rfl ?_
  exact (s156_2_3_l ew0 35360).1 _ _ _ 0 _ _ _ g k0 (by omega) (by omega) (by omega) (by omega) (by omega) (by omega) (ew0) (by omega) (by omega) (by omega)
/-! s156_2_4  -/
set_option maxHeartbeats 4000000 in
theorem s156_2_4_l {G : GH} {h : JH} (ew0 : h.2.2 1 0 = 4) : ∀ N : Nat, (∀ (h1 : JH) (x3 y0 z0 : Int) (j4 j5 j7 : AV), Gd G h1 → Kp [(6, 0)] h h1 → 0 ≤ x3 → x3 ≤ 256 → 0 ≤ z0 → z0 ≤ 4 → (x3 + (-64) * z0) ≤ 0 → ((-x3) + 64 * z0) ≤ 0 → h1.2.2 1 0 = y0 → 4 ≤ y0 → y0 ≤ 4 → ((-4096) * x3 + 1050628) < N → jEv (jOk 1) none (fun _ => 0) c156_0 0 0 (PV G [(6, 0)] h) (c156_8, [(2, 1), (0, 2), (0, 16), (0, x3), j4, j5, (9, 0), j7], [], h1, 0, 0)) ∧ (∀ (h1 : JH) (x3 x4 y0 z0 : Int) (j5 j7 : AV), Gd G h1 → Kp [(6, 0)] h h1 → 0 ≤ x3 → x3 ≤ 199 → 0 ≤ x4 → x4 ≤ 255 → 0 ≤ z0 → z0 ≤ 3 → (x3 + (-64) * z0) ≤ 0 → ((-x3) + 64 * z0) ≤ 0 → ((-x3) + x4) ≤ 16 → (x3 + (-x4)) ≤ 0 → h1.2.2 1 0 = y0 → 4 ≤ y0 → y0 ≤ 4 → ((-4096) * x3 + (-8) * x4 + 1050620) < N → jEv (jOk 1) none (fun _ => 0) c156_0 0 0 (PV G [(6, 0)] h) (c156_19, [(2, 1), (0, 2), (0, 16), (0, x3), (0, x4), j5, (9, 0), j7], [], h1, 0, 0)) ∧ (∀ (h1 : JH) (x3 x4 x5 x7 y0 z0 : Int), Gd G h1 → Kp [(6, 0)] h h1 → 0 ≤ x3 → x3 ≤ 199 → 0 ≤ x4 → x4 ≤ 255 → (-9223372036854775808) ≤ x5 → x5 ≤ 9223372036854775807 → 1 ≤ x7 → x7 ≤ 4 → 0 ≤ z0 → z0 ≤ 3 → (x3 + (-64) * z0) ≤ 0 → ((-x3) + 64 * z0) ≤ 0 → ((-x3) + x4) ≤ 15 → (x3 + (-x4)) ≤ 0 → h1.2.2 1 0 = y0 → 4 ≤ y0 → y0 ≤ 4 → ((-4096) * x3 + (-8) * x4 + (-x7) + 1050620) < N → jEv (jOk 1) none (fun _ => 0) c156_0 0 0 (PV G [(6, 0)] h) (c156_33, [(2, 1), (0, 2), (0, 16), (0, x3), (0, x4), (1, x5), (9, 0), (0, x7)], [], h1, 0, 0)) := by
  intro N
  induction N with
  | zero => exact ⟨fun h1 x3 y0 z0 j4 j5 j7 g1 k1 b0 b1 b2 b3 b4 b5 b6 b7 b8 hm => absurd hm (by omega), fun h1 x3 x4 y0 z0 j5 j7 g1 k1 b0 b1 b2 b3 b4 b5 b6 b7 b8 b9 b10 b11 b12 hm => absurd hm (by omega), fun h1 x3 x4 x5 x7 y0 z0 g1 k1 b0 b1 b2 b3 b4 b5 b6 b7 b8 b9 b10 b11 b12 b13 b14 b15 b16 hm => absurd hm (by omega)⟩
  | succ N ih =>
    refine ⟨?_, ?_, ?_⟩
    · intro h1 x3 y0 z0 j4 j5 j7 g1 k1 b0 b1 b2 b3 b4 b5 ey0 ly0 uy0 hm
      refine ev_iload_n rfl ?_
      refine ev_aload_n rfl ?_
      refine ev_in (d := 0) (a := 0) (b := 0) (cd' := c157_0) (m := 1) (L0 := [(2, 1)]) (jcall_v (A := []) (S' := [(0, x3)]) (r := 1) rfl (g1.lt ad1) (g1.tg ad1) (Nat.le_of_ble_eq_true rfl)) (by decide) ml157 pp157 (Nat.le_of_ble_eq_true rfl) rfl (by decide) (by decide) ?_
      refine ev_iconst ?_
      refine ev_iconst ?_
      refine ev_aload_n rfl ?_
      refine g_getv (r := 1) (v := y0) g1 ad1 (by decide) ft10_0 (ey0) ?_
      refine ev_imul (r := (2 * y0)) (by unfold w32; omega) ?_
      refine g_ishlB (a' := 1) (a := 1) (b := 8) (hi := 256) (by omega) (by omega) (by omega) (by omega) (by decide) (by decide) (fun v25948 ev25948 lv25948 uv25948 => ?_)
      refine ev_ret rfl (by decide) (by decide) ?_
      show jEv _ _ _ _ _ _ _ (_, [(2, 1), (0, 2), (0, 16), (0, x3), j4, j5, (9, 0), j7], [(0, v25948), (0, x3)], _, _, _)
      refine ev_icmpge f156_91 (fun c25949 => ?_) (fun c25949 => ?_)
      · exact ev_ret rfl (by decide) (by decide) ⟨rfl, g1, k1⟩
      · refine ev_iload_n rfl ?_
        refine ev_istore (L' := [(2, 1), (0, 2), (0, 16), (0, x3), (0, x3), j5, (9, 0), j7]) (Nat.le_of_ble_eq_true rfl) rfl ?_
        exact ih.2.1 _ _ _ _ z0 _ _ g1 k1 (by omega) (by omega) (by omega) (by omega) (by omega) (by omega) (by omega) (by omega) (by omega) (by omega) (ey0) (by omega) (by omega) (by omega)
    · intro h1 x3 x4 y0 z0 j5 j7 g1 k1 b0 b1 b2 b3 b4 b5 b6 b7 b8 b9 ey0 ly0 uy0 hm
      refine ev_iload rfl ?_
      refine ev_iload_n rfl ?_
      refine ev_iload_n rfl ?_
      refine ev_iadd (r := (x3 + 16)) (by unfold w32; omega) ?_
      refine ev_icmpge f156_82 (fun c25950 => ?_) (fun c25950 => ?_)
      · refine ev_iload_n rfl ?_
        refine ev_iconst ?_
        refine ev_iload_n rfl ?_
        refine ev_imul (r := 64) (by decide) ?_
        refine ev_iadd (r := (x3 + 64)) (by unfold w32; omega) ?_
        refine ev_istore_n (L' := [(2, 1), (0, 2), (0, 16), (0, (x3 + 64)), (0, x4), j5, (9, 0), j7]) (Nat.le_of_ble_eq_true rfl) rfl ?_
        refine ev_goto f156_8 ?_
        exact ih.1 _ _ _ (z0 + 1) _ _ _ g1 k1 (by omega) (by omega) (by omega) (by omega) (by omega) (by omega) (ey0) (by omega) (by omega) (by omega)
      · refine ev_lconst ?_
        refine ev_lstore (L' := [(2, 1), (0, 2), (0, 16), (0, x3), (0, x4), (1, 0), (9, 0), j7]) (Nat.le_of_ble_eq_true rfl) rfl ?_
        refine ev_iconst ?_
        refine ev_istore (L' := [(2, 1), (0, 2), (0, 16), (0, x3), (0, x4), (1, 0), (9, 0), (0, 1)]) (Nat.le_of_ble_eq_true rfl) rfl ?_
        exact ih.2.2 _ _ _ _ _ _ z0 g1 k1 (by omega) (by omega) (by omega) (by omega) (by omega) (by omega) (by omega) (by omega) (by omega) (by omega) (by omega) (by omega) (by omega) (by omega) (ey0) (by omega) (by omega) (by omega)
    · intro h1 x3 x4 x5 x7 y0 z0 g1 k1 b0 b1 b2 b3 b4 b5 b6 b7 b8 b9 b10 b11 b12 b13 ey0 ly0 uy0 hm
      refine ev_iload rfl ?_
      refine ev_aload_n rfl ?_
      refine g_getp (r := 1) (c := 2) g1 ad1 (by decide) (by decide) rf1_3 ft10_3 ?_
      refine ev_iload_n rfl ?_
      refine g_iald g1 ad2 rt2 (by omega) (by omega) (fun v25951 ev25951 lv25951 uv25951 => ?_)
      refine ev_icmpgt f156_67 (fun c25952 => ?_) (fun c25952 => ?_)
      · refine ev_aload_n rfl ?_
        refine g_getp (r := 1) (c := 6) g1 ad1 (by decide) (by decide) rf1_7 ft10_7 ?_
        refine ev_iload rfl ?_
        refine ev_lload rfl ?_
        refine g_last g1 ad6 rt6 (fun _ => rfl) (by omega) (by omega) (by omega) (by omega) (fun h25953 e25953 g25953 => ?_)
        have k25953 := k1.wr e25953 rfl
        refine ev_iinc (w := (x4 + 1)) (L' := [(2, 1), (0, 2), (0, 16), (0, x3), (0, (x4 + 1)), (1, x5), (9, 0), (0, x7)]) rfl (by unfold w32; omega) rfl ?_
        refine ev_goto f156_19 ?_
        exact ih.2.1 _ _ _ _ z0 _ _ g25953 k25953 (by omega) (by omega) (by omega) (by omega) (by omega) (by omega) (by omega) (by omega) (by omega) (by omega) (((jw_ne e25953 (Or.inl (by decide))).trans ey0)) (by omega) (by omega) (by omega)
      · refine ev_lload rfl ?_
        refine ev_aload_n rfl ?_
        refine g_getp (r := 1) (c := 6) g1 ad1 (by decide) (by decide) rf1_7 ft10_7 ?_
        refine ev_iload rfl ?_
        refine ev_iload rfl ?_
        refine ev_iload_n rfl ?_
        refine ev_imul (r := (16 * x7)) (by unfold w32; omega) ?_
        refine ev_iadd (r := (x4 + 16 * x7)) (by unfold w32; omega) ?_
        refine g_lald g1 ad6 rt6 (by omega) (by omega) (fun v25954 ev25954 lv25954 uv25954 => ?_)
        refine g_laddG (fun v25955 ev25955 lv25955 uv25955 => ?_)
        refine ev_lstore (L' := [(2, 1), (0, 2), (0, 16), (0, x3), (0, x4), (1, v25955), (9, 0), (0, x7)]) (Nat.le_of_ble_eq_true rfl) rfl ?_
        refine ev_iinc (w := (x7 + 1)) (L' := [(2, 1), (0, 2), (0, 16), (0, x3), (0, x4), (1, v25955), (9, 0), (0, (x7 + 1))]) rfl (by unfold w32; omega) rfl ?_
        refine ev_goto f156_33 ?_
        exact ih.2.2 _ _ _ _ _ _ z0 g1 k1 (by omega) (by omega) (by omega) (by omega) (by omega) (by omega) (by omega) (by omega) (by omega) (by omega) (by omega) (by omega) (by omega) (by omega) (ey0) (by omega) (by omega) (by omega)
set_option maxHeartbeats 4000000 in
theorem s156_2_4 {G : GH} {h : JH} (g : Gd G h) (ew0 : h.2.2 1 0 = 4) : jOk 2 0 0 156 [(2, 1), (0, 2)] h (PV G [(6, 0)] h) := by
  refine ⟨by decide, by rw [ml156]; exact Nat.le_of_ble_eq_true rfl, ?_⟩
  rw [ml156, pp156]
  show jEv _ none _ c156_0 0 0 _ (c156_0, [(2, 1), (0, 2), (9, 0), (9, 0), (9, 0), (9, 0), (9, 0), (9, 0)], [], h, 0, 0)
  have k0 := Kp.rf [(6, 0)] h
  refine ev_iconst ?_
  refine ev_iconst ?_
  refine ev_iload_n rfl ?_
  refine ev_imul (r := 4) (by decide) ?_
  refine ev_ishl (r := 16) (by decide) ?_
  refine ev_istore_n (L' := [(2, 1), (0, 2), (0, 16), (9, 0), (9, 0), (9, 0), (9, 0), (9, 0)]) (Nat.le_of_ble_eq_true rfl) rfl ?_
  refine ev_iconst ?_
  refine ev_istore_n (L' := [(2, 1), (0, 2), (0, 16), (0, 0), (9, 0), (9, 0), (9, 0), (9, 0)]) (Nat.le_of_ble_eq_true rfl) rfl ?_
  exact (s156_2_4_l ew0 2105344).1 _ _ _ 0 _ _ _ g k0 (by omega) (by omega) (by omega) (by omega) (by omega) (by omega) (ew0) (by omega) (by omega) (by omega)
/-! s156_3_4  -/
set_option maxHeartbeats 4000000 in
theorem s156_3_4_l {G : GH} {h : JH} (ew0 : h.2.2 1 0 = 4) : ∀ N : Nat, (∀ (h1 : JH) (x3 y0 z0 : Int) (j4 j5 j7 : AV), Gd G h1 → Kp [(6, 0)] h h1 → 0 ≤ x3 → x3 ≤ 256 → 0 ≤ z0 → z0 ≤ 1 → (x3 + (-256) * z0) ≤ 0 → ((-x3) + 256 * z0) ≤ 0 → h1.2.2 1 0 = y0 → 4 ≤ y0 → y0 ≤ 4 → ((-1040) * x3 + 266764) < N → jEv (jOk 1) none (fun _ => 0) c156_0 0 0 (PV G [(6, 0)] h) (c156_8, [(2, 1), (0, 3), (0, 64), (0, x3), j4, j5, (9, 0), j7], [], h1, 0, 0)) ∧ (∀ (h1 : JH) (x3 x4 y0 z0 : Int) (j5 j7 : AV), Gd G h1 → Kp [(6, 0)] h h1 → 0 ≤ x3 → x3 ≤ 0 → 0 ≤ x4 → x4 ≤ 64 → 0 ≤ z0 → z0 ≤ 0 → (x3 + (-256) * z0) ≤ 0 → ((-x3) + 256 * z0) ≤ 0 → ((-x3) + x4) ≤ 64 → (x3 + (-x4)) ≤ 0 → h1.2.2 1 0 = y0 → 4 ≤ y0 → y0 ≤ 4 → ((-1040) * x3 + (-8) * x4 + 266756) < N → jEv (jOk 1) none (fun _ => 0) c156_0 0 0 (PV G [(6, 0)] h) (c156_19, [(2, 1), (0, 3), (0, 64), (0, x3), (0, x4), j5, (9, 0), j7], [], h1, 0, 0)) ∧ (∀ (h1 : JH) (x3 x4 x5 x7 y0 z0 : Int), Gd G h1 → Kp [(6, 0)] h h1 → 0 ≤ x3 → x3 ≤ 0 → 0 ≤ x4 → x4 ≤ 63 → (-9223372036854775808) ≤ x5 → x5 ≤ 9223372036854775807 → 1 ≤ x7 → x7 ≤ 4 → 0 ≤ z0 → z0 ≤ 0 → (x3 + (-256) * z0) ≤ 0 → ((-x3) + 256 * z0) ≤ 0 → ((-x3) + x4) ≤ 63 → (x3 + (-x4)) ≤ 0 → h1.2.2 1 0 = y0 → 4 ≤ y0 → y0 ≤ 4 → ((-1040) * x3 + (-8) * x4 + (-x7) + 266756) < N → jEv (jOk 1) none (fun _ => 0) c156_0 0 0 (PV G [(6, 0)] h) (c156_33, [(2, 1), (0, 3), (0, 64), (0, x3), (0, x4), (1, x5), (9, 0), (0, x7)], [], h1, 0, 0)) := by
  intro N
  induction N with
  | zero => exact ⟨fun h1 x3 y0 z0 j4 j5 j7 g1 k1 b0 b1 b2 b3 b4 b5 b6 b7 b8 hm => absurd hm (by omega), fun h1 x3 x4 y0 z0 j5 j7 g1 k1 b0 b1 b2 b3 b4 b5 b6 b7 b8 b9 b10 b11 b12 hm => absurd hm (by omega), fun h1 x3 x4 x5 x7 y0 z0 g1 k1 b0 b1 b2 b3 b4 b5 b6 b7 b8 b9 b10 b11 b12 b13 b14 b15 b16 hm => absurd hm (by omega)⟩
  | succ N ih =>
    refine ⟨?_, ?_, ?_⟩
    · intro h1 x3 y0 z0 j4 j5 j7 g1 k1 b0 b1 b2 b3 b4 b5 ey0 ly0 uy0 hm
      refine ev_iload_n rfl ?_
      refine ev_aload_n rfl ?_
      refine ev_in (d := 0) (a := 0) (b := 0) (cd' := c157_0) (m := 1) (L0 := [(2, 1)]) (jcall_v (A := []) (S' := [(0, x3)]) (r := 1) rfl (g1.lt ad1) (g1.tg ad1) (Nat.le_of_ble_eq_true rfl)) (by decide) ml157 pp157 (Nat.le_of_ble_eq_true rfl) rfl (by decide) (by decide) ?_
      refine ev_iconst ?_
      refine ev_iconst ?_
      refine ev_aload_n rfl ?_
      refine g_getv (r := 1) (v := y0) g1 ad1 (by decide) ft10_0 (ey0) ?_
      refine ev_imul (r := (2 * y0)) (by unfold w32; omega) ?_
      refine g_ishlB (a' := 1) (a := 1) (b := 8) (hi := 256) (by omega) (by omega) (by omega) (by omega) (by decide) (by decide) (fun v26154 ev26154 lv26154 uv26154 => ?_)
      refine ev_ret rfl (by decide) (by decide) ?_
      show jEv _ _ _ _ _ _ _ (_, [(2, 1), (0, 3), (0, 64), (0, x3), j4, j5, (9, 0), j7], [(0, v26154), (0, x3)], _, _, _)
      refine ev_icmpge f156_91 (fun c26155 => ?_) (fun c26155 => ?_)
      · exact ev_ret rfl (by decide) (by decide) ⟨rfl, g1, k1⟩
      · refine ev_iload_n rfl ?_
        refine ev_istore (L' := [(2, 1), (0, 3), (0, 64), (0, x3), (0, x3), j5, (9, 0), j7]) (Nat.le_of_ble_eq_true rfl) rfl ?_
        exact ih.2.1 _ _ _ _ z0 _ _ g1 k1 (by omega) (by omega) (by omega) (by omega) (by omega) (by omega) (by omega) (by omega) (by omega) (by omega) (ey0) (by omega) (by omega) (by omega)
    · intro h1 x3 x4 y0 z0 j5 j7 g1 k1 b0 b1 b2 b3 b4 b5 b6 b7 b8 b9 ey0 ly0 uy0 hm
      refine ev_iload rfl ?_
      refine ev_iload_n rfl ?_
      refine ev_iload_n rfl ?_
      refine ev_iadd (r := (x3 + 64)) (by unfold w32; omega) ?_
      refine ev_icmpge f156_82 (fun c26156 => ?_) (fun c26156 => ?_)
      · refine ev_iload_n rfl ?_
        refine ev_iconst ?_
        refine ev_iload_n rfl ?_
        refine ev_imul (r := 256) (by decide) ?_
        refine ev_iadd (r := (x3 + 256)) (by unfold w32; omega) ?_
        refine ev_istore_n (L' := [(2, 1), (0, 3), (0, 64), (0, (x3 + 256)), (0, x4), j5, (9, 0), j7]) (Nat.le_of_ble_eq_true rfl) rfl ?_
        refine ev_goto f156_8 ?_
        exact ih.1 _ _ _ (z0 + 1) _ _ _ g1 k1 (by omega) (by omega) (by omega) (by omega) (by omega) (by omega) (ey0) (by omega) (by omega) (by omega)
      · refine ev_lconst ?_
        refine ev_lstore (L' := [(2, 1), (0, 3), (0, 64), (0, x3), (0, x4), (1, 0), (9, 0), j7]) (Nat.le_of_ble_eq_true rfl) rfl ?_
        refine ev_iconst ?_
        refine ev_istore (L' := [(2, 1), (0, 3), (0, 64), (0, x3), (0, x4), (1, 0), (9, 0), (0, 1)]) (Nat.le_of_ble_eq_true rfl) rfl ?_
        exact ih.2.2 _ _ _ _ _ _ z0 g1 k1 (by omega) (by omega) (by omega) (by omega) (by omega) (by omega) (by omega) (by omega) (by omega) (by omega) (by omega) (by omega) (by omega) (by omega) (ey0) (by omega) (by omega) (by omega)
    · intro h1 x3 x4 x5 x7 y0 z0 g1 k1 b0 b1 b2 b3 b4 b5 b6 b7 b8 b9 b10 b11 b12 b13 ey0 ly0 uy0 hm
      refine ev_iload rfl ?_
      refine ev_aload_n rfl ?_
      refine g_getp (r := 1) (c := 2) g1 ad1 (by decide) (by decide) rf1_3 ft10_3 ?_
      refine ev_iload_n rfl ?_
      refine g_iald g1 ad2 rt2 (by omega) (by omega) (fun v26157 ev26157 lv26157 uv26157 => ?_)
      refine ev_icmpgt f156_67 (fun c26158 => ?_) (fun c26158 => ?_)
      · refine ev_aload_n rfl ?_
        refine g_getp (r := 1) (c := 6) g1 ad1 (by decide) (by decide) rf1_7 ft10_7 ?_
        refine ev_iload rfl ?_
        refine ev_lload rfl ?_
        refine g_last g1 ad6 rt6 (fun _ => rfl) (by omega) (by omega) (by omega) (by omega) (fun h26159 e26159 g26159 => ?_)
        have k26159 := k1.wr e26159 rfl
        refine ev_iinc (w := (x4 + 1)) (L' := [(2, 1), (0, 3), (0, 64), (0, x3), (0, (x4 + 1)), (1, x5), (9, 0), (0, x7)]) rfl (by unfold w32; omega) rfl ?_
        refine ev_goto f156_19 ?_
        exact ih.2.1 _ _ _ _ z0 _ _ g26159 k26159 (by omega) (by omega) (by omega) (by omega) (by omega) (by omega) (by omega) (by omega) (by omega) (by omega) (((jw_ne e26159 (Or.inl (by decide))).trans ey0)) (by omega) (by omega) (by omega)
      · refine ev_lload rfl ?_
        refine ev_aload_n rfl ?_
        refine g_getp (r := 1) (c := 6) g1 ad1 (by decide) (by decide) rf1_7 ft10_7 ?_
        refine ev_iload rfl ?_
        refine ev_iload rfl ?_
        refine ev_iload_n rfl ?_
        refine ev_imul (r := (64 * x7)) (by unfold w32; omega) ?_
        refine ev_iadd (r := (x4 + 64 * x7)) (by unfold w32; omega) ?_
        refine g_lald g1 ad6 rt6 (by omega) (by omega) (fun v26160 ev26160 lv26160 uv26160 => ?_)
        refine g_laddG (fun v26161 ev26161 lv26161 uv26161 => ?_)
        refine ev_lstore (L' := [(2, 1), (0, 3), (0, 64), (0, x3), (0, x4), (1, v26161), (9, 0), (0, x7)]) (Nat.le_of_ble_eq_true rfl) rfl ?_
        refine ev_iinc (w := (x7 + 1)) (L' := [(2, 1), (0, 3), (0, 64), (0, x3), (0, x4), (1, v26161), (9, 0), (0, (x7 + 1))]) rfl (by unfold w32; omega) rfl ?_
        refine ev_goto f156_33 ?_
        exact ih.2.2 _ _ _ _ _ _ z0 g1 k1 (by omega) (by omega) (by omega) (by omega) (by omega) (by omega) (by omega) (by omega) (by omega) (by omega) (by omega) (by omega) (by omega) (by omega) (ey0) (by omega) (by omega) (by omega)
set_option maxHeartbeats 4000000 in
theorem s156_3_4 {G : GH} {h : JH} (g : Gd G h) (ew0 : h.2.2 1 0 = 4) : jOk 2 0 0 156 [(2, 1), (0, 3)] h (PV G [(6, 0)] h) := by
  refine ⟨by decide, by rw [ml156]; exact Nat.le_of_ble_eq_true rfl, ?_⟩
  rw [ml156, pp156]
  show jEv _ none _ c156_0 0 0 _ (c156_0, [(2, 1), (0, 3), (9, 0), (9, 0), (9, 0), (9, 0), (9, 0), (9, 0)], [], h, 0, 0)
  have k0 := Kp.rf [(6, 0)] h
  refine ev_iconst ?_
  refine ev_iconst ?_
  refine ev_iload_n rfl ?_
  refine ev_imul (r := 6) (by decide) ?_
  refine ev_ishl (r := 64) (by decide) ?_
  refine ev_istore_n (L' := [(2, 1), (0, 3), (0, 64), (9, 0), (9, 0), (9, 0), (9, 0), (9, 0)]) (Nat.le_of_ble_eq_true rfl) rfl ?_
  refine ev_iconst ?_
  refine ev_istore_n (L' := [(2, 1), (0, 3), (0, 64), (0, 0), (9, 0), (9, 0), (9, 0), (9, 0)]) (Nat.le_of_ble_eq_true rfl) rfl ?_
  exact (s156_3_4_l ew0 534560).1 _ _ _ 0 _ _ _ g k0 (by omega) (by omega) (by omega) (by omega) (by omega) (by omega) (ew0) (by omega) (by omega) (by omega)
/-! s156  -/
theorem s156 {G : GH} {h : JH} (g : Gd G h) {a1 : Int} (l1 : 0 ≤ a1) (u1 : a1 ≤ 3) {w0 : Int} (e0 : h.2.2 1 0 = w0) (l0 : 0 ≤ w0) (u0 : w0 ≤ 4) (hr : a1 + 1 ≤ w0) : jOk 2 0 0 156 [(2, 1), (0, a1)] h (PV G [(6, 0)] h) := by
  rcases (show a1 = 0 ∨ a1 = 1 ∨ a1 = 2 ∨ a1 = 3 by omega) with e | e | e | e <;> subst e <;> rcases (show w0 = 1 ∨ w0 = 2 ∨ w0 = 3 ∨ w0 = 4 by omega) with f | f | f | f <;> subst f
  · exact s156_0_1 g e0
  · exact s156_0_2 g e0
  · exact s156_0_3 g e0
  · exact s156_0_4 g e0
  · omega
  · exact s156_1_2 g e0
  · exact s156_1_3 g e0
  · exact s156_1_4 g e0
  · omega
  · omega
  · exact s156_2_3 g e0
  · exact s156_2_4 g e0
  · omega
  · omega
  · omega
  · exact s156_3_4 g e0
/-! 154 weighStates -/
set_option maxHeartbeats 4000000 in
theorem s154_l {G : GH} {h : JH}  : ∀ N : Nat, (∀ (h1 : JH) (x1 : Int) (j2 j4 j5 : AV), Gd G h1 → Kp [(5, 0), (6, 0)] h h1 → 0 ≤ x1 → x1 ≤ 4 → ((-8) * x1 + 116) < N → jEv (jOk 3) none (fun _ => 0) c154_0 0 0 (PV G [(5, 0), (6, 0)] h) (c154_2, [(2, 1), (0, x1), j2, (9, 0), j4, j5], [], h1, 0, 0)) ∧ (∀ (h1 : JH) (x1 x2 x4 : Int) (j5 : AV), Gd G h1 → Kp [(5, 0), (6, 0)] h h1 → 0 ≤ x1 → x1 ≤ 3 → (-9223372036854775808) ≤ x2 → x2 ≤ 9223372036854775807 → 0 ≤ x4 → x4 ≤ 3 → ((-8) * x1 + (-x4) + 115) < N → jEv (jOk 3) none (fun _ => 0) c154_0 0 0 (PV G [(5, 0), (6, 0)] h) (c154_19, [(2, 1), (0, x1), (1, x2), (9, 0), (0, x4), j5], [], h1, 0, 0)) ∧ (∀ (h1 : JH) (x1 : Int) (j2 j4 j5 : AV), Gd G h1 → Kp [(5, 0), (6, 0)] h h1 → 0 ≤ x1 → x1 ≤ 4 → ((-8) * x1 + 76) < N → jEv (jOk 3) none (fun _ => 0) c154_0 0 0 (PV G [(5, 0), (6, 0)] h) (c154_85, [(2, 1), (0, x1), j2, (9, 0), j4, j5], [], h1, 0, 0)) ∧ (∀ (h1 : JH) (x1 : Int) (j2 j4 j5 : AV), Gd G h1 → Kp [(5, 0), (6, 0)] h h1 → 0 ≤ x1 → x1 ≤ 4 → ((-8) * x1 + 36) < N → jEv (jOk 3) none (fun _ => 0) c154_0 0 0 (PV G [(5, 0), (6, 0)] h) (c154_106, [(2, 1), (0, x1), j2, (9, 0), j4, j5], [], h1, 0, 0)) := by
  intro N
  induction N with
  | zero => exact ⟨fun h1 x1 j2 j4 j5 g1 k1 b0 b1 hm => absurd hm (by omega), fun h1 x1 x2 x4 j5 g1 k1 b0 b1 b2 b3 b4 b5 hm => absurd hm (by omega), fun h1 x1 j2 j4 j5 g1 k1 b0 b1 hm => absurd hm (by omega), fun h1 x1 j2 j4 j5 g1 k1 b0 b1 hm => absurd hm (by omega)⟩
  | succ N ih =>
    refine ⟨?_, ?_, ?_, ?_⟩
    · intro h1 x1 j2 j4 j5 g1 k1 b0 b1 hm
      refine ev_iload_n rfl ?_
      refine ev_aload_n rfl ?_
      obtain ⟨v26313, ev26313, lv26313, uv26313⟩ := g1.rd ad1 (show 0 < 8 by decide) rf1_0
      refine g_getv (r := 1) (v := v26313) g1 ad1 (by decide) ft10_0 ev26313 ?_
      refine ev_icmpge f154_76 (fun c26314 => ?_) (fun c26314 => ?_)
      · refine ev_aload_n rfl ?_
        refine g_getp (r := 1) (c := 6) g1 ad1 (by decide) (by decide) rf1_7 ft10_7 ?_
        refine ev_iconst ?_
        refine ev_lconst ?_
        refine g_last g1 ad6 rt6 (fun _ => rfl) (by omega) (by omega) (by omega) (by omega) (fun h26315 e26315 g26315 => ?_)
        have k26315 := k1.wr e26315 rfl
        refine ev_iconst ?_
        refine ev_istore_n (L' := [(2, 1), (0, 0), j2, (9, 0), j4, j5]) (Nat.le_of_ble_eq_true rfl) rfl ?_
        exact ih.2.2.1 _ _ _ _ _ g26315 k26315 (by omega) (by omega) (by omega)
      · refine ev_aload_n rfl ?_
        refine ev_iload_n rfl ?_
        refine ev_call (jcall_v (A := [(0, x1)]) (S' := []) (r := 1) rfl (g1.lt ad1) (g1.tg ad1) (Nat.le_of_ble_eq_true rfl)) (jOk_le (by decide) (s151 g1 (by omega) (by omega))) (by decide) (by decide) (fun w26316 h26316 q26316 => ?_)
        obtain ⟨v26317, rfl, lv26317, uv26317, g26316, kk26316⟩ := q26316
        have k26316 := k1.tr kk26316 (by decide)
        show jEv _ _ _ _ _ _ _ (_, [(2, 1), (0, x1), j2, (9, 0), j4, j5], [(1, v26317)], _, _, _)
        refine ev_lstore_n (L' := [(2, 1), (0, x1), (1, v26317), (9, 0), j4, j5]) (Nat.le_of_ble_eq_true rfl) rfl ?_
        refine ev_iconst ?_
        refine ev_istore (L' := [(2, 1), (0, x1), (1, v26317), (9, 0), (0, 0), j5]) (Nat.le_of_ble_eq_true rfl) rfl ?_
        exact ih.2.1 _ _ _ _ _ g26316 k26316 (by omega) (by omega) (by omega) (by omega) (by omega) (by omega) (by omega)
    · intro h1 x1 x2 x4 j5 g1 k1 b0 b1 b2 b3 b4 b5 hm
      refine ev_iload rfl ?_
      refine ev_aload_n rfl ?_
      refine ev_iload_n rfl ?_
      refine ev_in (d := 2) (a := 0) (b := 0) (cd' := c145_0) (m := 2) (L0 := [(2, 1), (0, x1)]) (jcall_v (A := [(0, x1)]) (S' := [(0, x4)]) (r := 1) rfl (g1.lt ad1) (g1.tg ad1) (Nat.le_of_ble_eq_true rfl)) (by decide) ml145 pp145 (Nat.le_of_ble_eq_true rfl) rfl (by decide) (by decide) ?_
      refine ev_aload_n rfl ?_
      refine g_getp (r := 1) (c := 3) g1 ad1 (by decide) (by decide) rf1_4 ft10_4 ?_
      refine ev_iload_n rfl ?_
      refine g_iald g1 ad3 rt3 (by omega) (by omega) (fun v26318 ev26318 lv26318 uv26318 => ?_)
      refine ev_ifge f145_13 (fun c26319 => ?_) (fun c26319 => ?_)
      · refine ev_aload_n rfl ?_
        refine g_getp (r := 1) (c := 2) g1 ad1 (by decide) (by decide) rf1_3 ft10_3 ?_
        refine ev_aload_n rfl ?_
        refine g_getp (r := 1) (c := 3) g1 ad1 (by decide) (by decide) rf1_4 ft10_4 ?_
        refine ev_iload_n rfl ?_
        refine g_ialdv (v := v26318) g1 ad3 (by omega) (by omega) (ev26318) ?_
        refine g_iald g1 ad2 rt2 (by omega) (by omega) (fun v26320 ev26320 lv26320 uv26320 => ?_)
        refine ev_ret rfl (by decide) (by decide) ?_
        show jEv _ _ _ _ _ _ _ (_, [(2, 1), (0, x1), (1, x2), (9, 0), (0, x4), j5], [(0, v26320), (0, x4)], _, _, _)
        refine ev_icmpge f154_70 (fun c26321 => ?_) (fun c26321 => ?_)
        · refine ev_iinc (w := (x1 + 1)) (L' := [(2, 1), (0, (x1 + 1)), (1, x2), (9, 0), (0, x4), j5]) rfl (by unfold w32; omega) rfl ?_
          refine ev_goto f154_2 ?_
          exact ih.1 _ _ _ _ _ g1 k1 (by omega) (by omega) (by omega)
        · refine ev_aload_n rfl ?_
          refine ev_iload_n rfl ?_
          refine ev_iload rfl ?_
          refine ev_call (jcall_v (A := [(0, x4), (0, x1)]) (S' := []) (r := 1) rfl (g1.lt ad1) (g1.tg ad1) (Nat.le_of_ble_eq_true rfl)) (jOk_le (by decide) (s150 g1 (by omega) (by omega) (by omega) (by omega))) (by decide) (by decide) (fun w26322 h26322 q26322 => ?_)
          obtain ⟨v26323, rfl, lv26323, uv26323, g26322, kk26322⟩ := q26322
          have k26322 := k1.tr kk26322 (by decide)
          show jEv _ _ _ _ _ _ _ (_, [(2, 1), (0, x1), (1, x2), (9, 0), (0, x4), j5], [(0, v26323)], _, _, _)
          refine ev_istore (L' := [(2, 1), (0, x1), (1, x2), (9, 0), (0, x4), (0, v26323)]) (Nat.le_of_ble_eq_true rfl) rfl ?_
          refine ev_aload_n rfl ?_
          refine g_getp (r := 1) (c := 5) g26322 ad1 (by decide) (by decide) rf1_6 ft10_6 ?_
          refine ev_iconst ?_
          refine ev_iload_n rfl ?_
          refine ev_imul (r := (3 * x1)) (by unfold w32; omega) ?_
          refine ev_iload rfl ?_
          refine ev_iadd (r := (3 * x1 + x4)) (by unfold w32; omega) ?_
          refine ev_iload rfl ?_
          refine ev_iconst ?_
          refine ev_icmpge f154_58 (fun c26324 => ?_) (fun c26324 => ?_)
          · refine ev_lload_n rfl ?_
            refine ev_iload rfl ?_
            refine ev_i2l ?_
            refine g_ldivG (by omega) (fun v26325 ev26325 lv26325 uv26325 => ?_)
            refine g_last g26322 ad5 rt5 (fun _ => rfl) (by omega) (by omega) (by omega) (by omega) (fun h26326 e26326 g26326 => ?_)
            have k26326 := k26322.wr e26326 rfl
            refine ev_iinc (w := (x4 + 1)) (L' := [(2, 1), (0, x1), (1, x2), (9, 0), (0, (x4 + 1)), (0, v26323)]) rfl (by unfold w32; omega) rfl ?_
            refine ev_goto f154_19 ?_
            exact ih.2.1 _ _ _ _ _ g26326 k26326 (by omega) (by omega) (by omega) (by omega) (by omega) (by omega) (by omega)
          · refine ev_lconst ?_
            refine ev_goto f154_63 ?_
            refine g_last g26322 ad5 rt5 (fun _ => rfl) (by omega) (by omega) (by omega) (by omega) (fun h26327 e26327 g26327 => ?_)
            have k26327 := k26322.wr e26327 rfl
            refine ev_iinc (w := (x4 + 1)) (L' := [(2, 1), (0, x1), (1, x2), (9, 0), (0, (x4 + 1)), (0, v26323)]) rfl (by unfold w32; omega) rfl ?_
            refine ev_goto f154_19 ?_
            exact ih.2.1 _ _ _ _ _ g26327 k26327 (by omega) (by omega) (by omega) (by omega) (by omega) (by omega) (by omega)
      · refine ev_iconst ?_
        refine ev_goto f145_24 ?_
        refine ev_ret rfl (by decide) (by decide) ?_
        show jEv _ _ _ _ _ _ _ (_, [(2, 1), (0, x1), (1, x2), (9, 0), (0, x4), j5], [(0, 1), (0, x4)], _, _, _)
        refine ev_icmpge f154_70 (fun c26328 => ?_) (fun c26328 => ?_)
        · refine ev_iinc (w := (x1 + 1)) (L' := [(2, 1), (0, (x1 + 1)), (1, x2), (9, 0), (0, x4), j5]) rfl (by unfold w32; omega) rfl ?_
          refine ev_goto f154_2 ?_
          exact ih.1 _ _ _ _ _ g1 k1 (by omega) (by omega) (by omega)
        · refine ev_aload_n rfl ?_
          refine ev_iload_n rfl ?_
          refine ev_iload rfl ?_
          refine ev_call (jcall_v (A := [(0, x4), (0, x1)]) (S' := []) (r := 1) rfl (g1.lt ad1) (g1.tg ad1) (Nat.le_of_ble_eq_true rfl)) (jOk_le (by decide) (s150 g1 (by omega) (by omega) (by omega) (by omega))) (by decide) (by decide) (fun w26329 h26329 q26329 => ?_)
          obtain ⟨v26330, rfl, lv26330, uv26330, g26329, kk26329⟩ := q26329
          have k26329 := k1.tr kk26329 (by decide)
          show jEv _ _ _ _ _ _ _ (_, [(2, 1), (0, x1), (1, x2), (9, 0), (0, x4), j5], [(0, v26330)], _, _, _)
          refine ev_istore (L' := [(2, 1), (0, x1), (1, x2), (9, 0), (0, x4), (0, v26330)]) (Nat.le_of_ble_eq_true rfl) rfl ?_
          refine ev_aload_n rfl ?_
          refine g_getp (r := 1) (c := 5) g26329 ad1 (by decide) (by decide) rf1_6 ft10_6 ?_
          refine ev_iconst ?_
          refine ev_iload_n rfl ?_
          refine ev_imul (r := (3 * x1)) (by unfold w32; omega) ?_
          refine ev_iload rfl ?_
          refine ev_iadd (r := (3 * x1 + x4)) (by unfold w32; omega) ?_
          refine ev_iload rfl ?_
          refine ev_iconst ?_
          refine ev_icmpge f154_58 (fun c26331 => ?_) (fun c26331 => ?_)
          · refine ev_lload_n rfl ?_
            refine ev_iload rfl ?_
            refine ev_i2l ?_
            refine g_ldivG (by omega) (fun v26332 ev26332 lv26332 uv26332 => ?_)
            refine g_last g26329 ad5 rt5 (fun _ => rfl) (by omega) (by omega) (by omega) (by omega) (fun h26333 e26333 g26333 => ?_)
            have k26333 := k26329.wr e26333 rfl
            refine ev_iinc (w := (x4 + 1)) (L' := [(2, 1), (0, x1), (1, x2), (9, 0), (0, (x4 + 1)), (0, v26330)]) rfl (by unfold w32; omega) rfl ?_
            refine ev_goto f154_19 ?_
            exact ih.2.1 _ _ _ _ _ g26333 k26333 (by omega) (by omega) (by omega) (by omega) (by omega) (by omega) (by omega)
          · refine ev_lconst ?_
            refine ev_goto f154_63 ?_
            refine g_last g26329 ad5 rt5 (fun _ => rfl) (by omega) (by omega) (by omega) (by omega) (fun h26334 e26334 g26334 => ?_)
            have k26334 := k26329.wr e26334 rfl
            refine ev_iinc (w := (x4 + 1)) (L' := [(2, 1), (0, x1), (1, x2), (9, 0), (0, (x4 + 1)), (0, v26330)]) rfl (by unfold w32; omega) rfl ?_
            refine ev_goto f154_19 ?_
            exact ih.2.1 _ _ _ _ _ g26334 k26334 (by omega) (by omega) (by omega) (by omega) (by omega) (by omega) (by omega)
    · intro h1 x1 j2 j4 j5 g1 k1 b0 b1 hm
      refine ev_iload_n rfl ?_
      refine ev_aload_n rfl ?_
      obtain ⟨v26335, ev26335, lv26335, uv26335⟩ := g1.rd ad1 (show 0 < 8 by decide) rf1_0
      refine g_getv (r := 1) (v := v26335) g1 ad1 (by decide) ft10_0 ev26335 ?_
      refine ev_icmpge f154_104 (fun c26336 => ?_) (fun c26336 => ?_)
      · refine ev_iconst ?_
        refine ev_istore_n (L' := [(2, 1), (0, 0), j2, (9, 0), j4, j5]) (Nat.le_of_ble_eq_true rfl) rfl ?_
        exact ih.2.2.2 _ _ _ _ _ g1 k1 (by omega) (by omega) (by omega)
      · refine ev_aload_n rfl ?_
        refine ev_iload_n rfl ?_
        refine ev_call (jcall_v (A := [(0, x1)]) (S' := []) (r := 1) rfl (g1.lt ad1) (g1.tg ad1) (Nat.le_of_ble_eq_true rfl)) (jOk_le (by decide) (s155 g1 (by omega) (by omega))) (by decide) (by decide) (fun w26337 h26337 q26337 => ?_)
        obtain ⟨rfl, g26337, kk26337⟩ := q26337
        have k26337 := k1.tr kk26337 (by decide)
        show jEv _ _ _ _ _ _ _ (_, [(2, 1), (0, x1), j2, (9, 0), j4, j5], [], _, _, _)
        refine ev_iinc (w := (x1 + 1)) (L' := [(2, 1), (0, (x1 + 1)), j2, (9, 0), j4, j5]) rfl (by unfold w32; omega) rfl ?_
        refine ev_goto f154_85 ?_
        exact ih.2.2.1 _ _ _ _ _ g26337 k26337 (by omega) (by omega) (by omega)
    · intro h1 x1 j2 j4 j5 g1 k1 b0 b1 hm
      refine ev_iload_n rfl ?_
      refine ev_aload_n rfl ?_
      obtain ⟨v26338, ev26338, lv26338, uv26338⟩ := g1.rd ad1 (show 0 < 8 by decide) rf1_0
      refine g_getv (r := 1) (v := v26338) g1 ad1 (by decide) ft10_0 ev26338 ?_
      refine ev_icmpge f154_125 (fun c26339 => ?_) (fun c26339 => ?_)
      · exact ev_ret rfl (by decide) (by decide) ⟨rfl, g1, k1⟩
      · refine ev_aload_n rfl ?_
        refine ev_iload_n rfl ?_
        refine ev_call (jcall_v (A := [(0, x1)]) (S' := []) (r := 1) rfl (g1.lt ad1) (g1.tg ad1) (Nat.le_of_ble_eq_true rfl)) (jOk_le (by decide) (s156 g1 (by omega) (by omega) (ev26338) (by omega) (by omega) (by omega))) (by decide) (by decide) (fun w26340 h26340 q26340 => ?_)
        obtain ⟨rfl, g26340, kk26340⟩ := q26340
        have k26340 := k1.tr kk26340 (by decide)
        show jEv _ _ _ _ _ _ _ (_, [(2, 1), (0, x1), j2, (9, 0), j4, j5], [], _, _, _)
        refine ev_iinc (w := (x1 + 1)) (L' := [(2, 1), (0, (x1 + 1)), j2, (9, 0), j4, j5]) rfl (by unfold w32; omega) rfl ?_
        refine ev_goto f154_106 ?_
        exact ih.2.2.2 _ _ _ _ _ g26340 k26340 (by omega) (by omega) (by omega)
set_option maxHeartbeats 4000000 in
theorem s154 {G : GH} {h : JH} (g : Gd G h)  : jOk 4 0 0 154 [(2, 1)] h (PV G [(5, 0), (6, 0)] h) := by
  refine ⟨by decide, by rw [ml154]; exact Nat.le_of_ble_eq_true rfl, ?_⟩
  rw [ml154, pp154]
  show jEv _ none _ c154_0 0 0 _ (c154_0, [(2, 1), (9, 0), (9, 0), (9, 0), (9, 0), (9, 0)], [], h, 0, 0)
  have k0 := Kp.rf [(5, 0), (6, 0)] h
  refine ev_iconst ?_
  refine ev_istore_n (L' := [(2, 1), (0, 0), (9, 0), (9, 0), (9, 0), (9, 0)]) (Nat.le_of_ble_eq_true rfl) rfl ?_
  exact (s154_l  160).1 _ _ _ _ _ g k0 (by omega) (by omega) (by omega)
/-! 90 addStep -/
set_option maxHeartbeats 4000000 in
theorem s90_l {G : GH} {h : JH} {a1 : Int} (la1 : (-9999) ≤ a1) (ua1 : a1 ≤ 9999) {a2 : Int} (la2 : 0 ≤ a2) (ua2 : a2 ≤ 90) {w0 : Int} (ew0 : h.2.2 19 3 = w0) (lw0 : 0 ≤ w0) (uw0 : w0 ≤ 5) {w1 : Int} (ew1 : h.2.2 19 4 = w1) (lw1 : 0 ≤ w1) (uw1 : w1 ≤ 5) : ∀ N : Nat, (∀ (h1 : JH) (x3 y0 y1 : Int) (j4 : AV), Gd G h1 → Kp [(19, 4), (19, 5), (20, 0), (21, 0)] h h1 → (-9999) ≤ a1 → a1 ≤ 9999 → 0 ≤ a2 → a2 ≤ 90 → 0 ≤ x3 → x3 ≤ 5 → h1.2.2 19 3 = y0 → 0 ≤ y0 → y0 ≤ 5 → h1.2.2 19 4 = y1 → 0 ≤ y1 → y1 ≤ 5 → ((-x3) + 11) < N → jEv (jOk 0) none (fun _ => 0) c90_0 0 0 (PI G [(19, 4), (19, 5), (20, 0), (21, 0)] h 0 1 6) (c90_2, [(2, 19), (0, a1), (0, a2), (0, x3), j4], [], h1, 0, 0)) ∧ (∀ (h1 : JH) (x3 x4 y0 y1 : Int), Gd G h1 → Kp [(19, 4), (19, 5), (20, 0), (21, 0)] h h1 → (-9999) ≤ a1 → a1 ≤ 9999 → 0 ≤ a2 → a2 ≤ 90 → 0 ≤ x3 → x3 ≤ 5 → 0 ≤ x4 → x4 ≤ 5 → h1.2.2 19 3 = y0 → 0 ≤ y0 → y0 ≤ 5 → h1.2.2 19 4 = y1 → 0 ≤ y1 → y1 ≤ 5 → x4 < N → jEv (jOk 0) none (fun _ => 0) c90_0 0 0 (PI G [(19, 4), (19, 5), (20, 0), (21, 0)] h 0 1 6) (c90_50, [(2, 19), (0, a1), (0, a2), (0, x3), (0, x4)], [], h1, 0, 0)) := by
  intro N
  induction N with
  | zero => exact ⟨fun h1 x3 y0 y1 j4 g1 k1 b0 b1 b2 b3 b4 b5 b6 b7 b8 b9 b10 b11 hm => absurd hm (by omega), fun h1 x3 x4 y0 y1 g1 k1 b0 b1 b2 b3 b4 b5 b6 b7 b8 b9 b10 b11 b12 b13 hm => absurd hm (by omega)⟩
  | succ N ih =>
    refine ⟨?_, ?_⟩
    · intro h1 x3 y0 y1 j4 g1 k1 b0 b1 b2 b3 b4 b5 ey0 ly0 uy0 ey1 ly1 uy1 hm
      refine ev_iload_n rfl ?_
      refine ev_aload_n rfl ?_
      refine g_getv (r := 19) (v := y1) g1 ad19 (by decide) ft7_4 (ey1) ?_
      refine ev_icmpge f90_26 (fun c26435 => ?_) (fun c26435 => ?_)
      · refine ev_iload_n rfl ?_
        refine ev_aload_n rfl ?_
        refine g_getv (r := 19) (v := y1) g1 ad19 (by decide) ft7_4 (ey1) ?_
        refine ev_icmpeq f90_44 (fun c26436 => ?_) (fun c26436 => ?_)
        · refine ev_aload_n rfl ?_
          refine g_getv (r := 19) (v := y1) g1 ad19 (by decide) ft7_4 (ey1) ?_
          refine ev_istore (L' := [(2, 19), (0, a1), (0, a2), (0, x3), (0, y1)]) (Nat.le_of_ble_eq_true rfl) rfl ?_
          exact ih.2 _ _ _ _ _ g1 k1 (by omega) (by omega) (by omega) (by omega) (by omega) (by omega) (by omega) (by omega) (ey0) (by omega) (by omega) (ey1) (by omega) (by omega) (by omega)
        · refine ev_aload_n rfl ?_
          refine g_getp (r := 19) (c := 20) g1 ad19 (by decide) (by decide) rf19_0 ft7_0 ?_
          refine ev_iload_n rfl ?_
          refine g_iald g1 ad20 rt20 (by omega) (by omega) (fun v26437 ev26437 lv26437 uv26437 => ?_)
          refine ev_iload_n rfl ?_
          refine ev_icmpeq f90_111 (fun c26438 => ?_) (fun c26438 => ?_)
          · refine ev_aload_n rfl ?_
            refine g_getp (r := 19) (c := 21) g1 ad19 (by decide) (by decide) rf19_1 ft7_1 ?_
            refine ev_iload_n rfl ?_
            refine ev_iload_n rfl ?_
            refine g_iast g1 ad21 rt21 (fun _ => rfl) (by omega) (by omega) (by omega) (by omega) (fun h26439 e26439 g26439 => ?_)
            have k26439 := k1.wr e26439 rfl
            refine ev_aload_n rfl ?_
            refine ev_dup (by decide) ?_
            refine g_getv (r := 19) (v := y0) g26439 ad19 (by decide) ft7_3 (((jw_ne e26439 (Or.inl (by decide))).trans ey0)) ?_
            refine ev_iconst ?_
            refine ev_iadd (r := (y0 + 1)) (by unfold w32; omega) ?_
            refine ev_putfG (r := 19) (g26439.lt ad19) (g26439.fam ad19 (by decide)) ft7_3 (fun e => absurd e nz7_3) (fun e => absurd e (by decide)) (fun h26440 e26440 => ?_)
            have g26440 := g26439.told e26440 (by rw [(((jw_ne e26439 (Or.inl (by decide))).trans ey0))]; omega) (by omega) (by omega)
            have k26440 := k26439.wr e26440 rfl
            refine ev_aload_n rfl ?_
            refine g_getv (r := 19) (v := (y0 + 1)) g26440 ad19 (by decide) ft7_3 ((jw_eq e26440)) ?_
            exact ev_ret rfl (by decide) (by decide) ⟨_, rfl, by omega, by omega, g26440, k26440⟩
          · refine ev_aload_n rfl ?_
            refine g_getv (r := 19) (v := y1) g1 ad19 (by decide) ft7_4 (ey1) ?_
            refine ev_istore (L' := [(2, 19), (0, a1), (0, a2), (0, x3), (0, y1)]) (Nat.le_of_ble_eq_true rfl) rfl ?_
            exact ih.2 _ _ _ _ _ g1 k1 (by omega) (by omega) (by omega) (by omega) (by omega) (by omega) (by omega) (by omega) (ey0) (by omega) (by omega) (ey1) (by omega) (by omega) (by omega)
      · refine ev_aload_n rfl ?_
        refine g_getp (r := 19) (c := 20) g1 ad19 (by decide) (by decide) rf19_0 ft7_0 ?_
        refine ev_iload_n rfl ?_
        refine g_iald g1 ad20 rt20 (by omega) (by omega) (fun v26441 ev26441 lv26441 uv26441 => ?_)
        refine ev_iload_n rfl ?_
        refine ev_icmpge f90_26 (fun c26442 => ?_) (fun c26442 => ?_)
        · refine ev_iload_n rfl ?_
          refine ev_aload_n rfl ?_
          refine g_getv (r := 19) (v := y1) g1 ad19 (by decide) ft7_4 (ey1) ?_
          refine ev_icmpeq f90_44 (fun c26443 => absurd c26443 (by omega)) (fun c26443 => ?_)
          refine ev_aload_n rfl ?_
          refine g_getp (r := 19) (c := 20) g1 ad19 (by decide) (by decide) rf19_0 ft7_0 ?_
          refine ev_iload_n rfl ?_
          refine g_ialdv (v := v26441) g1 ad20 (by omega) (by omega) (ev26441) ?_
          refine ev_iload_n rfl ?_
          refine ev_icmpeq f90_111 (fun c26444 => ?_) (fun c26444 => ?_)
          · refine ev_aload_n rfl ?_
            refine g_getp (r := 19) (c := 21) g1 ad19 (by decide) (by decide) rf19_1 ft7_1 ?_
            refine ev_iload_n rfl ?_
            refine ev_iload_n rfl ?_
            refine g_iast g1 ad21 rt21 (fun _ => rfl) (by omega) (by omega) (by omega) (by omega) (fun h26445 e26445 g26445 => ?_)
            have k26445 := k1.wr e26445 rfl
            refine ev_aload_n rfl ?_
            refine ev_dup (by decide) ?_
            refine g_getv (r := 19) (v := y0) g26445 ad19 (by decide) ft7_3 (((jw_ne e26445 (Or.inl (by decide))).trans ey0)) ?_
            refine ev_iconst ?_
            refine ev_iadd (r := (y0 + 1)) (by unfold w32; omega) ?_
            refine ev_putfG (r := 19) (g26445.lt ad19) (g26445.fam ad19 (by decide)) ft7_3 (fun e => absurd e nz7_3) (fun e => absurd e (by decide)) (fun h26446 e26446 => ?_)
            have g26446 := g26445.told e26446 (by rw [(((jw_ne e26445 (Or.inl (by decide))).trans ey0))]; omega) (by omega) (by omega)
            have k26446 := k26445.wr e26446 rfl
            refine ev_aload_n rfl ?_
            refine g_getv (r := 19) (v := (y0 + 1)) g26446 ad19 (by decide) ft7_3 ((jw_eq e26446)) ?_
            exact ev_ret rfl (by decide) (by decide) ⟨_, rfl, by omega, by omega, g26446, k26446⟩
          · refine ev_aload_n rfl ?_
            refine g_getv (r := 19) (v := y1) g1 ad19 (by decide) ft7_4 (ey1) ?_
            refine ev_istore (L' := [(2, 19), (0, a1), (0, a2), (0, x3), (0, y1)]) (Nat.le_of_ble_eq_true rfl) rfl ?_
            exact ih.2 _ _ _ _ _ g1 k1 (by omega) (by omega) (by omega) (by omega) (by omega) (by omega) (by omega) (by omega) (ey0) (by omega) (by omega) (ey1) (by omega) (by omega) (by omega)
        · refine ev_iinc (w := (x3 + 1)) (L' := [(2, 19), (0, a1), (0, a2), (0, (x3 + 1)), j4]) rfl (by unfold w32; omega) rfl ?_
          refine ev_goto f90_2 ?_
          exact ih.1 _ _ _ _ _ g1 k1 (by omega) (by omega) (by omega) (by omega) (by omega) (by omega) (ey0) (by omega) (by omega) (ey1) (by omega) (by omega) (by omega)
    · intro h1 x3 x4 y0 y1 g1 k1 b0 b1 b2 b3 b4 b5 b6 b7 ey0 ly0 uy0 ey1 ly1 uy1 hm
      refine ev_iload rfl ?_
      refine ev_iload_n rfl ?_
      refine ev_icmple f90_94 (fun c26447 => ?_) (fun c26447 => ?_)
      · refine ev_aload_n rfl ?_
        refine g_getp (r := 19) (c := 20) g1 ad19 (by decide) (by decide) rf19_0 ft7_0 ?_
        refine ev_iload_n rfl ?_
        refine ev_iload_n rfl ?_
        refine g_iast g1 ad20 rt20 (fun _ => rfl) (by omega) (by omega) (by omega) (by omega) (fun h26448 e26448 g26448 => ?_)
        have k26448 := k1.wr e26448 rfl
        refine ev_aload_n rfl ?_
        refine ev_dup (by decide) ?_
        refine g_getv (r := 19) (v := y1) g26448 ad19 (by decide) ft7_4 (((jw_ne e26448 (Or.inl (by decide))).trans ey1)) ?_
        refine ev_iconst ?_
        refine ev_iadd (r := (y1 + 1)) (by unfold w32; omega) ?_
        refine ev_putfG (r := 19) (g26448.lt ad19) (g26448.fam ad19 (by decide)) ft7_4 (fun e => absurd e nz7_4) (fun e => absurd e (by decide)) (fun h26449a e26449a => ?_)
        refine ev_aload_n rfl ?_
        refine ev_getf (r := 19) (v := 21) (by rw [(jwr_ty e26449a).1]; exact g26448.lt ad19) (by rw [(jwr_ty e26449a).2]; exact g26448.fam ad19 (by decide)) ft7_1 ((jw_ne e26449a (Or.inr (by decide))).trans (g26448.pt ad19 (i := 1) (by decide) rf19_1)) ?_
        refine ev_iload_n rfl ?_
        refine ev_iload_n rfl ?_
        refine ev_iastG (r := 21) (j := (x3).toNat) (by rw [(jwr_ty e26449a).1]; exact g26448.lt ad21) (by rw [(jwr_ty e26449a).2]; exact g26448.tg ad21) (by omega) (by rw [(jwr_ty e26449a).2, g26448.ln ad21]; omega) (fun h26449b e26449b => ?_)
        refine ev_aload_n rfl ?_
        refine ev_dup (by decide) ?_
        refine ev_getf (r := 19) (v := y0) (by rw [(jwr_ty e26449b).1, (jwr_ty e26449a).1]; exact g26448.lt ad19) (by rw [(jwr_ty e26449b).2, (jwr_ty e26449a).2]; exact g26448.fam ad19 (by decide)) ft7_3 ((jw_ne e26449b (Or.inl (by decide))).trans ((jw_ne e26449a (Or.inr (by decide))).trans (((jw_ne e26448 (Or.inl (by decide))).trans ey0)))) ?_
        refine ev_iconst ?_
        refine ev_iadd (r := (y0 + 1)) (by unfold w32; omega) ?_
        refine ev_putfG (r := 19) (by rw [(jwr_ty e26449b).1, (jwr_ty e26449a).1]; exact g26448.lt ad19) (by rw [(jwr_ty e26449b).2, (jwr_ty e26449a).2]; exact g26448.fam ad19 (by decide)) ft7_3 (fun e => absurd e nz7_3) (fun e => absurd e (by decide)) (fun h26449c e26449c => ?_)
        have g26449c := g26448.steps e26449a e26449b e26449c (by omega) (by omega) (by omega) (by omega) (by omega)
        have k26449c := ((k26448.wr e26449a rfl).wr e26449b rfl).wr e26449c rfl
        refine ev_aload_n rfl ?_
        refine g_getv (r := 19) (v := (y0 + 1)) g26449c ad19 (by decide) ft7_3 ((jw_eq e26449c)) ?_
        exact ev_ret rfl (by decide) (by decide) ⟨_, rfl, by omega, by omega, g26449c, k26449c⟩
      · refine ev_aload_n rfl ?_
        refine g_getp (r := 19) (c := 20) g1 ad19 (by decide) (by decide) rf19_0 ft7_0 ?_
        refine ev_iload rfl ?_
        refine ev_aload_n rfl ?_
        refine g_getp (r := 19) (c := 20) g1 ad19 (by decide) (by decide) rf19_0 ft7_0 ?_
        refine ev_iload rfl ?_
        refine ev_iconst ?_
        refine ev_isub (r := (x4 - 1)) (by unfold w32; omega) ?_
        refine g_iald g1 ad20 rt20 (by omega) (by omega) (fun v26450 ev26450 lv26450 uv26450 => ?_)
        refine g_iast g1 ad20 rt20 (fun _ => rfl) (by omega) (by omega) (by omega) (by omega) (fun h26451 e26451 g26451 => ?_)
        have k26451 := k1.wr e26451 rfl
        refine ev_aload_n rfl ?_
        refine g_getp (r := 19) (c := 21) g26451 ad19 (by decide) (by decide) rf19_1 ft7_1 ?_
        refine ev_iload rfl ?_
        refine ev_aload_n rfl ?_
        refine g_getp (r := 19) (c := 21) g26451 ad19 (by decide) (by decide) rf19_1 ft7_1 ?_
        refine ev_iload rfl ?_
        refine ev_iconst ?_
        refine ev_isub (r := (x4 - 1)) (by unfold w32; omega) ?_
        refine g_iald g26451 ad21 rt21 (by omega) (by omega) (fun v26452 ev26452 lv26452 uv26452 => ?_)
        refine g_iast g26451 ad21 rt21 (fun _ => rfl) (by omega) (by omega) (by omega) (by omega) (fun h26453 e26453 g26453 => ?_)
        have k26453 := k26451.wr e26453 rfl
        refine ev_iinc (w := (x4 - 1)) (L' := [(2, 19), (0, a1), (0, a2), (0, x3), (0, (x4 - 1))]) rfl (by unfold w32; omega) rfl ?_
        refine ev_goto f90_50 ?_
        exact ih.2 _ _ _ _ _ g26453 k26453 (by omega) (by omega) (by omega) (by omega) (by omega) (by omega) (by omega) (by omega) (((jw_ne e26453 (Or.inl (by decide))).trans ((jw_ne e26451 (Or.inl (by decide))).trans ey0))) (by omega) (by omega) (((jw_ne e26453 (Or.inl (by decide))).trans ((jw_ne e26451 (Or.inl (by decide))).trans ey1))) (by omega) (by omega) (by omega)
set_option maxHeartbeats 4000000 in
theorem s90 {G : GH} {h : JH} (g : Gd G h) {a1 : Int} (la1 : (-9999) ≤ a1) (ua1 : a1 ≤ 9999) {a2 : Int} (la2 : 0 ≤ a2) (ua2 : a2 ≤ 90) {w0 : Int} (ew0 : h.2.2 19 3 = w0) (lw0 : 0 ≤ w0) (uw0 : w0 ≤ 5) {w1 : Int} (ew1 : h.2.2 19 4 = w1) (lw1 : 0 ≤ w1) (uw1 : w1 ≤ 5) : jOk 1 0 0 90 [(2, 19), (0, a1), (0, a2)] h (PI G [(19, 4), (19, 5), (20, 0), (21, 0)] h 0 1 6) := by
  refine ⟨by decide, by rw [ml90]; exact Nat.le_of_ble_eq_true rfl, ?_⟩
  rw [ml90, pp90]
  show jEv _ none _ c90_0 0 0 _ (c90_0, [(2, 19), (0, a1), (0, a2), (9, 0), (9, 0)], [], h, 0, 0)
  have k0 := Kp.rf [(19, 4), (19, 5), (20, 0), (21, 0)] h
  refine ev_iconst ?_
  refine ev_istore_n (L' := [(2, 19), (0, a1), (0, a2), (0, 0), (9, 0)]) (Nat.le_of_ble_eq_true rfl) rfl ?_
  exact (s90_l la1 ua1 la2 ua2 ew0 lw0 uw0 ew1 lw1 uw1 18).1 _ _ _ _ _ g k0 (by omega) (by omega) (by omega) (by omega) (by omega) (by omega) (ew0) (by omega) (by omega) (ew1) (by omega) (by omega) (by omega)
/-! 179 step -/
set_option maxHeartbeats 4000000 in
theorem s179 {G : GH} {h : JH} (g : Gd G h) {a1 : Int} (la1 : (-2147483648) ≤ a1) (ua1 : a1 ≤ 2147483647) {a2 : Int} (la2 : (-2147483648) ≤ a2) (ua2 : a2 ≤ 2147483647) : jOk 2 0 0 179 [(2, 0), (0, a1), (0, a2)] h (PI G [(19, 4), (19, 5), (20, 0), (21, 0)] h 0 (-3) 6) := by
  refine ⟨by decide, by rw [ml179]; exact Nat.le_of_ble_eq_true rfl, ?_⟩
  rw [ml179, pp179]
  show jEv _ none _ c179_0 0 0 _ (c179_0, [(2, 0), (0, a1), (0, a2)], [], h, 0, 0)
  have k0 := Kp.rf [(19, 4), (19, 5), (20, 0), (21, 0)] h
  refine ev_iload_n rfl ?_
  refine ev_sipush ?_
  refine ev_icmplt f179_24 (fun c26476 => ?_) (fun c26476 => ?_)
  · refine ev_iconst ?_
    exact ev_ret rfl (by decide) (by decide) ⟨_, rfl, by omega, by omega, g, k0⟩
  · refine ev_iload_n rfl ?_
    refine ev_sipush ?_
    refine ev_icmpgt f179_24 (fun c26477 => ?_) (fun c26477 => ?_)
    · refine ev_iconst ?_
      exact ev_ret rfl (by decide) (by decide) ⟨_, rfl, by omega, by omega, g, k0⟩
    · refine ev_iload_n rfl ?_
      refine ev_iflt f179_24 (fun c26478 => ?_) (fun c26478 => ?_)
      · refine ev_iconst ?_
        exact ev_ret rfl (by decide) (by decide) ⟨_, rfl, by omega, by omega, g, k0⟩
      · refine ev_iload_n rfl ?_
        refine ev_bipush ?_
        refine ev_icmple f179_26 (fun c26479 => ?_) (fun c26479 => ?_)
        · refine ev_aload_n rfl ?_
          refine g_getp (r := 0) (c := 19) g ad0 (by decide) (by decide) rf0_4 ft11_4 ?_
          refine ev_in (d := 0) (a := 0) (b := 0) (cd' := c89_0) (m := 1) (L0 := [(2, 19)]) (jcall_v (A := []) (S' := []) (r := 19) rfl (g.lt ad19) (g.tg ad19) (Nat.le_of_ble_eq_true rfl)) (by decide) ml89 pp89 (Nat.le_of_ble_eq_true rfl) rfl (by decide) (by decide) ?_
          refine ev_aload_n rfl ?_
          obtain ⟨v26480, ev26480, lv26480, uv26480⟩ := g.rd ad19 (show 3 < 6 by decide) rf19_3
          refine g_getv (r := 19) (v := v26480) g ad19 (by decide) ft7_3 ev26480 ?_
          refine ev_bipush ?_
          refine ev_icmpge f89_13 (fun c26481 => ?_) (fun c26481 => ?_)
          · refine ev_iconst ?_
            refine ev_ret rfl (by decide) (by decide) ?_
            show jEv _ _ _ _ _ _ _ (_, [(2, 0), (0, a1), (0, a2)], [(0, 0)], _, _, _)
            refine ev_ifeq f179_51 (fun c26482 => ?_) (fun c26482 => absurd c26482 (by omega))
            refine ev_bipush ?_
            exact ev_ret rfl (by decide) (by decide) ⟨_, rfl, by omega, by omega, g, k0⟩
          · refine ev_iconst ?_
            refine ev_goto f89_14 ?_
            refine ev_ret rfl (by decide) (by decide) ?_
            show jEv _ _ _ _ _ _ _ (_, [(2, 0), (0, a1), (0, a2)], [(0, 1)], _, _, _)
            refine ev_ifeq f179_51 (fun c26483 => absurd c26483 (by omega)) (fun c26483 => ?_)
            refine ev_aload_n rfl ?_
            refine g_getp (r := 0) (c := 19) g ad0 (by decide) (by decide) rf0_4 ft11_4 ?_
            refine ev_iload_n rfl ?_
            refine ev_bipush ?_
            refine ev_iload_n rfl ?_
            refine ev_imul (r := (10 * a2)) (by unfold w32; omega) ?_
            obtain ⟨v26484, ev26484, lv26484, uv26484⟩ := g.rd ad19 (show 4 < 6 by decide) rf19_4
            have tv26484 := g.2.2.2.2.2.2
            rw [ev26484, (ev26480)] at tv26484
            refine ev_call (jcall_v (A := [(0, (10 * a2)), (0, a1)]) (S' := []) (r := 19) rfl (g.lt ad19) (g.tg ad19) (Nat.le_of_ble_eq_true rfl)) (jOk_le (by decide) (s90 g (by omega) (by omega) (by omega) (by omega) (ev26480) (by omega) (by omega) ev26484 (by omega) (by omega))) (by decide) (by decide) (fun w26485 h26485 q26485 => ?_)
            obtain ⟨v26486, rfl, lv26486, uv26486, g26485, kk26485⟩ := q26485
            have k26485 := k0.tr kk26485 (by decide)
            show jEv _ _ _ _ _ _ _ (_, [(2, 0), (0, a1), (0, a2)], [(0, v26486)], _, _, _)
            refine ev_goto f179_53 ?_
            exact ev_ret rfl (by decide) (by decide) ⟨_, rfl, by omega, by omega, g26485, k26485⟩
        · refine ev_iconst ?_
          exact ev_ret rfl (by decide) (by decide) ⟨_, rfl, by omega, by omega, g, k0⟩
/-! 153 ready -/
set_option maxHeartbeats 4000000 in
theorem s153 {G : GH} {h : JH} (g : Gd G h)  : jOk 5 0 0 153 [(2, 1)] h (PI G [(1, 2), (1, 3), (5, 0), (6, 0)] h 0 0 1) := by
  refine ⟨by decide, by rw [ml153]; exact Nat.le_of_ble_eq_true rfl, ?_⟩
  rw [ml153, pp153]
  show jEv _ none _ c153_0 0 0 _ (c153_0, [(2, 1)], [], h, 0, 0)
  have k0 := Kp.rf [(1, 2), (1, 3), (5, 0), (6, 0)] h
  refine ev_aload_n rfl ?_
  obtain ⟨v26511, ev26511, lv26511, uv26511⟩ := g.rd ad1 (show 2 < 8 by decide) rf1_2
  refine g_getv (r := 1) (v := v26511) g ad1 (by decide) ft10_2 ev26511 ?_
  refine ev_ifne f153_33 (fun c26512 => ?_) (fun c26512 => ?_)
  · refine ev_aload_n rfl ?_
    obtain ⟨v26513, ev26513, lv26513, uv26513⟩ := g.rd ad1 (show 1 < 8 by decide) rf1_1
    refine g_getv (r := 1) (v := v26513) g ad1 (by decide) ft10_1 ev26513 ?_
    refine ev_lconst ?_
    refine ev_lcmp ?_
    refine ev_ifle f153_46 (fun c26514 => ?_) (fun c26514 => ?_)
    · have c26514b := jcmpL_le c26514
      refine ev_iconst ?_
      exact ev_ret rfl (by decide) (by decide) ⟨_, rfl, by omega, by omega, g, k0⟩
    · have c26514b := jcmpL_leN c26514
      refine ev_iconst ?_
      refine ev_goto f153_47 ?_
      exact ev_ret rfl (by decide) (by decide) ⟨_, rfl, by omega, by omega, g, k0⟩
  · refine ev_aload_n rfl ?_
    refine ev_iconst ?_
    refine g_putf (r := 1) g ad1 (by decide) ft10_2 (by decide) (fun _ => by omega) rf1_2 (by decide) (by omega) (by omega) (fun h26515 e26515 g26515 => ?_)
    have k26515 := k0.wr e26515 rfl
    refine ev_aload_n rfl ?_
    refine ev_aload_n rfl ?_
    refine ev_call (jcall_v (A := []) (S' := [(2, 1)]) (r := 1) rfl (g26515.lt ad1) (g26515.tg ad1) (Nat.le_of_ble_eq_true rfl)) (jOk_le (by decide) (s152 g26515 )) (by decide) (by decide) (fun w26516 h26516 q26516 => ?_)
    obtain ⟨v26517, rfl, lv26517, uv26517, g26516, kk26516⟩ := q26516
    have k26516 := k26515.tr kk26516 (by decide)
    show jEv _ _ _ _ _ _ _ (_, [(2, 1)], [(1, v26517), (2, 1)], _, _, _)
    refine g_putf (r := 1) g26516 ad1 (by decide) ft10_1 (by decide) (fun e => absurd e nz10_1) rf1_1 (by decide) (by omega) (by omega) (fun h26518 e26518 g26518 => ?_)
    have k26518 := k26516.wr e26518 rfl
    refine ev_aload_n rfl ?_
    refine g_getv (r := 1) (v := v26517) g26518 ad1 (by decide) ft10_1 ((jw_eq e26518)) ?_
    refine ev_lconst ?_
    refine ev_lcmp ?_
    refine ev_ifle f153_33 (fun c26519 => ?_) (fun c26519 => ?_)
    · have c26519b := jcmpL_le c26519
      refine ev_aload_n rfl ?_
      refine g_getv (r := 1) (v := v26517) g26518 ad1 (by decide) ft10_1 ((jw_eq e26518)) ?_
      refine ev_lconst ?_
      refine ev_lcmp ?_
      refine ev_ifle f153_46 (fun c26520 => ?_) (fun c26520 => absurd (jcmpL_leN c26520) (by omega))
      refine ev_iconst ?_
      exact ev_ret rfl (by decide) (by decide) ⟨_, rfl, by omega, by omega, g26518, k26518⟩
    · have c26519b := jcmpL_leN c26519
      refine ev_aload_n rfl ?_
      refine ev_call (jcall_v (A := []) (S' := []) (r := 1) rfl (g26518.lt ad1) (g26518.tg ad1) (Nat.le_of_ble_eq_true rfl)) (jOk_le (by decide) (s154 g26518 )) (by decide) (by decide) (fun w26521 h26521 q26521 => ?_)
      obtain ⟨rfl, g26521, kk26521⟩ := q26521
      have k26521 := k26518.tr kk26521 (by decide)
      show jEv _ _ _ _ _ _ _ (_, [(2, 1)], [], _, _, _)
      refine ev_aload_n rfl ?_
      refine g_getv (r := 1) (v := v26517) g26521 ad1 (by decide) ft10_1 (((kk26521.v (by decide)).trans (jw_eq e26518))) ?_
      refine ev_lconst ?_
      refine ev_lcmp ?_
      refine ev_ifle f153_46 (fun c26522 => absurd (jcmpL_le c26522) (by omega)) (fun c26522 => ?_)
      refine ev_iconst ?_
      refine ev_goto f153_47 ?_
      exact ev_ret rfl (by decide) (by decide) ⟨_, rfl, by omega, by omega, g26521, k26521⟩
/-! 229 remember -/
set_option maxHeartbeats 4000000 in
theorem s229 {G : GH} {h : JH} (g : Gd G h) {a1 : Int} (la1 : (-2147483648) ≤ a1) (ua1 : a1 ≤ 2147483647) {a2 : Int} (la2 : (-2147483648) ≤ a2) (ua2 : a2 ≤ 2147483647) {a3 : Int} (la3 : (-2147483648) ≤ a3) (ua3 : a3 ≤ 2147483647) : jOk 1 0 0 229 [(2, 0), (0, a1), (0, a2), (0, a3)] h (PV G [(25, 0), (0, 10), (0, 11)] h) := by
  refine ⟨by decide, by rw [ml229]; exact Nat.le_of_ble_eq_true rfl, ?_⟩
  rw [ml229, pp229]
  show jEv _ none _ c229_0 0 0 _ (c229_0, [(2, 0), (0, a1), (0, a2), (0, a3)], [], h, 0, 0)
  have k0 := Kp.rf [(25, 0), (0, 10), (0, 11)] h
  refine ev_aload_n rfl ?_
  obtain ⟨v26551, ev26551, lv26551, uv26551⟩ := g.rd ad0 (show 9 < 17 by decide) rf0_9
  refine g_getv (r := 0) (v := v26551) g ad0 (by decide) ft11_9 ev26551 ?_
  refine ev_bipush ?_
  refine ev_icmplt f229_30 (fun c26552 => ?_) (fun c26552 => ?_)
  · refine ev_aload_n rfl ?_
    refine g_getp (r := 0) (c := 25) g ad0 (by decide) (by decide) rf0_8 ft11_8 ?_
    refine ev_iconst ?_
    refine ev_aload_n rfl ?_
    refine g_getv (r := 0) (v := v26551) g ad0 (by decide) ft11_9 (ev26551) ?_
    refine ev_imul (r := (3 * v26551)) (by unfold w32; omega) ?_
    refine ev_iload_n rfl ?_
    refine g_iast g ad25 rt25 (fun _ => rfl) (by omega) (by omega) (by omega) (by omega) (fun h26553 e26553 g26553 => ?_)
    have k26553 := k0.wr e26553 rfl
    refine ev_aload_n rfl ?_
    refine g_getp (r := 0) (c := 25) g26553 ad0 (by decide) (by decide) rf0_8 ft11_8 ?_
    refine ev_iconst ?_
    refine ev_aload_n rfl ?_
    refine g_getv (r := 0) (v := v26551) g26553 ad0 (by decide) ft11_9 (((jw_ne e26553 (Or.inl (by decide))).trans ev26551)) ?_
    refine ev_imul (r := (3 * v26551)) (by unfold w32; omega) ?_
    refine ev_iconst ?_
    refine ev_iadd (r := (3 * v26551 + 1)) (by unfold w32; omega) ?_
    refine ev_iload_n rfl ?_
    refine g_iast g26553 ad25 rt25 (fun _ => rfl) (by omega) (by omega) (by omega) (by omega) (fun h26554 e26554 g26554 => ?_)
    have k26554 := k26553.wr e26554 rfl
    refine ev_aload_n rfl ?_
    refine g_getp (r := 0) (c := 25) g26554 ad0 (by decide) (by decide) rf0_8 ft11_8 ?_
    refine ev_iconst ?_
    refine ev_aload_n rfl ?_
    refine g_getv (r := 0) (v := v26551) g26554 ad0 (by decide) ft11_9 (((jw_ne e26554 (Or.inl (by decide))).trans ((jw_ne e26553 (Or.inl (by decide))).trans ev26551))) ?_
    refine ev_imul (r := (3 * v26551)) (by unfold w32; omega) ?_
    refine ev_iconst ?_
    refine ev_iadd (r := (3 * v26551 + 2)) (by unfold w32; omega) ?_
    refine ev_iload_n rfl ?_
    refine g_iast g26554 ad25 rt25 (fun _ => rfl) (by omega) (by omega) (by omega) (by omega) (fun h26555 e26555 g26555 => ?_)
    have k26555 := k26554.wr e26555 rfl
    refine ev_aload_n rfl ?_
    refine ev_dup (by decide) ?_
    refine g_getv (r := 0) (v := v26551) g26555 ad0 (by decide) ft11_9 (((jw_ne e26555 (Or.inl (by decide))).trans ((jw_ne e26554 (Or.inl (by decide))).trans ((jw_ne e26553 (Or.inl (by decide))).trans ev26551)))) ?_
    refine ev_iconst ?_
    refine ev_iadd (r := (v26551 + 1)) (by unfold w32; omega) ?_
    refine g_putf (r := 0) g26555 ad0 (by decide) ft11_9 (by decide) (fun e => absurd e nz11_9) rf0_9 (by decide) (by omega) (by omega) (fun h26556 e26556 g26556 => ?_)
    have k26556 := k26555.wr e26556 rfl
    refine ev_aload_n rfl ?_
    refine ev_iconst ?_
    refine g_putf (r := 0) g26556 ad0 (by decide) ft11_10 (by decide) (fun e => absurd e nz11_10) rf0_10 (by decide) (by omega) (by omega) (fun h26557 e26557 g26557 => ?_)
    have k26557 := k26556.wr e26557 rfl
    exact ev_ret rfl (by decide) (by decide) ⟨rfl, g26557, k26557⟩
  · refine ev_aload_n rfl ?_
    refine g_getp (r := 0) (c := 25) g ad0 (by decide) (by decide) rf0_8 ft11_8 ?_
    refine ev_iconst ?_
    refine ev_aload_n rfl ?_
    refine g_getp (r := 0) (c := 25) g ad0 (by decide) (by decide) rf0_8 ft11_8 ?_
    refine ev_iconst ?_
    refine ev_bipush ?_
    refine g_copyS g ad25 (by decide) rt25 (fun _ => rfl) (by omega) (by omega) (by omega) (by omega) (by omega) (Nat.le_of_ble_eq_true rfl) (fun h26558 g26558 kk26558 => ?_)
    have k26558 := k0.tr kk26558 (by decide)
    refine ev_aload_n rfl ?_
    refine ev_bipush ?_
    refine g_putf (r := 0) g26558 ad0 (by decide) ft11_9 (by decide) (fun e => absurd e nz11_9) rf0_9 (by decide) (by omega) (by omega) (fun h26559 e26559 g26559 => ?_)
    have k26559 := k26558.wr e26559 rfl
    refine ev_aload_n rfl ?_
    refine g_getp (r := 0) (c := 25) g26559 ad0 (by decide) (by decide) rf0_8 ft11_8 ?_
    refine ev_iconst ?_
    refine ev_aload_n rfl ?_
    refine g_getv (r := 0) (v := 39) g26559 ad0 (by decide) ft11_9 ((jw_eq e26559)) ?_
    refine ev_imul (r := 117) (by decide) ?_
    refine ev_iload_n rfl ?_
    refine g_iast g26559 ad25 rt25 (fun _ => rfl) (by omega) (by omega) (by omega) (by omega) (fun h26560 e26560 g26560 => ?_)
    have k26560 := k26559.wr e26560 rfl
    refine ev_aload_n rfl ?_
    refine g_getp (r := 0) (c := 25) g26560 ad0 (by decide) (by decide) rf0_8 ft11_8 ?_
    refine ev_iconst ?_
    refine ev_aload_n rfl ?_
    refine g_getv (r := 0) (v := 39) g26560 ad0 (by decide) ft11_9 (((jw_ne e26560 (Or.inl (by decide))).trans (jw_eq e26559))) ?_
    refine ev_imul (r := 117) (by decide) ?_
    refine ev_iconst ?_
    refine ev_iadd (r := 118) (by decide) ?_
    refine ev_iload_n rfl ?_
    refine g_iast g26560 ad25 rt25 (fun _ => rfl) (by omega) (by omega) (by omega) (by omega) (fun h26561 e26561 g26561 => ?_)
    have k26561 := k26560.wr e26561 rfl
    refine ev_aload_n rfl ?_
    refine g_getp (r := 0) (c := 25) g26561 ad0 (by decide) (by decide) rf0_8 ft11_8 ?_
    refine ev_iconst ?_
    refine ev_aload_n rfl ?_
    refine g_getv (r := 0) (v := 39) g26561 ad0 (by decide) ft11_9 (((jw_ne e26561 (Or.inl (by decide))).trans ((jw_ne e26560 (Or.inl (by decide))).trans (jw_eq e26559)))) ?_
    refine ev_imul (r := 117) (by decide) ?_
    refine ev_iconst ?_
    refine ev_iadd (r := 119) (by decide) ?_
    refine ev_iload_n rfl ?_
    refine g_iast g26561 ad25 rt25 (fun _ => rfl) (by omega) (by omega) (by omega) (by omega) (fun h26562 e26562 g26562 => ?_)
    have k26562 := k26561.wr e26562 rfl
    refine ev_aload_n rfl ?_
    refine ev_dup (by decide) ?_
    refine g_getv (r := 0) (v := 39) g26562 ad0 (by decide) ft11_9 (((jw_ne e26562 (Or.inl (by decide))).trans ((jw_ne e26561 (Or.inl (by decide))).trans ((jw_ne e26560 (Or.inl (by decide))).trans (jw_eq e26559))))) ?_
    refine ev_iconst ?_
    refine ev_iadd (r := 40) (by decide) ?_
    refine g_putf (r := 0) g26562 ad0 (by decide) ft11_9 (by decide) (fun e => absurd e nz11_9) rf0_9 (by decide) (by omega) (by omega) (fun h26563 e26563 g26563 => ?_)
    have k26563 := k26562.wr e26563 rfl
    refine ev_aload_n rfl ?_
    refine ev_iconst ?_
    refine g_putf (r := 0) g26563 ad0 (by decide) ft11_10 (by decide) (fun e => absurd e nz11_10) rf0_10 (by decide) (by omega) (by omega) (fun h26564 e26564 g26564 => ?_)
    have k26564 := k26563.wr e26564 rfl
    exact ev_ret rfl (by decide) (by decide) ⟨rfl, g26564, k26564⟩
/-! 230 restore -/
set_option maxHeartbeats 4000000 in
theorem s230 {G : GH} {h : JH} (g : Gd G h) {a1 : Int} (la1 : (-2147483648) ≤ a1) (ua1 : a1 ≤ 2147483647) {a2 : Int} (la2 : (-2147483648) ≤ a2) (ua2 : a2 ≤ 2147483647) : jOk 5 0 0 230 [(2, 0), (0, a1), (0, a2)] h (PV G [(4, 0), (1, 3), (1000000, 0)] h) := by
  refine ⟨by decide, by rw [ml230]; exact Nat.le_of_ble_eq_true rfl, ?_⟩
  rw [ml230, pp230]
  show jEv _ none _ c230_0 0 0 _ (c230_0, [(2, 0), (0, a1), (0, a2), (9, 0), (9, 0), (9, 0)], [], h, 0, 0)
  have k0 := Kp.rf [(4, 0), (1, 3), (1000000, 0)] h
  refine ev_iload_n rfl ?_
  refine ev_bipush ?_
  refine ev_icmpge f230_16 (fun c26669 => ?_) (fun c26669 => ?_)
  · refine ev_iload_n rfl ?_
    refine ev_bipush ?_
    refine ev_isub (r := (a1 - 36)) (by unfold w32; omega) ?_
    refine ev_iconst ?_
    refine g_idivP (c := 5) rfl (by decide) (by omega) (by omega) (fun v26670 ev26670 lv26670 uv26670 => ?_)
    refine ev_istore_n (L' := [(2, 0), (0, a1), (0, a2), (0, v26670), (9, 0), (9, 0)]) (Nat.le_of_ble_eq_true rfl) rfl ?_
    refine ev_iload_n rfl ?_
    refine ev_bipush ?_
    refine ev_isub (r := (a1 - 36)) (by unfold w32; omega) ?_
    refine ev_iconst ?_
    refine g_iremP (c := 5) rfl (by decide) (by omega) (fun v26671 ev26671 lv26671 uv26671 wv26671 => ?_)
    refine ev_iconst ?_
    refine ev_isub (r := (v26671 - 1)) (by unfold w32; omega) ?_
    refine ev_istore (L' := [(2, 0), (0, a1), (0, a2), (0, v26670), (0, (v26671 - 1)), (9, 0)]) (Nat.le_of_ble_eq_true rfl) rfl ?_
    refine ev_aload_n rfl ?_
    refine ev_iload_n rfl ?_
    refine ev_bipush ?_
    refine g_idivP (c := 100) rfl (by decide) (by omega) (by omega) (fun v26672 ev26672 lv26672 uv26672 => ?_)
    refine ev_in (d := 3) (a := 0) (b := 0) (cd' := c219_0) (m := 2) (L0 := [(2, 0), (0, v26672)]) (jcall_v (A := [(0, v26672)]) (S' := []) (r := 0) rfl (g.lt ad0) (g.tg ad0) (Nat.le_of_ble_eq_true rfl)) (by decide) ml219 pp219 (Nat.le_of_ble_eq_true rfl) rfl (by decide) (by decide) ?_
    refine ev_iload_n rfl ?_
    refine ev_iflt f219_12 (fun c26673 => absurd c26673 (by omega)) (fun c26673 => ?_)
    refine ev_iload_n rfl ?_
    refine ev_aload_n rfl ?_
    obtain ⟨v26674, ev26674, lv26674, uv26674⟩ := g.rd ad0 (show 3 < 17 by decide) rf0_3
    refine g_getv (r := 0) (v := v26674) g ad0 (by decide) ft11_3 ev26674 ?_
    refine ev_icmplt f219_16 (fun c26675 => ?_) (fun c26675 => ?_)
    · refine ev_aload_n rfl ?_
      refine g_getp (r := 0) (c := 18) g ad0 (by decide) (by decide) rf0_2 ft11_2 ?_
      refine ev_iload_n rfl ?_
      refine g_qaald (g) (i := v26672) (ev26674) (by omega) (by omega) (fun r26676 m26677 qr26676 => ?_)
      have wr26676 := g.qb qr26676
      have zr26676 := qr26676.1
      refine ev_ret rfl (by decide) (by decide) ?_
      show jEv _ _ _ _ _ _ _ (_, [(2, 0), (0, a1), (0, a2), (0, v26670), (0, (v26671 - 1)), (9, 0)], [(2, (r26676 : Int))], _, _, _)
      refine ev_astore (L' := [(2, 0), (0, a1), (0, a2), (0, v26670), (0, (v26671 - 1)), (2, (r26676 : Int))]) (Nat.le_of_ble_eq_true rfl) rfl ?_
      refine ev_aload rfl ?_
      refine ev_ifnull f230_74 (fun c26678 => absurd c26678 (by omega)) (fun c26678 => ?_)
      refine ev_aload rfl ?_
      refine ev_iload_n rfl ?_
      refine ev_bipush ?_
      refine g_iremP (c := 100) rfl (by decide) (by omega) (fun v26679 ev26679 lv26679 uv26679 wv26679 => ?_)
      refine ev_iload rfl ?_
      refine ev_in (d := 3) (a := 0) (b := 0) (cd' := c32_0) (m := 3) (L0 := [(2, (r26676 : Int)), (0, v26679), (0, (v26671 - 1))]) (jcall_v (A := [(0, (v26671 - 1)), (0, v26679)]) (S' := []) (r := r26676) rfl (g.qlt qr26676) (g.qtg qr26676) (Nat.le_of_ble_eq_true rfl)) (by decide) ml32 pp32 (Nat.le_of_ble_eq_true rfl) rfl (by decide) (by decide) ?_
      refine ev_iload_n rfl ?_
      refine ev_iconst ?_
      refine ev_icmpne f32_30 (fun c26680 => ?_) (fun c26680 => ?_)
      · refine ev_aload_n rfl ?_
        refine ev_iload_n rfl ?_
        refine ev_iload_n rfl ?_
        refine ev_in (d := 2) (a := 0) (b := 0) (cd' := c26_0) (m := 3) (L0 := [(2, (r26676 : Int)), (0, v26679), (0, (v26671 - 1))]) (jcall_v (A := [(0, (v26671 - 1)), (0, v26679)]) (S' := []) (r := r26676) rfl (g.qlt qr26676) (g.qtg qr26676) (Nat.le_of_ble_eq_true rfl)) (by decide) ml26 pp26 (Nat.le_of_ble_eq_true rfl) rfl (by decide) (by decide) ?_
        refine ev_aload_n rfl ?_
        refine ev_iload_n rfl ?_
        refine ev_iload_n rfl ?_
        refine ev_in (d := 1) (a := 0) (b := 0) (cd' := c25_0) (m := 3) (L0 := [(2, (r26676 : Int)), (0, v26679), (0, (v26671 - 1))]) (jcall_v (A := [(0, (v26671 - 1)), (0, v26679)]) (S' := []) (r := r26676) rfl (g.qlt qr26676) (g.qtg qr26676) (Nat.le_of_ble_eq_true rfl)) (by decide) ml25 pp25 (Nat.le_of_ble_eq_true rfl) rfl (by decide) (by decide) ?_
        refine ev_aload_n rfl ?_
        refine ev_iload_n rfl ?_
        refine ev_in (d := 0) (a := 0) (b := 0) (cd' := c24_0) (m := 2) (L0 := [(2, (r26676 : Int)), (0, v26679)]) (jcall_v (A := [(0, v26679)]) (S' := []) (r := r26676) rfl (g.qlt qr26676) (g.qtg qr26676) (Nat.le_of_ble_eq_true rfl)) (by decide) ml24 pp24 (Nat.le_of_ble_eq_true rfl) rfl (by decide) (by decide) ?_
        refine ev_iload_n rfl ?_
        refine ev_iflt f24_16 (fun c26681 => absurd c26681 (by omega)) (fun c26681 => ?_)
        refine ev_iload_n rfl ?_
        refine ev_aload_n rfl ?_
        obtain ⟨v26682, ev26682, lv26682, uv26682⟩ := g.q0 qr26676
        refine g_qgetv (v := v26682) g qr26676 ft4_0 ev26682 ?_
        refine ev_icmpge f24_16 (fun c26683 => ?_) (fun c26683 => ?_)
        · refine ev_iconst ?_
          refine ev_ret rfl (by decide) (by decide) ?_
          show jEv _ _ _ _ _ _ _ (_, [(2, (r26676 : Int)), (0, v26679), (0, (v26671 - 1))], [(0, 0)], _, _, _)
          refine ev_ifeq f25_26 (fun c26684 => ?_) (fun c26684 => absurd c26684 (by omega))
          refine ev_iconst ?_
          refine ev_ret rfl (by decide) (by decide) ?_
          show jEv _ _ _ _ _ _ _ (_, [(2, (r26676 : Int)), (0, v26679), (0, (v26671 - 1))], [(0, 0)], _, _, _)
          refine ev_ifeq f26_23 (fun c26685 => ?_) (fun c26685 => absurd c26685 (by omega))
          refine ev_iconst ?_
          refine ev_ret rfl (by decide) (by decide) ?_
          show jEv _ _ _ _ _ _ _ (_, [(2, (r26676 : Int)), (0, v26679), (0, (v26671 - 1))], [(0, 0)], _, _, _)
          refine ev_ret rfl (by decide) (by decide) ?_
          show jEv _ _ _ _ _ _ _ (_, [(2, 0), (0, a1), (0, a2), (0, v26670), (0, (v26671 - 1)), (2, (r26676 : Int))], [(0, 0)], _, _, _)
          refine ev_ifeq f230_74 (fun c26686 => ?_) (fun c26686 => absurd c26686 (by omega))
          exact ev_ret rfl (by decide) (by decide) ⟨rfl, g, k0⟩
        · refine ev_iconst ?_
          refine ev_goto f24_17 ?_
          refine ev_ret rfl (by decide) (by decide) ?_
          show jEv _ _ _ _ _ _ _ (_, [(2, (r26676 : Int)), (0, v26679), (0, (v26671 - 1))], [(0, 1)], _, _, _)
          refine ev_ifeq f25_26 (fun c26687 => absurd c26687 (by omega)) (fun c26687 => ?_)
          refine ev_iload_n rfl ?_
          refine ev_iflt f25_26 (fun c26688 => absurd c26688 (by omega)) (fun c26688 => ?_)
          refine ev_iload_n rfl ?_
          refine ev_aload_n rfl ?_
          refine g_qgetp g qr26676 (c := 4) (by decide) (by decide) ft4_4 ?_
          refine ev_iload_n rfl ?_
          refine g_qiald g qr26676 (c := 4) (by decide) (by decide) (by decide) (by omega) (by show v26679 < m26677; omega) rfl (fun v26689 ev26689 lv26689 uv26689 => ?_)
          refine ev_icmpge f25_26 (fun c26690 => ?_) (fun c26690 => ?_)
          · refine ev_iconst ?_
            refine ev_ret rfl (by decide) (by decide) ?_
            show jEv _ _ _ _ _ _ _ (_, [(2, (r26676 : Int)), (0, v26679), (0, (v26671 - 1))], [(0, 0)], _, _, _)
            refine ev_ifeq f26_23 (fun c26691 => ?_) (fun c26691 => absurd c26691 (by omega))
            refine ev_iconst ?_
            refine ev_ret rfl (by decide) (by decide) ?_
            show jEv _ _ _ _ _ _ _ (_, [(2, (r26676 : Int)), (0, v26679), (0, (v26671 - 1))], [(0, 0)], _, _, _)
            refine ev_ret rfl (by decide) (by decide) ?_
            show jEv _ _ _ _ _ _ _ (_, [(2, 0), (0, a1), (0, a2), (0, v26670), (0, (v26671 - 1)), (2, (r26676 : Int))], [(0, 0)], _, _, _)
            refine ev_ifeq f230_74 (fun c26692 => ?_) (fun c26692 => absurd c26692 (by omega))
            exact ev_ret rfl (by decide) (by decide) ⟨rfl, g, k0⟩
          · refine ev_iconst ?_
            refine ev_goto f25_27 ?_
            refine ev_ret rfl (by decide) (by decide) ?_
            show jEv _ _ _ _ _ _ _ (_, [(2, (r26676 : Int)), (0, v26679), (0, (v26671 - 1))], [(0, 1)], _, _, _)
            refine ev_ifeq f26_23 (fun c26693 => absurd c26693 (by omega)) (fun c26693 => ?_)
            refine ev_aload_n rfl ?_
            refine g_qgetp g qr26676 (c := 2) (by decide) (by decide) ft4_2 ?_
            refine ev_iload_n rfl ?_
            refine g_qiald g qr26676 (c := 2) (by decide) (by decide) (by decide) (by omega) (by show v26679 < m26677; omega) rfl (fun v26694 ev26694 lv26694 uv26694 => ?_)
            refine ev_iconst ?_
            refine ev_icmpne f26_23 (fun c26695 => ?_) (fun c26695 => ?_)
            · refine ev_iconst ?_
              refine ev_ret rfl (by decide) (by decide) ?_
              show jEv _ _ _ _ _ _ _ (_, [(2, (r26676 : Int)), (0, v26679), (0, (v26671 - 1))], [(0, 0)], _, _, _)
              refine ev_ret rfl (by decide) (by decide) ?_
              show jEv _ _ _ _ _ _ _ (_, [(2, 0), (0, a1), (0, a2), (0, v26670), (0, (v26671 - 1)), (2, (r26676 : Int))], [(0, 0)], _, _, _)
              refine ev_ifeq f230_74 (fun c26696 => ?_) (fun c26696 => absurd c26696 (by omega))
              exact ev_ret rfl (by decide) (by decide) ⟨rfl, g, k0⟩
            · refine ev_iconst ?_
              refine ev_goto f26_24 ?_
              refine ev_ret rfl (by decide) (by decide) ?_
              show jEv _ _ _ _ _ _ _ (_, [(2, (r26676 : Int)), (0, v26679), (0, (v26671 - 1))], [(0, 1)], _, _, _)
              refine ev_ret rfl (by decide) (by decide) ?_
              show jEv _ _ _ _ _ _ _ (_, [(2, 0), (0, a1), (0, a2), (0, v26670), (0, (v26671 - 1)), (2, (r26676 : Int))], [(0, 1)], _, _, _)
              refine ev_ifeq f230_74 (fun c26697 => absurd c26697 (by omega)) (fun c26697 => ?_)
              refine ev_aload rfl ?_
              refine ev_iload_n rfl ?_
              refine ev_bipush ?_
              refine g_iremP (c := 100) rfl (by decide) (by omega) (fun v26698 ev26698 lv26698 uv26698 wv26698 => ?_)
              obtain rfl : v26679 = v26698 := by omega
              refine ev_iload rfl ?_
              refine ev_iload_n rfl ?_
              refine ev_in (d := 3) (a := 0) (b := 0) (cd' := c35_0) (m := 4) (L0 := [(2, (r26676 : Int)), (0, v26679), (0, (v26671 - 1)), (0, a2)]) (jcall_v (A := [(0, a2), (0, (v26671 - 1)), (0, v26679)]) (S' := []) (r := r26676) rfl (g.qlt qr26676) (g.qtg qr26676) (Nat.le_of_ble_eq_true rfl)) (by decide) ml35 pp35 (Nat.le_of_ble_eq_true rfl) rfl (by decide) (by decide) ?_
              refine ev_iload_n rfl ?_
              refine ev_iconst ?_
              refine ev_icmpne f35_15 (fun c26699 => ?_) (fun c26699 => absurd c26699 (by omega))
              refine ev_aload_n rfl ?_
              refine g_qgetp g qr26676 (c := 6) (by decide) (by decide) ft4_6 ?_
              refine ev_iconst ?_
              refine ev_iload_n rfl ?_
              refine ev_imul (r := (4 * v26679)) (by unfold w32; omega) ?_
              refine ev_iload_n rfl ?_
              refine ev_iadd (r := (v26671 + 4 * v26679 - 1)) (by unfold w32; omega) ?_
              refine ev_iload_n rfl ?_
              refine g_qiast g qr26676 (c := 6) (by decide) (by decide) (by decide) (by omega) (by show (v26671 + 4 * v26679 - 1) < 4 * m26677; omega) rfl (by omega) (by omega) (fun h26700 e26700 g26700 => ?_)
              have k26700 := k0.wr e26700 (inW_dyn rfl (by have := qr26676.1; omega))
              refine ev_ret rfl (by decide) (by decide) ?_
              show jEv _ _ _ _ _ _ _ (_, [(2, 0), (0, a1), (0, a2), (0, v26670), (0, (v26671 - 1)), (2, (r26676 : Int))], [], _, _, _)
              exact ev_ret rfl (by decide) (by decide) ⟨rfl, g26700, k26700⟩
      · refine ev_aload_n rfl ?_
        refine ev_iload_n rfl ?_
        refine ev_in (d := 2) (a := 0) (b := 0) (cd' := c24_0) (m := 2) (L0 := [(2, (r26676 : Int)), (0, v26679)]) (jcall_v (A := [(0, v26679)]) (S' := []) (r := r26676) rfl (g.qlt qr26676) (g.qtg qr26676) (Nat.le_of_ble_eq_true rfl)) (by decide) ml24 pp24 (Nat.le_of_ble_eq_true rfl) rfl (by decide) (by decide) ?_
        refine ev_iload_n rfl ?_
        refine ev_iflt f24_16 (fun c26701 => absurd c26701 (by omega)) (fun c26701 => ?_)
        refine ev_iload_n rfl ?_
        refine ev_aload_n rfl ?_
        obtain ⟨v26702, ev26702, lv26702, uv26702⟩ := g.q0 qr26676
        refine g_qgetv (v := v26702) g qr26676 ft4_0 ev26702 ?_
        refine ev_icmpge f24_16 (fun c26703 => ?_) (fun c26703 => ?_)
        · refine ev_iconst ?_
          refine ev_ret rfl (by decide) (by decide) ?_
          show jEv _ _ _ _ _ _ _ (_, [(2, (r26676 : Int)), (0, v26679), (0, (v26671 - 1))], [(0, 0)], _, _, _)
          refine ev_ifeq f32_26 (fun c26704 => ?_) (fun c26704 => absurd c26704 (by omega))
          refine ev_iconst ?_
          refine ev_goto f32_36 ?_
          refine ev_ret rfl (by decide) (by decide) ?_
          show jEv _ _ _ _ _ _ _ (_, [(2, 0), (0, a1), (0, a2), (0, v26670), (0, (v26671 - 1)), (2, (r26676 : Int))], [(0, 0)], _, _, _)
          refine ev_ifeq f230_74 (fun c26705 => ?_) (fun c26705 => absurd c26705 (by omega))
          exact ev_ret rfl (by decide) (by decide) ⟨rfl, g, k0⟩
        · refine ev_iconst ?_
          refine ev_goto f24_17 ?_
          refine ev_ret rfl (by decide) (by decide) ?_
          show jEv _ _ _ _ _ _ _ (_, [(2, (r26676 : Int)), (0, v26679), (0, (v26671 - 1))], [(0, 1)], _, _, _)
          refine ev_ifeq f32_26 (fun c26706 => absurd c26706 (by omega)) (fun c26706 => ?_)
          refine ev_aload_n rfl ?_
          refine g_qgetp g qr26676 (c := 2) (by decide) (by decide) ft4_2 ?_
          refine ev_iload_n rfl ?_
          refine g_qiald g qr26676 (c := 2) (by decide) (by decide) (by decide) (by omega) (by show v26679 < m26677; omega) rfl (fun v26707 ev26707 lv26707 uv26707 => ?_)
          refine ev_ifne f32_26 (fun c26708 => ?_) (fun c26708 => ?_)
          · refine ev_iconst ?_
            refine ev_goto f32_36 ?_
            refine ev_ret rfl (by decide) (by decide) ?_
            show jEv _ _ _ _ _ _ _ (_, [(2, 0), (0, a1), (0, a2), (0, v26670), (0, (v26671 - 1)), (2, (r26676 : Int))], [(0, 0)], _, _, _)
            refine ev_ifeq f230_74 (fun c26709 => ?_) (fun c26709 => absurd c26709 (by omega))
            exact ev_ret rfl (by decide) (by decide) ⟨rfl, g, k0⟩
          · refine ev_iconst ?_
            refine ev_goto f32_36 ?_
            refine ev_ret rfl (by decide) (by decide) ?_
            show jEv _ _ _ _ _ _ _ (_, [(2, 0), (0, a1), (0, a2), (0, v26670), (0, (v26671 - 1)), (2, (r26676 : Int))], [(0, 1)], _, _, _)
            refine ev_ifeq f230_74 (fun c26710 => absurd c26710 (by omega)) (fun c26710 => ?_)
            refine ev_aload rfl ?_
            refine ev_iload_n rfl ?_
            refine ev_bipush ?_
            refine g_iremP (c := 100) rfl (by decide) (by omega) (fun v26711 ev26711 lv26711 uv26711 wv26711 => ?_)
            obtain rfl : v26679 = v26711 := by omega
            refine ev_iload rfl ?_
            refine ev_iload_n rfl ?_
            refine ev_in (d := 3) (a := 0) (b := 0) (cd' := c35_0) (m := 4) (L0 := [(2, (r26676 : Int)), (0, v26679), (0, (v26671 - 1)), (0, a2)]) (jcall_v (A := [(0, a2), (0, (v26671 - 1)), (0, v26679)]) (S' := []) (r := r26676) rfl (g.qlt qr26676) (g.qtg qr26676) (Nat.le_of_ble_eq_true rfl)) (by decide) ml35 pp35 (Nat.le_of_ble_eq_true rfl) rfl (by decide) (by decide) ?_
            refine ev_iload_n rfl ?_
            refine ev_iconst ?_
            refine ev_icmpne f35_15 (fun c26712 => absurd c26712 (by omega)) (fun c26712 => ?_)
            refine ev_aload_n rfl ?_
            refine g_qgetp g qr26676 (c := 3) (by decide) (by decide) ft4_3 ?_
            refine ev_iload_n rfl ?_
            refine ev_iload_n rfl ?_
            refine g_qiast g qr26676 (c := 3) (by decide) (by decide) (by decide) (by omega) (by show v26679 < m26677; omega) rfl (by omega) (by omega) (fun h26713 e26713 g26713 => ?_)
            have k26713 := k0.wr e26713 (inW_dyn rfl (by have := qr26676.1; omega))
            refine ev_goto f35_26 ?_
            refine ev_ret rfl (by decide) (by decide) ?_
            show jEv _ _ _ _ _ _ _ (_, [(2, 0), (0, a1), (0, a2), (0, v26670), (0, (v26671 - 1)), (2, (r26676 : Int))], [], _, _, _)
            exact ev_ret rfl (by decide) (by decide) ⟨rfl, g26713, k26713⟩
    · refine ev_aconst_null ?_
      refine ev_goto f219_22 ?_
      refine ev_ret rfl (by decide) (by decide) ?_
      show jEv _ _ _ _ _ _ _ (_, [(2, 0), (0, a1), (0, a2), (0, v26670), (0, (v26671 - 1)), (9, 0)], [(2, (-1))], _, _, _)
      refine ev_astore (L' := [(2, 0), (0, a1), (0, a2), (0, v26670), (0, (v26671 - 1)), (2, (-1))]) (Nat.le_of_ble_eq_true rfl) rfl ?_
      refine ev_aload rfl ?_
      refine ev_ifnull f230_74 (fun c26714 => ?_) (fun c26714 => absurd c26714 (by decide))
      exact ev_ret rfl (by decide) (by decide) ⟨rfl, g, k0⟩
  · refine ev_aload_n rfl ?_
    refine g_getp (r := 0) (c := 1) g ad0 (by decide) (by decide) rf0_0 ft11_0 ?_
    refine ev_iload_n rfl ?_
    refine ev_iload_n rfl ?_
    refine ev_in (d := 3) (a := 0) (b := 0) (cd' := c149_0) (m := 3) (L0 := [(2, 1), (0, a1), (0, a2)]) (jcall_v (A := [(0, a2), (0, a1)]) (S' := []) (r := 1) rfl (g.lt ad1) (g.tg ad1) (Nat.le_of_ble_eq_true rfl)) (by decide) ml149 pp149 (Nat.le_of_ble_eq_true rfl) rfl (by decide) (by decide) ?_
    refine ev_iload_n rfl ?_
    refine ev_iflt f149_32 (fun c26715 => ?_) (fun c26715 => ?_)
    · refine ev_ret rfl (by decide) (by decide) ?_
      show jEv _ _ _ _ _ _ _ (_, [(2, 0), (0, a1), (0, a2), (9, 0), (9, 0), (9, 0)], [], _, _, _)
      exact ev_ret rfl (by decide) (by decide) ⟨rfl, g, k0⟩
    · refine ev_iload_n rfl ?_
      refine ev_bipush ?_
      refine ev_icmpge f149_32 (fun c26716 => absurd c26716 (by omega)) (fun c26716 => ?_)
      refine ev_aload_n rfl ?_
      refine g_getp (r := 1) (c := 4) g ad1 (by decide) (by decide) rf1_5 ft10_5 ?_
      refine ev_iload_n rfl ?_
      refine g_iald g ad4 rt4 (by omega) (by omega) (fun v26717 ev26717 lv26717 uv26717 => ?_)
      refine ev_iload_n rfl ?_
      refine ev_icmpeq f149_32 (fun c26718 => ?_) (fun c26718 => ?_)
      · refine ev_ret rfl (by decide) (by decide) ?_
        show jEv _ _ _ _ _ _ _ (_, [(2, 0), (0, a1), (0, a2), (9, 0), (9, 0), (9, 0)], [], _, _, _)
        exact ev_ret rfl (by decide) (by decide) ⟨rfl, g, k0⟩
      · refine ev_aload_n rfl ?_
        refine g_getp (r := 1) (c := 4) g ad1 (by decide) (by decide) rf1_5 ft10_5 ?_
        refine ev_iload_n rfl ?_
        refine ev_iload_n rfl ?_
        refine g_iast g ad4 rt4 (fun _ => rfl) (by omega) (by omega) (by omega) (by omega) (fun h26719 e26719 g26719 => ?_)
        have k26719 := k0.wr e26719 rfl
        refine ev_aload_n rfl ?_
        refine ev_iconst ?_
        refine g_putf (r := 1) g26719 ad1 (by decide) ft10_2 (by decide) (fun _ => by omega) rf1_2 (by decide) (by omega) (by omega) (fun h26720 e26720 g26720 => ?_)
        have k26720 := k26719.wr e26720 rfl
        refine ev_ret rfl (by decide) (by decide) ?_
        show jEv _ _ _ _ _ _ _ (_, [(2, 0), (0, a1), (0, a2), (9, 0), (9, 0), (9, 0)], [], _, _, _)
        exact ev_ret rfl (by decide) (by decide) ⟨rfl, g26720, k26720⟩
/-! 166 thing -/
set_option maxHeartbeats 4000000 in
theorem s166 {G : GH} {h : JH} (g : Gd G h) {a1 : Int} (la1 : (-2147483648) ≤ a1) (ua1 : a1 ≤ 2147483647) : jOk 4 0 0 166 [(2, 0), (0, a1)] h (PI G [(1, 1), (1, 3), (2, 0), (3, 0), (4, 0)] h 0 (-5) 3) := by
  refine ⟨by decide, by rw [ml166]; exact Nat.le_of_ble_eq_true rfl, ?_⟩
  rw [ml166, pp166]
  show jEv _ none _ c166_0 0 0 _ (c166_0, [(2, 0), (0, a1)], [], h, 0, 0)
  have k0 := Kp.rf [(1, 1), (1, 3), (2, 0), (3, 0), (4, 0)] h
  refine ev_iload_n rfl ?_
  refine ev_iconst ?_
  refine ev_icmplt f166_10 (fun c26737 => ?_) (fun c26737 => ?_)
  · refine ev_iconst ?_
    exact ev_ret rfl (by decide) (by decide) ⟨_, rfl, by omega, by omega, g, k0⟩
  · refine ev_iload_n rfl ?_
    refine ev_iconst ?_
    refine ev_icmple f166_12 (fun c26738 => ?_) (fun c26738 => ?_)
    · refine ev_aload_n rfl ?_
      obtain ⟨v26739, ev26739, lv26739, uv26739⟩ := g.rd ad0 (show 3 < 17 by decide) rf0_3
      refine g_getv (r := 0) (v := v26739) g ad0 (by decide) ft11_3 ev26739 ?_
      refine ev_ifle f166_22 (fun c26740 => ?_) (fun c26740 => ?_)
      · refine ev_aload_n rfl ?_
        refine g_getp (r := 0) (c := 1) g ad0 (by decide) (by decide) rf0_0 ft11_0 ?_
        obtain ⟨v26741, ev26741, lv26741, uv26741⟩ := g.rd ad1 (show 0 < 8 by decide) rf1_0
        refine g_getv (r := 1) (v := v26741) g ad1 (by decide) ft10_0 ev26741 ?_
        refine ev_iconst ?_
        refine ev_icmplt f166_38 (fun c26742 => ?_) (fun c26742 => ?_)
        · refine ev_aload_n rfl ?_
          refine g_getp (r := 0) (c := 1) g ad0 (by decide) (by decide) rf0_0 ft11_0 ?_
          refine ev_iload_n rfl ?_
          refine ev_call (jcall_v (A := [(0, a1)]) (S' := []) (r := 1) rfl (g.lt ad1) (g.tg ad1) (Nat.le_of_ble_eq_true rfl)) (jOk_le (by decide) (s139 g (by omega) (by omega))) (by decide) (by decide) (fun w26743 h26743 q26743 => ?_)
          obtain ⟨v26744, rfl, lv26744, uv26744, g26743, kk26743⟩ := q26743
          have k26743 := k0.tr kk26743 (by decide)
          show jEv _ _ _ _ _ _ _ (_, [(2, 0), (0, a1)], [(0, v26744)], _, _, _)
          exact ev_ret rfl (by decide) (by decide) ⟨_, rfl, by omega, by omega, g26743, k26743⟩
        · refine ev_bipush ?_
          refine ev_goto f166_46 ?_
          exact ev_ret rfl (by decide) (by decide) ⟨_, rfl, by omega, by omega, g, k0⟩
      · refine ev_bipush ?_
        exact ev_ret rfl (by decide) (by decide) ⟨_, rfl, by omega, by omega, g, k0⟩
    · refine ev_iconst ?_
      exact ev_ret rfl (by decide) (by decide) ⟨_, rfl, by omega, by omega, g, k0⟩
/-! 167 hang -/
set_option maxHeartbeats 4000000 in
theorem s167 {G : GH} {h : JH} (g : Gd G h) {a1 : Int} (la1 : (-2147483648) ≤ a1) (ua1 : a1 ≤ 2147483647) {a2 : Int} (la2 : (-2147483648) ≤ a2) (ua2 : a2 ≤ 2147483647) : jOk 4 0 0 167 [(2, 0), (0, a1), (0, a2)] h (PI G [(1, 3), (3, 0), (4, 0), (0, 10), (0, 11)] h 0 (-5) 1) := by
  refine ⟨by decide, by rw [ml167]; exact Nat.le_of_ble_eq_true rfl, ?_⟩
  rw [ml167, pp167]
  show jEv _ none _ c167_0 0 0 _ (c167_0, [(2, 0), (0, a1), (0, a2)], [], h, 0, 0)
  have k0 := Kp.rf [(1, 3), (3, 0), (4, 0), (0, 10), (0, 11)] h
  refine ev_aload_n rfl ?_
  refine g_getp (r := 0) (c := 1) g ad0 (by decide) (by decide) rf0_0 ft11_0 ?_
  refine ev_iload_n rfl ?_
  refine ev_in (d := 2) (a := 0) (b := 0) (cd' := c140_0) (m := 2) (L0 := [(2, 1), (0, a1)]) (jcall_v (A := [(0, a1)]) (S' := []) (r := 1) rfl (g.lt ad1) (g.tg ad1) (Nat.le_of_ble_eq_true rfl)) (by decide) ml140 pp140 (Nat.le_of_ble_eq_true rfl) rfl (by decide) (by decide) ?_
  refine ev_iload_n rfl ?_
  refine ev_iflt f140_16 (fun c26785 => ?_) (fun c26785 => ?_)
  · refine ev_iconst ?_
    refine ev_ret rfl (by decide) (by decide) ?_
    show jEv _ _ _ _ _ _ _ (_, [(2, 0), (0, a1), (0, a2)], [(0, 0)], _, _, _)
    refine ev_ifeq f167_20 (fun c26786 => ?_) (fun c26786 => absurd c26786 (by omega))
    refine ev_iconst ?_
    exact ev_ret rfl (by decide) (by decide) ⟨_, rfl, by omega, by omega, g, k0⟩
  · refine ev_iload_n rfl ?_
    refine ev_aload_n rfl ?_
    obtain ⟨v26787, ev26787, lv26787, uv26787⟩ := g.rd ad1 (show 0 < 8 by decide) rf1_0
    refine g_getv (r := 1) (v := v26787) g ad1 (by decide) ft10_0 ev26787 ?_
    refine ev_icmpge f140_16 (fun c26788 => ?_) (fun c26788 => ?_)
    · refine ev_iconst ?_
      refine ev_ret rfl (by decide) (by decide) ?_
      show jEv _ _ _ _ _ _ _ (_, [(2, 0), (0, a1), (0, a2)], [(0, 0)], _, _, _)
      refine ev_ifeq f167_20 (fun c26789 => ?_) (fun c26789 => absurd c26789 (by omega))
      refine ev_iconst ?_
      exact ev_ret rfl (by decide) (by decide) ⟨_, rfl, by omega, by omega, g, k0⟩
    · refine ev_iconst ?_
      refine ev_goto f140_17 ?_
      refine ev_ret rfl (by decide) (by decide) ?_
      show jEv _ _ _ _ _ _ _ (_, [(2, 0), (0, a1), (0, a2)], [(0, 1)], _, _, _)
      refine ev_ifeq f167_20 (fun c26790 => absurd c26790 (by omega)) (fun c26790 => ?_)
      refine ev_iload_n rfl ?_
      refine ev_iflt f167_20 (fun c26791 => ?_) (fun c26791 => ?_)
      · refine ev_iconst ?_
        exact ev_ret rfl (by decide) (by decide) ⟨_, rfl, by omega, by omega, g, k0⟩
      · refine ev_iload_n rfl ?_
        refine ev_iload_n rfl ?_
        refine ev_icmplt f167_22 (fun c26792 => ?_) (fun c26792 => ?_)
        · refine ev_aload_n rfl ?_
          refine g_getp (r := 0) (c := 1) g ad0 (by decide) (by decide) rf0_0 ft11_0 ?_
          refine ev_iload_n rfl ?_
          refine ev_in (d := 2) (a := 0) (b := 0) (cd' := c142_0) (m := 2) (L0 := [(2, 1), (0, a1)]) (jcall_v (A := [(0, a1)]) (S' := []) (r := 1) rfl (g.lt ad1) (g.tg ad1) (Nat.le_of_ble_eq_true rfl)) (by decide) ml142 pp142 (Nat.le_of_ble_eq_true rfl) rfl (by decide) (by decide) ?_
          refine ev_aload_n rfl ?_
          refine ev_iload_n rfl ?_
          refine ev_in (d := 1) (a := 0) (b := 0) (cd' := c140_0) (m := 2) (L0 := [(2, 1), (0, a1)]) (jcall_v (A := [(0, a1)]) (S' := []) (r := 1) rfl (g.lt ad1) (g.tg ad1) (Nat.le_of_ble_eq_true rfl)) (by decide) ml140 pp140 (Nat.le_of_ble_eq_true rfl) rfl (by decide) (by decide) ?_
          refine ev_iload_n rfl ?_
          refine ev_iflt f140_16 (fun c26793 => absurd c26793 (by omega)) (fun c26793 => ?_)
          refine ev_iload_n rfl ?_
          refine ev_aload_n rfl ?_
          refine g_getv (r := 1) (v := v26787) g ad1 (by decide) ft10_0 (ev26787) ?_
          refine ev_icmpge f140_16 (fun c26794 => absurd c26794 (by omega)) (fun c26794 => ?_)
          refine ev_iconst ?_
          refine ev_goto f140_17 ?_
          refine ev_ret rfl (by decide) (by decide) ?_
          show jEv _ _ _ _ _ _ _ (_, [(2, 1), (0, a1)], [(0, 1)], _, _, _)
          refine ev_ifeq f142_21 (fun c26795 => absurd c26795 (by omega)) (fun c26795 => ?_)
          refine ev_aload_n rfl ?_
          refine g_getp (r := 1) (c := 3) g ad1 (by decide) (by decide) rf1_4 ft10_4 ?_
          refine ev_iload_n rfl ?_
          refine g_iald g ad3 rt3 (by omega) (by omega) (fun v26796 ev26796 lv26796 uv26796 => ?_)
          refine ev_iflt f142_21 (fun c26797 => ?_) (fun c26797 => ?_)
          · refine ev_iconst ?_
            refine ev_ret rfl (by decide) (by decide) ?_
            show jEv _ _ _ _ _ _ _ (_, [(2, 0), (0, a1), (0, a2)], [(0, 0)], _, _, _)
            refine ev_ifne f167_40 (fun c26798 => absurd c26798 (by omega)) (fun c26798 => ?_)
            refine ev_aload_n rfl ?_
            obtain ⟨v26799, ev26799, lv26799, uv26799⟩ := g.rd ad0 (show 3 < 17 by decide) rf0_3
            refine g_getv (r := 0) (v := v26799) g ad0 (by decide) ft11_3 ev26799 ?_
            refine ev_ifle f167_43 (fun c26800 => ?_) (fun c26800 => ?_)
            · refine ev_aload_n rfl ?_
              refine g_getp (r := 0) (c := 1) g ad0 (by decide) (by decide) rf0_0 ft11_0 ?_
              refine ev_iload_n rfl ?_
              refine ev_iload_n rfl ?_
              refine ev_call (jcall_v (A := [(0, a2), (0, a1)]) (S' := []) (r := 1) rfl (g.lt ad1) (g.tg ad1) (Nat.le_of_ble_eq_true rfl)) (jOk_le (by decide) (s143 g (by omega) (by omega) (by omega) (by omega))) (by decide) (by decide) (fun w26801 h26801 q26801 => ?_)
              obtain ⟨rfl, g26801, kk26801⟩ := q26801
              have k26801 := k0.tr kk26801 (by decide)
              show jEv _ _ _ _ _ _ _ (_, [(2, 0), (0, a1), (0, a2)], [], _, _, _)
              refine ev_aload_n rfl ?_
              refine ev_iconst ?_
              refine g_putf (r := 0) g26801 ad0 (by decide) ft11_9 (by decide) (fun e => absurd e nz11_9) rf0_9 (by decide) (by omega) (by omega) (fun h26802 e26802 g26802 => ?_)
              have k26802 := k26801.wr e26802 rfl
              refine ev_aload_n rfl ?_
              refine ev_iconst ?_
              refine g_putf (r := 0) g26802 ad0 (by decide) ft11_10 (by decide) (fun e => absurd e nz11_10) rf0_10 (by decide) (by omega) (by omega) (fun h26803 e26803 g26803 => ?_)
              have k26803 := k26802.wr e26803 rfl
              refine ev_iconst ?_
              exact ev_ret rfl (by decide) (by decide) ⟨_, rfl, by omega, by omega, g26803, k26803⟩
            · refine ev_bipush ?_
              exact ev_ret rfl (by decide) (by decide) ⟨_, rfl, by omega, by omega, g, k0⟩
          · refine ev_iconst ?_
            refine ev_goto f142_22 ?_
            refine ev_ret rfl (by decide) (by decide) ?_
            show jEv _ _ _ _ _ _ _ (_, [(2, 0), (0, a1), (0, a2)], [(0, 1)], _, _, _)
            refine ev_ifne f167_40 (fun c26804 => ?_) (fun c26804 => absurd c26804 (by omega))
            refine ev_bipush ?_
            exact ev_ret rfl (by decide) (by decide) ⟨_, rfl, by omega, by omega, g, k0⟩
        · refine ev_iconst ?_
          exact ev_ret rfl (by decide) (by decide) ⟨_, rfl, by omega, by omega, g, k0⟩
/-! 168 weight -/
set_option maxHeartbeats 4000000 in
theorem s168 {G : GH} {h : JH} (g : Gd G h) {a1 : Int} (la1 : (-2147483648) ≤ a1) (ua1 : a1 ≤ 2147483647) {a2 : Int} (la2 : (-2147483648) ≤ a2) (ua2 : a2 ≤ 2147483647) {a3 : Int} (la3 : (-2147483648) ≤ a3) (ua3 : a3 ≤ 2147483647) {a4 : Int} (la4 : (-2147483648) ≤ a4) (ua4 : a4 ≤ 2147483647) : jOk 3 0 0 168 [(2, 0), (0, a1), (0, a2), (0, a3), (0, a4)] h (PI G [(4, 0), (1, 3), (25, 0), (0, 10), (0, 11)] h 0 (-2147483648) 2147483647) := by
  refine ⟨by decide, by rw [ml168]; exact Nat.le_of_ble_eq_true rfl, ?_⟩
  rw [ml168, pp168]
  show jEv _ none _ c168_0 0 0 _ (c168_0, [(2, 0), (0, a1), (0, a2), (0, a3), (0, a4), (9, 0), (9, 0)], [], h, 0, 0)
  have k0 := Kp.rf [(4, 0), (1, 3), (25, 0), (0, 10), (0, 11)] h
  refine ev_aload_n rfl ?_
  refine g_getp (r := 0) (c := 1) g ad0 (by decide) (by decide) rf0_0 ft11_0 ?_
  refine ev_iload_n rfl ?_
  refine ev_iload_n rfl ?_
  refine ev_iload_n rfl ?_
  refine ev_in (d := 1) (a := 0) (b := 0) (cd' := c146_0) (m := 4) (L0 := [(2, 1), (0, a1), (0, a2), (0, a3)]) (jcall_v (A := [(0, a3), (0, a2), (0, a1)]) (S' := []) (r := 1) rfl (g.lt ad1) (g.tg ad1) (Nat.le_of_ble_eq_true rfl)) (by decide) ml146 pp146 (Nat.le_of_ble_eq_true rfl) rfl (by decide) (by decide) ?_
  refine ev_aload_n rfl ?_
  refine ev_iload_n rfl ?_
  refine ev_in (d := 0) (a := 0) (b := 0) (cd' := c140_0) (m := 2) (L0 := [(2, 1), (0, a1)]) (jcall_v (A := [(0, a1)]) (S' := []) (r := 1) rfl (g.lt ad1) (g.tg ad1) (Nat.le_of_ble_eq_true rfl)) (by decide) ml140 pp140 (Nat.le_of_ble_eq_true rfl) rfl (by decide) (by decide) ?_
  refine ev_iload_n rfl ?_
  refine ev_iflt f140_16 (fun c26911 => ?_) (fun c26911 => ?_)
  · refine ev_iconst ?_
    refine ev_ret rfl (by decide) (by decide) ?_
    show jEv _ _ _ _ _ _ _ (_, [(2, 1), (0, a1), (0, a2), (0, a3)], [(0, 0)], _, _, _)
    refine ev_ifeq f146_39 (fun c26912 => ?_) (fun c26912 => absurd c26912 (by omega))
    refine ev_iconst ?_
    refine ev_ret rfl (by decide) (by decide) ?_
    show jEv _ _ _ _ _ _ _ (_, [(2, 0), (0, a1), (0, a2), (0, a3), (0, a4), (9, 0), (9, 0)], [(0, 0)], _, _, _)
    refine ev_ifeq f168_26 (fun c26913 => ?_) (fun c26913 => absurd c26913 (by omega))
    refine ev_iconst ?_
    exact ev_ret rfl (by decide) (by decide) ⟨_, rfl, by omega, by omega, g, k0⟩
  · refine ev_iload_n rfl ?_
    refine ev_aload_n rfl ?_
    obtain ⟨v26914, ev26914, lv26914, uv26914⟩ := g.rd ad1 (show 0 < 8 by decide) rf1_0
    refine g_getv (r := 1) (v := v26914) g ad1 (by decide) ft10_0 ev26914 ?_
    refine ev_icmpge f140_16 (fun c26915 => ?_) (fun c26915 => ?_)
    · refine ev_iconst ?_
      refine ev_ret rfl (by decide) (by decide) ?_
      show jEv _ _ _ _ _ _ _ (_, [(2, 1), (0, a1), (0, a2), (0, a3)], [(0, 0)], _, _, _)
      refine ev_ifeq f146_39 (fun c26916 => ?_) (fun c26916 => absurd c26916 (by omega))
      refine ev_iconst ?_
      refine ev_ret rfl (by decide) (by decide) ?_
      show jEv _ _ _ _ _ _ _ (_, [(2, 0), (0, a1), (0, a2), (0, a3), (0, a4), (9, 0), (9, 0)], [(0, 0)], _, _, _)
      refine ev_ifeq f168_26 (fun c26917 => ?_) (fun c26917 => absurd c26917 (by omega))
      refine ev_iconst ?_
      exact ev_ret rfl (by decide) (by decide) ⟨_, rfl, by omega, by omega, g, k0⟩
    · refine ev_iconst ?_
      refine ev_goto f140_17 ?_
      refine ev_ret rfl (by decide) (by decide) ?_
      show jEv _ _ _ _ _ _ _ (_, [(2, 1), (0, a1), (0, a2), (0, a3)], [(0, 1)], _, _, _)
      refine ev_ifeq f146_39 (fun c26918 => absurd c26918 (by omega)) (fun c26918 => ?_)
      refine ev_iload_n rfl ?_
      refine ev_iflt f146_39 (fun c26919 => ?_) (fun c26919 => ?_)
      · refine ev_iconst ?_
        refine ev_ret rfl (by decide) (by decide) ?_
        show jEv _ _ _ _ _ _ _ (_, [(2, 0), (0, a1), (0, a2), (0, a3), (0, a4), (9, 0), (9, 0)], [(0, 0)], _, _, _)
        refine ev_ifeq f168_26 (fun c26920 => ?_) (fun c26920 => absurd c26920 (by omega))
        refine ev_iconst ?_
        exact ev_ret rfl (by decide) (by decide) ⟨_, rfl, by omega, by omega, g, k0⟩
      · refine ev_iload_n rfl ?_
        refine ev_aload_n rfl ?_
        refine ev_iload_n rfl ?_
        refine ev_in (d := 0) (a := 0) (b := 0) (cd' := c145_0) (m := 2) (L0 := [(2, 1), (0, a1)]) (jcall_v (A := [(0, a1)]) (S' := [(0, a2)]) (r := 1) rfl (g.lt ad1) (g.tg ad1) (Nat.le_of_ble_eq_true rfl)) (by decide) ml145 pp145 (Nat.le_of_ble_eq_true rfl) rfl (by decide) (by decide) ?_
        refine ev_aload_n rfl ?_
        refine g_getp (r := 1) (c := 3) g ad1 (by decide) (by decide) rf1_4 ft10_4 ?_
        refine ev_iload_n rfl ?_
        refine g_iald g ad3 rt3 (by omega) (by omega) (fun v26921 ev26921 lv26921 uv26921 => ?_)
        refine ev_ifge f145_13 (fun c26922 => ?_) (fun c26922 => ?_)
        · refine ev_aload_n rfl ?_
          refine g_getp (r := 1) (c := 2) g ad1 (by decide) (by decide) rf1_3 ft10_3 ?_
          refine ev_aload_n rfl ?_
          refine g_getp (r := 1) (c := 3) g ad1 (by decide) (by decide) rf1_4 ft10_4 ?_
          refine ev_iload_n rfl ?_
          refine g_ialdv (v := v26921) g ad3 (by omega) (by omega) (ev26921) ?_
          refine g_iald g ad2 rt2 (by omega) (by omega) (fun v26923 ev26923 lv26923 uv26923 => ?_)
          refine ev_ret rfl (by decide) (by decide) ?_
          show jEv _ _ _ _ _ _ _ (_, [(2, 1), (0, a1), (0, a2), (0, a3)], [(0, v26923), (0, a2)], _, _, _)
          refine ev_icmpge f146_39 (fun c26924 => ?_) (fun c26924 => ?_)
          · refine ev_iconst ?_
            refine ev_ret rfl (by decide) (by decide) ?_
            show jEv _ _ _ _ _ _ _ (_, [(2, 0), (0, a1), (0, a2), (0, a3), (0, a4), (9, 0), (9, 0)], [(0, 0)], _, _, _)
            refine ev_ifeq f168_26 (fun c26925 => ?_) (fun c26925 => absurd c26925 (by omega))
            refine ev_iconst ?_
            exact ev_ret rfl (by decide) (by decide) ⟨_, rfl, by omega, by omega, g, k0⟩
          · refine ev_iload_n rfl ?_
            refine ev_iflt f146_39 (fun c26926 => ?_) (fun c26926 => ?_)
            · refine ev_iconst ?_
              refine ev_ret rfl (by decide) (by decide) ?_
              show jEv _ _ _ _ _ _ _ (_, [(2, 0), (0, a1), (0, a2), (0, a3), (0, a4), (9, 0), (9, 0)], [(0, 0)], _, _, _)
              refine ev_ifeq f168_26 (fun c26927 => ?_) (fun c26927 => absurd c26927 (by omega))
              refine ev_iconst ?_
              exact ev_ret rfl (by decide) (by decide) ⟨_, rfl, by omega, by omega, g, k0⟩
            · refine ev_iload_n rfl ?_
              refine ev_aload_n rfl ?_
              refine g_getp (r := 1) (c := 2) g ad1 (by decide) (by decide) rf1_3 ft10_3 ?_
              refine ev_iload_n rfl ?_
              refine g_iald g ad2 rt2 (by omega) (by omega) (fun v26928 ev26928 lv26928 uv26928 => ?_)
              refine ev_icmpge f146_39 (fun c26929 => ?_) (fun c26929 => ?_)
              · refine ev_iconst ?_
                refine ev_ret rfl (by decide) (by decide) ?_
                show jEv _ _ _ _ _ _ _ (_, [(2, 0), (0, a1), (0, a2), (0, a3), (0, a4), (9, 0), (9, 0)], [(0, 0)], _, _, _)
                refine ev_ifeq f168_26 (fun c26930 => ?_) (fun c26930 => absurd c26930 (by omega))
                refine ev_iconst ?_
                exact ev_ret rfl (by decide) (by decide) ⟨_, rfl, by omega, by omega, g, k0⟩
              · refine ev_iconst ?_
                refine ev_goto f146_40 ?_
                refine ev_ret rfl (by decide) (by decide) ?_
                show jEv _ _ _ _ _ _ _ (_, [(2, 0), (0, a1), (0, a2), (0, a3), (0, a4), (9, 0), (9, 0)], [(0, 1)], _, _, _)
                refine ev_ifeq f168_26 (fun c26931 => absurd c26931 (by omega)) (fun c26931 => ?_)
                refine ev_iload rfl ?_
                refine ev_iconst ?_
                refine ev_icmplt f168_26 (fun c26932 => ?_) (fun c26932 => ?_)
                · refine ev_iconst ?_
                  exact ev_ret rfl (by decide) (by decide) ⟨_, rfl, by omega, by omega, g, k0⟩
                · refine ev_iload rfl ?_
                  refine ev_bipush ?_
                  refine ev_icmple f168_28 (fun c26933 => ?_) (fun c26933 => ?_)
                  · refine ev_iload_n rfl ?_
                    refine ev_iload_n rfl ?_
                    refine ev_iload_n rfl ?_
                    refine ev_in (d := 1) (a := 0) (b := 0) (cd' := c147_0) (m := 3) (L0 := [(0, a1), (0, a2), (0, a3)]) (jcall_s (A := [(0, a3), (0, a2), (0, a1)]) (S' := []) (by decide) rfl (Nat.le_of_ble_eq_true rfl)) (by decide) ml147 pp147 (Nat.le_of_ble_eq_true rfl) rfl (by decide) (by decide) ?_
                    refine ev_bipush ?_
                    refine ev_iload_n rfl ?_
                    refine ev_imul (r := (9 * a1)) (by unfold w32; omega) ?_
                    refine ev_iconst ?_
                    refine ev_iload_n rfl ?_
                    refine ev_imul (r := (3 * a2)) (by unfold w32; omega) ?_
                    refine ev_iadd (r := (9 * a1 + 3 * a2)) (by unfold w32; omega) ?_
                    refine ev_iload_n rfl ?_
                    refine ev_iadd (r := (9 * a1 + 3 * a2 + a3)) (by unfold w32; omega) ?_
                    refine ev_ret rfl (by decide) (by decide) ?_
                    show jEv _ _ _ _ _ _ _ (_, [(2, 0), (0, a1), (0, a2), (0, a3), (0, a4), (9, 0), (9, 0)], [(0, (9 * a1 + 3 * a2 + a3))], _, _, _)
                    refine ev_istore (L' := [(2, 0), (0, a1), (0, a2), (0, a3), (0, a4), (0, (9 * a1 + 3 * a2 + a3)), (9, 0)]) (Nat.le_of_ble_eq_true rfl) rfl ?_
                    refine ev_aload_n rfl ?_
                    refine g_getp (r := 0) (c := 1) g ad0 (by decide) (by decide) rf0_0 ft11_0 ?_
                    refine ev_iload rfl ?_
                    refine ev_in (d := 1) (a := 0) (b := 0) (cd' := c148_0) (m := 2) (L0 := [(2, 1), (0, (9 * a1 + 3 * a2 + a3))]) (jcall_v (A := [(0, (9 * a1 + 3 * a2 + a3))]) (S' := []) (r := 1) rfl (g.lt ad1) (g.tg ad1) (Nat.le_of_ble_eq_true rfl)) (by decide) ml148 pp148 (Nat.le_of_ble_eq_true rfl) rfl (by decide) (by decide) ?_
                    refine ev_iload_n rfl ?_
                    refine ev_iflt f148_10 (fun c26934 => absurd c26934 (by omega)) (fun c26934 => ?_)
                    refine ev_iload_n rfl ?_
                    refine ev_bipush ?_
                    refine ev_icmplt f148_14 (fun c26935 => ?_) (fun c26935 => absurd c26935 (by omega))
                    refine ev_aload_n rfl ?_
                    refine g_getp (r := 1) (c := 4) g ad1 (by decide) (by decide) rf1_5 ft10_5 ?_
                    refine ev_iload_n rfl ?_
                    refine g_iald g ad4 rt4 (by omega) (by omega) (fun v26936 ev26936 lv26936 uv26936 => ?_)
                    refine ev_ret rfl (by decide) (by decide) ?_
                    show jEv _ _ _ _ _ _ _ (_, [(2, 0), (0, a1), (0, a2), (0, a3), (0, a4), (0, (9 * a1 + 3 * a2 + a3)), (9, 0)], [(0, v26936)], _, _, _)
                    refine ev_istore (L' := [(2, 0), (0, a1), (0, a2), (0, a3), (0, a4), (0, (9 * a1 + 3 * a2 + a3)), (0, v26936)]) (Nat.le_of_ble_eq_true rfl) rfl ?_
                    refine ev_aload_n rfl ?_
                    refine g_getp (r := 0) (c := 1) g ad0 (by decide) (by decide) rf0_0 ft11_0 ?_
                    refine ev_iload rfl ?_
                    refine ev_iload rfl ?_
                    refine ev_in (d := 1) (a := 0) (b := 0) (cd' := c149_0) (m := 3) (L0 := [(2, 1), (0, (9 * a1 + 3 * a2 + a3)), (0, a4)]) (jcall_v (A := [(0, a4), (0, (9 * a1 + 3 * a2 + a3))]) (S' := []) (r := 1) rfl (g.lt ad1) (g.tg ad1) (Nat.le_of_ble_eq_true rfl)) (by decide) ml149 pp149 (Nat.le_of_ble_eq_true rfl) rfl (by decide) (by decide) ?_
                    refine ev_iload_n rfl ?_
                    refine ev_iflt f149_32 (fun c26937 => absurd c26937 (by omega)) (fun c26937 => ?_)
                    refine ev_iload_n rfl ?_
                    refine ev_bipush ?_
                    refine ev_icmpge f149_32 (fun c26938 => absurd c26938 (by omega)) (fun c26938 => ?_)
                    refine ev_aload_n rfl ?_
                    refine g_getp (r := 1) (c := 4) g ad1 (by decide) (by decide) rf1_5 ft10_5 ?_
                    refine ev_iload_n rfl ?_
                    refine g_ialdv (v := v26936) g ad4 (by omega) (by omega) (ev26936) ?_
                    refine ev_iload_n rfl ?_
                    refine ev_icmpeq f149_32 (fun c26939 => ?_) (fun c26939 => ?_)
                    · refine ev_ret rfl (by decide) (by decide) ?_
                      show jEv _ _ _ _ _ _ _ (_, [(2, 0), (0, a1), (0, a2), (0, a3), (0, a4), (0, (9 * a1 + 3 * a2 + a3)), (0, v26936)], [], _, _, _)
                      refine ev_aload_n rfl ?_
                      refine ev_iload rfl ?_
                      refine ev_iload rfl ?_
                      refine ev_iload rfl ?_
                      refine ev_call (jcall_v (A := [(0, a4), (0, v26936), (0, (9 * a1 + 3 * a2 + a3))]) (S' := []) (r := 0) rfl (g.lt ad0) (g.tg ad0) (Nat.le_of_ble_eq_true rfl)) (jOk_le (by decide) (s229 g (by omega) (by omega) (by omega) (by omega) (by omega) (by omega))) (by decide) (by decide) (fun w26940 h26940 q26940 => ?_)
                      obtain ⟨rfl, g26940, kk26940⟩ := q26940
                      have k26940 := k0.tr kk26940 (by decide)
                      show jEv _ _ _ _ _ _ _ (_, [(2, 0), (0, a1), (0, a2), (0, a3), (0, a4), (0, (9 * a1 + 3 * a2 + a3)), (0, v26936)], [], _, _, _)
                      refine ev_iload rfl ?_
                      exact ev_ret rfl (by decide) (by decide) ⟨_, rfl, by omega, by omega, g26940, k26940⟩
                    · refine ev_aload_n rfl ?_
                      refine g_getp (r := 1) (c := 4) g ad1 (by decide) (by decide) rf1_5 ft10_5 ?_
                      refine ev_iload_n rfl ?_
                      refine ev_iload_n rfl ?_
                      refine g_iast g ad4 rt4 (fun _ => rfl) (by omega) (by omega) (by omega) (by omega) (fun h26941 e26941 g26941 => ?_)
                      have k26941 := k0.wr e26941 rfl
                      refine ev_aload_n rfl ?_
                      refine ev_iconst ?_
                      refine g_putf (r := 1) g26941 ad1 (by decide) ft10_2 (by decide) (fun _ => by omega) rf1_2 (by decide) (by omega) (by omega) (fun h26942 e26942 g26942 => ?_)
                      have k26942 := k26941.wr e26942 rfl
                      refine ev_ret rfl (by decide) (by decide) ?_
                      show jEv _ _ _ _ _ _ _ (_, [(2, 0), (0, a1), (0, a2), (0, a3), (0, a4), (0, (9 * a1 + 3 * a2 + a3)), (0, v26936)], [], _, _, _)
                      refine ev_aload_n rfl ?_
                      refine ev_iload rfl ?_
                      refine ev_iload rfl ?_
                      refine ev_iload rfl ?_
                      refine ev_call (jcall_v (A := [(0, a4), (0, v26936), (0, (9 * a1 + 3 * a2 + a3))]) (S' := []) (r := 0) rfl (g26942.lt ad0) (g26942.tg ad0) (Nat.le_of_ble_eq_true rfl)) (jOk_le (by decide) (s229 g26942 (by omega) (by omega) (by omega) (by omega) (by omega) (by omega))) (by decide) (by decide) (fun w26943 h26943 q26943 => ?_)
                      obtain ⟨rfl, g26943, kk26943⟩ := q26943
                      have k26943 := k26942.tr kk26943 (by decide)
                      show jEv _ _ _ _ _ _ _ (_, [(2, 0), (0, a1), (0, a2), (0, a3), (0, a4), (0, (9 * a1 + 3 * a2 + a3)), (0, v26936)], [], _, _, _)
                      refine ev_iload rfl ?_
                      exact ev_ret rfl (by decide) (by decide) ⟨_, rfl, by omega, by omega, g26943, k26943⟩
                  · refine ev_iconst ?_
                    exact ev_ret rfl (by decide) (by decide) ⟨_, rfl, by omega, by omega, g, k0⟩
        · refine ev_iconst ?_
          refine ev_goto f145_24 ?_
          refine ev_ret rfl (by decide) (by decide) ?_
          show jEv _ _ _ _ _ _ _ (_, [(2, 1), (0, a1), (0, a2), (0, a3)], [(0, 1), (0, a2)], _, _, _)
          refine ev_icmpge f146_39 (fun c26944 => ?_) (fun c26944 => ?_)
          · refine ev_iconst ?_
            refine ev_ret rfl (by decide) (by decide) ?_
            show jEv _ _ _ _ _ _ _ (_, [(2, 0), (0, a1), (0, a2), (0, a3), (0, a4), (9, 0), (9, 0)], [(0, 0)], _, _, _)
            refine ev_ifeq f168_26 (fun c26945 => ?_) (fun c26945 => absurd c26945 (by omega))
            refine ev_iconst ?_
            exact ev_ret rfl (by decide) (by decide) ⟨_, rfl, by omega, by omega, g, k0⟩
          · refine ev_iload_n rfl ?_
            refine ev_iflt f146_39 (fun c26946 => ?_) (fun c26946 => ?_)
            · refine ev_iconst ?_
              refine ev_ret rfl (by decide) (by decide) ?_
              show jEv _ _ _ _ _ _ _ (_, [(2, 0), (0, a1), (0, a2), (0, a3), (0, a4), (9, 0), (9, 0)], [(0, 0)], _, _, _)
              refine ev_ifeq f168_26 (fun c26947 => ?_) (fun c26947 => absurd c26947 (by omega))
              refine ev_iconst ?_
              exact ev_ret rfl (by decide) (by decide) ⟨_, rfl, by omega, by omega, g, k0⟩
            · refine ev_iload_n rfl ?_
              refine ev_aload_n rfl ?_
              refine g_getp (r := 1) (c := 2) g ad1 (by decide) (by decide) rf1_3 ft10_3 ?_
              refine ev_iload_n rfl ?_
              refine g_iald g ad2 rt2 (by omega) (by omega) (fun v26948 ev26948 lv26948 uv26948 => ?_)
              refine ev_icmpge f146_39 (fun c26949 => ?_) (fun c26949 => ?_)
              · refine ev_iconst ?_
                refine ev_ret rfl (by decide) (by decide) ?_
                show jEv _ _ _ _ _ _ _ (_, [(2, 0), (0, a1), (0, a2), (0, a3), (0, a4), (9, 0), (9, 0)], [(0, 0)], _, _, _)
                refine ev_ifeq f168_26 (fun c26950 => ?_) (fun c26950 => absurd c26950 (by omega))
                refine ev_iconst ?_
                exact ev_ret rfl (by decide) (by decide) ⟨_, rfl, by omega, by omega, g, k0⟩
              · refine ev_iconst ?_
                refine ev_goto f146_40 ?_
                refine ev_ret rfl (by decide) (by decide) ?_
                show jEv _ _ _ _ _ _ _ (_, [(2, 0), (0, a1), (0, a2), (0, a3), (0, a4), (9, 0), (9, 0)], [(0, 1)], _, _, _)
                refine ev_ifeq f168_26 (fun c26951 => absurd c26951 (by omega)) (fun c26951 => ?_)
                refine ev_iload rfl ?_
                refine ev_iconst ?_
                refine ev_icmplt f168_26 (fun c26952 => ?_) (fun c26952 => ?_)
                · refine ev_iconst ?_
                  exact ev_ret rfl (by decide) (by decide) ⟨_, rfl, by omega, by omega, g, k0⟩
                · refine ev_iload rfl ?_
                  refine ev_bipush ?_
                  refine ev_icmple f168_28 (fun c26953 => ?_) (fun c26953 => ?_)
                  · refine ev_iload_n rfl ?_
                    refine ev_iload_n rfl ?_
                    refine ev_iload_n rfl ?_
                    refine ev_in (d := 1) (a := 0) (b := 0) (cd' := c147_0) (m := 3) (L0 := [(0, a1), (0, a2), (0, a3)]) (jcall_s (A := [(0, a3), (0, a2), (0, a1)]) (S' := []) (by decide) rfl (Nat.le_of_ble_eq_true rfl)) (by decide) ml147 pp147 (Nat.le_of_ble_eq_true rfl) rfl (by decide) (by decide) ?_
                    refine ev_bipush ?_
                    refine ev_iload_n rfl ?_
                    refine ev_imul (r := (9 * a1)) (by unfold w32; omega) ?_
                    refine ev_iconst ?_
                    refine ev_iload_n rfl ?_
                    refine ev_imul (r := (3 * a2)) (by unfold w32; omega) ?_
                    refine ev_iadd (r := (9 * a1 + 3 * a2)) (by unfold w32; omega) ?_
                    refine ev_iload_n rfl ?_
                    refine ev_iadd (r := (9 * a1 + 3 * a2 + a3)) (by unfold w32; omega) ?_
                    refine ev_ret rfl (by decide) (by decide) ?_
                    show jEv _ _ _ _ _ _ _ (_, [(2, 0), (0, a1), (0, a2), (0, a3), (0, a4), (9, 0), (9, 0)], [(0, (9 * a1 + 3 * a2 + a3))], _, _, _)
                    refine ev_istore (L' := [(2, 0), (0, a1), (0, a2), (0, a3), (0, a4), (0, (9 * a1 + 3 * a2 + a3)), (9, 0)]) (Nat.le_of_ble_eq_true rfl) rfl ?_
                    refine ev_aload_n rfl ?_
                    refine g_getp (r := 0) (c := 1) g ad0 (by decide) (by decide) rf0_0 ft11_0 ?_
                    refine ev_iload rfl ?_
                    refine ev_in (d := 1) (a := 0) (b := 0) (cd' := c148_0) (m := 2) (L0 := [(2, 1), (0, (9 * a1 + 3 * a2 + a3))]) (jcall_v (A := [(0, (9 * a1 + 3 * a2 + a3))]) (S' := []) (r := 1) rfl (g.lt ad1) (g.tg ad1) (Nat.le_of_ble_eq_true rfl)) (by decide) ml148 pp148 (Nat.le_of_ble_eq_true rfl) rfl (by decide) (by decide) ?_
                    refine ev_iload_n rfl ?_
                    refine ev_iflt f148_10 (fun c26954 => absurd c26954 (by omega)) (fun c26954 => ?_)
                    refine ev_iload_n rfl ?_
                    refine ev_bipush ?_
                    refine ev_icmplt f148_14 (fun c26955 => ?_) (fun c26955 => absurd c26955 (by omega))
                    refine ev_aload_n rfl ?_
                    refine g_getp (r := 1) (c := 4) g ad1 (by decide) (by decide) rf1_5 ft10_5 ?_
                    refine ev_iload_n rfl ?_
                    refine g_iald g ad4 rt4 (by omega) (by omega) (fun v26956 ev26956 lv26956 uv26956 => ?_)
                    refine ev_ret rfl (by decide) (by decide) ?_
                    show jEv _ _ _ _ _ _ _ (_, [(2, 0), (0, a1), (0, a2), (0, a3), (0, a4), (0, (9 * a1 + 3 * a2 + a3)), (9, 0)], [(0, v26956)], _, _, _)
                    refine ev_istore (L' := [(2, 0), (0, a1), (0, a2), (0, a3), (0, a4), (0, (9 * a1 + 3 * a2 + a3)), (0, v26956)]) (Nat.le_of_ble_eq_true rfl) rfl ?_
                    refine ev_aload_n rfl ?_
                    refine g_getp (r := 0) (c := 1) g ad0 (by decide) (by decide) rf0_0 ft11_0 ?_
                    refine ev_iload rfl ?_
                    refine ev_iload rfl ?_
                    refine ev_in (d := 1) (a := 0) (b := 0) (cd' := c149_0) (m := 3) (L0 := [(2, 1), (0, (9 * a1 + 3 * a2 + a3)), (0, a4)]) (jcall_v (A := [(0, a4), (0, (9 * a1 + 3 * a2 + a3))]) (S' := []) (r := 1) rfl (g.lt ad1) (g.tg ad1) (Nat.le_of_ble_eq_true rfl)) (by decide) ml149 pp149 (Nat.le_of_ble_eq_true rfl) rfl (by decide) (by decide) ?_
                    refine ev_iload_n rfl ?_
                    refine ev_iflt f149_32 (fun c26957 => absurd c26957 (by omega)) (fun c26957 => ?_)
                    refine ev_iload_n rfl ?_
                    refine ev_bipush ?_
                    refine ev_icmpge f149_32 (fun c26958 => absurd c26958 (by omega)) (fun c26958 => ?_)
                    refine ev_aload_n rfl ?_
                    refine g_getp (r := 1) (c := 4) g ad1 (by decide) (by decide) rf1_5 ft10_5 ?_
                    refine ev_iload_n rfl ?_
                    refine g_ialdv (v := v26956) g ad4 (by omega) (by omega) (ev26956) ?_
                    refine ev_iload_n rfl ?_
                    refine ev_icmpeq f149_32 (fun c26959 => ?_) (fun c26959 => ?_)
                    · refine ev_ret rfl (by decide) (by decide) ?_
                      show jEv _ _ _ _ _ _ _ (_, [(2, 0), (0, a1), (0, a2), (0, a3), (0, a4), (0, (9 * a1 + 3 * a2 + a3)), (0, v26956)], [], _, _, _)
                      refine ev_aload_n rfl ?_
                      refine ev_iload rfl ?_
                      refine ev_iload rfl ?_
                      refine ev_iload rfl ?_
                      refine ev_call (jcall_v (A := [(0, a4), (0, v26956), (0, (9 * a1 + 3 * a2 + a3))]) (S' := []) (r := 0) rfl (g.lt ad0) (g.tg ad0) (Nat.le_of_ble_eq_true rfl)) (jOk_le (by decide) (s229 g (by omega) (by omega) (by omega) (by omega) (by omega) (by omega))) (by decide) (by decide) (fun w26960 h26960 q26960 => ?_)
                      obtain ⟨rfl, g26960, kk26960⟩ := q26960
                      have k26960 := k0.tr kk26960 (by decide)
                      show jEv _ _ _ _ _ _ _ (_, [(2, 0), (0, a1), (0, a2), (0, a3), (0, a4), (0, (9 * a1 + 3 * a2 + a3)), (0, v26956)], [], _, _, _)
                      refine ev_iload rfl ?_
                      exact ev_ret rfl (by decide) (by decide) ⟨_, rfl, by omega, by omega, g26960, k26960⟩
                    · refine ev_aload_n rfl ?_
                      refine g_getp (r := 1) (c := 4) g ad1 (by decide) (by decide) rf1_5 ft10_5 ?_
                      refine ev_iload_n rfl ?_
                      refine ev_iload_n rfl ?_
                      refine g_iast g ad4 rt4 (fun _ => rfl) (by omega) (by omega) (by omega) (by omega) (fun h26961 e26961 g26961 => ?_)
                      have k26961 := k0.wr e26961 rfl
                      refine ev_aload_n rfl ?_
                      refine ev_iconst ?_
                      refine g_putf (r := 1) g26961 ad1 (by decide) ft10_2 (by decide) (fun _ => by omega) rf1_2 (by decide) (by omega) (by omega) (fun h26962 e26962 g26962 => ?_)
                      have k26962 := k26961.wr e26962 rfl
                      refine ev_ret rfl (by decide) (by decide) ?_
                      show jEv _ _ _ _ _ _ _ (_, [(2, 0), (0, a1), (0, a2), (0, a3), (0, a4), (0, (9 * a1 + 3 * a2 + a3)), (0, v26956)], [], _, _, _)
                      refine ev_aload_n rfl ?_
                      refine ev_iload rfl ?_
                      refine ev_iload rfl ?_
                      refine ev_iload rfl ?_
                      refine ev_call (jcall_v (A := [(0, a4), (0, v26956), (0, (9 * a1 + 3 * a2 + a3))]) (S' := []) (r := 0) rfl (g26962.lt ad0) (g26962.tg ad0) (Nat.le_of_ble_eq_true rfl)) (jOk_le (by decide) (s229 g26962 (by omega) (by omega) (by omega) (by omega) (by omega) (by omega))) (by decide) (by decide) (fun w26963 h26963 q26963 => ?_)
                      obtain ⟨rfl, g26963, kk26963⟩ := q26963
                      have k26963 := k26962.tr kk26963 (by decide)
                      show jEv _ _ _ _ _ _ _ (_, [(2, 0), (0, a1), (0, a2), (0, a3), (0, a4), (0, (9 * a1 + 3 * a2 + a3)), (0, v26956)], [], _, _, _)
                      refine ev_iload rfl ?_
                      exact ev_ret rfl (by decide) (by decide) ⟨_, rfl, by omega, by omega, g26963, k26963⟩
                  · refine ev_iconst ?_
                    exact ev_ret rfl (by decide) (by decide) ⟨_, rfl, by omega, by omega, g, k0⟩
/-! 169 bottom -/
set_option maxHeartbeats 4000000 in
theorem s169 {G : GH} {h : JH} (g : Gd G h)  : jOk 6 0 0 169 [(2, 0)] h (PI G [(1, 2), (1, 3), (5, 0), (6, 0)] h 1 (-9223372036854775808) 9223372036854775807) := by
  refine ⟨by decide, by rw [ml169]; exact Nat.le_of_ble_eq_true rfl, ?_⟩
  rw [ml169, pp169]
  show jEv _ none _ c169_0 0 0 _ (c169_0, [(2, 0)], [], h, 0, 0)
  have k0 := Kp.rf [(1, 2), (1, 3), (5, 0), (6, 0)] h
  refine ev_aload_n rfl ?_
  refine g_getp (r := 0) (c := 1) g ad0 (by decide) (by decide) rf0_0 ft11_0 ?_
  refine ev_call (jcall_v (A := []) (S' := []) (r := 1) rfl (g.lt ad1) (g.tg ad1) (Nat.le_of_ble_eq_true rfl)) (jOk_le (by decide) (s153 g )) (by decide) (by decide) (fun w26972 h26972 q26972 => ?_)
  obtain ⟨v26973, rfl, lv26973, uv26973, g26972, kk26972⟩ := q26972
  have k26972 := k0.tr kk26972 (by decide)
  show jEv _ _ _ _ _ _ _ (_, [(2, 0)], [(0, v26973)], _, _, _)
  refine ev_ifeq f169_20 (fun c26974 => ?_) (fun c26974 => ?_)
  · refine ev_ldc2_w ?_
    exact ev_ret rfl (by decide) (by decide) ⟨_, rfl, by omega, by omega, g26972, k26972⟩
  · refine ev_aload_n rfl ?_
    refine g_getp (r := 0) (c := 1) g26972 ad0 (by decide) (by decide) rf0_0 ft11_0 ?_
    obtain ⟨v26975, ev26975, lv26975, uv26975⟩ := g26972.rd ad1 (show 1 < 8 by decide) rf1_1
    refine g_getv (r := 1) (v := v26975) g26972 ad1 (by decide) ft10_1 ev26975 ?_
    refine ev_goto f169_23 ?_
    exact ev_ret rfl (by decide) (by decide) ⟨_, rfl, by omega, by omega, g26972, k26972⟩
/-! 170 number -/
set_option maxHeartbeats 4000000 in
theorem s170 {G : GH} {h : JH} (g : Gd G h) {a1 : Int} (la1 : (-2147483648) ≤ a1) (ua1 : a1 ≤ 2147483647) : jOk 6 0 0 170 [(2, 0), (0, a1)] h (PI G [(1, 2), (1, 3), (5, 0), (6, 0)] h 1 (-9223372036854775808) 9223372036854775807) := by
  refine ⟨by decide, by rw [ml170]; exact Nat.le_of_ble_eq_true rfl, ?_⟩
  rw [ml170, pp170]
  show jEv _ none _ c170_0 0 0 _ (c170_0, [(2, 0), (0, a1)], [], h, 0, 0)
  have k0 := Kp.rf [(1, 2), (1, 3), (5, 0), (6, 0)] h
  refine ev_aload_n rfl ?_
  refine g_getp (r := 0) (c := 1) g ad0 (by decide) (by decide) rf0_0 ft11_0 ?_
  refine ev_iload_n rfl ?_
  refine ev_call (jcall_v (A := [(0, a1)]) (S' := []) (r := 1) rfl (g.lt ad1) (g.tg ad1) (Nat.le_of_ble_eq_true rfl)) (jOk_le (by decide) (s159 g (by omega) (by omega))) (by decide) (by decide) (fun w27004 h27004 q27004 => ?_)
  obtain ⟨v27005, rfl, lv27005, uv27005, g27004, kk27004⟩ := q27004
  have k27004 := k0.tr kk27004 (by decide)
  show jEv _ _ _ _ _ _ _ (_, [(2, 0), (0, a1)], [(0, v27005)], _, _, _)
  refine ev_ifne f170_15 (fun c27006 => ?_) (fun c27006 => ?_)
  · refine ev_aload_n rfl ?_
    refine g_getp (r := 0) (c := 1) g27004 ad0 (by decide) (by decide) rf0_0 ft11_0 ?_
    refine ev_call (jcall_v (A := []) (S' := []) (r := 1) rfl (g27004.lt ad1) (g27004.tg ad1) (Nat.le_of_ble_eq_true rfl)) (jOk_le (by decide) (s153 g27004 )) (by decide) (by decide) (fun w27007 h27007 q27007 => ?_)
    obtain ⟨v27008, rfl, lv27008, uv27008, g27007, kk27007⟩ := q27007
    have k27007 := k27004.tr kk27007 (by decide)
    show jEv _ _ _ _ _ _ _ (_, [(2, 0), (0, a1)], [(0, v27008)], _, _, _)
    refine ev_ifeq f170_43 (fun c27009 => ?_) (fun c27009 => ?_)
    · refine ev_ldc2_w ?_
      exact ev_ret rfl (by decide) (by decide) ⟨_, rfl, by omega, by omega, g27007, k27007⟩
    · refine ev_aload_n rfl ?_
      refine g_getp (r := 0) (c := 1) g27007 ad0 (by decide) (by decide) rf0_0 ft11_0 ?_
      refine ev_aload_n rfl ?_
      refine g_getp (r := 0) (c := 1) g27007 ad0 (by decide) (by decide) rf0_0 ft11_0 ?_
      refine ev_iload_n rfl ?_
      refine ev_in (d := 4) (a := 0) (b := 0) (cd' := c160_0) (m := 2) (L0 := [(2, 1), (0, a1)]) (jcall_v (A := [(0, a1)]) (S' := [(2, 1)]) (r := 1) rfl (g27007.lt ad1) (g27007.tg ad1) (Nat.le_of_ble_eq_true rfl)) (by decide) ml160 pp160 (Nat.le_of_ble_eq_true rfl) rfl (by decide) (by decide) ?_
      refine ev_iload_n rfl ?_
      refine ev_aload_n rfl ?_
      refine ev_in (d := 3) (a := 0) (b := 0) (cd' := c157_0) (m := 1) (L0 := [(2, 1)]) (jcall_v (A := []) (S' := [(0, a1)]) (r := 1) rfl (g27007.lt ad1) (g27007.tg ad1) (Nat.le_of_ble_eq_true rfl)) (by decide) ml157 pp157 (Nat.le_of_ble_eq_true rfl) rfl (by decide) (by decide) ?_
      refine ev_iconst ?_
      refine ev_iconst ?_
      refine ev_aload_n rfl ?_
      obtain ⟨v27010, ev27010, lv27010, uv27010⟩ := g27007.rd ad1 (show 0 < 8 by decide) rf1_0
      refine g_getv (r := 1) (v := v27010) g27007 ad1 (by decide) ft10_0 ev27010 ?_
      refine ev_imul (r := (2 * v27010)) (by unfold w32; omega) ?_
      refine g_ishlB (a' := 1) (a := 1) (b := 8) (hi := 256) (by omega) (by omega) (by omega) (by omega) (by decide) (by decide) (fun v27011 ev27011 lv27011 uv27011 => ?_)
      refine ev_ret rfl (by decide) (by decide) ?_
      show jEv _ _ _ _ _ _ _ (_, [(2, 1), (0, a1)], [(0, v27011), (0, a1)], _, _, _)
      refine ev_iconst ?_
      refine ev_isub (r := (v27011 - 1)) (by unfold w32; omega) ?_
      refine ev_iconst ?_
      refine g_idivP (c := 3) rfl (by decide) (by omega) (by omega) (fun v27012 ev27012 lv27012 uv27012 => ?_)
      refine g_iaddG (fun v27013 ev27013 lv27013 uv27013 => ?_)
      refine ev_ret rfl (by decide) (by decide) ?_
      show jEv _ _ _ _ _ _ _ (_, [(2, 0), (0, a1)], [(0, v27013), (2, 1)], _, _, _)
      refine ev_in (d := 4) (a := 0) (b := 0) (cd' := c161_0) (m := 2) (L0 := [(2, 1), (0, v27013)]) (jcall_v (A := [(0, v27013)]) (S' := []) (r := 1) rfl (g27007.lt ad1) (g27007.tg ad1) (Nat.le_of_ble_eq_true rfl)) (by decide) ml161 pp161 (Nat.le_of_ble_eq_true rfl) rfl (by decide) (by decide) ?_
      refine ev_iload_n rfl ?_
      refine ev_iflt f161_12 (fun c27014 => ?_) (fun c27014 => ?_)
      · refine ev_lconst ?_
        refine ev_goto f161_22 ?_
        refine ev_ret rfl (by decide) (by decide) ?_
        show jEv _ _ _ _ _ _ _ (_, [(2, 0), (0, a1)], [(1, 0)], _, _, _)
        refine ev_goto f170_46 ?_
        exact ev_ret rfl (by decide) (by decide) ⟨_, rfl, by omega, by omega, g27007, k27007⟩
      · refine ev_iload_n rfl ?_
        refine ev_aload_n rfl ?_
        refine ev_in (d := 3) (a := 0) (b := 0) (cd' := c157_0) (m := 1) (L0 := [(2, 1)]) (jcall_v (A := []) (S' := [(0, v27013)]) (r := 1) rfl (g27007.lt ad1) (g27007.tg ad1) (Nat.le_of_ble_eq_true rfl)) (by decide) ml157 pp157 (Nat.le_of_ble_eq_true rfl) rfl (by decide) (by decide) ?_
        refine ev_iconst ?_
        refine ev_iconst ?_
        refine ev_aload_n rfl ?_
        refine g_getv (r := 1) (v := v27010) g27007 ad1 (by decide) ft10_0 (ev27010) ?_
        refine ev_imul (r := (2 * v27010)) (by unfold w32; omega) ?_
        refine g_ishlB (a' := 1) (a := 1) (b := 8) (hi := 256) (by omega) (by omega) (by omega) (by omega) (by decide) (by decide) (fun v27015 ev27015 lv27015 uv27015 => ?_)
        refine ev_ret rfl (by decide) (by decide) ?_
        show jEv _ _ _ _ _ _ _ (_, [(2, 1), (0, v27013)], [(0, v27015), (0, v27013)], _, _, _)
        refine ev_icmplt f161_16 (fun c27016 => ?_) (fun c27016 => ?_)
        · refine ev_aload_n rfl ?_
          refine g_getp (r := 1) (c := 6) g27007 ad1 (by decide) (by decide) rf1_7 ft10_7 ?_
          refine ev_iload_n rfl ?_
          refine g_lald g27007 ad6 rt6 (by omega) (by omega) (fun v27017 ev27017 lv27017 uv27017 => ?_)
          refine ev_ret rfl (by decide) (by decide) ?_
          show jEv _ _ _ _ _ _ _ (_, [(2, 0), (0, a1)], [(1, v27017)], _, _, _)
          refine ev_goto f170_46 ?_
          exact ev_ret rfl (by decide) (by decide) ⟨_, rfl, by omega, by omega, g27007, k27007⟩
        · refine ev_lconst ?_
          refine ev_goto f161_22 ?_
          refine ev_ret rfl (by decide) (by decide) ?_
          show jEv _ _ _ _ _ _ _ (_, [(2, 0), (0, a1)], [(1, 0)], _, _, _)
          refine ev_goto f170_46 ?_
          exact ev_ret rfl (by decide) (by decide) ⟨_, rfl, by omega, by omega, g27007, k27007⟩
  · refine ev_ldc2_w ?_
    exact ev_ret rfl (by decide) (by decide) ⟨_, rfl, by omega, by omega, g27004, k27004⟩
/-! 171 chance -/
set_option maxHeartbeats 4000000 in
theorem s171 {G : GH} {h : JH} (g : Gd G h) {a1 : Int} (la1 : (-2147483648) ≤ a1) (ua1 : a1 ≤ 2147483647) {a2 : Int} (la2 : (-2147483648) ≤ a2) (ua2 : a2 ≤ 2147483647) {a3 : Int} (la3 : (-2147483648) ≤ a3) (ua3 : a3 ≤ 2147483647) : jOk 6 0 0 171 [(2, 0), (0, a1), (0, a2), (0, a3)] h (PI G [(1, 2), (1, 3), (5, 0), (6, 0)] h 1 (-9223372036854775808) 9223372036854775807) := by
  refine ⟨by decide, by rw [ml171]; exact Nat.le_of_ble_eq_true rfl, ?_⟩
  rw [ml171, pp171]
  show jEv _ none _ c171_0 0 0 _ (c171_0, [(2, 0), (0, a1), (0, a2), (0, a3)], [], h, 0, 0)
  have k0 := Kp.rf [(1, 2), (1, 3), (5, 0), (6, 0)] h
  refine ev_aload_n rfl ?_
  refine g_getp (r := 0) (c := 1) g ad0 (by decide) (by decide) rf0_0 ft11_0 ?_
  refine ev_iload_n rfl ?_
  refine ev_call (jcall_v (A := [(0, a1)]) (S' := []) (r := 1) rfl (g.lt ad1) (g.tg ad1) (Nat.le_of_ble_eq_true rfl)) (jOk_le (by decide) (s158 g (by omega) (by omega))) (by decide) (by decide) (fun w27284 h27284 q27284 => ?_)
  obtain ⟨v27285, rfl, lv27285, uv27285, g27284, kk27284⟩ := q27284
  have k27284 := k0.tr kk27284 (by decide)
  show jEv _ _ _ _ _ _ _ (_, [(2, 0), (0, a1), (0, a2), (0, a3)], [(0, v27285)], _, _, _)
  refine ev_ifeq f171_29 (fun c27286 => ?_) (fun c27286 => ?_)
  · refine ev_ldc2_w ?_
    exact ev_ret rfl (by decide) (by decide) ⟨_, rfl, by omega, by omega, g27284, k27284⟩
  · refine ev_aload_n rfl ?_
    refine g_getp (r := 0) (c := 1) g27284 ad0 (by decide) (by decide) rf0_0 ft11_0 ?_
    refine ev_iload_n rfl ?_
    refine ev_call (jcall_v (A := [(0, a2)]) (S' := []) (r := 1) rfl (g27284.lt ad1) (g27284.tg ad1) (Nat.le_of_ble_eq_true rfl)) (jOk_le (by decide) (s158 g27284 (by omega) (by omega))) (by decide) (by decide) (fun w27287 h27287 q27287 => ?_)
    obtain ⟨v27288, rfl, lv27288, uv27288, g27287, kk27287⟩ := q27287
    have k27287 := k27284.tr kk27287 (by decide)
    show jEv _ _ _ _ _ _ _ (_, [(2, 0), (0, a1), (0, a2), (0, a3)], [(0, v27288)], _, _, _)
    refine ev_ifeq f171_29 (fun c27289 => ?_) (fun c27289 => ?_)
    · refine ev_ldc2_w ?_
      exact ev_ret rfl (by decide) (by decide) ⟨_, rfl, by omega, by omega, g27287, k27287⟩
    · refine ev_iload_n rfl ?_
      refine ev_in (d := 4) (a := 0) (b := 0) (cd' := c221_0) (m := 1) (L0 := [(0, a3)]) (jcall_s (A := [(0, a3)]) (S' := []) (by decide) rfl (Nat.le_of_ble_eq_true rfl)) (by decide) ml221 pp221 (Nat.le_of_ble_eq_true rfl) rfl (by decide) (by decide) ?_
      refine ev_iload_n rfl ?_
      refine ev_ifeq f221_9 (fun c27290 => ?_) (fun c27290 => ?_)
      · refine ev_iconst ?_
        refine ev_goto f221_14 ?_
        refine ev_ret rfl (by decide) (by decide) ?_
        show jEv _ _ _ _ _ _ _ (_, [(2, 0), (0, a1), (0, a2), (0, a3)], [(0, 1)], _, _, _)
        refine ev_ifne f171_33 (fun c27291 => ?_) (fun c27291 => absurd c27291 (by omega))
        refine ev_aload_n rfl ?_
        refine g_getp (r := 0) (c := 1) g27287 ad0 (by decide) (by decide) rf0_0 ft11_0 ?_
        refine ev_call (jcall_v (A := []) (S' := []) (r := 1) rfl (g27287.lt ad1) (g27287.tg ad1) (Nat.le_of_ble_eq_true rfl)) (jOk_le (by decide) (s153 g27287 )) (by decide) (by decide) (fun w27292 h27292 q27292 => ?_)
        obtain ⟨v27293, rfl, lv27293, uv27293, g27292, kk27292⟩ := q27292
        have k27292 := k27287.tr kk27292 (by decide)
        show jEv _ _ _ _ _ _ _ (_, [(2, 0), (0, a1), (0, a2), (0, a3)], [(0, v27293)], _, _, _)
        refine ev_ifne f171_47 (fun c27294 => ?_) (fun c27294 => ?_)
        · refine ev_aload_n rfl ?_
          refine g_getp (r := 0) (c := 1) g27292 ad0 (by decide) (by decide) rf0_0 ft11_0 ?_
          refine ev_iload_n rfl ?_
          refine ev_iload_n rfl ?_
          refine ev_in (d := 4) (a := 0) (b := 0) (cd' := c163_0) (m := 3) (L0 := [(2, 1), (0, a1), (0, a2)]) (jcall_v (A := [(0, a2), (0, a1)]) (S' := []) (r := 1) rfl (g27292.lt ad1) (g27292.tg ad1) (Nat.le_of_ble_eq_true rfl)) (by decide) ml163 pp163 (Nat.le_of_ble_eq_true rfl) rfl (by decide) (by decide) ?_
          refine ev_iload_n rfl ?_
          refine ev_iload_n rfl ?_
          refine g_ixorG (fun v27295 ev27295 lv27295 uv27295 => ?_)
          refine ev_iload_n rfl ?_
          refine ev_in (d := 3) (a := 0) (b := 0) (cd' := c162_0) (m := 1) (L0 := [(0, a1)]) (jcall_s (A := [(0, a1)]) (S' := [(0, v27295)]) (by decide) rfl (Nat.le_of_ble_eq_true rfl)) (by decide) ml162 pp162 (Nat.le_of_ble_eq_true rfl) rfl (by decide) (by decide) ?_
          refine ev_iload_n rfl ?_
          refine ev_iload_n rfl ?_
          refine ev_iconst ?_
          refine g_ishrG (fun v27296 ev27296 lv27296 uv27296 => ?_)
          refine g_iorG (fun v27297 ev27297 lv27297 uv27297 => ?_)
          refine ev_bipush ?_
          refine g_iandB (b := 85) (by omega) (by omega) (by decide) (fun v27298 ev27298 lv27298 uv27298 => ?_)
          refine ev_iconst ?_
          refine ev_imul (r := (3 * v27298)) (by unfold w32; omega) ?_
          refine ev_ret rfl (by decide) (by decide) ?_
          show jEv _ _ _ _ _ _ _ (_, [(2, 1), (0, a1), (0, a2)], [(0, (3 * v27298)), (0, v27295)], _, _, _)
          refine g_iandB (b := 255) (by omega) (by omega) (by decide) (fun v27299 ev27299 lv27299 uv27299 => ?_)
          refine ev_iload_n rfl ?_
          refine ev_in (d := 3) (a := 0) (b := 0) (cd' := c162_0) (m := 1) (L0 := [(0, a2)]) (jcall_s (A := [(0, a2)]) (S' := [(0, v27299)]) (by decide) rfl (Nat.le_of_ble_eq_true rfl)) (by decide) ml162 pp162 (Nat.le_of_ble_eq_true rfl) rfl (by decide) (by decide) ?_
          refine ev_iload_n rfl ?_
          refine ev_iload_n rfl ?_
          refine ev_iconst ?_
          refine g_ishrG (fun v27300 ev27300 lv27300 uv27300 => ?_)
          refine g_iorG (fun v27301 ev27301 lv27301 uv27301 => ?_)
          refine ev_bipush ?_
          refine g_iandB (b := 85) (by omega) (by omega) (by decide) (fun v27302 ev27302 lv27302 uv27302 => ?_)
          refine ev_iconst ?_
          refine ev_imul (r := (3 * v27302)) (by unfold w32; omega) ?_
          refine ev_ret rfl (by decide) (by decide) ?_
          show jEv _ _ _ _ _ _ _ (_, [(2, 1), (0, a1), (0, a2)], [(0, (3 * v27302)), (0, v27299)], _, _, _)
          refine g_iandB (b := 255) (by omega) (by omega) (by decide) (fun v27303 ev27303 lv27303 uv27303 => ?_)
          refine ev_ifeq f163_20 (fun c27304 => ?_) (fun c27304 => ?_)
          · refine ev_aload_n rfl ?_
            refine ev_iload_n rfl ?_
            refine ev_iload_n rfl ?_
            refine g_iorG (fun v27305 ev27305 lv27305 uv27305 => ?_)
            refine ev_in (d := 3) (a := 0) (b := 0) (cd' := c161_0) (m := 2) (L0 := [(2, 1), (0, v27305)]) (jcall_v (A := [(0, v27305)]) (S' := []) (r := 1) rfl (g27292.lt ad1) (g27292.tg ad1) (Nat.le_of_ble_eq_true rfl)) (by decide) ml161 pp161 (Nat.le_of_ble_eq_true rfl) rfl (by decide) (by decide) ?_
            refine ev_iload_n rfl ?_
            refine ev_iflt f161_12 (fun c27306 => ?_) (fun c27306 => ?_)
            · refine ev_lconst ?_
              refine ev_goto f161_22 ?_
              refine ev_ret rfl (by decide) (by decide) ?_
              show jEv _ _ _ _ _ _ _ (_, [(2, 1), (0, a1), (0, a2)], [(1, 0)], _, _, _)
              refine ev_ret rfl (by decide) (by decide) ?_
              show jEv _ _ _ _ _ _ _ (_, [(2, 0), (0, a1), (0, a2), (0, a3)], [(1, 0)], _, _, _)
              refine ev_aload_n rfl ?_
              refine g_getp (r := 0) (c := 1) g27292 ad0 (by decide) (by decide) rf0_0 ft11_0 ?_
              refine ev_iload_n rfl ?_
              refine ev_in (d := 4) (a := 0) (b := 0) (cd' := c161_0) (m := 2) (L0 := [(2, 1), (0, a2)]) (jcall_v (A := [(0, a2)]) (S' := [(1, 0)]) (r := 1) rfl (g27292.lt ad1) (g27292.tg ad1) (Nat.le_of_ble_eq_true rfl)) (by decide) ml161 pp161 (Nat.le_of_ble_eq_true rfl) rfl (by decide) (by decide) ?_
              refine ev_iload_n rfl ?_
              refine ev_iflt f161_12 (fun c27307 => ?_) (fun c27307 => ?_)
              · refine ev_lconst ?_
                refine ev_goto f161_22 ?_
                refine ev_ret rfl (by decide) (by decide) ?_
                show jEv _ _ _ _ _ _ _ (_, [(2, 0), (0, a1), (0, a2), (0, a3)], [(1, 0), (1, 0)], _, _, _)
                refine ev_iload_n rfl ?_
                refine ev_call (jcall_s (A := [(0, a3), (1, 0), (1, 0)]) (S' := []) (by decide) rfl (Nat.le_of_ble_eq_true rfl)) (jOk_le (by decide) (s223 g27292 (by omega) (by omega) (by omega) (by omega) (by omega) (by omega))) (by decide) (by decide) (fun w27308 h27308 q27308 => ?_)
                obtain ⟨v27309, rfl, lv27309, uv27309, g27308, kk27308⟩ := q27308
                have k27308 := k27292.tr kk27308 (by decide)
                show jEv _ _ _ _ _ _ _ (_, [(2, 0), (0, a1), (0, a2), (0, a3)], [(1, v27309)], _, _, _)
                exact ev_ret rfl (by decide) (by decide) ⟨_, rfl, by omega, by omega, g27308, k27308⟩
              · refine ev_iload_n rfl ?_
                refine ev_aload_n rfl ?_
                refine ev_in (d := 3) (a := 0) (b := 0) (cd' := c157_0) (m := 1) (L0 := [(2, 1)]) (jcall_v (A := []) (S' := [(0, a2)]) (r := 1) rfl (g27292.lt ad1) (g27292.tg ad1) (Nat.le_of_ble_eq_true rfl)) (by decide) ml157 pp157 (Nat.le_of_ble_eq_true rfl) rfl (by decide) (by decide) ?_
                refine ev_iconst ?_
                refine ev_iconst ?_
                refine ev_aload_n rfl ?_
                obtain ⟨v27310, ev27310, lv27310, uv27310⟩ := g27292.rd ad1 (show 0 < 8 by decide) rf1_0
                refine g_getv (r := 1) (v := v27310) g27292 ad1 (by decide) ft10_0 ev27310 ?_
                refine ev_imul (r := (2 * v27310)) (by unfold w32; omega) ?_
                refine g_ishlB (a' := 1) (a := 1) (b := 8) (hi := 256) (by omega) (by omega) (by omega) (by omega) (by decide) (by decide) (fun v27311 ev27311 lv27311 uv27311 => ?_)
                refine ev_ret rfl (by decide) (by decide) ?_
                show jEv _ _ _ _ _ _ _ (_, [(2, 1), (0, a2)], [(0, v27311), (0, a2)], _, _, _)
                refine ev_icmplt f161_16 (fun c27312 => ?_) (fun c27312 => ?_)
                · refine ev_aload_n rfl ?_
                  refine g_getp (r := 1) (c := 6) g27292 ad1 (by decide) (by decide) rf1_7 ft10_7 ?_
                  refine ev_iload_n rfl ?_
                  refine g_lald g27292 ad6 rt6 (by omega) (by omega) (fun v27313 ev27313 lv27313 uv27313 => ?_)
                  refine ev_ret rfl (by decide) (by decide) ?_
                  show jEv _ _ _ _ _ _ _ (_, [(2, 0), (0, a1), (0, a2), (0, a3)], [(1, v27313), (1, 0)], _, _, _)
                  refine ev_iload_n rfl ?_
                  refine ev_call (jcall_s (A := [(0, a3), (1, v27313), (1, 0)]) (S' := []) (by decide) rfl (Nat.le_of_ble_eq_true rfl)) (jOk_le (by decide) (s223 g27292 (by omega) (by omega) (by omega) (by omega) (by omega) (by omega))) (by decide) (by decide) (fun w27314 h27314 q27314 => ?_)
                  obtain ⟨v27315, rfl, lv27315, uv27315, g27314, kk27314⟩ := q27314
                  have k27314 := k27292.tr kk27314 (by decide)
                  show jEv _ _ _ _ _ _ _ (_, [(2, 0), (0, a1), (0, a2), (0, a3)], [(1, v27315)], _, _, _)
                  exact ev_ret rfl (by decide) (by decide) ⟨_, rfl, by omega, by omega, g27314, k27314⟩
                · refine ev_lconst ?_
                  refine ev_goto f161_22 ?_
                  refine ev_ret rfl (by decide) (by decide) ?_
                  show jEv _ _ _ _ _ _ _ (_, [(2, 0), (0, a1), (0, a2), (0, a3)], [(1, 0), (1, 0)], _, _, _)
                  refine ev_iload_n rfl ?_
                  refine ev_call (jcall_s (A := [(0, a3), (1, 0), (1, 0)]) (S' := []) (by decide) rfl (Nat.le_of_ble_eq_true rfl)) (jOk_le (by decide) (s223 g27292 (by omega) (by omega) (by omega) (by omega) (by omega) (by omega))) (by decide) (by decide) (fun w27316 h27316 q27316 => ?_)
                  obtain ⟨v27317, rfl, lv27317, uv27317, g27316, kk27316⟩ := q27316
                  have k27316 := k27292.tr kk27316 (by decide)
                  show jEv _ _ _ _ _ _ _ (_, [(2, 0), (0, a1), (0, a2), (0, a3)], [(1, v27317)], _, _, _)
                  exact ev_ret rfl (by decide) (by decide) ⟨_, rfl, by omega, by omega, g27316, k27316⟩
            · refine ev_iload_n rfl ?_
              refine ev_aload_n rfl ?_
              refine ev_in (d := 2) (a := 0) (b := 0) (cd' := c157_0) (m := 1) (L0 := [(2, 1)]) (jcall_v (A := []) (S' := [(0, v27305)]) (r := 1) rfl (g27292.lt ad1) (g27292.tg ad1) (Nat.le_of_ble_eq_true rfl)) (by decide) ml157 pp157 (Nat.le_of_ble_eq_true rfl) rfl (by decide) (by decide) ?_
              refine ev_iconst ?_
              refine ev_iconst ?_
              refine ev_aload_n rfl ?_
              obtain ⟨v27318, ev27318, lv27318, uv27318⟩ := g27292.rd ad1 (show 0 < 8 by decide) rf1_0
              refine g_getv (r := 1) (v := v27318) g27292 ad1 (by decide) ft10_0 ev27318 ?_
              refine ev_imul (r := (2 * v27318)) (by unfold w32; omega) ?_
              refine g_ishlB (a' := 1) (a := 1) (b := 8) (hi := 256) (by omega) (by omega) (by omega) (by omega) (by decide) (by decide) (fun v27319 ev27319 lv27319 uv27319 => ?_)
              refine ev_ret rfl (by decide) (by decide) ?_
              show jEv _ _ _ _ _ _ _ (_, [(2, 1), (0, v27305)], [(0, v27319), (0, v27305)], _, _, _)
              refine ev_icmplt f161_16 (fun c27320 => ?_) (fun c27320 => ?_)
              · refine ev_aload_n rfl ?_
                refine g_getp (r := 1) (c := 6) g27292 ad1 (by decide) (by decide) rf1_7 ft10_7 ?_
                refine ev_iload_n rfl ?_
                refine g_lald g27292 ad6 rt6 (by omega) (by omega) (fun v27321 ev27321 lv27321 uv27321 => ?_)
                refine ev_ret rfl (by decide) (by decide) ?_
                show jEv _ _ _ _ _ _ _ (_, [(2, 1), (0, a1), (0, a2)], [(1, v27321)], _, _, _)
                refine ev_ret rfl (by decide) (by decide) ?_
                show jEv _ _ _ _ _ _ _ (_, [(2, 0), (0, a1), (0, a2), (0, a3)], [(1, v27321)], _, _, _)
                refine ev_aload_n rfl ?_
                refine g_getp (r := 0) (c := 1) g27292 ad0 (by decide) (by decide) rf0_0 ft11_0 ?_
                refine ev_iload_n rfl ?_
                refine ev_in (d := 4) (a := 0) (b := 0) (cd' := c161_0) (m := 2) (L0 := [(2, 1), (0, a2)]) (jcall_v (A := [(0, a2)]) (S' := [(1, v27321)]) (r := 1) rfl (g27292.lt ad1) (g27292.tg ad1) (Nat.le_of_ble_eq_true rfl)) (by decide) ml161 pp161 (Nat.le_of_ble_eq_true rfl) rfl (by decide) (by decide) ?_
                refine ev_iload_n rfl ?_
                refine ev_iflt f161_12 (fun c27322 => ?_) (fun c27322 => ?_)
                · refine ev_lconst ?_
                  refine ev_goto f161_22 ?_
                  refine ev_ret rfl (by decide) (by decide) ?_
                  show jEv _ _ _ _ _ _ _ (_, [(2, 0), (0, a1), (0, a2), (0, a3)], [(1, 0), (1, v27321)], _, _, _)
                  refine ev_iload_n rfl ?_
                  refine ev_call (jcall_s (A := [(0, a3), (1, 0), (1, v27321)]) (S' := []) (by decide) rfl (Nat.le_of_ble_eq_true rfl)) (jOk_le (by decide) (s223 g27292 (by omega) (by omega) (by omega) (by omega) (by omega) (by omega))) (by decide) (by decide) (fun w27323 h27323 q27323 => ?_)
                  obtain ⟨v27324, rfl, lv27324, uv27324, g27323, kk27323⟩ := q27323
                  have k27323 := k27292.tr kk27323 (by decide)
                  show jEv _ _ _ _ _ _ _ (_, [(2, 0), (0, a1), (0, a2), (0, a3)], [(1, v27324)], _, _, _)
                  exact ev_ret rfl (by decide) (by decide) ⟨_, rfl, by omega, by omega, g27323, k27323⟩
                · refine ev_iload_n rfl ?_
                  refine ev_aload_n rfl ?_
                  refine ev_in (d := 3) (a := 0) (b := 0) (cd' := c157_0) (m := 1) (L0 := [(2, 1)]) (jcall_v (A := []) (S' := [(0, a2)]) (r := 1) rfl (g27292.lt ad1) (g27292.tg ad1) (Nat.le_of_ble_eq_true rfl)) (by decide) ml157 pp157 (Nat.le_of_ble_eq_true rfl) rfl (by decide) (by decide) ?_
                  refine ev_iconst ?_
                  refine ev_iconst ?_
                  refine ev_aload_n rfl ?_
                  refine g_getv (r := 1) (v := v27318) g27292 ad1 (by decide) ft10_0 (ev27318) ?_
                  refine ev_imul (r := (2 * v27318)) (by unfold w32; omega) ?_
                  refine g_ishlB (a' := 1) (a := 1) (b := 8) (hi := 256) (by omega) (by omega) (by omega) (by omega) (by decide) (by decide) (fun v27325 ev27325 lv27325 uv27325 => ?_)
                  refine ev_ret rfl (by decide) (by decide) ?_
                  show jEv _ _ _ _ _ _ _ (_, [(2, 1), (0, a2)], [(0, v27325), (0, a2)], _, _, _)
                  refine ev_icmplt f161_16 (fun c27326 => ?_) (fun c27326 => ?_)
                  · refine ev_aload_n rfl ?_
                    refine g_getp (r := 1) (c := 6) g27292 ad1 (by decide) (by decide) rf1_7 ft10_7 ?_
                    refine ev_iload_n rfl ?_
                    refine g_lald g27292 ad6 rt6 (by omega) (by omega) (fun v27327 ev27327 lv27327 uv27327 => ?_)
                    refine ev_ret rfl (by decide) (by decide) ?_
                    show jEv _ _ _ _ _ _ _ (_, [(2, 0), (0, a1), (0, a2), (0, a3)], [(1, v27327), (1, v27321)], _, _, _)
                    refine ev_iload_n rfl ?_
                    refine ev_call (jcall_s (A := [(0, a3), (1, v27327), (1, v27321)]) (S' := []) (by decide) rfl (Nat.le_of_ble_eq_true rfl)) (jOk_le (by decide) (s223 g27292 (by omega) (by omega) (by omega) (by omega) (by omega) (by omega))) (by decide) (by decide) (fun w27328 h27328 q27328 => ?_)
                    obtain ⟨v27329, rfl, lv27329, uv27329, g27328, kk27328⟩ := q27328
                    have k27328 := k27292.tr kk27328 (by decide)
                    show jEv _ _ _ _ _ _ _ (_, [(2, 0), (0, a1), (0, a2), (0, a3)], [(1, v27329)], _, _, _)
                    exact ev_ret rfl (by decide) (by decide) ⟨_, rfl, by omega, by omega, g27328, k27328⟩
                  · refine ev_lconst ?_
                    refine ev_goto f161_22 ?_
                    refine ev_ret rfl (by decide) (by decide) ?_
                    show jEv _ _ _ _ _ _ _ (_, [(2, 0), (0, a1), (0, a2), (0, a3)], [(1, 0), (1, v27321)], _, _, _)
                    refine ev_iload_n rfl ?_
                    refine ev_call (jcall_s (A := [(0, a3), (1, 0), (1, v27321)]) (S' := []) (by decide) rfl (Nat.le_of_ble_eq_true rfl)) (jOk_le (by decide) (s223 g27292 (by omega) (by omega) (by omega) (by omega) (by omega) (by omega))) (by decide) (by decide) (fun w27330 h27330 q27330 => ?_)
                    obtain ⟨v27331, rfl, lv27331, uv27331, g27330, kk27330⟩ := q27330
                    have k27330 := k27292.tr kk27330 (by decide)
                    show jEv _ _ _ _ _ _ _ (_, [(2, 0), (0, a1), (0, a2), (0, a3)], [(1, v27331)], _, _, _)
                    exact ev_ret rfl (by decide) (by decide) ⟨_, rfl, by omega, by omega, g27330, k27330⟩
              · refine ev_lconst ?_
                refine ev_goto f161_22 ?_
                refine ev_ret rfl (by decide) (by decide) ?_
                show jEv _ _ _ _ _ _ _ (_, [(2, 1), (0, a1), (0, a2)], [(1, 0)], _, _, _)
                refine ev_ret rfl (by decide) (by decide) ?_
                show jEv _ _ _ _ _ _ _ (_, [(2, 0), (0, a1), (0, a2), (0, a3)], [(1, 0)], _, _, _)
                refine ev_aload_n rfl ?_
                refine g_getp (r := 0) (c := 1) g27292 ad0 (by decide) (by decide) rf0_0 ft11_0 ?_
                refine ev_iload_n rfl ?_
                refine ev_in (d := 4) (a := 0) (b := 0) (cd' := c161_0) (m := 2) (L0 := [(2, 1), (0, a2)]) (jcall_v (A := [(0, a2)]) (S' := [(1, 0)]) (r := 1) rfl (g27292.lt ad1) (g27292.tg ad1) (Nat.le_of_ble_eq_true rfl)) (by decide) ml161 pp161 (Nat.le_of_ble_eq_true rfl) rfl (by decide) (by decide) ?_
                refine ev_iload_n rfl ?_
                refine ev_iflt f161_12 (fun c27332 => ?_) (fun c27332 => ?_)
                · refine ev_lconst ?_
                  refine ev_goto f161_22 ?_
                  refine ev_ret rfl (by decide) (by decide) ?_
                  show jEv _ _ _ _ _ _ _ (_, [(2, 0), (0, a1), (0, a2), (0, a3)], [(1, 0), (1, 0)], _, _, _)
                  refine ev_iload_n rfl ?_
                  refine ev_call (jcall_s (A := [(0, a3), (1, 0), (1, 0)]) (S' := []) (by decide) rfl (Nat.le_of_ble_eq_true rfl)) (jOk_le (by decide) (s223 g27292 (by omega) (by omega) (by omega) (by omega) (by omega) (by omega))) (by decide) (by decide) (fun w27333 h27333 q27333 => ?_)
                  obtain ⟨v27334, rfl, lv27334, uv27334, g27333, kk27333⟩ := q27333
                  have k27333 := k27292.tr kk27333 (by decide)
                  show jEv _ _ _ _ _ _ _ (_, [(2, 0), (0, a1), (0, a2), (0, a3)], [(1, v27334)], _, _, _)
                  exact ev_ret rfl (by decide) (by decide) ⟨_, rfl, by omega, by omega, g27333, k27333⟩
                · refine ev_iload_n rfl ?_
                  refine ev_aload_n rfl ?_
                  refine ev_in (d := 3) (a := 0) (b := 0) (cd' := c157_0) (m := 1) (L0 := [(2, 1)]) (jcall_v (A := []) (S' := [(0, a2)]) (r := 1) rfl (g27292.lt ad1) (g27292.tg ad1) (Nat.le_of_ble_eq_true rfl)) (by decide) ml157 pp157 (Nat.le_of_ble_eq_true rfl) rfl (by decide) (by decide) ?_
                  refine ev_iconst ?_
                  refine ev_iconst ?_
                  refine ev_aload_n rfl ?_
                  refine g_getv (r := 1) (v := v27318) g27292 ad1 (by decide) ft10_0 (ev27318) ?_
                  refine ev_imul (r := (2 * v27318)) (by unfold w32; omega) ?_
                  refine g_ishlB (a' := 1) (a := 1) (b := 8) (hi := 256) (by omega) (by omega) (by omega) (by omega) (by decide) (by decide) (fun v27335 ev27335 lv27335 uv27335 => ?_)
                  refine ev_ret rfl (by decide) (by decide) ?_
                  show jEv _ _ _ _ _ _ _ (_, [(2, 1), (0, a2)], [(0, v27335), (0, a2)], _, _, _)
                  refine ev_icmplt f161_16 (fun c27336 => ?_) (fun c27336 => ?_)
                  · refine ev_aload_n rfl ?_
                    refine g_getp (r := 1) (c := 6) g27292 ad1 (by decide) (by decide) rf1_7 ft10_7 ?_
                    refine ev_iload_n rfl ?_
                    refine g_lald g27292 ad6 rt6 (by omega) (by omega) (fun v27337 ev27337 lv27337 uv27337 => ?_)
                    refine ev_ret rfl (by decide) (by decide) ?_
                    show jEv _ _ _ _ _ _ _ (_, [(2, 0), (0, a1), (0, a2), (0, a3)], [(1, v27337), (1, 0)], _, _, _)
                    refine ev_iload_n rfl ?_
                    refine ev_call (jcall_s (A := [(0, a3), (1, v27337), (1, 0)]) (S' := []) (by decide) rfl (Nat.le_of_ble_eq_true rfl)) (jOk_le (by decide) (s223 g27292 (by omega) (by omega) (by omega) (by omega) (by omega) (by omega))) (by decide) (by decide) (fun w27338 h27338 q27338 => ?_)
                    obtain ⟨v27339, rfl, lv27339, uv27339, g27338, kk27338⟩ := q27338
                    have k27338 := k27292.tr kk27338 (by decide)
                    show jEv _ _ _ _ _ _ _ (_, [(2, 0), (0, a1), (0, a2), (0, a3)], [(1, v27339)], _, _, _)
                    exact ev_ret rfl (by decide) (by decide) ⟨_, rfl, by omega, by omega, g27338, k27338⟩
                  · refine ev_lconst ?_
                    refine ev_goto f161_22 ?_
                    refine ev_ret rfl (by decide) (by decide) ?_
                    show jEv _ _ _ _ _ _ _ (_, [(2, 0), (0, a1), (0, a2), (0, a3)], [(1, 0), (1, 0)], _, _, _)
                    refine ev_iload_n rfl ?_
                    refine ev_call (jcall_s (A := [(0, a3), (1, 0), (1, 0)]) (S' := []) (by decide) rfl (Nat.le_of_ble_eq_true rfl)) (jOk_le (by decide) (s223 g27292 (by omega) (by omega) (by omega) (by omega) (by omega) (by omega))) (by decide) (by decide) (fun w27340 h27340 q27340 => ?_)
                    obtain ⟨v27341, rfl, lv27341, uv27341, g27340, kk27340⟩ := q27340
                    have k27340 := k27292.tr kk27340 (by decide)
                    show jEv _ _ _ _ _ _ _ (_, [(2, 0), (0, a1), (0, a2), (0, a3)], [(1, v27341)], _, _, _)
                    exact ev_ret rfl (by decide) (by decide) ⟨_, rfl, by omega, by omega, g27340, k27340⟩
          · refine ev_lconst ?_
            refine ev_goto f163_27 ?_
            refine ev_ret rfl (by decide) (by decide) ?_
            show jEv _ _ _ _ _ _ _ (_, [(2, 0), (0, a1), (0, a2), (0, a3)], [(1, 0)], _, _, _)
            refine ev_aload_n rfl ?_
            refine g_getp (r := 0) (c := 1) g27292 ad0 (by decide) (by decide) rf0_0 ft11_0 ?_
            refine ev_iload_n rfl ?_
            refine ev_in (d := 4) (a := 0) (b := 0) (cd' := c161_0) (m := 2) (L0 := [(2, 1), (0, a2)]) (jcall_v (A := [(0, a2)]) (S' := [(1, 0)]) (r := 1) rfl (g27292.lt ad1) (g27292.tg ad1) (Nat.le_of_ble_eq_true rfl)) (by decide) ml161 pp161 (Nat.le_of_ble_eq_true rfl) rfl (by decide) (by decide) ?_
            refine ev_iload_n rfl ?_
            refine ev_iflt f161_12 (fun c27342 => ?_) (fun c27342 => ?_)
            · refine ev_lconst ?_
              refine ev_goto f161_22 ?_
              refine ev_ret rfl (by decide) (by decide) ?_
              show jEv _ _ _ _ _ _ _ (_, [(2, 0), (0, a1), (0, a2), (0, a3)], [(1, 0), (1, 0)], _, _, _)
              refine ev_iload_n rfl ?_
              refine ev_call (jcall_s (A := [(0, a3), (1, 0), (1, 0)]) (S' := []) (by decide) rfl (Nat.le_of_ble_eq_true rfl)) (jOk_le (by decide) (s223 g27292 (by omega) (by omega) (by omega) (by omega) (by omega) (by omega))) (by decide) (by decide) (fun w27343 h27343 q27343 => ?_)
              obtain ⟨v27344, rfl, lv27344, uv27344, g27343, kk27343⟩ := q27343
              have k27343 := k27292.tr kk27343 (by decide)
              show jEv _ _ _ _ _ _ _ (_, [(2, 0), (0, a1), (0, a2), (0, a3)], [(1, v27344)], _, _, _)
              exact ev_ret rfl (by decide) (by decide) ⟨_, rfl, by omega, by omega, g27343, k27343⟩
            · refine ev_iload_n rfl ?_
              refine ev_aload_n rfl ?_
              refine ev_in (d := 3) (a := 0) (b := 0) (cd' := c157_0) (m := 1) (L0 := [(2, 1)]) (jcall_v (A := []) (S' := [(0, a2)]) (r := 1) rfl (g27292.lt ad1) (g27292.tg ad1) (Nat.le_of_ble_eq_true rfl)) (by decide) ml157 pp157 (Nat.le_of_ble_eq_true rfl) rfl (by decide) (by decide) ?_
              refine ev_iconst ?_
              refine ev_iconst ?_
              refine ev_aload_n rfl ?_
              obtain ⟨v27345, ev27345, lv27345, uv27345⟩ := g27292.rd ad1 (show 0 < 8 by decide) rf1_0
              refine g_getv (r := 1) (v := v27345) g27292 ad1 (by decide) ft10_0 ev27345 ?_
              refine ev_imul (r := (2 * v27345)) (by unfold w32; omega) ?_
              refine g_ishlB (a' := 1) (a := 1) (b := 8) (hi := 256) (by omega) (by omega) (by omega) (by omega) (by decide) (by decide) (fun v27346 ev27346 lv27346 uv27346 => ?_)
              refine ev_ret rfl (by decide) (by decide) ?_
              show jEv _ _ _ _ _ _ _ (_, [(2, 1), (0, a2)], [(0, v27346), (0, a2)], _, _, _)
              refine ev_icmplt f161_16 (fun c27347 => ?_) (fun c27347 => ?_)
              · refine ev_aload_n rfl ?_
                refine g_getp (r := 1) (c := 6) g27292 ad1 (by decide) (by decide) rf1_7 ft10_7 ?_
                refine ev_iload_n rfl ?_
                refine g_lald g27292 ad6 rt6 (by omega) (by omega) (fun v27348 ev27348 lv27348 uv27348 => ?_)
                refine ev_ret rfl (by decide) (by decide) ?_
                show jEv _ _ _ _ _ _ _ (_, [(2, 0), (0, a1), (0, a2), (0, a3)], [(1, v27348), (1, 0)], _, _, _)
                refine ev_iload_n rfl ?_
                refine ev_call (jcall_s (A := [(0, a3), (1, v27348), (1, 0)]) (S' := []) (by decide) rfl (Nat.le_of_ble_eq_true rfl)) (jOk_le (by decide) (s223 g27292 (by omega) (by omega) (by omega) (by omega) (by omega) (by omega))) (by decide) (by decide) (fun w27349 h27349 q27349 => ?_)
                obtain ⟨v27350, rfl, lv27350, uv27350, g27349, kk27349⟩ := q27349
                have k27349 := k27292.tr kk27349 (by decide)
                show jEv _ _ _ _ _ _ _ (_, [(2, 0), (0, a1), (0, a2), (0, a3)], [(1, v27350)], _, _, _)
                exact ev_ret rfl (by decide) (by decide) ⟨_, rfl, by omega, by omega, g27349, k27349⟩
              · refine ev_lconst ?_
                refine ev_goto f161_22 ?_
                refine ev_ret rfl (by decide) (by decide) ?_
                show jEv _ _ _ _ _ _ _ (_, [(2, 0), (0, a1), (0, a2), (0, a3)], [(1, 0), (1, 0)], _, _, _)
                refine ev_iload_n rfl ?_
                refine ev_call (jcall_s (A := [(0, a3), (1, 0), (1, 0)]) (S' := []) (by decide) rfl (Nat.le_of_ble_eq_true rfl)) (jOk_le (by decide) (s223 g27292 (by omega) (by omega) (by omega) (by omega) (by omega) (by omega))) (by decide) (by decide) (fun w27351 h27351 q27351 => ?_)
                obtain ⟨v27352, rfl, lv27352, uv27352, g27351, kk27351⟩ := q27351
                have k27351 := k27292.tr kk27351 (by decide)
                show jEv _ _ _ _ _ _ _ (_, [(2, 0), (0, a1), (0, a2), (0, a3)], [(1, v27352)], _, _, _)
                exact ev_ret rfl (by decide) (by decide) ⟨_, rfl, by omega, by omega, g27351, k27351⟩
        · refine ev_ldc2_w ?_
          exact ev_ret rfl (by decide) (by decide) ⟨_, rfl, by omega, by omega, g27292, k27292⟩
      · refine ev_iload_n rfl ?_
        refine ev_iconst ?_
        refine ev_icmpne f221_13 (fun c27353 => ?_) (fun c27353 => ?_)
        · refine ev_iconst ?_
          refine ev_ret rfl (by decide) (by decide) ?_
          show jEv _ _ _ _ _ _ _ (_, [(2, 0), (0, a1), (0, a2), (0, a3)], [(0, 0)], _, _, _)
          refine ev_ifne f171_33 (fun c27354 => absurd c27354 (by omega)) (fun c27354 => ?_)
          refine ev_ldc2_w ?_
          exact ev_ret rfl (by decide) (by decide) ⟨_, rfl, by omega, by omega, g27287, k27287⟩
        · refine ev_iconst ?_
          refine ev_goto f221_14 ?_
          refine ev_ret rfl (by decide) (by decide) ?_
          show jEv _ _ _ _ _ _ _ (_, [(2, 0), (0, a1), (0, a2), (0, a3)], [(0, 1)], _, _, _)
          refine ev_ifne f171_33 (fun c27355 => ?_) (fun c27355 => absurd c27355 (by omega))
          refine ev_aload_n rfl ?_
          refine g_getp (r := 0) (c := 1) g27287 ad0 (by decide) (by decide) rf0_0 ft11_0 ?_
          refine ev_call (jcall_v (A := []) (S' := []) (r := 1) rfl (g27287.lt ad1) (g27287.tg ad1) (Nat.le_of_ble_eq_true rfl)) (jOk_le (by decide) (s153 g27287 )) (by decide) (by decide) (fun w27356 h27356 q27356 => ?_)
          obtain ⟨v27357, rfl, lv27357, uv27357, g27356, kk27356⟩ := q27356
          have k27356 := k27287.tr kk27356 (by decide)
          show jEv _ _ _ _ _ _ _ (_, [(2, 0), (0, a1), (0, a2), (0, a3)], [(0, v27357)], _, _, _)
          refine ev_ifne f171_47 (fun c27358 => ?_) (fun c27358 => ?_)
          · refine ev_aload_n rfl ?_
            refine g_getp (r := 0) (c := 1) g27356 ad0 (by decide) (by decide) rf0_0 ft11_0 ?_
            refine ev_iload_n rfl ?_
            refine ev_iload_n rfl ?_
            refine ev_in (d := 4) (a := 0) (b := 0) (cd' := c163_0) (m := 3) (L0 := [(2, 1), (0, a1), (0, a2)]) (jcall_v (A := [(0, a2), (0, a1)]) (S' := []) (r := 1) rfl (g27356.lt ad1) (g27356.tg ad1) (Nat.le_of_ble_eq_true rfl)) (by decide) ml163 pp163 (Nat.le_of_ble_eq_true rfl) rfl (by decide) (by decide) ?_
            refine ev_iload_n rfl ?_
            refine ev_iload_n rfl ?_
            refine g_ixorG (fun v27359 ev27359 lv27359 uv27359 => ?_)
            refine ev_iload_n rfl ?_
            refine ev_in (d := 3) (a := 0) (b := 0) (cd' := c162_0) (m := 1) (L0 := [(0, a1)]) (jcall_s (A := [(0, a1)]) (S' := [(0, v27359)]) (by decide) rfl (Nat.le_of_ble_eq_true rfl)) (by decide) ml162 pp162 (Nat.le_of_ble_eq_true rfl) rfl (by decide) (by decide) ?_
            refine ev_iload_n rfl ?_
            refine ev_iload_n rfl ?_
            refine ev_iconst ?_
            refine g_ishrG (fun v27360 ev27360 lv27360 uv27360 => ?_)
            refine g_iorG (fun v27361 ev27361 lv27361 uv27361 => ?_)
            refine ev_bipush ?_
            refine g_iandB (b := 85) (by omega) (by omega) (by decide) (fun v27362 ev27362 lv27362 uv27362 => ?_)
            refine ev_iconst ?_
            refine ev_imul (r := (3 * v27362)) (by unfold w32; omega) ?_
            refine ev_ret rfl (by decide) (by decide) ?_
            show jEv _ _ _ _ _ _ _ (_, [(2, 1), (0, a1), (0, a2)], [(0, (3 * v27362)), (0, v27359)], _, _, _)
            refine g_iandB (b := 255) (by omega) (by omega) (by decide) (fun v27363 ev27363 lv27363 uv27363 => ?_)
            refine ev_iload_n rfl ?_
            refine ev_in (d := 3) (a := 0) (b := 0) (cd' := c162_0) (m := 1) (L0 := [(0, a2)]) (jcall_s (A := [(0, a2)]) (S' := [(0, v27363)]) (by decide) rfl (Nat.le_of_ble_eq_true rfl)) (by decide) ml162 pp162 (Nat.le_of_ble_eq_true rfl) rfl (by decide) (by decide) ?_
            refine ev_iload_n rfl ?_
            refine ev_iload_n rfl ?_
            refine ev_iconst ?_
            refine g_ishrG (fun v27364 ev27364 lv27364 uv27364 => ?_)
            refine g_iorG (fun v27365 ev27365 lv27365 uv27365 => ?_)
            refine ev_bipush ?_
            refine g_iandB (b := 85) (by omega) (by omega) (by decide) (fun v27366 ev27366 lv27366 uv27366 => ?_)
            refine ev_iconst ?_
            refine ev_imul (r := (3 * v27366)) (by unfold w32; omega) ?_
            refine ev_ret rfl (by decide) (by decide) ?_
            show jEv _ _ _ _ _ _ _ (_, [(2, 1), (0, a1), (0, a2)], [(0, (3 * v27366)), (0, v27363)], _, _, _)
            refine g_iandB (b := 255) (by omega) (by omega) (by decide) (fun v27367 ev27367 lv27367 uv27367 => ?_)
            refine ev_ifeq f163_20 (fun c27368 => ?_) (fun c27368 => ?_)
            · refine ev_aload_n rfl ?_
              refine ev_iload_n rfl ?_
              refine ev_iload_n rfl ?_
              refine g_iorG (fun v27369 ev27369 lv27369 uv27369 => ?_)
              refine ev_in (d := 3) (a := 0) (b := 0) (cd' := c161_0) (m := 2) (L0 := [(2, 1), (0, v27369)]) (jcall_v (A := [(0, v27369)]) (S' := []) (r := 1) rfl (g27356.lt ad1) (g27356.tg ad1) (Nat.le_of_ble_eq_true rfl)) (by decide) ml161 pp161 (Nat.le_of_ble_eq_true rfl) rfl (by decide) (by decide) ?_
              refine ev_iload_n rfl ?_
              refine ev_iflt f161_12 (fun c27370 => ?_) (fun c27370 => ?_)
              · refine ev_lconst ?_
                refine ev_goto f161_22 ?_
                refine ev_ret rfl (by decide) (by decide) ?_
                show jEv _ _ _ _ _ _ _ (_, [(2, 1), (0, a1), (0, a2)], [(1, 0)], _, _, _)
                refine ev_ret rfl (by decide) (by decide) ?_
                show jEv _ _ _ _ _ _ _ (_, [(2, 0), (0, a1), (0, a2), (0, a3)], [(1, 0)], _, _, _)
                refine ev_aload_n rfl ?_
                refine g_getp (r := 0) (c := 1) g27356 ad0 (by decide) (by decide) rf0_0 ft11_0 ?_
                refine ev_iload_n rfl ?_
                refine ev_in (d := 4) (a := 0) (b := 0) (cd' := c161_0) (m := 2) (L0 := [(2, 1), (0, a2)]) (jcall_v (A := [(0, a2)]) (S' := [(1, 0)]) (r := 1) rfl (g27356.lt ad1) (g27356.tg ad1) (Nat.le_of_ble_eq_true rfl)) (by decide) ml161 pp161 (Nat.le_of_ble_eq_true rfl) rfl (by decide) (by decide) ?_
                refine ev_iload_n rfl ?_
                refine ev_iflt f161_12 (fun c27371 => ?_) (fun c27371 => ?_)
                · refine ev_lconst ?_
                  refine ev_goto f161_22 ?_
                  refine ev_ret rfl (by decide) (by decide) ?_
                  show jEv _ _ _ _ _ _ _ (_, [(2, 0), (0, a1), (0, a2), (0, a3)], [(1, 0), (1, 0)], _, _, _)
                  refine ev_iload_n rfl ?_
                  refine ev_call (jcall_s (A := [(0, a3), (1, 0), (1, 0)]) (S' := []) (by decide) rfl (Nat.le_of_ble_eq_true rfl)) (jOk_le (by decide) (s223 g27356 (by omega) (by omega) (by omega) (by omega) (by omega) (by omega))) (by decide) (by decide) (fun w27372 h27372 q27372 => ?_)
                  obtain ⟨v27373, rfl, lv27373, uv27373, g27372, kk27372⟩ := q27372
                  have k27372 := k27356.tr kk27372 (by decide)
                  show jEv _ _ _ _ _ _ _ (_, [(2, 0), (0, a1), (0, a2), (0, a3)], [(1, v27373)], _, _, _)
                  exact ev_ret rfl (by decide) (by decide) ⟨_, rfl, by omega, by omega, g27372, k27372⟩
                · refine ev_iload_n rfl ?_
                  refine ev_aload_n rfl ?_
                  refine ev_in (d := 3) (a := 0) (b := 0) (cd' := c157_0) (m := 1) (L0 := [(2, 1)]) (jcall_v (A := []) (S' := [(0, a2)]) (r := 1) rfl (g27356.lt ad1) (g27356.tg ad1) (Nat.le_of_ble_eq_true rfl)) (by decide) ml157 pp157 (Nat.le_of_ble_eq_true rfl) rfl (by decide) (by decide) ?_
                  refine ev_iconst ?_
                  refine ev_iconst ?_
                  refine ev_aload_n rfl ?_
                  obtain ⟨v27374, ev27374, lv27374, uv27374⟩ := g27356.rd ad1 (show 0 < 8 by decide) rf1_0
                  refine g_getv (r := 1) (v := v27374) g27356 ad1 (by decide) ft10_0 ev27374 ?_
                  refine ev_imul (r := (2 * v27374)) (by unfold w32; omega) ?_
                  refine g_ishlB (a' := 1) (a := 1) (b := 8) (hi := 256) (by omega) (by omega) (by omega) (by omega) (by decide) (by decide) (fun v27375 ev27375 lv27375 uv27375 => ?_)
                  refine ev_ret rfl (by decide) (by decide) ?_
                  show jEv _ _ _ _ _ _ _ (_, [(2, 1), (0, a2)], [(0, v27375), (0, a2)], _, _, _)
                  refine ev_icmplt f161_16 (fun c27376 => ?_) (fun c27376 => ?_)
                  · refine ev_aload_n rfl ?_
                    refine g_getp (r := 1) (c := 6) g27356 ad1 (by decide) (by decide) rf1_7 ft10_7 ?_
                    refine ev_iload_n rfl ?_
                    refine g_lald g27356 ad6 rt6 (by omega) (by omega) (fun v27377 ev27377 lv27377 uv27377 => ?_)
                    refine ev_ret rfl (by decide) (by decide) ?_
                    show jEv _ _ _ _ _ _ _ (_, [(2, 0), (0, a1), (0, a2), (0, a3)], [(1, v27377), (1, 0)], _, _, _)
                    refine ev_iload_n rfl ?_
                    refine ev_call (jcall_s (A := [(0, a3), (1, v27377), (1, 0)]) (S' := []) (by decide) rfl (Nat.le_of_ble_eq_true rfl)) (jOk_le (by decide) (s223 g27356 (by omega) (by omega) (by omega) (by omega) (by omega) (by omega))) (by decide) (by decide) (fun w27378 h27378 q27378 => ?_)
                    obtain ⟨v27379, rfl, lv27379, uv27379, g27378, kk27378⟩ := q27378
                    have k27378 := k27356.tr kk27378 (by decide)
                    show jEv _ _ _ _ _ _ _ (_, [(2, 0), (0, a1), (0, a2), (0, a3)], [(1, v27379)], _, _, _)
                    exact ev_ret rfl (by decide) (by decide) ⟨_, rfl, by omega, by omega, g27378, k27378⟩
                  · refine ev_lconst ?_
                    refine ev_goto f161_22 ?_
                    refine ev_ret rfl (by decide) (by decide) ?_
                    show jEv _ _ _ _ _ _ _ (_, [(2, 0), (0, a1), (0, a2), (0, a3)], [(1, 0), (1, 0)], _, _, _)
                    refine ev_iload_n rfl ?_
                    refine ev_call (jcall_s (A := [(0, a3), (1, 0), (1, 0)]) (S' := []) (by decide) rfl (Nat.le_of_ble_eq_true rfl)) (jOk_le (by decide) (s223 g27356 (by omega) (by omega) (by omega) (by omega) (by omega) (by omega))) (by decide) (by decide) (fun w27380 h27380 q27380 => ?_)
                    obtain ⟨v27381, rfl, lv27381, uv27381, g27380, kk27380⟩ := q27380
                    have k27380 := k27356.tr kk27380 (by decide)
                    show jEv _ _ _ _ _ _ _ (_, [(2, 0), (0, a1), (0, a2), (0, a3)], [(1, v27381)], _, _, _)
                    exact ev_ret rfl (by decide) (by decide) ⟨_, rfl, by omega, by omega, g27380, k27380⟩
              · refine ev_iload_n rfl ?_
                refine ev_aload_n rfl ?_
                refine ev_in (d := 2) (a := 0) (b := 0) (cd' := c157_0) (m := 1) (L0 := [(2, 1)]) (jcall_v (A := []) (S' := [(0, v27369)]) (r := 1) rfl (g27356.lt ad1) (g27356.tg ad1) (Nat.le_of_ble_eq_true rfl)) (by decide) ml157 pp157 (Nat.le_of_ble_eq_true rfl) rfl (by decide) (by decide) ?_
                refine ev_iconst ?_
                refine ev_iconst ?_
                refine ev_aload_n rfl ?_
                obtain ⟨v27382, ev27382, lv27382, uv27382⟩ := g27356.rd ad1 (show 0 < 8 by decide) rf1_0
                refine g_getv (r := 1) (v := v27382) g27356 ad1 (by decide) ft10_0 ev27382 ?_
                refine ev_imul (r := (2 * v27382)) (by unfold w32; omega) ?_
                refine g_ishlB (a' := 1) (a := 1) (b := 8) (hi := 256) (by omega) (by omega) (by omega) (by omega) (by decide) (by decide) (fun v27383 ev27383 lv27383 uv27383 => ?_)
                refine ev_ret rfl (by decide) (by decide) ?_
                show jEv _ _ _ _ _ _ _ (_, [(2, 1), (0, v27369)], [(0, v27383), (0, v27369)], _, _, _)
                refine ev_icmplt f161_16 (fun c27384 => ?_) (fun c27384 => ?_)
                · refine ev_aload_n rfl ?_
                  refine g_getp (r := 1) (c := 6) g27356 ad1 (by decide) (by decide) rf1_7 ft10_7 ?_
                  refine ev_iload_n rfl ?_
                  refine g_lald g27356 ad6 rt6 (by omega) (by omega) (fun v27385 ev27385 lv27385 uv27385 => ?_)
                  refine ev_ret rfl (by decide) (by decide) ?_
                  show jEv _ _ _ _ _ _ _ (_, [(2, 1), (0, a1), (0, a2)], [(1, v27385)], _, _, _)
                  refine ev_ret rfl (by decide) (by decide) ?_
                  show jEv _ _ _ _ _ _ _ (_, [(2, 0), (0, a1), (0, a2), (0, a3)], [(1, v27385)], _, _, _)
                  refine ev_aload_n rfl ?_
                  refine g_getp (r := 0) (c := 1) g27356 ad0 (by decide) (by decide) rf0_0 ft11_0 ?_
                  refine ev_iload_n rfl ?_
                  refine ev_in (d := 4) (a := 0) (b := 0) (cd' := c161_0) (m := 2) (L0 := [(2, 1), (0, a2)]) (jcall_v (A := [(0, a2)]) (S' := [(1, v27385)]) (r := 1) rfl (g27356.lt ad1) (g27356.tg ad1) (Nat.le_of_ble_eq_true rfl)) (by decide) ml161 pp161 (Nat.le_of_ble_eq_true rfl) rfl (by decide) (by decide) ?_
                  refine ev_iload_n rfl ?_
                  refine ev_iflt f161_12 (fun c27386 => ?_) (fun c27386 => ?_)
                  · refine ev_lconst ?_
                    refine ev_goto f161_22 ?_
                    refine ev_ret rfl (by decide) (by decide) ?_
                    show jEv _ _ _ _ _ _ _ (_, [(2, 0), (0, a1), (0, a2), (0, a3)], [(1, 0), (1, v27385)], _, _, _)
                    refine ev_iload_n rfl ?_
                    refine ev_call (jcall_s (A := [(0, a3), (1, 0), (1, v27385)]) (S' := []) (by decide) rfl (Nat.le_of_ble_eq_true rfl)) (jOk_le (by decide) (s223 g27356 (by omega) (by omega) (by omega) (by omega) (by omega) (by omega))) (by decide) (by decide) (fun w27387 h27387 q27387 => ?_)
                    obtain ⟨v27388, rfl, lv27388, uv27388, g27387, kk27387⟩ := q27387
                    have k27387 := k27356.tr kk27387 (by decide)
                    show jEv _ _ _ _ _ _ _ (_, [(2, 0), (0, a1), (0, a2), (0, a3)], [(1, v27388)], _, _, _)
                    exact ev_ret rfl (by decide) (by decide) ⟨_, rfl, by omega, by omega, g27387, k27387⟩
                  · refine ev_iload_n rfl ?_
                    refine ev_aload_n rfl ?_
                    refine ev_in (d := 3) (a := 0) (b := 0) (cd' := c157_0) (m := 1) (L0 := [(2, 1)]) (jcall_v (A := []) (S' := [(0, a2)]) (r := 1) rfl (g27356.lt ad1) (g27356.tg ad1) (Nat.le_of_ble_eq_true rfl)) (by decide) ml157 pp157 (Nat.le_of_ble_eq_true rfl) rfl (by decide) (by decide) ?_
                    refine ev_iconst ?_
                    refine ev_iconst ?_
                    refine ev_aload_n rfl ?_
                    refine g_getv (r := 1) (v := v27382) g27356 ad1 (by decide) ft10_0 (ev27382) ?_
                    refine ev_imul (r := (2 * v27382)) (by unfold w32; omega) ?_
                    refine g_ishlB (a' := 1) (a := 1) (b := 8) (hi := 256) (by omega) (by omega) (by omega) (by omega) (by decide) (by decide) (fun v27389 ev27389 lv27389 uv27389 => ?_)
                    refine ev_ret rfl (by decide) (by decide) ?_
                    show jEv _ _ _ _ _ _ _ (_, [(2, 1), (0, a2)], [(0, v27389), (0, a2)], _, _, _)
                    refine ev_icmplt f161_16 (fun c27390 => ?_) (fun c27390 => ?_)
                    · refine ev_aload_n rfl ?_
                      refine g_getp (r := 1) (c := 6) g27356 ad1 (by decide) (by decide) rf1_7 ft10_7 ?_
                      refine ev_iload_n rfl ?_
                      refine g_lald g27356 ad6 rt6 (by omega) (by omega) (fun v27391 ev27391 lv27391 uv27391 => ?_)
                      refine ev_ret rfl (by decide) (by decide) ?_
                      show jEv _ _ _ _ _ _ _ (_, [(2, 0), (0, a1), (0, a2), (0, a3)], [(1, v27391), (1, v27385)], _, _, _)
                      refine ev_iload_n rfl ?_
                      refine ev_call (jcall_s (A := [(0, a3), (1, v27391), (1, v27385)]) (S' := []) (by decide) rfl (Nat.le_of_ble_eq_true rfl)) (jOk_le (by decide) (s223 g27356 (by omega) (by omega) (by omega) (by omega) (by omega) (by omega))) (by decide) (by decide) (fun w27392 h27392 q27392 => ?_)
                      obtain ⟨v27393, rfl, lv27393, uv27393, g27392, kk27392⟩ := q27392
                      have k27392 := k27356.tr kk27392 (by decide)
                      show jEv _ _ _ _ _ _ _ (_, [(2, 0), (0, a1), (0, a2), (0, a3)], [(1, v27393)], _, _, _)
                      exact ev_ret rfl (by decide) (by decide) ⟨_, rfl, by omega, by omega, g27392, k27392⟩
                    · refine ev_lconst ?_
                      refine ev_goto f161_22 ?_
                      refine ev_ret rfl (by decide) (by decide) ?_
                      show jEv _ _ _ _ _ _ _ (_, [(2, 0), (0, a1), (0, a2), (0, a3)], [(1, 0), (1, v27385)], _, _, _)
                      refine ev_iload_n rfl ?_
                      refine ev_call (jcall_s (A := [(0, a3), (1, 0), (1, v27385)]) (S' := []) (by decide) rfl (Nat.le_of_ble_eq_true rfl)) (jOk_le (by decide) (s223 g27356 (by omega) (by omega) (by omega) (by omega) (by omega) (by omega))) (by decide) (by decide) (fun w27394 h27394 q27394 => ?_)
                      obtain ⟨v27395, rfl, lv27395, uv27395, g27394, kk27394⟩ := q27394
                      have k27394 := k27356.tr kk27394 (by decide)
                      show jEv _ _ _ _ _ _ _ (_, [(2, 0), (0, a1), (0, a2), (0, a3)], [(1, v27395)], _, _, _)
                      exact ev_ret rfl (by decide) (by decide) ⟨_, rfl, by omega, by omega, g27394, k27394⟩
                · refine ev_lconst ?_
                  refine ev_goto f161_22 ?_
                  refine ev_ret rfl (by decide) (by decide) ?_
                  show jEv _ _ _ _ _ _ _ (_, [(2, 1), (0, a1), (0, a2)], [(1, 0)], _, _, _)
                  refine ev_ret rfl (by decide) (by decide) ?_
                  show jEv _ _ _ _ _ _ _ (_, [(2, 0), (0, a1), (0, a2), (0, a3)], [(1, 0)], _, _, _)
                  refine ev_aload_n rfl ?_
                  refine g_getp (r := 0) (c := 1) g27356 ad0 (by decide) (by decide) rf0_0 ft11_0 ?_
                  refine ev_iload_n rfl ?_
                  refine ev_in (d := 4) (a := 0) (b := 0) (cd' := c161_0) (m := 2) (L0 := [(2, 1), (0, a2)]) (jcall_v (A := [(0, a2)]) (S' := [(1, 0)]) (r := 1) rfl (g27356.lt ad1) (g27356.tg ad1) (Nat.le_of_ble_eq_true rfl)) (by decide) ml161 pp161 (Nat.le_of_ble_eq_true rfl) rfl (by decide) (by decide) ?_
                  refine ev_iload_n rfl ?_
                  refine ev_iflt f161_12 (fun c27396 => ?_) (fun c27396 => ?_)
                  · refine ev_lconst ?_
                    refine ev_goto f161_22 ?_
                    refine ev_ret rfl (by decide) (by decide) ?_
                    show jEv _ _ _ _ _ _ _ (_, [(2, 0), (0, a1), (0, a2), (0, a3)], [(1, 0), (1, 0)], _, _, _)
                    refine ev_iload_n rfl ?_
                    refine ev_call (jcall_s (A := [(0, a3), (1, 0), (1, 0)]) (S' := []) (by decide) rfl (Nat.le_of_ble_eq_true rfl)) (jOk_le (by decide) (s223 g27356 (by omega) (by omega) (by omega) (by omega) (by omega) (by omega))) (by decide) (by decide) (fun w27397 h27397 q27397 => ?_)
                    obtain ⟨v27398, rfl, lv27398, uv27398, g27397, kk27397⟩ := q27397
                    have k27397 := k27356.tr kk27397 (by decide)
                    show jEv _ _ _ _ _ _ _ (_, [(2, 0), (0, a1), (0, a2), (0, a3)], [(1, v27398)], _, _, _)
                    exact ev_ret rfl (by decide) (by decide) ⟨_, rfl, by omega, by omega, g27397, k27397⟩
                  · refine ev_iload_n rfl ?_
                    refine ev_aload_n rfl ?_
                    refine ev_in (d := 3) (a := 0) (b := 0) (cd' := c157_0) (m := 1) (L0 := [(2, 1)]) (jcall_v (A := []) (S' := [(0, a2)]) (r := 1) rfl (g27356.lt ad1) (g27356.tg ad1) (Nat.le_of_ble_eq_true rfl)) (by decide) ml157 pp157 (Nat.le_of_ble_eq_true rfl) rfl (by decide) (by decide) ?_
                    refine ev_iconst ?_
                    refine ev_iconst ?_
                    refine ev_aload_n rfl ?_
                    refine g_getv (r := 1) (v := v27382) g27356 ad1 (by decide) ft10_0 (ev27382) ?_
                    refine ev_imul (r := (2 * v27382)) (by unfold w32; omega) ?_
                    refine g_ishlB (a' := 1) (a := 1) (b := 8) (hi := 256) (by omega) (by omega) (by omega) (by omega) (by decide) (by decide) (fun v27399 ev27399 lv27399 uv27399 => ?_)
                    refine ev_ret rfl (by decide) (by decide) ?_
                    show jEv _ _ _ _ _ _ _ (_, [(2, 1), (0, a2)], [(0, v27399), (0, a2)], _, _, _)
                    refine ev_icmplt f161_16 (fun c27400 => ?_) (fun c27400 => ?_)
                    · refine ev_aload_n rfl ?_
                      refine g_getp (r := 1) (c := 6) g27356 ad1 (by decide) (by decide) rf1_7 ft10_7 ?_
                      refine ev_iload_n rfl ?_
                      refine g_lald g27356 ad6 rt6 (by omega) (by omega) (fun v27401 ev27401 lv27401 uv27401 => ?_)
                      refine ev_ret rfl (by decide) (by decide) ?_
                      show jEv _ _ _ _ _ _ _ (_, [(2, 0), (0, a1), (0, a2), (0, a3)], [(1, v27401), (1, 0)], _, _, _)
                      refine ev_iload_n rfl ?_
                      refine ev_call (jcall_s (A := [(0, a3), (1, v27401), (1, 0)]) (S' := []) (by decide) rfl (Nat.le_of_ble_eq_true rfl)) (jOk_le (by decide) (s223 g27356 (by omega) (by omega) (by omega) (by omega) (by omega) (by omega))) (by decide) (by decide) (fun w27402 h27402 q27402 => ?_)
                      obtain ⟨v27403, rfl, lv27403, uv27403, g27402, kk27402⟩ := q27402
                      have k27402 := k27356.tr kk27402 (by decide)
                      show jEv _ _ _ _ _ _ _ (_, [(2, 0), (0, a1), (0, a2), (0, a3)], [(1, v27403)], _, _, _)
                      exact ev_ret rfl (by decide) (by decide) ⟨_, rfl, by omega, by omega, g27402, k27402⟩
                    · refine ev_lconst ?_
                      refine ev_goto f161_22 ?_
                      refine ev_ret rfl (by decide) (by decide) ?_
                      show jEv _ _ _ _ _ _ _ (_, [(2, 0), (0, a1), (0, a2), (0, a3)], [(1, 0), (1, 0)], _, _, _)
                      refine ev_iload_n rfl ?_
                      refine ev_call (jcall_s (A := [(0, a3), (1, 0), (1, 0)]) (S' := []) (by decide) rfl (Nat.le_of_ble_eq_true rfl)) (jOk_le (by decide) (s223 g27356 (by omega) (by omega) (by omega) (by omega) (by omega) (by omega))) (by decide) (by decide) (fun w27404 h27404 q27404 => ?_)
                      obtain ⟨v27405, rfl, lv27405, uv27405, g27404, kk27404⟩ := q27404
                      have k27404 := k27356.tr kk27404 (by decide)
                      show jEv _ _ _ _ _ _ _ (_, [(2, 0), (0, a1), (0, a2), (0, a3)], [(1, v27405)], _, _, _)
                      exact ev_ret rfl (by decide) (by decide) ⟨_, rfl, by omega, by omega, g27404, k27404⟩
            · refine ev_lconst ?_
              refine ev_goto f163_27 ?_
              refine ev_ret rfl (by decide) (by decide) ?_
              show jEv _ _ _ _ _ _ _ (_, [(2, 0), (0, a1), (0, a2), (0, a3)], [(1, 0)], _, _, _)
              refine ev_aload_n rfl ?_
              refine g_getp (r := 0) (c := 1) g27356 ad0 (by decide) (by decide) rf0_0 ft11_0 ?_
              refine ev_iload_n rfl ?_
              refine ev_in (d := 4) (a := 0) (b := 0) (cd' := c161_0) (m := 2) (L0 := [(2, 1), (0, a2)]) (jcall_v (A := [(0, a2)]) (S' := [(1, 0)]) (r := 1) rfl (g27356.lt ad1) (g27356.tg ad1) (Nat.le_of_ble_eq_true rfl)) (by decide) ml161 pp161 (Nat.le_of_ble_eq_true rfl) rfl (by decide) (by decide) ?_
              refine ev_iload_n rfl ?_
              refine ev_iflt f161_12 (fun c27406 => ?_) (fun c27406 => ?_)
              · refine ev_lconst ?_
                refine ev_goto f161_22 ?_
                refine ev_ret rfl (by decide) (by decide) ?_
                show jEv _ _ _ _ _ _ _ (_, [(2, 0), (0, a1), (0, a2), (0, a3)], [(1, 0), (1, 0)], _, _, _)
                refine ev_iload_n rfl ?_
                refine ev_call (jcall_s (A := [(0, a3), (1, 0), (1, 0)]) (S' := []) (by decide) rfl (Nat.le_of_ble_eq_true rfl)) (jOk_le (by decide) (s223 g27356 (by omega) (by omega) (by omega) (by omega) (by omega) (by omega))) (by decide) (by decide) (fun w27407 h27407 q27407 => ?_)
                obtain ⟨v27408, rfl, lv27408, uv27408, g27407, kk27407⟩ := q27407
                have k27407 := k27356.tr kk27407 (by decide)
                show jEv _ _ _ _ _ _ _ (_, [(2, 0), (0, a1), (0, a2), (0, a3)], [(1, v27408)], _, _, _)
                exact ev_ret rfl (by decide) (by decide) ⟨_, rfl, by omega, by omega, g27407, k27407⟩
              · refine ev_iload_n rfl ?_
                refine ev_aload_n rfl ?_
                refine ev_in (d := 3) (a := 0) (b := 0) (cd' := c157_0) (m := 1) (L0 := [(2, 1)]) (jcall_v (A := []) (S' := [(0, a2)]) (r := 1) rfl (g27356.lt ad1) (g27356.tg ad1) (Nat.le_of_ble_eq_true rfl)) (by decide) ml157 pp157 (Nat.le_of_ble_eq_true rfl) rfl (by decide) (by decide) ?_
                refine ev_iconst ?_
                refine ev_iconst ?_
                refine ev_aload_n rfl ?_
                obtain ⟨v27409, ev27409, lv27409, uv27409⟩ := g27356.rd ad1 (show 0 < 8 by decide) rf1_0
                refine g_getv (r := 1) (v := v27409) g27356 ad1 (by decide) ft10_0 ev27409 ?_
                refine ev_imul (r := (2 * v27409)) (by unfold w32; omega) ?_
                refine g_ishlB (a' := 1) (a := 1) (b := 8) (hi := 256) (by omega) (by omega) (by omega) (by omega) (by decide) (by decide) (fun v27410 ev27410 lv27410 uv27410 => ?_)
                refine ev_ret rfl (by decide) (by decide) ?_
                show jEv _ _ _ _ _ _ _ (_, [(2, 1), (0, a2)], [(0, v27410), (0, a2)], _, _, _)
                refine ev_icmplt f161_16 (fun c27411 => ?_) (fun c27411 => ?_)
                · refine ev_aload_n rfl ?_
                  refine g_getp (r := 1) (c := 6) g27356 ad1 (by decide) (by decide) rf1_7 ft10_7 ?_
                  refine ev_iload_n rfl ?_
                  refine g_lald g27356 ad6 rt6 (by omega) (by omega) (fun v27412 ev27412 lv27412 uv27412 => ?_)
                  refine ev_ret rfl (by decide) (by decide) ?_
                  show jEv _ _ _ _ _ _ _ (_, [(2, 0), (0, a1), (0, a2), (0, a3)], [(1, v27412), (1, 0)], _, _, _)
                  refine ev_iload_n rfl ?_
                  refine ev_call (jcall_s (A := [(0, a3), (1, v27412), (1, 0)]) (S' := []) (by decide) rfl (Nat.le_of_ble_eq_true rfl)) (jOk_le (by decide) (s223 g27356 (by omega) (by omega) (by omega) (by omega) (by omega) (by omega))) (by decide) (by decide) (fun w27413 h27413 q27413 => ?_)
                  obtain ⟨v27414, rfl, lv27414, uv27414, g27413, kk27413⟩ := q27413
                  have k27413 := k27356.tr kk27413 (by decide)
                  show jEv _ _ _ _ _ _ _ (_, [(2, 0), (0, a1), (0, a2), (0, a3)], [(1, v27414)], _, _, _)
                  exact ev_ret rfl (by decide) (by decide) ⟨_, rfl, by omega, by omega, g27413, k27413⟩
                · refine ev_lconst ?_
                  refine ev_goto f161_22 ?_
                  refine ev_ret rfl (by decide) (by decide) ?_
                  show jEv _ _ _ _ _ _ _ (_, [(2, 0), (0, a1), (0, a2), (0, a3)], [(1, 0), (1, 0)], _, _, _)
                  refine ev_iload_n rfl ?_
                  refine ev_call (jcall_s (A := [(0, a3), (1, 0), (1, 0)]) (S' := []) (by decide) rfl (Nat.le_of_ble_eq_true rfl)) (jOk_le (by decide) (s223 g27356 (by omega) (by omega) (by omega) (by omega) (by omega) (by omega))) (by decide) (by decide) (fun w27415 h27415 q27415 => ?_)
                  obtain ⟨v27416, rfl, lv27416, uv27416, g27415, kk27415⟩ := q27415
                  have k27415 := k27356.tr kk27415 (by decide)
                  show jEv _ _ _ _ _ _ _ (_, [(2, 0), (0, a1), (0, a2), (0, a3)], [(1, v27416)], _, _, _)
                  exact ev_ret rfl (by decide) (by decide) ⟨_, rfl, by omega, by omega, g27415, k27415⟩
          · refine ev_ldc2_w ?_
            exact ev_ret rfl (by decide) (by decide) ⟨_, rfl, by omega, by omega, g27356, k27356⟩
/-! 172 feed -/
set_option maxHeartbeats 4000000 in
theorem s172 {G : GH} {h : JH} (g : Gd G h) {a1 : Int} (la1 : (-2147483648) ≤ a1) (ua1 : a1 ≤ 2147483647) {a2 : Int} (la2 : (-2147483648) ≤ a2) (ua2 : a2 ≤ 2147483647) : jOk 2 0 0 172 [(2, 0), (0, a1), (0, a2)] h (PI G [(7, 1), (8, 0)] h 0 (-3) 200) := by
  refine ⟨by decide, by rw [ml172]; exact Nat.le_of_ble_eq_true rfl, ?_⟩
  rw [ml172, pp172]
  show jEv _ none _ c172_0 0 0 _ (c172_0, [(2, 0), (0, a1), (0, a2)], [], h, 0, 0)
  have k0 := Kp.rf [(7, 1), (8, 0)] h
  refine ev_iload_n rfl ?_
  refine ev_iconst ?_
  refine ev_icmplt f172_10 (fun c27433 => ?_) (fun c27433 => ?_)
  · refine ev_iconst ?_
    exact ev_ret rfl (by decide) (by decide) ⟨_, rfl, by omega, by omega, g, k0⟩
  · refine ev_iload_n rfl ?_
    refine ev_iconst ?_
    refine ev_icmple f172_12 (fun c27434 => ?_) (fun c27434 => ?_)
    · refine ev_aload_n rfl ?_
      refine g_getp (r := 0) (c := 7) g ad0 (by decide) (by decide) rf0_1 ft11_1 ?_
      refine ev_iload_n rfl ?_
      refine ev_in (d := 0) (a := 0) (b := 0) (cd' := c63_0) (m := 2) (L0 := [(2, 7), (0, a1)]) (jcall_v (A := [(0, a1)]) (S' := []) (r := 7) rfl (g.lt ad7) (g.tg ad7) (Nat.le_of_ble_eq_true rfl)) (by decide) ml63 pp63 (Nat.le_of_ble_eq_true rfl) rfl (by decide) (by decide) ?_
      refine ev_iload_n rfl ?_
      refine ev_sipush ?_
      refine ev_aload_n rfl ?_
      obtain ⟨v27435, ev27435, lv27435, uv27435⟩ := g.rd ad7 (show 0 < 15 by decide) rf7_0
      refine g_getv (r := 7) (v := v27435) g ad7 (by decide) ft5_0 ev27435 ?_
      refine ev_isub (r := ((-v27435) + 200)) (by unfold w32; omega) ?_
      refine ev_icmpgt f63_16 (fun c27436 => ?_) (fun c27436 => ?_)
      · refine ev_iconst ?_
        refine ev_ret rfl (by decide) (by decide) ?_
        show jEv _ _ _ _ _ _ _ (_, [(2, 0), (0, a1), (0, a2)], [(0, 0)], _, _, _)
        refine ev_ifeq f172_35 (fun c27437 => ?_) (fun c27437 => absurd c27437 (by omega))
        refine ev_bipush ?_
        exact ev_ret rfl (by decide) (by decide) ⟨_, rfl, by omega, by omega, g, k0⟩
      · refine ev_iconst ?_
        refine ev_goto f63_17 ?_
        refine ev_ret rfl (by decide) (by decide) ?_
        show jEv _ _ _ _ _ _ _ (_, [(2, 0), (0, a1), (0, a2)], [(0, 1)], _, _, _)
        refine ev_ifeq f172_35 (fun c27438 => absurd c27438 (by omega)) (fun c27438 => ?_)
        refine ev_aload_n rfl ?_
        refine g_getp (r := 0) (c := 7) g ad0 (by decide) (by decide) rf0_1 ft11_1 ?_
        refine ev_iload_n rfl ?_
        refine ev_iload_n rfl ?_
        refine ev_call (jcall_v (A := [(0, a2), (0, a1)]) (S' := []) (r := 7) rfl (g.lt ad7) (g.tg ad7) (Nat.le_of_ble_eq_true rfl)) (jOk_le (by decide) (s64 g (by omega) (by omega) (by omega) (by omega))) (by decide) (by decide) (fun w27439 h27439 q27439 => ?_)
        obtain ⟨v27440, rfl, lv27440, uv27440, g27439, kk27439⟩ := q27439
        have k27439 := k0.tr kk27439 (by decide)
        show jEv _ _ _ _ _ _ _ (_, [(2, 0), (0, a1), (0, a2)], [(0, v27440)], _, _, _)
        refine ev_goto f172_37 ?_
        exact ev_ret rfl (by decide) (by decide) ⟨_, rfl, by omega, by omega, g27439, k27439⟩
    · refine ev_iconst ?_
      exact ev_ret rfl (by decide) (by decide) ⟨_, rfl, by omega, by omega, g, k0⟩
/-! 174 node -/
set_option maxHeartbeats 4000000 in
theorem s174 {G : GH} {h : JH} (g : Gd G h) {a1 : Int} (la1 : (-2147483648) ≤ a1) (ua1 : a1 ≤ 2147483647) {a2 : Int} (la2 : (-2147483648) ≤ a2) (ua2 : a2 ≤ 2147483647) {a3 : Int} (la3 : (-2147483648) ≤ a3) (ua3 : a3 ≤ 2147483647) : jOk 4 0 0 174 [(2, 0), (0, a1), (0, a2), (0, a3)] h (PI G [] h 0 (-2147483648) 2147483647) := by
  refine ⟨by decide, by rw [ml174]; exact Nat.le_of_ble_eq_true rfl, ?_⟩
  rw [ml174, pp174]
  show jEv _ none _ c174_0 0 0 _ (c174_0, [(2, 0), (0, a1), (0, a2), (0, a3), (9, 0)], [], h, 0, 0)
  have k0 := Kp.rf [] h
  refine ev_aload_n rfl ?_
  refine ev_iload_n rfl ?_
  refine ev_in (d := 2) (a := 0) (b := 0) (cd' := c219_0) (m := 2) (L0 := [(2, 0), (0, a1)]) (jcall_v (A := [(0, a1)]) (S' := []) (r := 0) rfl (g.lt ad0) (g.tg ad0) (Nat.le_of_ble_eq_true rfl)) (by decide) ml219 pp219 (Nat.le_of_ble_eq_true rfl) rfl (by decide) (by decide) ?_
  refine ev_iload_n rfl ?_
  refine ev_iflt f219_12 (fun c27565 => ?_) (fun c27565 => ?_)
  · refine ev_aconst_null ?_
    refine ev_goto f219_22 ?_
    refine ev_ret rfl (by decide) (by decide) ?_
    show jEv _ _ _ _ _ _ _ (_, [(2, 0), (0, a1), (0, a2), (0, a3), (9, 0)], [(2, (-1))], _, _, _)
    refine ev_astore (L' := [(2, 0), (0, a1), (0, a2), (0, a3), (2, (-1))]) (Nat.le_of_ble_eq_true rfl) rfl ?_
    refine ev_aload rfl ?_
    refine ev_ifnonnull f174_15 (fun c27566 => absurd c27566 (by decide)) (fun c27566 => ?_)
    refine ev_ldc ?_
    exact ev_ret rfl (by decide) (by decide) ⟨_, rfl, by omega, by omega, g, k0⟩
  · refine ev_iload_n rfl ?_
    refine ev_aload_n rfl ?_
    obtain ⟨v27567, ev27567, lv27567, uv27567⟩ := g.rd ad0 (show 3 < 17 by decide) rf0_3
    refine g_getv (r := 0) (v := v27567) g ad0 (by decide) ft11_3 ev27567 ?_
    refine ev_icmplt f219_16 (fun c27568 => ?_) (fun c27568 => ?_)
    · refine ev_aload_n rfl ?_
      refine g_getp (r := 0) (c := 18) g ad0 (by decide) (by decide) rf0_2 ft11_2 ?_
      refine ev_iload_n rfl ?_
      refine g_qaald (g) (i := a1) (ev27567) (by omega) (by omega) (fun r27569 m27570 qr27569 => ?_)
      have wr27569 := g.qb qr27569
      have zr27569 := qr27569.1
      refine ev_ret rfl (by decide) (by decide) ?_
      show jEv _ _ _ _ _ _ _ (_, [(2, 0), (0, a1), (0, a2), (0, a3), (9, 0)], [(2, (r27569 : Int))], _, _, _)
      refine ev_astore (L' := [(2, 0), (0, a1), (0, a2), (0, a3), (2, (r27569 : Int))]) (Nat.le_of_ble_eq_true rfl) rfl ?_
      refine ev_aload rfl ?_
      refine ev_ifnonnull f174_15 (fun c27571 => ?_) (fun c27571 => absurd c27571 (by omega))
      refine ev_iload_n rfl ?_
      refine ev_iconst ?_
      refine ev_icmpne f174_26 (fun c27572 => ?_) (fun c27572 => ?_)
      · refine ev_aload rfl ?_
        refine ev_iload_n rfl ?_
        refine ev_in (d := 2) (a := 0) (b := 0) (cd' := c24_0) (m := 2) (L0 := [(2, (r27569 : Int)), (0, a2)]) (jcall_v (A := [(0, a2)]) (S' := []) (r := r27569) rfl (g.qlt qr27569) (g.qtg qr27569) (Nat.le_of_ble_eq_true rfl)) (by decide) ml24 pp24 (Nat.le_of_ble_eq_true rfl) rfl (by decide) (by decide) ?_
        refine ev_iload_n rfl ?_
        refine ev_iflt f24_16 (fun c27573 => ?_) (fun c27573 => ?_)
        · refine ev_iconst ?_
          refine ev_ret rfl (by decide) (by decide) ?_
          show jEv _ _ _ _ _ _ _ (_, [(2, 0), (0, a1), (0, a2), (0, a3), (2, (r27569 : Int))], [(0, 0)], _, _, _)
          refine ev_ifne f174_38 (fun c27574 => absurd c27574 (by omega)) (fun c27574 => ?_)
          refine ev_ldc ?_
          exact ev_ret rfl (by decide) (by decide) ⟨_, rfl, by omega, by omega, g, k0⟩
        · refine ev_iload_n rfl ?_
          refine ev_aload_n rfl ?_
          obtain ⟨v27575, ev27575, lv27575, uv27575⟩ := g.q0 qr27569
          refine g_qgetv (v := v27575) g qr27569 ft4_0 ev27575 ?_
          refine ev_icmpge f24_16 (fun c27576 => ?_) (fun c27576 => ?_)
          · refine ev_iconst ?_
            refine ev_ret rfl (by decide) (by decide) ?_
            show jEv _ _ _ _ _ _ _ (_, [(2, 0), (0, a1), (0, a2), (0, a3), (2, (r27569 : Int))], [(0, 0)], _, _, _)
            refine ev_ifne f174_38 (fun c27577 => absurd c27577 (by omega)) (fun c27577 => ?_)
            refine ev_ldc ?_
            exact ev_ret rfl (by decide) (by decide) ⟨_, rfl, by omega, by omega, g, k0⟩
          · refine ev_iconst ?_
            refine ev_goto f24_17 ?_
            refine ev_ret rfl (by decide) (by decide) ?_
            show jEv _ _ _ _ _ _ _ (_, [(2, 0), (0, a1), (0, a2), (0, a3), (2, (r27569 : Int))], [(0, 1)], _, _, _)
            refine ev_ifne f174_38 (fun c27578 => ?_) (fun c27578 => absurd c27578 (by omega))
            refine ev_iload_n rfl ?_
            refine ev_ifne f174_49 (fun c27579 => ?_) (fun c27579 => ?_)
            · refine ev_iload_n rfl ?_
              refine ev_iconst ?_
              refine ev_icmpne f174_80 (fun c27580 => ?_) (fun c27580 => ?_)
              · refine ev_iload_n rfl ?_
                refine ev_bipush ?_
                refine ev_icmplt f174_110 (fun c27581 => ?_) (fun c27581 => ?_)
                · refine ev_iload_n rfl ?_
                  refine ev_bipush ?_
                  refine ev_icmplt f174_142 (fun c27582 => ?_) (fun c27582 => ?_)
                  · refine ev_ldc ?_
                    exact ev_ret rfl (by decide) (by decide) ⟨_, rfl, by omega, by omega, g, k0⟩
                  · refine ev_aload rfl ?_
                    refine ev_iload_n rfl ?_
                    refine ev_iload_n rfl ?_
                    refine ev_bipush ?_
                    refine ev_isub (r := (a3 - 10)) (by unfold w32; omega) ?_
                    refine ev_in (d := 2) (a := 0) (b := 0) (cd' := c25_0) (m := 3) (L0 := [(2, (r27569 : Int)), (0, a2), (0, (a3 - 10))]) (jcall_v (A := [(0, (a3 - 10)), (0, a2)]) (S' := []) (r := r27569) rfl (g.qlt qr27569) (g.qtg qr27569) (Nat.le_of_ble_eq_true rfl)) (by decide) ml25 pp25 (Nat.le_of_ble_eq_true rfl) rfl (by decide) (by decide) ?_
                    refine ev_aload_n rfl ?_
                    refine ev_iload_n rfl ?_
                    refine ev_in (d := 1) (a := 0) (b := 0) (cd' := c24_0) (m := 2) (L0 := [(2, (r27569 : Int)), (0, a2)]) (jcall_v (A := [(0, a2)]) (S' := []) (r := r27569) rfl (g.qlt qr27569) (g.qtg qr27569) (Nat.le_of_ble_eq_true rfl)) (by decide) ml24 pp24 (Nat.le_of_ble_eq_true rfl) rfl (by decide) (by decide) ?_
                    refine ev_iload_n rfl ?_
                    refine ev_iflt f24_16 (fun c27583 => absurd c27583 (by omega)) (fun c27583 => ?_)
                    refine ev_iload_n rfl ?_
                    refine ev_aload_n rfl ?_
                    refine g_qgetv (v := v27575) g qr27569 ft4_0 (ev27575) ?_
                    refine ev_icmpge f24_16 (fun c27584 => absurd c27584 (by omega)) (fun c27584 => ?_)
                    refine ev_iconst ?_
                    refine ev_goto f24_17 ?_
                    refine ev_ret rfl (by decide) (by decide) ?_
                    show jEv _ _ _ _ _ _ _ (_, [(2, (r27569 : Int)), (0, a2), (0, (a3 - 10))], [(0, 1)], _, _, _)
                    refine ev_ifeq f25_26 (fun c27585 => absurd c27585 (by omega)) (fun c27585 => ?_)
                    refine ev_iload_n rfl ?_
                    refine ev_iflt f25_26 (fun c27586 => absurd c27586 (by omega)) (fun c27586 => ?_)
                    refine ev_iload_n rfl ?_
                    refine ev_aload_n rfl ?_
                    refine g_qgetp g qr27569 (c := 4) (by decide) (by decide) ft4_4 ?_
                    refine ev_iload_n rfl ?_
                    refine g_qiald g qr27569 (c := 4) (by decide) (by decide) (by decide) (by omega) (by show a2 < m27570; omega) rfl (fun v27587 ev27587 lv27587 uv27587 => ?_)
                    refine ev_icmpge f25_26 (fun c27588 => ?_) (fun c27588 => ?_)
                    · refine ev_iconst ?_
                      refine ev_ret rfl (by decide) (by decide) ?_
                      show jEv _ _ _ _ _ _ _ (_, [(2, 0), (0, a1), (0, a2), (0, a3), (2, (r27569 : Int))], [(0, 0)], _, _, _)
                      refine ev_ifeq f174_142 (fun c27589 => ?_) (fun c27589 => absurd c27589 (by omega))
                      refine ev_ldc ?_
                      exact ev_ret rfl (by decide) (by decide) ⟨_, rfl, by omega, by omega, g, k0⟩
                    · refine ev_iconst ?_
                      refine ev_goto f25_27 ?_
                      refine ev_ret rfl (by decide) (by decide) ?_
                      show jEv _ _ _ _ _ _ _ (_, [(2, 0), (0, a1), (0, a2), (0, a3), (2, (r27569 : Int))], [(0, 1)], _, _, _)
                      refine ev_ifeq f174_142 (fun c27590 => absurd c27590 (by omega)) (fun c27590 => ?_)
                      refine ev_aload rfl ?_
                      refine ev_iload_n rfl ?_
                      refine ev_iload_n rfl ?_
                      refine ev_bipush ?_
                      refine ev_isub (r := (a3 - 10)) (by unfold w32; omega) ?_
                      refine ev_in (d := 2) (a := 0) (b := 0) (cd' := c30_0) (m := 3) (L0 := [(2, (r27569 : Int)), (0, a2), (0, (a3 - 10))]) (jcall_v (A := [(0, (a3 - 10)), (0, a2)]) (S' := []) (r := r27569) rfl (g.qlt qr27569) (g.qtg qr27569) (Nat.le_of_ble_eq_true rfl)) (by decide) ml30 pp30 (Nat.le_of_ble_eq_true rfl) rfl (by decide) (by decide) ?_
                      refine ev_aload_n rfl ?_
                      refine g_qgetp g qr27569 (c := 5) (by decide) (by decide) ft4_5 ?_
                      refine ev_iconst ?_
                      refine ev_iload_n rfl ?_
                      refine ev_imul (r := (4 * a2)) (by unfold w32; omega) ?_
                      refine ev_iload_n rfl ?_
                      refine ev_iadd (r := (4 * a2 + a3 - 10)) (by unfold w32; omega) ?_
                      refine g_qiald g qr27569 (c := 5) (by decide) (by decide) (by decide) (by omega) (by show (4 * a2 + a3 - 10) < 4 * m27570; omega) rfl (fun v27591 ev27591 lv27591 uv27591 => ?_)
                      refine ev_ret rfl (by decide) (by decide) ?_
                      show jEv _ _ _ _ _ _ _ (_, [(2, 0), (0, a1), (0, a2), (0, a3), (2, (r27569 : Int))], [(0, v27591)], _, _, _)
                      refine ev_goto f174_144 ?_
                      exact ev_ret rfl (by decide) (by decide) ⟨_, rfl, by omega, by omega, g, k0⟩
                · refine ev_aload rfl ?_
                  refine ev_iload_n rfl ?_
                  refine ev_iload_n rfl ?_
                  refine ev_bipush ?_
                  refine ev_isub (r := (a3 - 20)) (by unfold w32; omega) ?_
                  refine ev_in (d := 2) (a := 0) (b := 0) (cd' := c26_0) (m := 3) (L0 := [(2, (r27569 : Int)), (0, a2), (0, (a3 - 20))]) (jcall_v (A := [(0, (a3 - 20)), (0, a2)]) (S' := []) (r := r27569) rfl (g.qlt qr27569) (g.qtg qr27569) (Nat.le_of_ble_eq_true rfl)) (by decide) ml26 pp26 (Nat.le_of_ble_eq_true rfl) rfl (by decide) (by decide) ?_
                  refine ev_aload_n rfl ?_
                  refine ev_iload_n rfl ?_
                  refine ev_iload_n rfl ?_
                  refine ev_in (d := 1) (a := 0) (b := 0) (cd' := c25_0) (m := 3) (L0 := [(2, (r27569 : Int)), (0, a2), (0, (a3 - 20))]) (jcall_v (A := [(0, (a3 - 20)), (0, a2)]) (S' := []) (r := r27569) rfl (g.qlt qr27569) (g.qtg qr27569) (Nat.le_of_ble_eq_true rfl)) (by decide) ml25 pp25 (Nat.le_of_ble_eq_true rfl) rfl (by decide) (by decide) ?_
                  refine ev_aload_n rfl ?_
                  refine ev_iload_n rfl ?_
                  refine ev_in (d := 0) (a := 0) (b := 0) (cd' := c24_0) (m := 2) (L0 := [(2, (r27569 : Int)), (0, a2)]) (jcall_v (A := [(0, a2)]) (S' := []) (r := r27569) rfl (g.qlt qr27569) (g.qtg qr27569) (Nat.le_of_ble_eq_true rfl)) (by decide) ml24 pp24 (Nat.le_of_ble_eq_true rfl) rfl (by decide) (by decide) ?_
                  refine ev_iload_n rfl ?_
                  refine ev_iflt f24_16 (fun c27592 => absurd c27592 (by omega)) (fun c27592 => ?_)
                  refine ev_iload_n rfl ?_
                  refine ev_aload_n rfl ?_
                  refine g_qgetv (v := v27575) g qr27569 ft4_0 (ev27575) ?_
                  refine ev_icmpge f24_16 (fun c27593 => absurd c27593 (by omega)) (fun c27593 => ?_)
                  refine ev_iconst ?_
                  refine ev_goto f24_17 ?_
                  refine ev_ret rfl (by decide) (by decide) ?_
                  show jEv _ _ _ _ _ _ _ (_, [(2, (r27569 : Int)), (0, a2), (0, (a3 - 20))], [(0, 1)], _, _, _)
                  refine ev_ifeq f25_26 (fun c27594 => absurd c27594 (by omega)) (fun c27594 => ?_)
                  refine ev_iload_n rfl ?_
                  refine ev_iflt f25_26 (fun c27595 => absurd c27595 (by omega)) (fun c27595 => ?_)
                  refine ev_iload_n rfl ?_
                  refine ev_aload_n rfl ?_
                  refine g_qgetp g qr27569 (c := 4) (by decide) (by decide) ft4_4 ?_
                  refine ev_iload_n rfl ?_
                  refine g_qiald g qr27569 (c := 4) (by decide) (by decide) (by decide) (by omega) (by show a2 < m27570; omega) rfl (fun v27596 ev27596 lv27596 uv27596 => ?_)
                  refine ev_icmpge f25_26 (fun c27597 => ?_) (fun c27597 => ?_)
                  · refine ev_iconst ?_
                    refine ev_ret rfl (by decide) (by decide) ?_
                    show jEv _ _ _ _ _ _ _ (_, [(2, (r27569 : Int)), (0, a2), (0, (a3 - 20))], [(0, 0)], _, _, _)
                    refine ev_ifeq f26_23 (fun c27598 => ?_) (fun c27598 => absurd c27598 (by omega))
                    refine ev_iconst ?_
                    refine ev_ret rfl (by decide) (by decide) ?_
                    show jEv _ _ _ _ _ _ _ (_, [(2, 0), (0, a1), (0, a2), (0, a3), (2, (r27569 : Int))], [(0, 0)], _, _, _)
                    refine ev_ifeq f174_110 (fun c27599 => ?_) (fun c27599 => absurd c27599 (by omega))
                    refine ev_iload_n rfl ?_
                    refine ev_bipush ?_
                    refine ev_icmplt f174_142 (fun c27600 => absurd c27600 (by omega)) (fun c27600 => ?_)
                    refine ev_aload rfl ?_
                    refine ev_iload_n rfl ?_
                    refine ev_iload_n rfl ?_
                    refine ev_bipush ?_
                    refine ev_isub (r := (a3 - 10)) (by unfold w32; omega) ?_
                    refine ev_in (d := 2) (a := 0) (b := 0) (cd' := c25_0) (m := 3) (L0 := [(2, (r27569 : Int)), (0, a2), (0, (a3 - 10))]) (jcall_v (A := [(0, (a3 - 10)), (0, a2)]) (S' := []) (r := r27569) rfl (g.qlt qr27569) (g.qtg qr27569) (Nat.le_of_ble_eq_true rfl)) (by decide) ml25 pp25 (Nat.le_of_ble_eq_true rfl) rfl (by decide) (by decide) ?_
                    refine ev_aload_n rfl ?_
                    refine ev_iload_n rfl ?_
                    refine ev_in (d := 1) (a := 0) (b := 0) (cd' := c24_0) (m := 2) (L0 := [(2, (r27569 : Int)), (0, a2)]) (jcall_v (A := [(0, a2)]) (S' := []) (r := r27569) rfl (g.qlt qr27569) (g.qtg qr27569) (Nat.le_of_ble_eq_true rfl)) (by decide) ml24 pp24 (Nat.le_of_ble_eq_true rfl) rfl (by decide) (by decide) ?_
                    refine ev_iload_n rfl ?_
                    refine ev_iflt f24_16 (fun c27601 => absurd c27601 (by omega)) (fun c27601 => ?_)
                    refine ev_iload_n rfl ?_
                    refine ev_aload_n rfl ?_
                    refine g_qgetv (v := v27575) g qr27569 ft4_0 (ev27575) ?_
                    refine ev_icmpge f24_16 (fun c27602 => absurd c27602 (by omega)) (fun c27602 => ?_)
                    refine ev_iconst ?_
                    refine ev_goto f24_17 ?_
                    refine ev_ret rfl (by decide) (by decide) ?_
                    show jEv _ _ _ _ _ _ _ (_, [(2, (r27569 : Int)), (0, a2), (0, (a3 - 10))], [(0, 1)], _, _, _)
                    refine ev_ifeq f25_26 (fun c27603 => absurd c27603 (by omega)) (fun c27603 => ?_)
                    refine ev_iload_n rfl ?_
                    refine ev_iflt f25_26 (fun c27604 => absurd c27604 (by omega)) (fun c27604 => ?_)
                    refine ev_iload_n rfl ?_
                    refine ev_aload_n rfl ?_
                    refine g_qgetp g qr27569 (c := 4) (by decide) (by decide) ft4_4 ?_
                    refine ev_iload_n rfl ?_
                    refine g_qialdv (v := v27596) g qr27569 (c := 4) (by decide) (by decide) (by decide) (by omega) (by show a2 < m27570; omega) (ev27596) ?_
                    refine ev_icmpge f25_26 (fun c27605 => ?_) (fun c27605 => absurd c27605 (by omega))
                    refine ev_iconst ?_
                    refine ev_ret rfl (by decide) (by decide) ?_
                    show jEv _ _ _ _ _ _ _ (_, [(2, 0), (0, a1), (0, a2), (0, a3), (2, (r27569 : Int))], [(0, 0)], _, _, _)
                    refine ev_ifeq f174_142 (fun c27606 => ?_) (fun c27606 => absurd c27606 (by omega))
                    refine ev_ldc ?_
                    exact ev_ret rfl (by decide) (by decide) ⟨_, rfl, by omega, by omega, g, k0⟩
                  · refine ev_iconst ?_
                    refine ev_goto f25_27 ?_
                    refine ev_ret rfl (by decide) (by decide) ?_
                    show jEv _ _ _ _ _ _ _ (_, [(2, (r27569 : Int)), (0, a2), (0, (a3 - 20))], [(0, 1)], _, _, _)
                    refine ev_ifeq f26_23 (fun c27607 => absurd c27607 (by omega)) (fun c27607 => ?_)
                    refine ev_aload_n rfl ?_
                    refine g_qgetp g qr27569 (c := 2) (by decide) (by decide) ft4_2 ?_
                    refine ev_iload_n rfl ?_
                    refine g_qiald g qr27569 (c := 2) (by decide) (by decide) (by decide) (by omega) (by show a2 < m27570; omega) rfl (fun v27608 ev27608 lv27608 uv27608 => ?_)
                    refine ev_iconst ?_
                    refine ev_icmpne f26_23 (fun c27609 => ?_) (fun c27609 => ?_)
                    · refine ev_iconst ?_
                      refine ev_ret rfl (by decide) (by decide) ?_
                      show jEv _ _ _ _ _ _ _ (_, [(2, 0), (0, a1), (0, a2), (0, a3), (2, (r27569 : Int))], [(0, 0)], _, _, _)
                      refine ev_ifeq f174_110 (fun c27610 => ?_) (fun c27610 => absurd c27610 (by omega))
                      refine ev_iload_n rfl ?_
                      refine ev_bipush ?_
                      refine ev_icmplt f174_142 (fun c27611 => absurd c27611 (by omega)) (fun c27611 => ?_)
                      refine ev_aload rfl ?_
                      refine ev_iload_n rfl ?_
                      refine ev_iload_n rfl ?_
                      refine ev_bipush ?_
                      refine ev_isub (r := (a3 - 10)) (by unfold w32; omega) ?_
                      refine ev_in (d := 2) (a := 0) (b := 0) (cd' := c25_0) (m := 3) (L0 := [(2, (r27569 : Int)), (0, a2), (0, (a3 - 10))]) (jcall_v (A := [(0, (a3 - 10)), (0, a2)]) (S' := []) (r := r27569) rfl (g.qlt qr27569) (g.qtg qr27569) (Nat.le_of_ble_eq_true rfl)) (by decide) ml25 pp25 (Nat.le_of_ble_eq_true rfl) rfl (by decide) (by decide) ?_
                      refine ev_aload_n rfl ?_
                      refine ev_iload_n rfl ?_
                      refine ev_in (d := 1) (a := 0) (b := 0) (cd' := c24_0) (m := 2) (L0 := [(2, (r27569 : Int)), (0, a2)]) (jcall_v (A := [(0, a2)]) (S' := []) (r := r27569) rfl (g.qlt qr27569) (g.qtg qr27569) (Nat.le_of_ble_eq_true rfl)) (by decide) ml24 pp24 (Nat.le_of_ble_eq_true rfl) rfl (by decide) (by decide) ?_
                      refine ev_iload_n rfl ?_
                      refine ev_iflt f24_16 (fun c27612 => absurd c27612 (by omega)) (fun c27612 => ?_)
                      refine ev_iload_n rfl ?_
                      refine ev_aload_n rfl ?_
                      refine g_qgetv (v := v27575) g qr27569 ft4_0 (ev27575) ?_
                      refine ev_icmpge f24_16 (fun c27613 => absurd c27613 (by omega)) (fun c27613 => ?_)
                      refine ev_iconst ?_
                      refine ev_goto f24_17 ?_
                      refine ev_ret rfl (by decide) (by decide) ?_
                      show jEv _ _ _ _ _ _ _ (_, [(2, (r27569 : Int)), (0, a2), (0, (a3 - 10))], [(0, 1)], _, _, _)
                      refine ev_ifeq f25_26 (fun c27614 => absurd c27614 (by omega)) (fun c27614 => ?_)
                      refine ev_iload_n rfl ?_
                      refine ev_iflt f25_26 (fun c27615 => absurd c27615 (by omega)) (fun c27615 => ?_)
                      refine ev_iload_n rfl ?_
                      refine ev_aload_n rfl ?_
                      refine g_qgetp g qr27569 (c := 4) (by decide) (by decide) ft4_4 ?_
                      refine ev_iload_n rfl ?_
                      refine g_qialdv (v := v27596) g qr27569 (c := 4) (by decide) (by decide) (by decide) (by omega) (by show a2 < m27570; omega) (ev27596) ?_
                      refine ev_icmpge f25_26 (fun c27616 => ?_) (fun c27616 => absurd c27616 (by omega))
                      refine ev_iconst ?_
                      refine ev_ret rfl (by decide) (by decide) ?_
                      show jEv _ _ _ _ _ _ _ (_, [(2, 0), (0, a1), (0, a2), (0, a3), (2, (r27569 : Int))], [(0, 0)], _, _, _)
                      refine ev_ifeq f174_142 (fun c27617 => ?_) (fun c27617 => absurd c27617 (by omega))
                      refine ev_ldc ?_
                      exact ev_ret rfl (by decide) (by decide) ⟨_, rfl, by omega, by omega, g, k0⟩
                    · refine ev_iconst ?_
                      refine ev_goto f26_24 ?_
                      refine ev_ret rfl (by decide) (by decide) ?_
                      show jEv _ _ _ _ _ _ _ (_, [(2, 0), (0, a1), (0, a2), (0, a3), (2, (r27569 : Int))], [(0, 1)], _, _, _)
                      refine ev_ifeq f174_110 (fun c27618 => absurd c27618 (by omega)) (fun c27618 => ?_)
                      refine ev_aload rfl ?_
                      refine ev_iload_n rfl ?_
                      refine ev_iload_n rfl ?_
                      refine ev_bipush ?_
                      refine ev_isub (r := (a3 - 20)) (by unfold w32; omega) ?_
                      refine ev_in (d := 2) (a := 0) (b := 0) (cd' := c31_0) (m := 3) (L0 := [(2, (r27569 : Int)), (0, a2), (0, (a3 - 20))]) (jcall_v (A := [(0, (a3 - 20)), (0, a2)]) (S' := []) (r := r27569) rfl (g.qlt qr27569) (g.qtg qr27569) (Nat.le_of_ble_eq_true rfl)) (by decide) ml31 pp31 (Nat.le_of_ble_eq_true rfl) rfl (by decide) (by decide) ?_
                      refine ev_aload_n rfl ?_
                      refine g_qgetp g qr27569 (c := 6) (by decide) (by decide) ft4_6 ?_
                      refine ev_iconst ?_
                      refine ev_iload_n rfl ?_
                      refine ev_imul (r := (4 * a2)) (by unfold w32; omega) ?_
                      refine ev_iload_n rfl ?_
                      refine ev_iadd (r := (4 * a2 + a3 - 20)) (by unfold w32; omega) ?_
                      refine g_qiald g qr27569 (c := 6) (by decide) (by decide) (by decide) (by omega) (by show (4 * a2 + a3 - 20) < 4 * m27570; omega) rfl (fun v27619 ev27619 lv27619 uv27619 => ?_)
                      refine ev_ret rfl (by decide) (by decide) ?_
                      show jEv _ _ _ _ _ _ _ (_, [(2, 0), (0, a1), (0, a2), (0, a3), (2, (r27569 : Int))], [(0, v27619)], _, _, _)
                      exact ev_ret rfl (by decide) (by decide) ⟨_, rfl, by omega, by omega, g, k0⟩
              · refine ev_aload rfl ?_
                refine ev_iload_n rfl ?_
                refine ev_in (d := 2) (a := 0) (b := 0) (cd' := c27_0) (m := 2) (L0 := [(2, (r27569 : Int)), (0, a2)]) (jcall_v (A := [(0, a2)]) (S' := []) (r := r27569) rfl (g.qlt qr27569) (g.qtg qr27569) (Nat.le_of_ble_eq_true rfl)) (by decide) ml27 pp27 (Nat.le_of_ble_eq_true rfl) rfl (by decide) (by decide) ?_
                refine ev_aload_n rfl ?_
                refine g_qgetp g qr27569 (c := 2) (by decide) (by decide) ft4_2 ?_
                refine ev_iload_n rfl ?_
                refine g_qiald g qr27569 (c := 2) (by decide) (by decide) (by decide) (by omega) (by show a2 < m27570; omega) rfl (fun v27620 ev27620 lv27620 uv27620 => ?_)
                refine ev_ret rfl (by decide) (by decide) ?_
                show jEv _ _ _ _ _ _ _ (_, [(2, 0), (0, a1), (0, a2), (0, a3), (2, (r27569 : Int))], [(0, v27620)], _, _, _)
                refine ev_iconst ?_
                refine ev_icmpne f174_73 (fun c27621 => ?_) (fun c27621 => ?_)
                · refine ev_aload rfl ?_
                  refine ev_iload_n rfl ?_
                  refine ev_in (d := 2) (a := 0) (b := 0) (cd' := c28_0) (m := 2) (L0 := [(2, (r27569 : Int)), (0, a2)]) (jcall_v (A := [(0, a2)]) (S' := []) (r := r27569) rfl (g.qlt qr27569) (g.qtg qr27569) (Nat.le_of_ble_eq_true rfl)) (by decide) ml28 pp28 (Nat.le_of_ble_eq_true rfl) rfl (by decide) (by decide) ?_
                  refine ev_aload_n rfl ?_
                  refine g_qgetp g qr27569 (c := 3) (by decide) (by decide) ft4_3 ?_
                  refine ev_iload_n rfl ?_
                  refine g_qiald g qr27569 (c := 3) (by decide) (by decide) (by decide) (by omega) (by show a2 < m27570; omega) rfl (fun v27622 ev27622 lv27622 uv27622 => ?_)
                  refine ev_ret rfl (by decide) (by decide) ?_
                  show jEv _ _ _ _ _ _ _ (_, [(2, 0), (0, a1), (0, a2), (0, a3), (2, (r27569 : Int))], [(0, v27622)], _, _, _)
                  exact ev_ret rfl (by decide) (by decide) ⟨_, rfl, by omega, by omega, g, k0⟩
                · refine ev_aload rfl ?_
                  refine ev_iload_n rfl ?_
                  refine ev_in (d := 2) (a := 0) (b := 0) (cd' := c29_0) (m := 2) (L0 := [(2, (r27569 : Int)), (0, a2)]) (jcall_v (A := [(0, a2)]) (S' := []) (r := r27569) rfl (g.qlt qr27569) (g.qtg qr27569) (Nat.le_of_ble_eq_true rfl)) (by decide) ml29 pp29 (Nat.le_of_ble_eq_true rfl) rfl (by decide) (by decide) ?_
                  refine ev_aload_n rfl ?_
                  refine g_qgetp g qr27569 (c := 4) (by decide) (by decide) ft4_4 ?_
                  refine ev_iload_n rfl ?_
                  refine g_qiald g qr27569 (c := 4) (by decide) (by decide) (by decide) (by omega) (by show a2 < m27570; omega) rfl (fun v27623 ev27623 lv27623 uv27623 => ?_)
                  refine ev_ret rfl (by decide) (by decide) ?_
                  show jEv _ _ _ _ _ _ _ (_, [(2, 0), (0, a1), (0, a2), (0, a3), (2, (r27569 : Int))], [(0, v27623)], _, _, _)
                  refine ev_goto f174_79 ?_
                  exact ev_ret rfl (by decide) (by decide) ⟨_, rfl, by omega, by omega, g, k0⟩
            · refine ev_aload rfl ?_
              refine ev_iload_n rfl ?_
              refine ev_in (d := 2) (a := 0) (b := 0) (cd' := c27_0) (m := 2) (L0 := [(2, (r27569 : Int)), (0, a2)]) (jcall_v (A := [(0, a2)]) (S' := []) (r := r27569) rfl (g.qlt qr27569) (g.qtg qr27569) (Nat.le_of_ble_eq_true rfl)) (by decide) ml27 pp27 (Nat.le_of_ble_eq_true rfl) rfl (by decide) (by decide) ?_
              refine ev_aload_n rfl ?_
              refine g_qgetp g qr27569 (c := 2) (by decide) (by decide) ft4_2 ?_
              refine ev_iload_n rfl ?_
              refine g_qiald g qr27569 (c := 2) (by decide) (by decide) (by decide) (by omega) (by show a2 < m27570; omega) rfl (fun v27624 ev27624 lv27624 uv27624 => ?_)
              refine ev_ret rfl (by decide) (by decide) ?_
              show jEv _ _ _ _ _ _ _ (_, [(2, 0), (0, a1), (0, a2), (0, a3), (2, (r27569 : Int))], [(0, v27624)], _, _, _)
              exact ev_ret rfl (by decide) (by decide) ⟨_, rfl, by omega, by omega, g, k0⟩
      · refine ev_aload rfl ?_
        obtain ⟨v27625, ev27625, lv27625, uv27625⟩ := g.q0 qr27569
        refine g_qgetv (v := v27625) g qr27569 ft4_0 ev27625 ?_
        exact ev_ret rfl (by decide) (by decide) ⟨_, rfl, by omega, by omega, g, k0⟩
    · refine ev_aconst_null ?_
      refine ev_goto f219_22 ?_
      refine ev_ret rfl (by decide) (by decide) ?_
      show jEv _ _ _ _ _ _ _ (_, [(2, 0), (0, a1), (0, a2), (0, a3), (9, 0)], [(2, (-1))], _, _, _)
      refine ev_astore (L' := [(2, 0), (0, a1), (0, a2), (0, a3), (2, (-1))]) (Nat.le_of_ble_eq_true rfl) rfl ?_
      refine ev_aload rfl ?_
      refine ev_ifnonnull f174_15 (fun c27626 => absurd c27626 (by decide)) (fun c27626 => ?_)
      refine ev_ldc ?_
      exact ev_ret rfl (by decide) (by decide) ⟨_, rfl, by omega, by omega, g, k0⟩
/-! 175 change -/
set_option maxHeartbeats 4000000 in
theorem s175 {G : GH} {h : JH} (g : Gd G h) {a1 : Int} (la1 : (-2147483648) ≤ a1) (ua1 : a1 ≤ 2147483647) {a2 : Int} (la2 : (-2147483648) ≤ a2) (ua2 : a2 ≤ 2147483647) {a3 : Int} (la3 : (-2147483648) ≤ a3) (ua3 : a3 ≤ 2147483647) {a4 : Int} (la4 : (-2147483648) ≤ a4) (ua4 : a4 ≤ 2147483647) : jOk 5 0 0 175 [(2, 0), (0, a1), (0, a2), (0, a3), (0, a4)] h (PI G [(1000000, 0), (25, 0), (0, 10), (0, 11)] h 0 (-2147483648) 2147483647) := by
  refine ⟨by decide, by rw [ml175]; exact Nat.le_of_ble_eq_true rfl, ?_⟩
  rw [ml175, pp175]
  show jEv _ none _ c175_0 0 0 _ (c175_0, [(2, 0), (0, a1), (0, a2), (0, a3), (0, a4), (9, 0), (9, 0)], [], h, 0, 0)
  have k0 := Kp.rf [(1000000, 0), (25, 0), (0, 10), (0, 11)] h
  refine ev_aload_n rfl ?_
  refine ev_iload_n rfl ?_
  refine ev_in (d := 3) (a := 0) (b := 0) (cd' := c219_0) (m := 2) (L0 := [(2, 0), (0, a1)]) (jcall_v (A := [(0, a1)]) (S' := []) (r := 0) rfl (g.lt ad0) (g.tg ad0) (Nat.le_of_ble_eq_true rfl)) (by decide) ml219 pp219 (Nat.le_of_ble_eq_true rfl) rfl (by decide) (by decide) ?_
  refine ev_iload_n rfl ?_
  refine ev_iflt f219_12 (fun c27757 => ?_) (fun c27757 => ?_)
  · refine ev_aconst_null ?_
    refine ev_goto f219_22 ?_
    refine ev_ret rfl (by decide) (by decide) ?_
    show jEv _ _ _ _ _ _ _ (_, [(2, 0), (0, a1), (0, a2), (0, a3), (0, a4), (9, 0), (9, 0)], [(2, (-1))], _, _, _)
    refine ev_astore (L' := [(2, 0), (0, a1), (0, a2), (0, a3), (0, a4), (2, (-1)), (9, 0)]) (Nat.le_of_ble_eq_true rfl) rfl ?_
    refine ev_aload rfl ?_
    refine ev_ifnull f175_33 (fun c27758 => ?_) (fun c27758 => absurd c27758 (by decide))
    refine ev_ldc ?_
    exact ev_ret rfl (by decide) (by decide) ⟨_, rfl, by omega, by omega, g, k0⟩
  · refine ev_iload_n rfl ?_
    refine ev_aload_n rfl ?_
    obtain ⟨v27759, ev27759, lv27759, uv27759⟩ := g.rd ad0 (show 3 < 17 by decide) rf0_3
    refine g_getv (r := 0) (v := v27759) g ad0 (by decide) ft11_3 ev27759 ?_
    refine ev_icmplt f219_16 (fun c27760 => ?_) (fun c27760 => ?_)
    · refine ev_aload_n rfl ?_
      refine g_getp (r := 0) (c := 18) g ad0 (by decide) (by decide) rf0_2 ft11_2 ?_
      refine ev_iload_n rfl ?_
      refine g_qaald (g) (i := a1) (ev27759) (by omega) (by omega) (fun r27761 m27762 qr27761 => ?_)
      have wr27761 := g.qb qr27761
      have zr27761 := qr27761.1
      refine ev_ret rfl (by decide) (by decide) ?_
      show jEv _ _ _ _ _ _ _ (_, [(2, 0), (0, a1), (0, a2), (0, a3), (0, a4), (9, 0), (9, 0)], [(2, (r27761 : Int))], _, _, _)
      refine ev_astore (L' := [(2, 0), (0, a1), (0, a2), (0, a3), (0, a4), (2, (r27761 : Int)), (9, 0)]) (Nat.le_of_ble_eq_true rfl) rfl ?_
      refine ev_aload rfl ?_
      refine ev_ifnull f175_33 (fun c27763 => absurd c27763 (by omega)) (fun c27763 => ?_)
      refine ev_aload rfl ?_
      refine ev_iload_n rfl ?_
      refine ev_iload_n rfl ?_
      refine ev_in (d := 3) (a := 0) (b := 0) (cd' := c32_0) (m := 3) (L0 := [(2, (r27761 : Int)), (0, a2), (0, a3)]) (jcall_v (A := [(0, a3), (0, a2)]) (S' := []) (r := r27761) rfl (g.qlt qr27761) (g.qtg qr27761) (Nat.le_of_ble_eq_true rfl)) (by decide) ml32 pp32 (Nat.le_of_ble_eq_true rfl) rfl (by decide) (by decide) ?_
      refine ev_iload_n rfl ?_
      refine ev_iconst ?_
      refine ev_icmpne f32_30 (fun c27764 => ?_) (fun c27764 => ?_)
      · refine ev_aload_n rfl ?_
        refine ev_iload_n rfl ?_
        refine ev_iload_n rfl ?_
        refine ev_in (d := 2) (a := 0) (b := 0) (cd' := c26_0) (m := 3) (L0 := [(2, (r27761 : Int)), (0, a2), (0, a3)]) (jcall_v (A := [(0, a3), (0, a2)]) (S' := []) (r := r27761) rfl (g.qlt qr27761) (g.qtg qr27761) (Nat.le_of_ble_eq_true rfl)) (by decide) ml26 pp26 (Nat.le_of_ble_eq_true rfl) rfl (by decide) (by decide) ?_
        refine ev_aload_n rfl ?_
        refine ev_iload_n rfl ?_
        refine ev_iload_n rfl ?_
        refine ev_in (d := 1) (a := 0) (b := 0) (cd' := c25_0) (m := 3) (L0 := [(2, (r27761 : Int)), (0, a2), (0, a3)]) (jcall_v (A := [(0, a3), (0, a2)]) (S' := []) (r := r27761) rfl (g.qlt qr27761) (g.qtg qr27761) (Nat.le_of_ble_eq_true rfl)) (by decide) ml25 pp25 (Nat.le_of_ble_eq_true rfl) rfl (by decide) (by decide) ?_
        refine ev_aload_n rfl ?_
        refine ev_iload_n rfl ?_
        refine ev_in (d := 0) (a := 0) (b := 0) (cd' := c24_0) (m := 2) (L0 := [(2, (r27761 : Int)), (0, a2)]) (jcall_v (A := [(0, a2)]) (S' := []) (r := r27761) rfl (g.qlt qr27761) (g.qtg qr27761) (Nat.le_of_ble_eq_true rfl)) (by decide) ml24 pp24 (Nat.le_of_ble_eq_true rfl) rfl (by decide) (by decide) ?_
        refine ev_iload_n rfl ?_
        refine ev_iflt f24_16 (fun c27765 => ?_) (fun c27765 => ?_)
        · refine ev_iconst ?_
          refine ev_ret rfl (by decide) (by decide) ?_
          show jEv _ _ _ _ _ _ _ (_, [(2, (r27761 : Int)), (0, a2), (0, a3)], [(0, 0)], _, _, _)
          refine ev_ifeq f25_26 (fun c27766 => ?_) (fun c27766 => absurd c27766 (by omega))
          refine ev_iconst ?_
          refine ev_ret rfl (by decide) (by decide) ?_
          show jEv _ _ _ _ _ _ _ (_, [(2, (r27761 : Int)), (0, a2), (0, a3)], [(0, 0)], _, _, _)
          refine ev_ifeq f26_23 (fun c27767 => ?_) (fun c27767 => absurd c27767 (by omega))
          refine ev_iconst ?_
          refine ev_ret rfl (by decide) (by decide) ?_
          show jEv _ _ _ _ _ _ _ (_, [(2, (r27761 : Int)), (0, a2), (0, a3)], [(0, 0)], _, _, _)
          refine ev_ret rfl (by decide) (by decide) ?_
          show jEv _ _ _ _ _ _ _ (_, [(2, 0), (0, a1), (0, a2), (0, a3), (0, a4), (2, (r27761 : Int)), (9, 0)], [(0, 0)], _, _, _)
          refine ev_ifeq f175_33 (fun c27768 => ?_) (fun c27768 => absurd c27768 (by omega))
          refine ev_ldc ?_
          exact ev_ret rfl (by decide) (by decide) ⟨_, rfl, by omega, by omega, g, k0⟩
        · refine ev_iload_n rfl ?_
          refine ev_aload_n rfl ?_
          obtain ⟨v27769, ev27769, lv27769, uv27769⟩ := g.q0 qr27761
          refine g_qgetv (v := v27769) g qr27761 ft4_0 ev27769 ?_
          refine ev_icmpge f24_16 (fun c27770 => ?_) (fun c27770 => ?_)
          · refine ev_iconst ?_
            refine ev_ret rfl (by decide) (by decide) ?_
            show jEv _ _ _ _ _ _ _ (_, [(2, (r27761 : Int)), (0, a2), (0, a3)], [(0, 0)], _, _, _)
            refine ev_ifeq f25_26 (fun c27771 => ?_) (fun c27771 => absurd c27771 (by omega))
            refine ev_iconst ?_
            refine ev_ret rfl (by decide) (by decide) ?_
            show jEv _ _ _ _ _ _ _ (_, [(2, (r27761 : Int)), (0, a2), (0, a3)], [(0, 0)], _, _, _)
            refine ev_ifeq f26_23 (fun c27772 => ?_) (fun c27772 => absurd c27772 (by omega))
            refine ev_iconst ?_
            refine ev_ret rfl (by decide) (by decide) ?_
            show jEv _ _ _ _ _ _ _ (_, [(2, (r27761 : Int)), (0, a2), (0, a3)], [(0, 0)], _, _, _)
            refine ev_ret rfl (by decide) (by decide) ?_
            show jEv _ _ _ _ _ _ _ (_, [(2, 0), (0, a1), (0, a2), (0, a3), (0, a4), (2, (r27761 : Int)), (9, 0)], [(0, 0)], _, _, _)
            refine ev_ifeq f175_33 (fun c27773 => ?_) (fun c27773 => absurd c27773 (by omega))
            refine ev_ldc ?_
            exact ev_ret rfl (by decide) (by decide) ⟨_, rfl, by omega, by omega, g, k0⟩
          · refine ev_iconst ?_
            refine ev_goto f24_17 ?_
            refine ev_ret rfl (by decide) (by decide) ?_
            show jEv _ _ _ _ _ _ _ (_, [(2, (r27761 : Int)), (0, a2), (0, a3)], [(0, 1)], _, _, _)
            refine ev_ifeq f25_26 (fun c27774 => absurd c27774 (by omega)) (fun c27774 => ?_)
            refine ev_iload_n rfl ?_
            refine ev_iflt f25_26 (fun c27775 => ?_) (fun c27775 => ?_)
            · refine ev_iconst ?_
              refine ev_ret rfl (by decide) (by decide) ?_
              show jEv _ _ _ _ _ _ _ (_, [(2, (r27761 : Int)), (0, a2), (0, a3)], [(0, 0)], _, _, _)
              refine ev_ifeq f26_23 (fun c27776 => ?_) (fun c27776 => absurd c27776 (by omega))
              refine ev_iconst ?_
              refine ev_ret rfl (by decide) (by decide) ?_
              show jEv _ _ _ _ _ _ _ (_, [(2, (r27761 : Int)), (0, a2), (0, a3)], [(0, 0)], _, _, _)
              refine ev_ret rfl (by decide) (by decide) ?_
              show jEv _ _ _ _ _ _ _ (_, [(2, 0), (0, a1), (0, a2), (0, a3), (0, a4), (2, (r27761 : Int)), (9, 0)], [(0, 0)], _, _, _)
              refine ev_ifeq f175_33 (fun c27777 => ?_) (fun c27777 => absurd c27777 (by omega))
              refine ev_ldc ?_
              exact ev_ret rfl (by decide) (by decide) ⟨_, rfl, by omega, by omega, g, k0⟩
            · refine ev_iload_n rfl ?_
              refine ev_aload_n rfl ?_
              refine g_qgetp g qr27761 (c := 4) (by decide) (by decide) ft4_4 ?_
              refine ev_iload_n rfl ?_
              refine g_qiald g qr27761 (c := 4) (by decide) (by decide) (by decide) (by omega) (by show a2 < m27762; omega) rfl (fun v27778 ev27778 lv27778 uv27778 => ?_)
              refine ev_icmpge f25_26 (fun c27779 => ?_) (fun c27779 => ?_)
              · refine ev_iconst ?_
                refine ev_ret rfl (by decide) (by decide) ?_
                show jEv _ _ _ _ _ _ _ (_, [(2, (r27761 : Int)), (0, a2), (0, a3)], [(0, 0)], _, _, _)
                refine ev_ifeq f26_23 (fun c27780 => ?_) (fun c27780 => absurd c27780 (by omega))
                refine ev_iconst ?_
                refine ev_ret rfl (by decide) (by decide) ?_
                show jEv _ _ _ _ _ _ _ (_, [(2, (r27761 : Int)), (0, a2), (0, a3)], [(0, 0)], _, _, _)
                refine ev_ret rfl (by decide) (by decide) ?_
                show jEv _ _ _ _ _ _ _ (_, [(2, 0), (0, a1), (0, a2), (0, a3), (0, a4), (2, (r27761 : Int)), (9, 0)], [(0, 0)], _, _, _)
                refine ev_ifeq f175_33 (fun c27781 => ?_) (fun c27781 => absurd c27781 (by omega))
                refine ev_ldc ?_
                exact ev_ret rfl (by decide) (by decide) ⟨_, rfl, by omega, by omega, g, k0⟩
              · refine ev_iconst ?_
                refine ev_goto f25_27 ?_
                refine ev_ret rfl (by decide) (by decide) ?_
                show jEv _ _ _ _ _ _ _ (_, [(2, (r27761 : Int)), (0, a2), (0, a3)], [(0, 1)], _, _, _)
                refine ev_ifeq f26_23 (fun c27782 => absurd c27782 (by omega)) (fun c27782 => ?_)
                refine ev_aload_n rfl ?_
                refine g_qgetp g qr27761 (c := 2) (by decide) (by decide) ft4_2 ?_
                refine ev_iload_n rfl ?_
                refine g_qiald g qr27761 (c := 2) (by decide) (by decide) (by decide) (by omega) (by show a2 < m27762; omega) rfl (fun v27783 ev27783 lv27783 uv27783 => ?_)
                refine ev_iconst ?_
                refine ev_icmpne f26_23 (fun c27784 => ?_) (fun c27784 => ?_)
                · refine ev_iconst ?_
                  refine ev_ret rfl (by decide) (by decide) ?_
                  show jEv _ _ _ _ _ _ _ (_, [(2, (r27761 : Int)), (0, a2), (0, a3)], [(0, 0)], _, _, _)
                  refine ev_ret rfl (by decide) (by decide) ?_
                  show jEv _ _ _ _ _ _ _ (_, [(2, 0), (0, a1), (0, a2), (0, a3), (0, a4), (2, (r27761 : Int)), (9, 0)], [(0, 0)], _, _, _)
                  refine ev_ifeq f175_33 (fun c27785 => ?_) (fun c27785 => absurd c27785 (by omega))
                  refine ev_ldc ?_
                  exact ev_ret rfl (by decide) (by decide) ⟨_, rfl, by omega, by omega, g, k0⟩
                · refine ev_iconst ?_
                  refine ev_goto f26_24 ?_
                  refine ev_ret rfl (by decide) (by decide) ?_
                  show jEv _ _ _ _ _ _ _ (_, [(2, (r27761 : Int)), (0, a2), (0, a3)], [(0, 1)], _, _, _)
                  refine ev_ret rfl (by decide) (by decide) ?_
                  show jEv _ _ _ _ _ _ _ (_, [(2, 0), (0, a1), (0, a2), (0, a3), (0, a4), (2, (r27761 : Int)), (9, 0)], [(0, 1)], _, _, _)
                  refine ev_ifeq f175_33 (fun c27786 => absurd c27786 (by omega)) (fun c27786 => ?_)
                  refine ev_aload rfl ?_
                  refine ev_iload_n rfl ?_
                  refine ev_iload rfl ?_
                  refine ev_in (d := 3) (a := 0) (b := 0) (cd' := c33_0) (m := 3) (L0 := [(2, (r27761 : Int)), (0, a3), (0, a4)]) (jcall_v (A := [(0, a4), (0, a3)]) (S' := []) (r := r27761) rfl (g.qlt qr27761) (g.qtg qr27761) (Nat.le_of_ble_eq_true rfl)) (by decide) ml33 pp33 (Nat.le_of_ble_eq_true rfl) rfl (by decide) (by decide) ?_
                  refine ev_iload_n rfl ?_
                  refine ev_iconst ?_
                  refine ev_icmpne f33_27 (fun c27787 => ?_) (fun c27787 => absurd c27787 (by omega))
                  refine ev_iload_n rfl ?_
                  refine ev_iflt f33_41 (fun c27788 => ?_) (fun c27788 => ?_)
                  · refine ev_iconst ?_
                    refine ev_ret rfl (by decide) (by decide) ?_
                    show jEv _ _ _ _ _ _ _ (_, [(2, 0), (0, a1), (0, a2), (0, a3), (0, a4), (2, (r27761 : Int)), (9, 0)], [(0, 0)], _, _, _)
                    refine ev_ifne f175_36 (fun c27789 => absurd c27789 (by omega)) (fun c27789 => ?_)
                    refine ev_ldc ?_
                    exact ev_ret rfl (by decide) (by decide) ⟨_, rfl, by omega, by omega, g, k0⟩
                  · refine ev_iload_n rfl ?_
                    refine ev_bipush ?_
                    refine ev_icmpgt f33_41 (fun c27790 => ?_) (fun c27790 => ?_)
                    · refine ev_iconst ?_
                      refine ev_ret rfl (by decide) (by decide) ?_
                      show jEv _ _ _ _ _ _ _ (_, [(2, 0), (0, a1), (0, a2), (0, a3), (0, a4), (2, (r27761 : Int)), (9, 0)], [(0, 0)], _, _, _)
                      refine ev_ifne f175_36 (fun c27791 => absurd c27791 (by omega)) (fun c27791 => ?_)
                      refine ev_ldc ?_
                      exact ev_ret rfl (by decide) (by decide) ⟨_, rfl, by omega, by omega, g, k0⟩
                    · refine ev_iconst ?_
                      refine ev_goto f33_42 ?_
                      refine ev_ret rfl (by decide) (by decide) ?_
                      show jEv _ _ _ _ _ _ _ (_, [(2, 0), (0, a1), (0, a2), (0, a3), (0, a4), (2, (r27761 : Int)), (9, 0)], [(0, 1)], _, _, _)
                      refine ev_ifne f175_36 (fun c27792 => ?_) (fun c27792 => absurd c27792 (by omega))
                      refine ev_aload rfl ?_
                      refine ev_iload_n rfl ?_
                      refine ev_iload_n rfl ?_
                      refine ev_in (d := 3) (a := 0) (b := 0) (cd' := c34_0) (m := 3) (L0 := [(2, (r27761 : Int)), (0, a2), (0, a3)]) (jcall_v (A := [(0, a3), (0, a2)]) (S' := []) (r := r27761) rfl (g.qlt qr27761) (g.qtg qr27761) (Nat.le_of_ble_eq_true rfl)) (by decide) ml34 pp34 (Nat.le_of_ble_eq_true rfl) rfl (by decide) (by decide) ?_
                      refine ev_iload_n rfl ?_
                      refine ev_iconst ?_
                      refine ev_icmpne f34_14 (fun c27793 => ?_) (fun c27793 => absurd c27793 (by omega))
                      refine ev_aload_n rfl ?_
                      refine ev_iload_n rfl ?_
                      refine ev_iload_n rfl ?_
                      refine ev_in (d := 2) (a := 0) (b := 0) (cd' := c31_0) (m := 3) (L0 := [(2, (r27761 : Int)), (0, a2), (0, a3)]) (jcall_v (A := [(0, a3), (0, a2)]) (S' := []) (r := r27761) rfl (g.qlt qr27761) (g.qtg qr27761) (Nat.le_of_ble_eq_true rfl)) (by decide) ml31 pp31 (Nat.le_of_ble_eq_true rfl) rfl (by decide) (by decide) ?_
                      refine ev_aload_n rfl ?_
                      refine g_qgetp g qr27761 (c := 6) (by decide) (by decide) ft4_6 ?_
                      refine ev_iconst ?_
                      refine ev_iload_n rfl ?_
                      refine ev_imul (r := (4 * a2)) (by unfold w32; omega) ?_
                      refine ev_iload_n rfl ?_
                      refine ev_iadd (r := (4 * a2 + a3)) (by unfold w32; omega) ?_
                      refine g_qiald g qr27761 (c := 6) (by decide) (by decide) (by decide) (by omega) (by show (4 * a2 + a3) < 4 * m27762; omega) rfl (fun v27794 ev27794 lv27794 uv27794 => ?_)
                      refine ev_ret rfl (by decide) (by decide) ?_
                      show jEv _ _ _ _ _ _ _ (_, [(2, (r27761 : Int)), (0, a2), (0, a3)], [(0, v27794)], _, _, _)
                      refine ev_ret rfl (by decide) (by decide) ?_
                      show jEv _ _ _ _ _ _ _ (_, [(2, 0), (0, a1), (0, a2), (0, a3), (0, a4), (2, (r27761 : Int)), (9, 0)], [(0, v27794)], _, _, _)
                      refine ev_istore (L' := [(2, 0), (0, a1), (0, a2), (0, a3), (0, a4), (2, (r27761 : Int)), (0, v27794)]) (Nat.le_of_ble_eq_true rfl) rfl ?_
                      refine ev_aload rfl ?_
                      refine ev_iload_n rfl ?_
                      refine ev_iload_n rfl ?_
                      refine ev_iload rfl ?_
                      refine ev_in (d := 3) (a := 0) (b := 0) (cd' := c35_0) (m := 4) (L0 := [(2, (r27761 : Int)), (0, a2), (0, a3), (0, a4)]) (jcall_v (A := [(0, a4), (0, a3), (0, a2)]) (S' := []) (r := r27761) rfl (g.qlt qr27761) (g.qtg qr27761) (Nat.le_of_ble_eq_true rfl)) (by decide) ml35 pp35 (Nat.le_of_ble_eq_true rfl) rfl (by decide) (by decide) ?_
                      refine ev_iload_n rfl ?_
                      refine ev_iconst ?_
                      refine ev_icmpne f35_15 (fun c27795 => ?_) (fun c27795 => absurd c27795 (by omega))
                      refine ev_aload_n rfl ?_
                      refine g_qgetp g qr27761 (c := 6) (by decide) (by decide) ft4_6 ?_
                      refine ev_iconst ?_
                      refine ev_iload_n rfl ?_
                      refine ev_imul (r := (4 * a2)) (by unfold w32; omega) ?_
                      refine ev_iload_n rfl ?_
                      refine ev_iadd (r := (4 * a2 + a3)) (by unfold w32; omega) ?_
                      refine ev_iload_n rfl ?_
                      refine g_qiast g qr27761 (c := 6) (by decide) (by decide) (by decide) (by omega) (by show (4 * a2 + a3) < 4 * m27762; omega) rfl (by omega) (by omega) (fun h27796 e27796 g27796 => ?_)
                      have k27796 := k0.wr e27796 (inW_dyn rfl (by have := qr27761.1; omega))
                      refine ev_ret rfl (by decide) (by decide) ?_
                      show jEv _ _ _ _ _ _ _ (_, [(2, 0), (0, a1), (0, a2), (0, a3), (0, a4), (2, (r27761 : Int)), (0, v27794)], [], _, _, _)
                      refine ev_aload_n rfl ?_
                      refine ev_iload_n rfl ?_
                      refine ev_iload_n rfl ?_
                      refine ev_iload_n rfl ?_
                      refine ev_in (d := 3) (a := 0) (b := 0) (cd' := c228_0) (m := 3) (L0 := [(0, a1), (0, a2), (0, a3)]) (jcall_s (A := [(0, a3), (0, a2), (0, a1)]) (S' := [(2, 0)]) (by decide) rfl (Nat.le_of_ble_eq_true rfl)) (by decide) ml228 pp228 (Nat.le_of_ble_eq_true rfl) rfl (by decide) (by decide) ?_
                      refine ev_bipush ?_
                      refine ev_iload_n rfl ?_
                      refine ev_bipush ?_
                      refine ev_imul (r := (100 * a1)) (by unfold w32; omega) ?_
                      refine ev_iload_n rfl ?_
                      refine ev_iadd (r := (100 * a1 + a2)) (by unfold w32; omega) ?_
                      refine ev_iconst ?_
                      refine ev_imul (r := (500 * a1 + 5 * a2)) (by unfold w32; omega) ?_
                      refine ev_iadd (r := (500 * a1 + 5 * a2 + 36)) (by unfold w32; omega) ?_
                      refine ev_iload_n rfl ?_
                      refine ev_iadd (r := (500 * a1 + 5 * a2 + a3 + 36)) (by unfold w32; omega) ?_
                      refine ev_iconst ?_
                      refine ev_iadd (r := (500 * a1 + 5 * a2 + a3 + 37)) (by unfold w32; omega) ?_
                      refine ev_ret rfl (by decide) (by decide) ?_
                      show jEv _ _ _ _ _ _ _ (_, [(2, 0), (0, a1), (0, a2), (0, a3), (0, a4), (2, (r27761 : Int)), (0, v27794)], [(0, (500 * a1 + 5 * a2 + a3 + 37)), (2, 0)], _, _, _)
                      refine ev_iload rfl ?_
                      refine ev_iload rfl ?_
                      refine ev_call (jcall_v (A := [(0, a4), (0, v27794), (0, (500 * a1 + 5 * a2 + a3 + 37))]) (S' := []) (r := 0) rfl (g27796.lt ad0) (g27796.tg ad0) (Nat.le_of_ble_eq_true rfl)) (jOk_le (by decide) (s229 g27796 (by omega) (by omega) (by omega) (by omega) (by omega) (by omega))) (by decide) (by decide) (fun w27797 h27797 q27797 => ?_)
                      obtain ⟨rfl, g27797, kk27797⟩ := q27797
                      have k27797 := k27796.tr kk27797 (by decide)
                      show jEv _ _ _ _ _ _ _ (_, [(2, 0), (0, a1), (0, a2), (0, a3), (0, a4), (2, (r27761 : Int)), (0, v27794)], [], _, _, _)
                      refine ev_iload rfl ?_
                      exact ev_ret rfl (by decide) (by decide) ⟨_, rfl, by omega, by omega, g27797, k27797⟩
      · refine ev_aload_n rfl ?_
        refine ev_iload_n rfl ?_
        refine ev_in (d := 2) (a := 0) (b := 0) (cd' := c24_0) (m := 2) (L0 := [(2, (r27761 : Int)), (0, a2)]) (jcall_v (A := [(0, a2)]) (S' := []) (r := r27761) rfl (g.qlt qr27761) (g.qtg qr27761) (Nat.le_of_ble_eq_true rfl)) (by decide) ml24 pp24 (Nat.le_of_ble_eq_true rfl) rfl (by decide) (by decide) ?_
        refine ev_iload_n rfl ?_
        refine ev_iflt f24_16 (fun c27798 => ?_) (fun c27798 => ?_)
        · refine ev_iconst ?_
          refine ev_ret rfl (by decide) (by decide) ?_
          show jEv _ _ _ _ _ _ _ (_, [(2, (r27761 : Int)), (0, a2), (0, a3)], [(0, 0)], _, _, _)
          refine ev_ifeq f32_26 (fun c27799 => ?_) (fun c27799 => absurd c27799 (by omega))
          refine ev_iconst ?_
          refine ev_goto f32_36 ?_
          refine ev_ret rfl (by decide) (by decide) ?_
          show jEv _ _ _ _ _ _ _ (_, [(2, 0), (0, a1), (0, a2), (0, a3), (0, a4), (2, (r27761 : Int)), (9, 0)], [(0, 0)], _, _, _)
          refine ev_ifeq f175_33 (fun c27800 => ?_) (fun c27800 => absurd c27800 (by omega))
          refine ev_ldc ?_
          exact ev_ret rfl (by decide) (by decide) ⟨_, rfl, by omega, by omega, g, k0⟩
        · refine ev_iload_n rfl ?_
          refine ev_aload_n rfl ?_
          obtain ⟨v27801, ev27801, lv27801, uv27801⟩ := g.q0 qr27761
          refine g_qgetv (v := v27801) g qr27761 ft4_0 ev27801 ?_
          refine ev_icmpge f24_16 (fun c27802 => ?_) (fun c27802 => ?_)
          · refine ev_iconst ?_
            refine ev_ret rfl (by decide) (by decide) ?_
            show jEv _ _ _ _ _ _ _ (_, [(2, (r27761 : Int)), (0, a2), (0, a3)], [(0, 0)], _, _, _)
            refine ev_ifeq f32_26 (fun c27803 => ?_) (fun c27803 => absurd c27803 (by omega))
            refine ev_iconst ?_
            refine ev_goto f32_36 ?_
            refine ev_ret rfl (by decide) (by decide) ?_
            show jEv _ _ _ _ _ _ _ (_, [(2, 0), (0, a1), (0, a2), (0, a3), (0, a4), (2, (r27761 : Int)), (9, 0)], [(0, 0)], _, _, _)
            refine ev_ifeq f175_33 (fun c27804 => ?_) (fun c27804 => absurd c27804 (by omega))
            refine ev_ldc ?_
            exact ev_ret rfl (by decide) (by decide) ⟨_, rfl, by omega, by omega, g, k0⟩
          · refine ev_iconst ?_
            refine ev_goto f24_17 ?_
            refine ev_ret rfl (by decide) (by decide) ?_
            show jEv _ _ _ _ _ _ _ (_, [(2, (r27761 : Int)), (0, a2), (0, a3)], [(0, 1)], _, _, _)
            refine ev_ifeq f32_26 (fun c27805 => absurd c27805 (by omega)) (fun c27805 => ?_)
            refine ev_aload_n rfl ?_
            refine g_qgetp g qr27761 (c := 2) (by decide) (by decide) ft4_2 ?_
            refine ev_iload_n rfl ?_
            refine g_qiald g qr27761 (c := 2) (by decide) (by decide) (by decide) (by omega) (by show a2 < m27762; omega) rfl (fun v27806 ev27806 lv27806 uv27806 => ?_)
            refine ev_ifne f32_26 (fun c27807 => ?_) (fun c27807 => ?_)
            · refine ev_iconst ?_
              refine ev_goto f32_36 ?_
              refine ev_ret rfl (by decide) (by decide) ?_
              show jEv _ _ _ _ _ _ _ (_, [(2, 0), (0, a1), (0, a2), (0, a3), (0, a4), (2, (r27761 : Int)), (9, 0)], [(0, 0)], _, _, _)
              refine ev_ifeq f175_33 (fun c27808 => ?_) (fun c27808 => absurd c27808 (by omega))
              refine ev_ldc ?_
              exact ev_ret rfl (by decide) (by decide) ⟨_, rfl, by omega, by omega, g, k0⟩
            · refine ev_iconst ?_
              refine ev_goto f32_36 ?_
              refine ev_ret rfl (by decide) (by decide) ?_
              show jEv _ _ _ _ _ _ _ (_, [(2, 0), (0, a1), (0, a2), (0, a3), (0, a4), (2, (r27761 : Int)), (9, 0)], [(0, 1)], _, _, _)
              refine ev_ifeq f175_33 (fun c27809 => absurd c27809 (by omega)) (fun c27809 => ?_)
              refine ev_aload rfl ?_
              refine ev_iload_n rfl ?_
              refine ev_iload rfl ?_
              refine ev_in (d := 3) (a := 0) (b := 0) (cd' := c33_0) (m := 3) (L0 := [(2, (r27761 : Int)), (0, a3), (0, a4)]) (jcall_v (A := [(0, a4), (0, a3)]) (S' := []) (r := r27761) rfl (g.qlt qr27761) (g.qtg qr27761) (Nat.le_of_ble_eq_true rfl)) (by decide) ml33 pp33 (Nat.le_of_ble_eq_true rfl) rfl (by decide) (by decide) ?_
              refine ev_iload_n rfl ?_
              refine ev_iconst ?_
              refine ev_icmpne f33_27 (fun c27810 => absurd c27810 (by omega)) (fun c27810 => ?_)
              refine ev_iload_n rfl ?_
              refine ev_sipush ?_
              refine ev_icmplt f33_23 (fun c27811 => ?_) (fun c27811 => ?_)
              · refine ev_iconst ?_
                refine ev_goto f33_42 ?_
                refine ev_ret rfl (by decide) (by decide) ?_
                show jEv _ _ _ _ _ _ _ (_, [(2, 0), (0, a1), (0, a2), (0, a3), (0, a4), (2, (r27761 : Int)), (9, 0)], [(0, 0)], _, _, _)
                refine ev_ifne f175_36 (fun c27812 => absurd c27812 (by omega)) (fun c27812 => ?_)
                refine ev_ldc ?_
                exact ev_ret rfl (by decide) (by decide) ⟨_, rfl, by omega, by omega, g, k0⟩
              · refine ev_iload_n rfl ?_
                refine ev_sipush ?_
                refine ev_icmpgt f33_23 (fun c27813 => ?_) (fun c27813 => ?_)
                · refine ev_iconst ?_
                  refine ev_goto f33_42 ?_
                  refine ev_ret rfl (by decide) (by decide) ?_
                  show jEv _ _ _ _ _ _ _ (_, [(2, 0), (0, a1), (0, a2), (0, a3), (0, a4), (2, (r27761 : Int)), (9, 0)], [(0, 0)], _, _, _)
                  refine ev_ifne f175_36 (fun c27814 => absurd c27814 (by omega)) (fun c27814 => ?_)
                  refine ev_ldc ?_
                  exact ev_ret rfl (by decide) (by decide) ⟨_, rfl, by omega, by omega, g, k0⟩
                · refine ev_iconst ?_
                  refine ev_goto f33_42 ?_
                  refine ev_ret rfl (by decide) (by decide) ?_
                  show jEv _ _ _ _ _ _ _ (_, [(2, 0), (0, a1), (0, a2), (0, a3), (0, a4), (2, (r27761 : Int)), (9, 0)], [(0, 1)], _, _, _)
                  refine ev_ifne f175_36 (fun c27815 => ?_) (fun c27815 => absurd c27815 (by omega))
                  refine ev_aload rfl ?_
                  refine ev_iload_n rfl ?_
                  refine ev_iload_n rfl ?_
                  refine ev_in (d := 3) (a := 0) (b := 0) (cd' := c34_0) (m := 3) (L0 := [(2, (r27761 : Int)), (0, a2), (0, a3)]) (jcall_v (A := [(0, a3), (0, a2)]) (S' := []) (r := r27761) rfl (g.qlt qr27761) (g.qtg qr27761) (Nat.le_of_ble_eq_true rfl)) (by decide) ml34 pp34 (Nat.le_of_ble_eq_true rfl) rfl (by decide) (by decide) ?_
                  refine ev_iload_n rfl ?_
                  refine ev_iconst ?_
                  refine ev_icmpne f34_14 (fun c27816 => absurd c27816 (by omega)) (fun c27816 => ?_)
                  refine ev_aload_n rfl ?_
                  refine g_qgetp g qr27761 (c := 3) (by decide) (by decide) ft4_3 ?_
                  refine ev_iload_n rfl ?_
                  refine g_qiald g qr27761 (c := 3) (by decide) (by decide) (by decide) (by omega) (by show a2 < m27762; omega) rfl (fun v27817 ev27817 lv27817 uv27817 => ?_)
                  refine ev_goto f34_20 ?_
                  refine ev_ret rfl (by decide) (by decide) ?_
                  show jEv _ _ _ _ _ _ _ (_, [(2, 0), (0, a1), (0, a2), (0, a3), (0, a4), (2, (r27761 : Int)), (9, 0)], [(0, v27817)], _, _, _)
                  refine ev_istore (L' := [(2, 0), (0, a1), (0, a2), (0, a3), (0, a4), (2, (r27761 : Int)), (0, v27817)]) (Nat.le_of_ble_eq_true rfl) rfl ?_
                  refine ev_aload rfl ?_
                  refine ev_iload_n rfl ?_
                  refine ev_iload_n rfl ?_
                  refine ev_iload rfl ?_
                  refine ev_in (d := 3) (a := 0) (b := 0) (cd' := c35_0) (m := 4) (L0 := [(2, (r27761 : Int)), (0, a2), (0, a3), (0, a4)]) (jcall_v (A := [(0, a4), (0, a3), (0, a2)]) (S' := []) (r := r27761) rfl (g.qlt qr27761) (g.qtg qr27761) (Nat.le_of_ble_eq_true rfl)) (by decide) ml35 pp35 (Nat.le_of_ble_eq_true rfl) rfl (by decide) (by decide) ?_
                  refine ev_iload_n rfl ?_
                  refine ev_iconst ?_
                  refine ev_icmpne f35_15 (fun c27818 => absurd c27818 (by omega)) (fun c27818 => ?_)
                  refine ev_aload_n rfl ?_
                  refine g_qgetp g qr27761 (c := 3) (by decide) (by decide) ft4_3 ?_
                  refine ev_iload_n rfl ?_
                  refine ev_iload_n rfl ?_
                  refine g_qiast g qr27761 (c := 3) (by decide) (by decide) (by decide) (by omega) (by show a2 < m27762; omega) rfl (by omega) (by omega) (fun h27819 e27819 g27819 => ?_)
                  have k27819 := k0.wr e27819 (inW_dyn rfl (by have := qr27761.1; omega))
                  refine ev_goto f35_26 ?_
                  refine ev_ret rfl (by decide) (by decide) ?_
                  show jEv _ _ _ _ _ _ _ (_, [(2, 0), (0, a1), (0, a2), (0, a3), (0, a4), (2, (r27761 : Int)), (0, v27817)], [], _, _, _)
                  refine ev_aload_n rfl ?_
                  refine ev_iload_n rfl ?_
                  refine ev_iload_n rfl ?_
                  refine ev_iload_n rfl ?_
                  refine ev_in (d := 3) (a := 0) (b := 0) (cd' := c228_0) (m := 3) (L0 := [(0, a1), (0, a2), (0, a3)]) (jcall_s (A := [(0, a3), (0, a2), (0, a1)]) (S' := [(2, 0)]) (by decide) rfl (Nat.le_of_ble_eq_true rfl)) (by decide) ml228 pp228 (Nat.le_of_ble_eq_true rfl) rfl (by decide) (by decide) ?_
                  refine ev_bipush ?_
                  refine ev_iload_n rfl ?_
                  refine ev_bipush ?_
                  refine ev_imul (r := (100 * a1)) (by unfold w32; omega) ?_
                  refine ev_iload_n rfl ?_
                  refine ev_iadd (r := (100 * a1 + a2)) (by unfold w32; omega) ?_
                  refine ev_iconst ?_
                  refine ev_imul (r := (500 * a1 + 5 * a2)) (by unfold w32; omega) ?_
                  refine ev_iadd (r := (500 * a1 + 5 * a2 + 36)) (by unfold w32; omega) ?_
                  refine ev_iload_n rfl ?_
                  refine ev_iadd (r := (500 * a1 + 5 * a2 + a3 + 36)) (by unfold w32; omega) ?_
                  refine ev_iconst ?_
                  refine ev_iadd (r := (500 * a1 + 5 * a2 + a3 + 37)) (by unfold w32; omega) ?_
                  refine ev_ret rfl (by decide) (by decide) ?_
                  show jEv _ _ _ _ _ _ _ (_, [(2, 0), (0, a1), (0, a2), (0, a3), (0, a4), (2, (r27761 : Int)), (0, v27817)], [(0, (500 * a1 + 5 * a2 + a3 + 37)), (2, 0)], _, _, _)
                  refine ev_iload rfl ?_
                  refine ev_iload rfl ?_
                  refine ev_call (jcall_v (A := [(0, a4), (0, v27817), (0, (500 * a1 + 5 * a2 + a3 + 37))]) (S' := []) (r := 0) rfl (g27819.lt ad0) (g27819.tg ad0) (Nat.le_of_ble_eq_true rfl)) (jOk_le (by decide) (s229 g27819 (by omega) (by omega) (by omega) (by omega) (by omega) (by omega))) (by decide) (by decide) (fun w27820 h27820 q27820 => ?_)
                  obtain ⟨rfl, g27820, kk27820⟩ := q27820
                  have k27820 := k27819.tr kk27820 (by decide)
                  show jEv _ _ _ _ _ _ _ (_, [(2, 0), (0, a1), (0, a2), (0, a3), (0, a4), (2, (r27761 : Int)), (0, v27817)], [], _, _, _)
                  refine ev_iload rfl ?_
                  exact ev_ret rfl (by decide) (by decide) ⟨_, rfl, by omega, by omega, g27820, k27820⟩
    · refine ev_aconst_null ?_
      refine ev_goto f219_22 ?_
      refine ev_ret rfl (by decide) (by decide) ?_
      show jEv _ _ _ _ _ _ _ (_, [(2, 0), (0, a1), (0, a2), (0, a3), (0, a4), (9, 0), (9, 0)], [(2, (-1))], _, _, _)
      refine ev_astore (L' := [(2, 0), (0, a1), (0, a2), (0, a3), (0, a4), (2, (-1)), (9, 0)]) (Nat.le_of_ble_eq_true rfl) rfl ?_
      refine ev_aload rfl ?_
      refine ev_ifnull f175_33 (fun c27821 => ?_) (fun c27821 => absurd c27821 (by decide))
      refine ev_ldc ?_
      exact ev_ret rfl (by decide) (by decide) ⟨_, rfl, by omega, by omega, g, k0⟩
/-! 176 undo -/
set_option maxHeartbeats 4000000 in
theorem s176 {G : GH} {h : JH} (g : Gd G h)  : jOk 6 0 0 176 [(2, 0)] h (PI G [(4, 0), (1, 3), (0, 10), (0, 11), (1000000, 0)] h 0 (-5) 39) := by
  refine ⟨by decide, by rw [ml176]; exact Nat.le_of_ble_eq_true rfl, ?_⟩
  rw [ml176, pp176]
  show jEv _ none _ c176_0 0 0 _ (c176_0, [(2, 0)], [], h, 0, 0)
  have k0 := Kp.rf [(4, 0), (1, 3), (0, 10), (0, 11), (1000000, 0)] h
  refine ev_aload_n rfl ?_
  obtain ⟨v27840, ev27840, lv27840, uv27840⟩ := g.rd ad0 (show 9 < 17 by decide) rf0_9
  refine g_getv (r := 0) (v := v27840) g ad0 (by decide) ft11_9 ev27840 ?_
  refine ev_ifne f176_10 (fun c27841 => ?_) (fun c27841 => ?_)
  · refine ev_aload_n rfl ?_
    refine ev_dup (by decide) ?_
    refine g_getv (r := 0) (v := v27840) g ad0 (by decide) ft11_9 (ev27840) ?_
    refine ev_iconst ?_
    refine ev_isub (r := (v27840 - 1)) (by unfold w32; omega) ?_
    refine g_putf (r := 0) g ad0 (by decide) ft11_9 (by decide) (fun e => absurd e nz11_9) rf0_9 (by decide) (by omega) (by omega) (fun h27842 e27842 g27842 => ?_)
    have k27842 := k0.wr e27842 rfl
    refine ev_aload_n rfl ?_
    refine ev_dup (by decide) ?_
    obtain ⟨v27843, ev27843, lv27843, uv27843⟩ := g27842.rd ad0 (show 10 < 17 by decide) rf0_10
    refine g_getv (r := 0) (v := v27843) g27842 ad0 (by decide) ft11_10 ev27843 ?_
    refine ev_iconst ?_
    refine g_iaddG (fun v27844 ev27844 lv27844 uv27844 => ?_)
    refine g_putf (r := 0) g27842 ad0 (by decide) ft11_10 (by decide) (fun e => absurd e nz11_10) rf0_10 (by decide) (by omega) (by omega) (fun h27845 e27845 g27845 => ?_)
    have k27845 := k27842.wr e27845 rfl
    refine ev_aload_n rfl ?_
    refine ev_aload_n rfl ?_
    refine g_getp (r := 0) (c := 25) g27845 ad0 (by decide) (by decide) rf0_8 ft11_8 ?_
    refine ev_iconst ?_
    refine ev_aload_n rfl ?_
    refine g_getv (r := 0) (v := (v27840 - 1)) g27845 ad0 (by decide) ft11_9 (((jw_ne e27845 (Or.inr (by decide))).trans (jw_eq e27842))) ?_
    refine ev_imul (r := (3 * v27840 - 3)) (by unfold w32; omega) ?_
    refine g_iald g27845 ad25 rt25 (by omega) (by omega) (fun v27846 ev27846 lv27846 uv27846 => ?_)
    refine ev_aload_n rfl ?_
    refine g_getp (r := 0) (c := 25) g27845 ad0 (by decide) (by decide) rf0_8 ft11_8 ?_
    refine ev_iconst ?_
    refine ev_aload_n rfl ?_
    refine g_getv (r := 0) (v := (v27840 - 1)) g27845 ad0 (by decide) ft11_9 (((jw_ne e27845 (Or.inr (by decide))).trans (jw_eq e27842))) ?_
    refine ev_imul (r := (3 * v27840 - 3)) (by unfold w32; omega) ?_
    refine ev_iconst ?_
    refine ev_iadd (r := (3 * v27840 - 2)) (by unfold w32; omega) ?_
    refine g_iald g27845 ad25 rt25 (by omega) (by omega) (fun v27847 ev27847 lv27847 uv27847 => ?_)
    refine ev_call (jcall_v (A := [(0, v27847), (0, v27846)]) (S' := []) (r := 0) rfl (g27845.lt ad0) (g27845.tg ad0) (Nat.le_of_ble_eq_true rfl)) (jOk_le (by decide) (s230 g27845 (by omega) (by omega) (by omega) (by omega))) (by decide) (by decide) (fun w27848 h27848 q27848 => ?_)
    obtain ⟨rfl, g27848, kk27848⟩ := q27848
    have k27848 := k27845.tr kk27848 (by decide)
    show jEv _ _ _ _ _ _ _ (_, [(2, 0)], [], _, _, _)
    refine ev_aload_n rfl ?_
    refine g_getv (r := 0) (v := (v27840 - 1)) g27848 ad0 (by decide) ft11_9 (((kk27848.v (by decide)).trans ((jw_ne e27845 (Or.inr (by decide))).trans (jw_eq e27842)))) ?_
    exact ev_ret rfl (by decide) (by decide) ⟨_, rfl, by omega, by omega, g27848, k27848⟩
  · refine ev_bipush ?_
    exact ev_ret rfl (by decide) (by decide) ⟨_, rfl, by omega, by omega, g, k0⟩
/-! 177 redo -/
set_option maxHeartbeats 4000000 in
theorem s177 {G : GH} {h : JH} (g : Gd G h)  : jOk 6 0 0 177 [(2, 0)] h (PI G [(4, 0), (1, 3), (0, 10), (0, 11), (1000000, 0)] h 0 (-2147483648) 2147483647) := by
  refine ⟨by decide, by rw [ml177]; exact Nat.le_of_ble_eq_true rfl, ?_⟩
  rw [ml177, pp177]
  show jEv _ none _ c177_0 0 0 _ (c177_0, [(2, 0)], [], h, 0, 0)
  have k0 := Kp.rf [(4, 0), (1, 3), (0, 10), (0, 11), (1000000, 0)] h
  refine ev_aload_n rfl ?_
  obtain ⟨v27869, ev27869, lv27869, uv27869⟩ := g.rd ad0 (show 10 < 17 by decide) rf0_10
  refine g_getv (r := 0) (v := v27869) g ad0 (by decide) ft11_10 ev27869 ?_
  refine ev_ifeq f177_16 (fun c27870 => ?_) (fun c27870 => ?_)
  · refine ev_bipush ?_
    exact ev_ret rfl (by decide) (by decide) ⟨_, rfl, by omega, by omega, g, k0⟩
  · refine ev_aload_n rfl ?_
    obtain ⟨v27871, ev27871, lv27871, uv27871⟩ := g.rd ad0 (show 9 < 17 by decide) rf0_9
    refine g_getv (r := 0) (v := v27871) g ad0 (by decide) ft11_9 ev27871 ?_
    refine ev_bipush ?_
    refine ev_icmplt f177_19 (fun c27872 => ?_) (fun c27872 => ?_)
    · refine ev_aload_n rfl ?_
      refine ev_aload_n rfl ?_
      refine g_getp (r := 0) (c := 25) g ad0 (by decide) (by decide) rf0_8 ft11_8 ?_
      refine ev_iconst ?_
      refine ev_aload_n rfl ?_
      refine g_getv (r := 0) (v := v27871) g ad0 (by decide) ft11_9 (ev27871) ?_
      refine ev_imul (r := (3 * v27871)) (by unfold w32; omega) ?_
      refine g_iald g ad25 rt25 (by omega) (by omega) (fun v27873 ev27873 lv27873 uv27873 => ?_)
      refine ev_aload_n rfl ?_
      refine g_getp (r := 0) (c := 25) g ad0 (by decide) (by decide) rf0_8 ft11_8 ?_
      refine ev_iconst ?_
      refine ev_aload_n rfl ?_
      refine g_getv (r := 0) (v := v27871) g ad0 (by decide) ft11_9 (ev27871) ?_
      refine ev_imul (r := (3 * v27871)) (by unfold w32; omega) ?_
      refine ev_iconst ?_
      refine ev_iadd (r := (3 * v27871 + 2)) (by unfold w32; omega) ?_
      refine g_iald g ad25 rt25 (by omega) (by omega) (fun v27874 ev27874 lv27874 uv27874 => ?_)
      refine ev_call (jcall_v (A := [(0, v27874), (0, v27873)]) (S' := []) (r := 0) rfl (g.lt ad0) (g.tg ad0) (Nat.le_of_ble_eq_true rfl)) (jOk_le (by decide) (s230 g (by omega) (by omega) (by omega) (by omega))) (by decide) (by decide) (fun w27875 h27875 q27875 => ?_)
      obtain ⟨rfl, g27875, kk27875⟩ := q27875
      have k27875 := k0.tr kk27875 (by decide)
      show jEv _ _ _ _ _ _ _ (_, [(2, 0)], [], _, _, _)
      refine ev_aload_n rfl ?_
      refine ev_dup (by decide) ?_
      refine g_getv (r := 0) (v := v27871) g27875 ad0 (by decide) ft11_9 (((kk27875.v (by decide)).trans ev27871)) ?_
      refine ev_iconst ?_
      refine ev_iadd (r := (v27871 + 1)) (by unfold w32; omega) ?_
      refine g_putf (r := 0) g27875 ad0 (by decide) ft11_9 (by decide) (fun e => absurd e nz11_9) rf0_9 (by decide) (by omega) (by omega) (fun h27876 e27876 g27876 => ?_)
      have k27876 := k27875.wr e27876 rfl
      refine ev_aload_n rfl ?_
      refine ev_dup (by decide) ?_
      refine g_getv (r := 0) (v := v27869) g27876 ad0 (by decide) ft11_10 (((jw_ne e27876 (Or.inr (by decide))).trans ((kk27875.v (by decide)).trans ev27869))) ?_
      refine ev_iconst ?_
      refine g_isubG (fun v27877 ev27877 lv27877 uv27877 => ?_)
      refine g_putf (r := 0) g27876 ad0 (by decide) ft11_10 (by decide) (fun e => absurd e nz11_10) rf0_10 (by decide) (by omega) (by omega) (fun h27878 e27878 g27878 => ?_)
      have k27878 := k27876.wr e27878 rfl
      refine ev_aload_n rfl ?_
      refine g_getv (r := 0) (v := v27877) g27878 ad0 (by decide) ft11_10 ((jw_eq e27878)) ?_
      exact ev_ret rfl (by decide) (by decide) ⟨_, rfl, by omega, by omega, g27878, k27878⟩
    · refine ev_bipush ?_
      exact ev_ret rfl (by decide) (by decide) ⟨_, rfl, by omega, by omega, g, k0⟩
/-! 180 counts -/
set_option maxHeartbeats 4000000 in
theorem s180 {G : GH} {h : JH} (g : Gd G h) {a1 : Int} (la1 : (-2147483648) ≤ a1) (ua1 : a1 ≤ 2147483647) {a2 : Int} (la2 : (-2147483648) ≤ a2) (ua2 : a2 ≤ 2147483647) : jOk 4 0 0 180 [(2, 0), (0, a1), (0, a2)] h (PI G [] h 0 (-2147483648) 2147483647) := by
  refine ⟨by decide, by rw [ml180]; exact Nat.le_of_ble_eq_true rfl, ?_⟩
  rw [ml180, pp180]
  show jEv _ none _ c180_0 0 0 _ (c180_0, [(2, 0), (0, a1), (0, a2), (9, 0)], [], h, 0, 0)
  have k0 := Kp.rf [] h
  refine ev_aload_n rfl ?_
  refine ev_iload_n rfl ?_
  refine ev_in (d := 2) (a := 0) (b := 0) (cd' := c220_0) (m := 2) (L0 := [(2, 0), (0, a1)]) (jcall_v (A := [(0, a1)]) (S' := []) (r := 0) rfl (g.lt ad0) (g.tg ad0) (Nat.le_of_ble_eq_true rfl)) (by decide) ml220 pp220 (Nat.le_of_ble_eq_true rfl) rfl (by decide) (by decide) ?_
  refine ev_iload_n rfl ?_
  refine ev_iflt f220_12 (fun c27901 => ?_) (fun c27901 => ?_)
  · refine ev_aconst_null ?_
    refine ev_goto f220_22 ?_
    refine ev_ret rfl (by decide) (by decide) ?_
    show jEv _ _ _ _ _ _ _ (_, [(2, 0), (0, a1), (0, a2), (9, 0)], [(2, (-1))], _, _, _)
    refine ev_astore_n (L' := [(2, 0), (0, a1), (0, a2), (2, (-1))]) (Nat.le_of_ble_eq_true rfl) rfl ?_
    refine ev_aload_n rfl ?_
    refine ev_ifnull f180_24 (fun c27902 => ?_) (fun c27902 => absurd c27902 (by decide))
    refine ev_ldc ?_
    exact ev_ret rfl (by decide) (by decide) ⟨_, rfl, by omega, by omega, g, k0⟩
  · refine ev_iload_n rfl ?_
    refine ev_aload_n rfl ?_
    obtain ⟨v27903, ev27903, lv27903, uv27903⟩ := g.rd ad0 (show 7 < 17 by decide) rf0_7
    refine g_getv (r := 0) (v := v27903) g ad0 (by decide) ft11_7 ev27903 ?_
    refine ev_icmplt f220_16 (fun c27904 => ?_) (fun c27904 => ?_)
    · refine ev_aload_n rfl ?_
      refine g_getp (r := 0) (c := 24) g ad0 (by decide) (by decide) rf0_6 ft11_6 ?_
      refine ev_iload_n rfl ?_
      refine g_faald (g) (i := a1) (ev27903) (by omega) (by omega) (fun f27905 qf27905 => ?_)
      refine ev_ret rfl (by decide) (by decide) ?_
      show jEv _ _ _ _ _ _ _ (_, [(2, 0), (0, a1), (0, a2), (9, 0)], [(2, (f27905 : Int))], _, _, _)
      refine ev_astore_n (L' := [(2, 0), (0, a1), (0, a2), (2, (f27905 : Int))]) (Nat.le_of_ble_eq_true rfl) rfl ?_
      refine ev_aload_n rfl ?_
      refine ev_ifnull f180_24 (fun c27906 => absurd c27906 (by omega)) (fun c27906 => ?_)
      refine ev_iload_n rfl ?_
      refine ev_sipush ?_
      refine ev_icmplt f180_24 (fun c27907 => ?_) (fun c27907 => ?_)
      · refine ev_ldc ?_
        exact ev_ret rfl (by decide) (by decide) ⟨_, rfl, by omega, by omega, g, k0⟩
      · refine ev_iload_n rfl ?_
        refine ev_sipush ?_
        refine ev_icmple f180_27 (fun c27908 => ?_) (fun c27908 => ?_)
        · refine ev_aload_n rfl ?_
          refine ev_iload_n rfl ?_
          refine ev_callF (A := [(0, a2)]) (S' := []) (r := f27905) rfl (g.flt qf27905) (g.ffam qf27905) (Nat.le_of_ble_eq_true rfl) (famL (by decide) (fam_measure g qf27905 (by omega) (by omega))) (by decide) (by decide) (fun w27909 h27909 q27909 => ?_)
          obtain ⟨v27910, rfl, lv27910, uv27910, g27909, kk27909⟩ := q27909
          have k27909 := k0.tr kk27909 (by decide)
          show jEv _ _ _ _ _ _ _ (_, [(2, 0), (0, a1), (0, a2), (2, (f27905 : Int))], [(0, v27910)], _, _, _)
          exact ev_ret rfl (by decide) (by decide) ⟨_, rfl, by omega, by omega, g27909, k27909⟩
        · refine ev_ldc ?_
          exact ev_ret rfl (by decide) (by decide) ⟨_, rfl, by omega, by omega, g, k0⟩
    · refine ev_aconst_null ?_
      refine ev_goto f220_22 ?_
      refine ev_ret rfl (by decide) (by decide) ?_
      show jEv _ _ _ _ _ _ _ (_, [(2, 0), (0, a1), (0, a2), (9, 0)], [(2, (-1))], _, _, _)
      refine ev_astore_n (L' := [(2, 0), (0, a1), (0, a2), (2, (-1))]) (Nat.le_of_ble_eq_true rfl) rfl ?_
      refine ev_aload_n rfl ?_
      refine ev_ifnull f180_24 (fun c27911 => ?_) (fun c27911 => absurd c27911 (by decide))
      refine ev_ldc ?_
      exact ev_ret rfl (by decide) (by decide) ⟨_, rfl, by omega, by omega, g, k0⟩
