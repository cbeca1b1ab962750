/-! s156_0_4  -/
set_option maxHeartbeats 4000000 in
theorem s156_0_4_l {G : GH} {h : JH} (ew0 : h.2.2 1 0 = 4) : ∀ N : Nat, (∀ (h1 : JH) (x3 y0 z0 : Int) (j4 j5 j7 : AV), Gd G h1 → Kp [(6, 0)] h h1 → 0 ≤ x3 → x3 ≤ 256 → 0 ≤ z0 → z0 ≤ 64 → (x3 + (-4) * z0) ≤ 0 → ((-x3) + 4 * z0) ≤ 0 → h1.2.2 1 0 = y0 → 4 ≤ y0 → y0 ≤ 4 → ((-4096) * x3 + 1050628) < N → jEv (jOk 1) none (fun _ => 0) c156_0 0 0 (PV G [(6, 0)] h) (c156_8, [(2, 1), (0, 0), (0, 1), (0, x3), j4, j5, (9, 0), j7], [], h1, 0, 0)) ∧ (∀ (h1 : JH) (x3 x4 y0 z0 : Int) (j5 j7 : AV), Gd G h1 → Kp [(6, 0)] h h1 → 0 ≤ x3 → x3 ≤ 255 → 0 ≤ x4 → x4 ≤ 255 → 0 ≤ z0 → z0 ≤ 63 → (x3 + (-4) * z0) ≤ 0 → ((-x3) + 4 * z0) ≤ 0 → ((-x3) + x4) ≤ 1 → (x3 + (-x4)) ≤ 0 → h1.2.2 1 0 = y0 → 4 ≤ y0 → y0 ≤ 4 → ((-4096) * x3 + (-8) * x4 + 1050620) < N → jEv (jOk 1) none (fun _ => 0) c156_0 0 0 (PV G [(6, 0)] h) (c156_19, [(2, 1), (0, 0), (0, 1), (0, x3), (0, x4), j5, (9, 0), j7], [], h1, 0, 0)) ∧ (∀ (h1 : JH) (x3 x4 x5 x7 y0 z0 : Int), Gd G h1 → Kp [(6, 0)] h h1 → 0 ≤ x3 → x3 ≤ 255 → 0 ≤ x4 → x4 ≤ 255 → (-9223372036854775808) ≤ x5 → x5 ≤ 9223372036854775807 → 1 ≤ x7 → x7 ≤ 4 → 0 ≤ z0 → z0 ≤ 63 → (x3 + (-4) * z0) ≤ 0 → ((-x3) + 4 * z0) ≤ 0 → ((-x3) + x4) ≤ 0 → (x3 + (-x4)) ≤ 0 → h1.2.2 1 0 = y0 → 4 ≤ y0 → y0 ≤ 4 → ((-4096) * x3 + (-8) * x4 + (-x7) + 1050620) < N → jEv (jOk 1) none (fun _ => 0) c156_0 0 0 (PV G [(6, 0)] h) (c156_33, [(2, 1), (0, 0), (0, 1), (0, x3), (0, x4), (1, x5), (9, 0), (0, x7)], [], h1, 0, 0)) := by
  intro N
  induction N with
  | zero => exact ⟨fun h1 x3 y0 z0 j4 j5 j7 g1 k1 b0 b1 b2 b3 b4 b5 b6 b7 b8 hm => absurd hm (by omega), fun h1 x3 x4 y0 z0 j5 j7 g1 k1 b0 b1 b2 b3 b4 b5 b6 b7 b8 b9 b10 b11 b12 hm => absurd hm (by omega), fun h1 x3 x4 x5 x7 y0 z0 g1 k1 b0 b1 b2 b3 b4 b5 b6 b7 b8 b9 b10 b11 b12 b13 b14 b15 b16 hm => absurd hm (by omega)⟩
  | succ N ih =>
    refine ⟨?_, ?_, ?_⟩
    · intro h1 x3 y0 z0 j4 j5 j7 g1 k1 b0 b1 b2 b3 b4 b5 ey0 ly0 uy0 hm
      refine ev_iload_n rfl ?_
      refine ev_aload_n rfl ?_
      refine ev_in (d := 0) (a := 0) (b := 0) (cd' := c157_0) (m := 1) (L0 := [(2, 1)]) (jcall_v (A := []) (S' := [(0, x3)]) (r := 1) rfl (g1.lt ad1) (g1.tg ad1) (Nat.le_of_ble_eq_true rfl)) (by decide) ml157 pp157 (Nat.le_of_ble_eq_true rfl) rfl (by decide) (by decide) ?_
      refine ev_iconst ?_
      refine ev_iconst ?_
      refine ev_aload_n rfl ?_
      refine g_getv (r := 1) (v := y0) g1 ad1 (by decide) ft10_0 (ey0) ?_
      refine ev_imul (r := (2 * y0)) (by unfold w32; omega) ?_
      refine g_ishlB (a' := 1) (a := 1) (b := 8) (hi := 256) (by omega) (by omega) (by omega) (by omega) (by decide) (by decide) (fun v25296 ev25296 lv25296 uv25296 => ?_)
      refine ev_ret rfl (by decide) (by decide) ?_
      show jEv _ _ _ _ _ _ _ (_, [(2, 1), (0, 0), (0, 1), (0, x3), j4, j5, (9, 0), j7], [(0, v25296), (0, x3)], _, _, _)
      refine ev_icmpge f156_91 (fun c25297 => ?_) (fun c25297 => ?_)
      · exact ev_ret rfl (by decide) (by decide) ⟨rfl, g1, k1⟩
      · refine ev_iload_n rfl ?_
        refine ev_istore (L' := [(2, 1), (0, 0), (0, 1), (0, x3), (0, x3), j5, (9, 0), j7]) (Nat.le_of_ble_eq_true rfl) rfl ?_
        exact ih.2.1 _ _ _ _ z0 _ _ g1 k1 (by omega) (by omega) (by omega) (by omega) (by omega) (by omega) (by omega) (by omega) (by omega) (by omega) (ey0) (by omega) (by omega) (by omega)
    · intro h1 x3 x4 y0 z0 j5 j7 g1 k1 b0 b1 b2 b3 b4 b5 b6 b7 b8 b9 ey0 ly0 uy0 hm
      refine ev_iload rfl ?_
      refine ev_iload_n rfl ?_
      refine ev_iload_n rfl ?_
      refine ev_iadd (r := (x3 + 1)) (by unfold w32; omega) ?_
      refine ev_icmpge f156_82 (fun c25298 => ?_) (fun c25298 => ?_)
      · refine ev_iload_n rfl ?_
        refine ev_iconst ?_
        refine ev_iload_n rfl ?_
        refine ev_imul (r := 4) (by decide) ?_
        refine ev_iadd (r := (x3 + 4)) (by unfold w32; omega) ?_
        refine ev_istore_n (L' := [(2, 1), (0, 0), (0, 1), (0, (x3 + 4)), (0, x4), j5, (9, 0), j7]) (Nat.le_of_ble_eq_true rfl) rfl ?_
        refine ev_goto f156_8 ?_
        exact ih.1 _ _ _ (z0 + 1) _ _ _ g1 k1 (by omega) (by omega) (by omega) (by omega) (by omega) (by omega) (ey0) (by omega) (by omega) (by omega)
      · refine ev_lconst ?_
        refine ev_lstore (L' := [(2, 1), (0, 0), (0, 1), (0, x3), (0, x4), (1, 0), (9, 0), j7]) (Nat.le_of_ble_eq_true rfl) rfl ?_
        refine ev_iconst ?_
        refine ev_istore (L' := [(2, 1), (0, 0), (0, 1), (0, x3), (0, x4), (1, 0), (9, 0), (0, 1)]) (Nat.le_of_ble_eq_true rfl) rfl ?_
        exact ih.2.2 _ _ _ _ _ _ z0 g1 k1 (by omega) (by omega) (by omega) (by omega) (by omega) (by omega) (by omega) (by omega) (by omega) (by omega) (by omega) (by omega) (by omega) (by omega) (ey0) (by omega) (by omega) (by omega)
    · intro h1 x3 x4 x5 x7 y0 z0 g1 k1 b0 b1 b2 b3 b4 b5 b6 b7 b8 b9 b10 b11 b12 b13 ey0 ly0 uy0 hm
      refine ev_iload rfl ?_
      refine ev_aload_n rfl ?_
      refine g_getp (r := 1) (c := 2) g1 ad1 (by decide) (by decide) rf1_3 ft10_3 ?_
      refine ev_iload_n rfl ?_
      refine g_iald g1 ad2 rt2 (by omega) (by omega) (fun v25299 ev25299 lv25299 uv25299 => ?_)
      have xv25299 := (g1.ex.1.1 (0 : Int).toNat (by rw [(ey0)]; omega))
      rw [ev25299] at xv25299
      refine ev_icmpgt f156_67 (fun c25300 => ?_) (fun c25300 => ?_)
      · refine ev_aload_n rfl ?_
        refine g_getp (r := 1) (c := 6) g1 ad1 (by decide) (by decide) rf1_7 ft10_7 ?_
        refine ev_iload rfl ?_
        refine ev_lload rfl ?_
        refine g_last g1 ad6 rt6 (fun _ => rfl) (by omega) (by omega) (by omega) (by omega) (fun h25301 e25301 g25301 => ?_)
        have k25301 := k1.wr e25301 rfl
        refine ev_iinc (w := (x4 + 1)) (L' := [(2, 1), (0, 0), (0, 1), (0, x3), (0, (x4 + 1)), (1, x5), (9, 0), (0, x7)]) rfl (by unfold w32; omega) rfl ?_
        refine ev_goto f156_19 ?_
        exact ih.2.1 _ _ _ _ z0 _ _ g25301 k25301 (by omega) (by omega) (by omega) (by omega) (by omega) (by omega) (by omega) (by omega) (by omega) (by omega) (((jw_ne e25301 (Or.inl (by decide))).trans ey0)) (by omega) (by omega) (by omega)
      · refine ev_lload rfl ?_
        refine ev_aload_n rfl ?_
        refine g_getp (r := 1) (c := 6) g1 ad1 (by decide) (by decide) rf1_7 ft10_7 ?_
        refine ev_iload rfl ?_
        refine ev_iload rfl ?_
        refine ev_iload_n rfl ?_
        refine ev_imul (r := x7) (by unfold w32; omega) ?_
        refine ev_iadd (r := (x4 + x7)) (by unfold w32; omega) ?_
        refine g_lald g1 ad6 rt6 (by omega) (by omega) (fun v25302 ev25302 lv25302 uv25302 => ?_)
        refine g_laddG (fun v25303 ev25303 lv25303 uv25303 => ?_)
        refine ev_lstore (L' := [(2, 1), (0, 0), (0, 1), (0, x3), (0, x4), (1, v25303), (9, 0), (0, x7)]) (Nat.le_of_ble_eq_true rfl) rfl ?_
        refine ev_iinc (w := (x7 + 1)) (L' := [(2, 1), (0, 0), (0, 1), (0, x3), (0, x4), (1, v25303), (9, 0), (0, (x7 + 1))]) rfl (by unfold w32; omega) rfl ?_
        refine ev_goto f156_33 ?_
        exact ih.2.2 _ _ _ _ _ _ z0 g1 k1 (by omega) (by omega) (by omega) (by omega) (by omega) (by omega) (by omega) (by omega) (by omega) (by omega) (by omega) (by omega) (by omega) (by omega) (ey0) (by omega) (by omega) (by omega)
set_option maxHeartbeats 4000000 in
theorem s156_0_4 {G : GH} {h : JH} (g : Gd G h) (ew0 : h.2.2 1 0 = 4) : jOk 2 0 0 156 [(2, 1), (0, 0)] h (PV G [(6, 0)] h) := by
  refine ⟨by decide, by rw [ml156]; exact Nat.le_of_ble_eq_true rfl, ?_⟩
  rw [ml156, pp156]
  show jEv _ none _ c156_0 0 0 _ (c156_0, [(2, 1), (0, 0), (9, 0), (9, 0), (9, 0), (9, 0), (9, 0), (9, 0)], [], h, 0, 0)
  have k0 := Kp.rf [(6, 0)] h
  refine ev_iconst ?_
  refine ev_iconst ?_
  refine ev_iload_n rfl ?_
  refine ev_imul (r := 0) (by decide) ?_
  refine ev_ishl (r := 1) (by decide) ?_
  refine ev_istore_n (L' := [(2, 1), (0, 0), (0, 1), (9, 0), (9, 0), (9, 0), (9, 0), (9, 0)]) (Nat.le_of_ble_eq_true rfl) rfl ?_
  refine ev_iconst ?_
  refine ev_istore_n (L' := [(2, 1), (0, 0), (0, 1), (0, 0), (9, 0), (9, 0), (9, 0), (9, 0)]) (Nat.le_of_ble_eq_true rfl) rfl ?_
  exact (s156_0_4_l ew0 2105344).1 _ _ _ 0 _ _ _ g k0 (by omega) (by omega) (by omega) (by omega) (by omega) (by omega) (ew0) (by omega) (by omega) (by omega)
/-! s156_1_2  -/
set_option maxHeartbeats 4000000 in
theorem s156_1_2_l {G : GH} {h : JH} (ew0 : h.2.2 1 0 = 2) : ∀ N : Nat, (∀ (h1 : JH) (x3 y0 z0 : Int) (j4 j5 j7 : AV), Gd G h1 → Kp [(6, 0)] h h1 → 0 ≤ x3 → x3 ≤ 16 → 0 ≤ z0 → z0 ≤ 1 → (x3 + (-16) * z0) ≤ 0 → ((-x3) + 16 * z0) ≤ 0 → h1.2.2 1 0 = y0 → 2 ≤ y0 → y0 ≤ 2 → ((-80) * x3 + 1324) < N → jEv (jOk 1) none (fun _ => 0) c156_0 0 0 (PV G [(6, 0)] h) (c156_8, [(2, 1), (0, 1), (0, 4), (0, x3), j4, j5, (9, 0), j7], [], h1, 0, 0)) ∧ (∀ (h1 : JH) (x3 x4 y0 z0 : Int) (j5 j7 : AV), Gd G h1 → Kp [(6, 0)] h h1 → 0 ≤ x3 → x3 ≤ 0 → 0 ≤ x4 → x4 ≤ 4 → 0 ≤ z0 → z0 ≤ 0 → (x3 + (-16) * z0) ≤ 0 → ((-x3) + 16 * z0) ≤ 0 → ((-x3) + x4) ≤ 4 → (x3 + (-x4)) ≤ 0 → h1.2.2 1 0 = y0 → 2 ≤ y0 → y0 ≤ 2 → ((-80) * x3 + (-8) * x4 + 1316) < N → jEv (jOk 1) none (fun _ => 0) c156_0 0 0 (PV G [(6, 0)] h) (c156_19, [(2, 1), (0, 1), (0, 4), (0, x3), (0, x4), j5, (9, 0), j7], [], h1, 0, 0)) ∧ (∀ (h1 : JH) (x3 x4 x5 x7 y0 z0 : Int), Gd G h1 → Kp [(6, 0)] h h1 → 0 ≤ x3 → x3 ≤ 0 → 0 ≤ x4 → x4 ≤ 3 → (-9223372036854775808) ≤ x5 → x5 ≤ 9223372036854775807 → 1 ≤ x7 → x7 ≤ 4 → 0 ≤ z0 → z0 ≤ 0 → (x3 + (-16) * z0) ≤ 0 → ((-x3) + 16 * z0) ≤ 0 → ((-x3) + x4) ≤ 3 → (x3 + (-x4)) ≤ 0 → h1.2.2 1 0 = y0 → 2 ≤ y0 → y0 ≤ 2 → ((-80) * x3 + (-8) * x4 + (-x7) + 1316) < N → jEv (jOk 1) none (fun _ => 0) c156_0 0 0 (PV G [(6, 0)] h) (c156_33, [(2, 1), (0, 1), (0, 4), (0, x3), (0, x4), (1, x5), (9, 0), (0, x7)], [], h1, 0, 0)) := by
  intro N
  induction N with
  | zero => exact ⟨fun h1 x3 y0 z0 j4 j5 j7 g1 k1 b0 b1 b2 b3 b4 b5 b6 b7 b8 hm => absurd hm (by omega), fun h1 x3 x4 y0 z0 j5 j7 g1 k1 b0 b1 b2 b3 b4 b5 b6 b7 b8 b9 b10 b11 b12 hm => absurd hm (by omega), fun h1 x3 x4 x5 x7 y0 z0 g1 k1 b0 b1 b2 b3 b4 b5 b6 b7 b8 b9 b10 b11 b12 b13 b14 b15 b16 hm => absurd hm (by omega)⟩
  | succ N ih =>
    refine ⟨?_, ?_, ?_⟩
    · intro h1 x3 y0 z0 j4 j5 j7 g1 k1 b0 b1 b2 b3 b4 b5 ey0 ly0 uy0 hm
      refine ev_iload_n rfl ?_
      refine ev_aload_n rfl ?_
      refine ev_in (d := 0) (a := 0) (b := 0) (cd' := c157_0) (m := 1) (L0 := [(2, 1)]) (jcall_v (A := []) (S' := [(0, x3)]) (r := 1) rfl (g1.lt ad1) (g1.tg ad1) (Nat.le_of_ble_eq_true rfl)) (by decide) ml157 pp157 (Nat.le_of_ble_eq_true rfl) rfl (by decide) (by decide) ?_
      refine ev_iconst ?_
      refine ev_iconst ?_
      refine ev_aload_n rfl ?_
      refine g_getv (r := 1) (v := y0) g1 ad1 (by decide) ft10_0 (ey0) ?_
      refine ev_imul (r := (2 * y0)) (by unfold w32; omega) ?_
      refine g_ishlB (a' := 1) (a := 1) (b := 4) (hi := 16) (by omega) (by omega) (by omega) (by omega) (by decide) (by decide) (fun v25354 ev25354 lv25354 uv25354 => ?_)
      refine ev_ret rfl (by decide) (by decide) ?_
      show jEv _ _ _ _ _ _ _ (_, [(2, 1), (0, 1), (0, 4), (0, x3), j4, j5, (9, 0), j7], [(0, v25354), (0, x3)], _, _, _)
      refine ev_icmpge f156_91 (fun c25355 => ?_) (fun c25355 => ?_)
      · exact ev_ret rfl (by decide) (by decide) ⟨rfl, g1, k1⟩
      · refine ev_iload_n rfl ?_
        refine ev_istore (L' := [(2, 1), (0, 1), (0, 4), (0, x3), (0, x3), j5, (9, 0), j7]) (Nat.le_of_ble_eq_true rfl) rfl ?_
        exact ih.2.1 _ _ _ _ z0 _ _ g1 k1 (by omega) (by omega) (by omega) (by omega) (by omega) (by omega) (by omega) (by omega) (by omega) (by omega) (ey0) (by omega) (by omega) (by omega)
    · intro h1 x3 x4 y0 z0 j5 j7 g1 k1 b0 b1 b2 b3 b4 b5 b6 b7 b8 b9 ey0 ly0 uy0 hm
      refine ev_iload rfl ?_
      refine ev_iload_n rfl ?_
      refine ev_iload_n rfl ?_
      refine ev_iadd (r := (x3 + 4)) (by unfold w32; omega) ?_
      refine ev_icmpge f156_82 (fun c25356 => ?_) (fun c25356 => ?_)
      · refine ev_iload_n rfl ?_
        refine ev_iconst ?_
        refine ev_iload_n rfl ?_
        refine ev_imul (r := 16) (by decide) ?_
        refine ev_iadd (r := (x3 + 16)) (by unfold w32; omega) ?_
        refine ev_istore_n (L' := [(2, 1), (0, 1), (0, 4), (0, (x3 + 16)), (0, x4), j5, (9, 0), j7]) (Nat.le_of_ble_eq_true rfl) rfl ?_
        refine ev_goto f156_8 ?_
        exact ih.1 _ _ _ (z0 + 1) _ _ _ g1 k1 (by omega) (by omega) (by omega) (by omega) (by omega) (by omega) (ey0) (by omega) (by omega) (by omega)
      · refine ev_lconst ?_
        refine ev_lstore (L' := [(2, 1), (0, 1), (0, 4), (0, x3), (0, x4), (1, 0), (9, 0), j7]) (Nat.le_of_ble_eq_true rfl) rfl ?_
        refine ev_iconst ?_
        refine ev_istore (L' := [(2, 1), (0, 1), (0, 4), (0, x3), (0, x4), (1, 0), (9, 0), (0, 1)]) (Nat.le_of_ble_eq_true rfl) rfl ?_
        exact ih.2.2 _ _ _ _ _ _ z0 g1 k1 (by omega) (by omega) (by omega) (by omega) (by omega) (by omega) (by omega) (by omega) (by omega) (by omega) (by omega) (by omega) (by omega) (by omega) (ey0) (by omega) (by omega) (by omega)
    · intro h1 x3 x4 x5 x7 y0 z0 g1 k1 b0 b1 b2 b3 b4 b5 b6 b7 b8 b9 b10 b11 b12 b13 ey0 ly0 uy0 hm
      refine ev_iload rfl ?_
      refine ev_aload_n rfl ?_
      refine g_getp (r := 1) (c := 2) g1 ad1 (by decide) (by decide) rf1_3 ft10_3 ?_
      refine ev_iload_n rfl ?_
      refine g_iald g1 ad2 rt2 (by omega) (by omega) (fun v25357 ev25357 lv25357 uv25357 => ?_)
      have xv25357 := (g1.ex.1.1 (1 : Int).toNat (by rw [(ey0)]; omega))
      rw [ev25357] at xv25357
      refine ev_icmpgt f156_67 (fun c25358 => ?_) (fun c25358 => ?_)
      · refine ev_aload_n rfl ?_
        refine g_getp (r := 1) (c := 6) g1 ad1 (by decide) (by decide) rf1_7 ft10_7 ?_
        refine ev_iload rfl ?_
        refine ev_lload rfl ?_
        refine g_last g1 ad6 rt6 (fun _ => rfl) (by omega) (by omega) (by omega) (by omega) (fun h25359 e25359 g25359 => ?_)
        have k25359 := k1.wr e25359 rfl
        refine ev_iinc (w := (x4 + 1)) (L' := [(2, 1), (0, 1), (0, 4), (0, x3), (0, (x4 + 1)), (1, x5), (9, 0), (0, x7)]) rfl (by unfold w32; omega) rfl ?_
        refine ev_goto f156_19 ?_
        exact ih.2.1 _ _ _ _ z0 _ _ g25359 k25359 (by omega) (by omega) (by omega) (by omega) (by omega) (by omega) (by omega) (by omega) (by omega) (by omega) (((jw_ne e25359 (Or.inl (by decide))).trans ey0)) (by omega) (by omega) (by omega)
      · refine ev_lload rfl ?_
        refine ev_aload_n rfl ?_
        refine g_getp (r := 1) (c := 6) g1 ad1 (by decide) (by decide) rf1_7 ft10_7 ?_
        refine ev_iload rfl ?_
        refine ev_iload rfl ?_
        refine ev_iload_n rfl ?_
        refine ev_imul (r := (4 * x7)) (by unfold w32; omega) ?_
        refine ev_iadd (r := (x4 + 4 * x7)) (by unfold w32; omega) ?_
        refine g_lald g1 ad6 rt6 (by omega) (by omega) (fun v25360 ev25360 lv25360 uv25360 => ?_)
        refine g_laddG (fun v25361 ev25361 lv25361 uv25361 => ?_)
        refine ev_lstore (L' := [(2, 1), (0, 1), (0, 4), (0, x3), (0, x4), (1, v25361), (9, 0), (0, x7)]) (Nat.le_of_ble_eq_true rfl) rfl ?_
        refine ev_iinc (w := (x7 + 1)) (L' := [(2, 1), (0, 1), (0, 4), (0, x3), (0, x4), (1, v25361), (9, 0), (0, (x7 + 1))]) rfl (by unfold w32; omega) rfl ?_
        refine ev_goto f156_33 ?_
        exact ih.2.2 _ _ _ _ _ _ z0 g1 k1 (by omega) (by omega) (by omega) (by omega) (by omega) (by omega) (by omega) (by omega) (by omega) (by omega) (by omega) (by omega) (by omega) (by omega) (ey0) (by omega) (by omega) (by omega)
set_option maxHeartbeats 4000000 in
theorem s156_1_2 {G : GH} {h : JH} (g : Gd G h) (ew0 : h.2.2 1 0 = 2) : jOk 2 0 0 156 [(2, 1), (0, 1)] h (PV G [(6, 0)] h) := by
  refine ⟨by decide, by rw [ml156]; exact Nat.le_of_ble_eq_true rfl, ?_⟩
  rw [ml156, pp156]
  show jEv _ none _ c156_0 0 0 _ (c156_0, [(2, 1), (0, 1), (9, 0), (9, 0), (9, 0), (9, 0), (9, 0), (9, 0)], [], h, 0, 0)
  have k0 := Kp.rf [(6, 0)] h
  refine ev_iconst ?_
  refine ev_iconst ?_
  refine ev_iload_n rfl ?_
  refine ev_imul (r := 2) (by decide) ?_
  refine ev_ishl (r := 4) (by decide) ?_
  refine ev_istore_n (L' := [(2, 1), (0, 1), (0, 4), (9, 0), (9, 0), (9, 0), (9, 0), (9, 0)]) (Nat.le_of_ble_eq_true rfl) rfl ?_
  refine ev_iconst ?_
  refine ev_istore_n (L' := [(2, 1), (0, 1), (0, 4), (0, 0), (9, 0), (9, 0), (9, 0), (9, 0)]) (Nat.le_of_ble_eq_true rfl) rfl ?_
  exact (s156_1_2_l ew0 2720).1 _ _ _ 0 _ _ _ g k0 (by omega) (by omega) (by omega) (by omega) (by omega) (by omega) (ew0) (by omega) (by omega) (by omega)
/-! s156_1_3  -/
set_option maxHeartbeats 4000000 in
theorem s156_1_3_l {G : GH} {h : JH} (ew0 : h.2.2 1 0 = 3) : ∀ N : Nat, (∀ (h1 : JH) (x3 y0 z0 : Int) (j4 j5 j7 : AV), Gd G h1 → Kp [(6, 0)] h h1 → 0 ≤ x3 → x3 ≤ 64 → 0 ≤ z0 → z0 ≤ 4 → (x3 + (-16) * z0) ≤ 0 → ((-x3) + 16 * z0) ≤ 0 → h1.2.2 1 0 = y0 → 3 ≤ y0 → y0 ≤ 3 → ((-960) * x3 + 61924) < N → jEv (jOk 1) none (fun _ => 0) c156_0 0 0 (PV G [(6, 0)] h) (c156_8, [(2, 1), (0, 1), (0, 4), (0, x3), j4, j5, (9, 0), j7], [], h1, 0, 0)) ∧ (∀ (h1 : JH) (x3 x4 y0 z0 : Int) (j5 j7 : AV), Gd G h1 → Kp [(6, 0)] h h1 → 0 ≤ x3 → x3 ≤ 59 → 0 ≤ x4 → x4 ≤ 59 → 0 ≤ z0 → z0 ≤ 3 → (x3 + (-16) * z0) ≤ 0 → ((-x3) + 16 * z0) ≤ 0 → ((-x3) + x4) ≤ 4 → (x3 + (-x4)) ≤ 0 → h1.2.2 1 0 = y0 → 3 ≤ y0 → y0 ≤ 3 → ((-960) * x3 + (-8) * x4 + 61916) < N → jEv (jOk 1) none (fun _ => 0) c156_0 0 0 (PV G [(6, 0)] h) (c156_19, [(2, 1), (0, 1), (0, 4), (0, x3), (0, x4), j5, (9, 0), j7], [], h1, 0, 0)) ∧ (∀ (h1 : JH) (x3 x4 x5 x7 y0 z0 : Int), Gd G h1 → Kp [(6, 0)] h h1 → 0 ≤ x3 → x3 ≤ 59 → 0 ≤ x4 → x4 ≤ 59 → (-9223372036854775808) ≤ x5 → x5 ≤ 9223372036854775807 → 1 ≤ x7 → x7 ≤ 4 → 0 ≤ z0 → z0 ≤ 3 → (x3 + (-16) * z0) ≤ 0 → ((-x3) + 16 * z0) ≤ 0 → ((-x3) + x4) ≤ 3 → (x3 + (-x4)) ≤ 0 → h1.2.2 1 0 = y0 → 3 ≤ y0 → y0 ≤ 3 → ((-960) * x3 + (-8) * x4 + (-x7) + 61916) < N → jEv (jOk 1) none (fun _ => 0) c156_0 0 0 (PV G [(6, 0)] h) (c156_33, [(2, 1), (0, 1), (0, 4), (0, x3), (0, x4), (1, x5), (9, 0), (0, x7)], [], h1, 0, 0)) := by
  intro N
  induction N with
  | zero => exact ⟨fun h1 x3 y0 z0 j4 j5 j7 g1 k1 b0 b1 b2 b3 b4 b5 b6 b7 b8 hm => absurd hm (by omega), fun h1 x3 x4 y0 z0 j5 j7 g1 k1 b0 b1 b2 b3 b4 b5 b6 b7 b8 b9 b10 b11 b12 hm => absurd hm (by omega), fun h1 x3 x4 x5 x7 y0 z0 g1 k1 b0 b1 b2 b3 b4 b5 b6 b7 b8 b9 b10 b11 b12 b13 b14 b15 b16 hm => absurd hm (by omega)⟩
  | succ N ih =>
    refine ⟨?_, ?_, ?_⟩
    · intro h1 x3 y0 z0 j4 j5 j7 g1 k1 b0 b1 b2 b3 b4 b5 ey0 ly0 uy0 hm
      refine ev_iload_n rfl ?_
      refine ev_aload_n rfl ?_
      refine ev_in (d := 0) (a := 0) (b := 0) (cd' := c157_0) (m := 1) (L0 := [(2, 1)]) (jcall_v (A := []) (S' := [(0, x3)]) (r := 1) rfl (g1.lt ad1) (g1.tg ad1) (Nat.le_of_ble_eq_true rfl)) (by decide) ml157 pp157 (Nat.le_of_ble_eq_true rfl) rfl (by decide) (by decide) ?_
      refine ev_iconst ?_
      refine ev_iconst ?_
      refine ev_aload_n rfl ?_
      refine g_getv (r := 1) (v := y0) g1 ad1 (by decide) ft10_0 (ey0) ?_
      refine ev_imul (r := (2 * y0)) (by unfold w32; omega) ?_
      refine g_ishlB (a' := 1) (a := 1) (b := 6) (hi := 64) (by omega) (by omega) (by omega) (by omega) (by decide) (by decide) (fun v25444 ev25444 lv25444 uv25444 => ?_)
      refine ev_ret rfl (by decide) (by decide) ?_
      show jEv _ _ _ _ _ _ _ (_, [(2, 1), (0, 1), (0, 4), (0, x3), j4, j5, (9, 0), j7], [(0, v25444), (0, x3)], _, _, _)
      refine ev_icmpge f156_91 (fun c25445 => ?_) (fun c25445 => ?_)
      · exact ev_ret rfl (by decide) (by decide) ⟨rfl, g1, k1⟩
      · refine ev_iload_n rfl ?_
        refine ev_istore (L' := [(2, 1), (0, 1), (0, 4), (0, x3), (0, x3), j5, (9, 0), j7]) (Nat.le_of_ble_eq_true rfl) rfl ?_
        exact ih.2.1 _ _ _ _ z0 _ _ g1 k1 (by omega) (by omega) (by omega) (by omega) (by omega) (by omega) (by omega) (by omega) (by omega) (by omega) (ey0) (by omega) (by omega) (by omega)
    · intro h1 x3 x4 y0 z0 j5 j7 g1 k1 b0 b1 b2 b3 b4 b5 b6 b7 b8 b9 ey0 ly0 uy0 hm
      refine ev_iload rfl ?_
      refine ev_iload_n rfl ?_
      refine ev_iload_n rfl ?_
      refine ev_iadd (r := (x3 + 4)) (by unfold w32; omega) ?_
      refine ev_icmpge f156_82 (fun c25446 => ?_) (fun c25446 => ?_)
      · refine ev_iload_n rfl ?_
        refine ev_iconst ?_
        refine ev_iload_n rfl ?_
        refine ev_imul (r := 16) (by decide) ?_
        refine ev_iadd (r := (x3 + 16)) (by unfold w32; omega) ?_
        refine ev_istore_n (L' := [(2, 1), (0, 1), (0, 4), (0, (x3 + 16)), (0, x4), j5, (9, 0), j7]) (Nat.le_of_ble_eq_true rfl) rfl ?_
        refine ev_goto f156_8 ?_
        exact ih.1 _ _ _ (z0 + 1) _ _ _ g1 k1 (by omega) (by omega) (by omega) (by omega) (by omega) (by omega) (ey0) (by omega) (by omega) (by omega)
      · refine ev_lconst ?_
        refine ev_lstore (L' := [(2, 1), (0, 1), (0, 4), (0, x3), (0, x4), (1, 0), (9, 0), j7]) (Nat.le_of_ble_eq_true rfl) rfl ?_
        refine ev_iconst ?_
        refine ev_istore (L' := [(2, 1), (0, 1), (0, 4), (0, x3), (0, x4), (1, 0), (9, 0), (0, 1)]) (Nat.le_of_ble_eq_true rfl) rfl ?_
        exact ih.2.2 _ _ _ _ _ _ z0 g1 k1 (by omega) (by omega) (by omega) (by omega) (by omega) (by omega) (by omega) (by omega) (by omega) (by omega) (by omega) (by omega) (by omega) (by omega) (ey0) (by omega) (by omega) (by omega)
    · intro h1 x3 x4 x5 x7 y0 z0 g1 k1 b0 b1 b2 b3 b4 b5 b6 b7 b8 b9 b10 b11 b12 b13 ey0 ly0 uy0 hm
      refine ev_iload rfl ?_
      refine ev_aload_n rfl ?_
      refine g_getp (r := 1) (c := 2) g1 ad1 (by decide) (by decide) rf1_3 ft10_3 ?_
      refine ev_iload_n rfl ?_
      refine g_iald g1 ad2 rt2 (by omega) (by omega) (fun v25447 ev25447 lv25447 uv25447 => ?_)
      have xv25447 := (g1.ex.1.1 (1 : Int).toNat (by rw [(ey0)]; omega))
      rw [ev25447] at xv25447
      refine ev_icmpgt f156_67 (fun c25448 => ?_) (fun c25448 => ?_)
      · refine ev_aload_n rfl ?_
        refine g_getp (r := 1) (c := 6) g1 ad1 (by decide) (by decide) rf1_7 ft10_7 ?_
        refine ev_iload rfl ?_
        refine ev_lload rfl ?_
        refine g_last g1 ad6 rt6 (fun _ => rfl) (by omega) (by omega) (by omega) (by omega) (fun h25449 e25449 g25449 => ?_)
        have k25449 := k1.wr e25449 rfl
        refine ev_iinc (w := (x4 + 1)) (L' := [(2, 1), (0, 1), (0, 4), (0, x3), (0, (x4 + 1)), (1, x5), (9, 0), (0, x7)]) rfl (by unfold w32; omega) rfl ?_
        refine ev_goto f156_19 ?_
        exact ih.2.1 _ _ _ _ z0 _ _ g25449 k25449 (by omega) (by omega) (by omega) (by omega) (by omega) (by omega) (by omega) (by omega) (by omega) (by omega) (((jw_ne e25449 (Or.inl (by decide))).trans ey0)) (by omega) (by omega) (by omega)
      · refine ev_lload rfl ?_
        refine ev_aload_n rfl ?_
        refine g_getp (r := 1) (c := 6) g1 ad1 (by decide) (by decide) rf1_7 ft10_7 ?_
        refine ev_iload rfl ?_
        refine ev_iload rfl ?_
        refine ev_iload_n rfl ?_
        refine ev_imul (r := (4 * x7)) (by unfold w32; omega) ?_
        refine ev_iadd (r := (x4 + 4 * x7)) (by unfold w32; omega) ?_
        refine g_lald g1 ad6 rt6 (by omega) (by omega) (fun v25450 ev25450 lv25450 uv25450 => ?_)
        refine g_laddG (fun v25451 ev25451 lv25451 uv25451 => ?_)
        refine ev_lstore (L' := [(2, 1), (0, 1), (0, 4), (0, x3), (0, x4), (1, v25451), (9, 0), (0, x7)]) (Nat.le_of_ble_eq_true rfl) rfl ?_
        refine ev_iinc (w := (x7 + 1)) (L' := [(2, 1), (0, 1), (0, 4), (0, x3), (0, x4), (1, v25451), (9, 0), (0, (x7 + 1))]) rfl (by unfold w32; omega) rfl ?_
        refine ev_goto f156_33 ?_
        exact ih.2.2 _ _ _ _ _ _ z0 g1 k1 (by omega) (by omega) (by omega) (by omega) (by omega) (by omega) (by omega) (by omega) (by omega) (by omega) (by omega) (by omega) (by omega) (by omega) (ey0) (by omega) (by omega) (by omega)
set_option maxHeartbeats 4000000 in
theorem s156_1_3 {G : GH} {h : JH} (g : Gd G h) (ew0 : h.2.2 1 0 = 3) : jOk 2 0 0 156 [(2, 1), (0, 1)] h (PV G [(6, 0)] h) := by
  refine ⟨by decide, by rw [ml156]; exact Nat.le_of_ble_eq_true rfl, ?_⟩
  rw [ml156, pp156]
  show jEv _ none _ c156_0 0 0 _ (c156_0, [(2, 1), (0, 1), (9, 0), (9, 0), (9, 0), (9, 0), (9, 0), (9, 0)], [], h, 0, 0)
  have k0 := Kp.rf [(6, 0)] h
  refine ev_iconst ?_
  refine ev_iconst ?_
  refine ev_iload_n rfl ?_
  refine ev_imul (r := 2) (by decide) ?_
  refine ev_ishl (r := 4) (by decide) ?_
  refine ev_istore_n (L' := [(2, 1), (0, 1), (0, 4), (9, 0), (9, 0), (9, 0), (9, 0), (9, 0)]) (Nat.le_of_ble_eq_true rfl) rfl ?_
  refine ev_iconst ?_
  refine ev_istore_n (L' := [(2, 1), (0, 1), (0, 4), (0, 0), (9, 0), (9, 0), (9, 0), (9, 0)]) (Nat.le_of_ble_eq_true rfl) rfl ?_
  exact (s156_1_3_l ew0 124800).1 _ _ _ 0 _ _ _ g k0 (by omega) (by omega) (by omega) (by omega) (by omega) (by omega) (ew0) (by omega) (by omega) (by omega)
/-! s156_1_4  -/
set_option maxHeartbeats 4000000 in
theorem s156_1_4_l {G : GH} {h : JH} (ew0 : h.2.2 1 0 = 4) : ∀ N : Nat, (∀ (h1 : JH) (x3 y0 z0 : Int) (j4 j5 j7 : AV), Gd G h1 → Kp [(6, 0)] h h1 → 0 ≤ x3 → x3 ≤ 256 → 0 ≤ z0 → z0 ≤ 16 → (x3 + (-16) * z0) ≤ 0 → ((-x3) + 16 * z0) ≤ 0 → h1.2.2 1 0 = y0 → 4 ≤ y0 → y0 ≤ 4 → ((-4096) * x3 + 1050628) < N → jEv (jOk 1) none (fun _ => 0) c156_0 0 0 (PV G [(6, 0)] h) (c156_8, [(2, 1), (0, 1), (0, 4), (0, x3), j4, j5, (9, 0), j7], [], h1, 0, 0)) ∧ (∀ (h1 : JH) (x3 x4 y0 z0 : Int) (j5 j7 : AV), Gd G h1 → Kp [(6, 0)] h h1 → 0 ≤ x3 → x3 ≤ 255 → 0 ≤ x4 → x4 ≤ 255 → 0 ≤ z0 → z0 ≤ 15 → (x3 + (-16) * z0) ≤ 0 → ((-x3) + 16 * z0) ≤ 0 → ((-x3) + x4) ≤ 4 → (x3 + (-x4)) ≤ 0 → h1.2.2 1 0 = y0 → 4 ≤ y0 → y0 ≤ 4 → ((-4096) * x3 + (-8) * x4 + 1050620) < N → jEv (jOk 1) none (fun _ => 0) c156_0 0 0 (PV G [(6, 0)] h) (c156_19, [(2, 1), (0, 1), (0, 4), (0, x3), (0, x4), j5, (9, 0), j7], [], h1, 0, 0)) ∧ (∀ (h1 : JH) (x3 x4 x5 x7 y0 z0 : Int), Gd G h1 → Kp [(6, 0)] h h1 → 0 ≤ x3 → x3 ≤ 255 → 0 ≤ x4 → x4 ≤ 255 → (-9223372036854775808) ≤ x5 → x5 ≤ 9223372036854775807 → 1 ≤ x7 → x7 ≤ 4 → 0 ≤ z0 → z0 ≤ 15 → (x3 + (-16) * z0) ≤ 0 → ((-x3) + 16 * z0) ≤ 0 → ((-x3) + x4) ≤ 3 → (x3 + (-x4)) ≤ 0 → h1.2.2 1 0 = y0 → 4 ≤ y0 → y0 ≤ 4 → ((-4096) * x3 + (-8) * x4 + (-x7) + 1050620) < N → jEv (jOk 1) none (fun _ => 0) c156_0 0 0 (PV G [(6, 0)] h) (c156_33, [(2, 1), (0, 1), (0, 4), (0, x3), (0, x4), (1, x5), (9, 0), (0, x7)], [], h1, 0, 0)) := by
  intro N
  induction N with
  | zero => exact ⟨fun h1 x3 y0 z0 j4 j5 j7 g1 k1 b0 b1 b2 b3 b4 b5 b6 b7 b8 hm => absurd hm (by omega), fun h1 x3 x4 y0 z0 j5 j7 g1 k1 b0 b1 b2 b3 b4 b5 b6 b7 b8 b9 b10 b11 b12 hm => absurd hm (by omega), fun h1 x3 x4 x5 x7 y0 z0 g1 k1 b0 b1 b2 b3 b4 b5 b6 b7 b8 b9 b10 b11 b12 b13 b14 b15 b16 hm => absurd hm (by omega)⟩
  | succ N ih =>
    refine ⟨?_, ?_, ?_⟩
    · intro h1 x3 y0 z0 j4 j5 j7 g1 k1 b0 b1 b2 b3 b4 b5 ey0 ly0 uy0 hm
      refine ev_iload_n rfl ?_
      refine ev_aload_n rfl ?_
      refine ev_in (d := 0) (a := 0) (b := 0) (cd' := c157_0) (m := 1) (L0 := [(2, 1)]) (jcall_v (A := []) (S' := [(0, x3)]) (r := 1) rfl (g1.lt ad1) (g1.tg ad1) (Nat.le_of_ble_eq_true rfl)) (by decide) ml157 pp157 (Nat.le_of_ble_eq_true rfl) rfl (by decide) (by decide) ?_
      refine ev_iconst ?_
      refine ev_iconst ?_
      refine ev_aload_n rfl ?_
      refine g_getv (r := 1) (v := y0) g1 ad1 (by decide) ft10_0 (ey0) ?_
      refine ev_imul (r := (2 * y0)) (by unfold w32; omega) ?_
      refine g_ishlB (a' := 1) (a := 1) (b := 8) (hi := 256) (by omega) (by omega) (by omega) (by omega) (by decide) (by decide) (fun v25597 ev25597 lv25597 uv25597 => ?_)
      refine ev_ret rfl (by decide) (by decide) ?_
      show jEv _ _ _ _ _ _ _ (_, [(2, 1), (0, 1), (0, 4), (0, x3), j4, j5, (9, 0), j7], [(0, v25597), (0, x3)], _, _, _)
      refine ev_icmpge f156_91 (fun c25598 => ?_) (fun c25598 => ?_)
      · exact ev_ret rfl (by decide) (by decide) ⟨rfl, g1, k1⟩
      · refine ev_iload_n rfl ?_
        refine ev_istore (L' := [(2, 1), (0, 1), (0, 4), (0, x3), (0, x3), j5, (9, 0), j7]) (Nat.le_of_ble_eq_true rfl) rfl ?_
        exact ih.2.1 _ _ _ _ z0 _ _ g1 k1 (by omega) (by omega) (by omega) (by omega) (by omega) (by omega) (by omega) (by omega) (by omega) (by omega) (ey0) (by omega) (by omega) (by omega)
    · intro h1 x3 x4 y0 z0 j5 j7 g1 k1 b0 b1 b2 b3 b4 b5 b6 b7 b8 b9 ey0 ly0 uy0 hm
      refine ev_iload rfl ?_
      refine ev_iload_n rfl ?_
      refine ev_iload_n rfl ?_
      refine ev_iadd (r := (x3 + 4)) (by unfold w32; omega) ?_
      refine ev_icmpge f156_82 (fun c25599 => ?_) (fun c25599 => ?_)
      · refine ev_iload_n rfl ?_
        refine ev_iconst ?_
        refine ev_iload_n rfl ?_
        refine ev_imul (r := 16) (by decide) ?_
        refine ev_iadd (r := (x3 + 16)) (by unfold w32; omega) ?_
        refine ev_istore_n (L' := [(2, 1), (0, 1), (0, 4), (0, (x3 + 16)), (0, x4), j5, (9, 0), j7]) (Nat.le_of_ble_eq_true rfl) rfl ?_
        refine ev_goto f156_8 ?_
        exact ih.1 _ _ _ (z0 + 1) _ _ _ g1 k1 (by omega) (by omega) (by omega) (by omega) (by omega) (by omega) (ey0) (by omega) (by omega) (by omega)
      · refine ev_lconst ?_
        refine ev_lstore (L' := [(2, 1), (0, 1), (0, 4), (0, x3), (0, x4), (1, 0), (9, 0), j7]) (Nat.le_of_ble_eq_true rfl) rfl ?_
        refine ev_iconst ?_
        refine ev_istore (L' := [(2, 1), (0, 1), (0, 4), (0, x3), (0, x4), (1, 0), (9, 0), (0, 1)]) (Nat.le_of_ble_eq_true rfl) rfl ?_
        exact ih.2.2 _ _ _ _ _ _ z0 g1 k1 (by omega) (by omega) (by omega) (by omega) (by omega) (by omega) (by omega) (by omega) (by omega) (by omega) (by omega) (by omega) (by omega) (by omega) (ey0) (by omega) (by omega) (by omega)
    · intro h1 x3 x4 x5 x7 y0 z0 g1 k1 b0 b1 b2 b3 b4 b5 b6 b7 b8 b9 b10 b11 b12 b13 ey0 ly0 uy0 hm
      refine ev_iload rfl ?_
      refine ev_aload_n rfl ?_
      refine g_getp (r := 1) (c := 2) g1 ad1 (by decide) (by decide) rf1_3 ft10_3 ?_
      refine ev_iload_n rfl ?_
      refine g_iald g1 ad2 rt2 (by omega) (by omega) (fun v25600 ev25600 lv25600 uv25600 => ?_)
      have xv25600 := (g1.ex.1.1 (1 : Int).toNat (by rw [(ey0)]; omega))
      rw [ev25600] at xv25600
      refine ev_icmpgt f156_67 (fun c25601 => ?_) (fun c25601 => ?_)
      · refine ev_aload_n rfl ?_
        refine g_getp (r := 1) (c := 6) g1 ad1 (by decide) (by decide) rf1_7 ft10_7 ?_
        refine ev_iload rfl ?_
        refine ev_lload rfl ?_
        refine g_last g1 ad6 rt6 (fun _ => rfl) (by omega) (by omega) (by omega) (by omega) (fun h25602 e25602 g25602 => ?_)
        have k25602 := k1.wr e25602 rfl
        refine ev_iinc (w := (x4 + 1)) (L' := [(2, 1), (0, 1), (0, 4), (0, x3), (0, (x4 + 1)), (1, x5), (9, 0), (0, x7)]) rfl (by unfold w32; omega) rfl ?_
        refine ev_goto f156_19 ?_
        exact ih.2.1 _ _ _ _ z0 _ _ g25602 k25602 (by omega) (by omega) (by omega) (by omega) (by omega) (by omega) (by omega) (by omega) (by omega) (by omega) (((jw_ne e25602 (Or.inl (by decide))).trans ey0)) (by omega) (by omega) (by omega)
      · refine ev_lload rfl ?_
        refine ev_aload_n rfl ?_
        refine g_getp (r := 1) (c := 6) g1 ad1 (by decide) (by decide) rf1_7 ft10_7 ?_
        refine ev_iload rfl ?_
        refine ev_iload rfl ?_
        refine ev_iload_n rfl ?_
        refine ev_imul (r := (4 * x7)) (by unfold w32; omega) ?_
        refine ev_iadd (r := (x4 + 4 * x7)) (by unfold w32; omega) ?_
        refine g_lald g1 ad6 rt6 (by omega) (by omega) (fun v25603 ev25603 lv25603 uv25603 => ?_)
        refine g_laddG (fun v25604 ev25604 lv25604 uv25604 => ?_)
        refine ev_lstore (L' := [(2, 1), (0, 1), (0, 4), (0, x3), (0, x4), (1, v25604), (9, 0), (0, x7)]) (Nat.le_of_ble_eq_true rfl) rfl ?_
        refine ev_iinc (w := (x7 + 1)) (L' := [(2, 1), (0, 1), (0, 4), (0, x3), (0, x4), (1, v25604), (9, 0), (0, (x7 + 1))]) rfl (by unfold w32; omega) rfl ?_
        refine ev_goto f156_33 ?_
        exact ih.2.2 _ _ _ _ _ _ z0 g1 k1 (by omega) (by omega) (by omega) (by omega) (by omega) (by omega) (by omega) (by omega) (by omega) (by omega) (by omega) (by omega) (by omega) (by omega) (ey0) (by omega) (by omega) (by omega)
set_option maxHeartbeats 4000000 in
theorem s156_1_4 {G : GH} {h : JH} (g : Gd G h) (ew0 : h.2.2 1 0 = 4) : jOk 2 0 0 156 [(2, 1), (0, 1)] h (PV G [(6, 0)] h) := by
  refine ⟨by decide, by rw [ml156]; exact Nat.le_of_ble_eq_true rfl, ?_⟩
  rw [ml156, pp156]
  show jEv _ none _ c156_0 0 0 _ (c156_0, [(2, 1), (0, 1), (9, 0), (9, 0), (9, 0), (9, 0), (9, 0), (9, 0)], [], h, 0, 0)
  have k0 := Kp.rf [(6, 0)] h
  refine ev_iconst ?_
  refine ev_iconst ?_
  refine ev_iload_n rfl ?_
  refine ev_imul (r := 2) (by decide) ?_
  refine ev_ishl (r := 4) (by decide) ?_
  refine ev_istore_n (L' := [(2, 1), (0, 1), (0, 4), (9, 0), (9, 0), (9, 0), (9, 0), (9, 0)]) (Nat.le_of_ble_eq_true rfl) rfl ?_
  refine ev_iconst ?_
  refine ev_istore_n (L' := [(2, 1), (0, 1), (0, 4), (0, 0), (9, 0), (9, 0), (9, 0), (9, 0)]) (Nat.le_of_ble_eq_true rfl) rfl ?_
  exact (s156_1_4_l ew0 2105344).1 _ _ _ 0 _ _ _ g k0 (by omega) (by omega) (by omega) (by omega) (by omega) (by omega) (ew0) (by omega) (by omega) (by omega)
/-! s156_2_3  -/
set_option maxHeartbeats 4000000 in
theorem s156_2_3_l {G : GH} {h : JH} (ew0 : h.2.2 1 0 = 3) : ∀ N : Nat, (∀ (h1 : JH) (x3 y0 z0 : Int) (j4 j5 j7 : AV), Gd G h1 → Kp [(6, 0)] h h1 → 0 ≤ x3 → x3 ≤ 64 → 0 ≤ z0 → z0 ≤ 1 → (x3 + (-64) * z0) ≤ 0 → ((-x3) + 64 * z0) ≤ 0 → h1.2.2 1 0 = y0 → 3 ≤ y0 → y0 ≤ 3 → ((-272) * x3 + 17548) < N → jEv (jOk 1) none (fun _ => 0) c156_0 0 0 (PV G [(6, 0)] h) (c156_8, [(2, 1), (0, 2), (0, 16), (0, x3), j4, j5, (9, 0), j7], [], h1, 0, 0)) ∧ (∀ (h1 : JH) (x3 x4 y0 z0 : Int) (j5 j7 : AV), Gd G h1 → Kp [(6, 0)] h h1 → 0 ≤ x3 → x3 ≤ 0 → 0 ≤ x4 → x4 ≤ 16 → 0 ≤ z0 → z0 ≤ 0 → (x3 + (-64) * z0) ≤ 0 → ((-x3) + 64 * z0) ≤ 0 → ((-x3) + x4) ≤ 16 → (x3 + (-x4)) ≤ 0 → h1.2.2 1 0 = y0 → 3 ≤ y0 → y0 ≤ 3 → ((-272) * x3 + (-8) * x4 + 17540) < N → jEv (jOk 1) none (fun _ => 0) c156_0 0 0 (PV G [(6, 0)] h) (c156_19, [(2, 1), (0, 2), (0, 16), (0, x3), (0, x4), j5, (9, 0), j7], [], h1, 0, 0)) ∧ (∀ (h1 : JH) (x3 x4 x5 x7 y0 z0 : Int), Gd G h1 → Kp [(6, 0)] h h1 → 0 ≤ x3 → x3 ≤ 0 → 0 ≤ x4 → x4 ≤ 15 → (-9223372036854775808) ≤ x5 → x5 ≤ 9223372036854775807 → 1 ≤ x7 → x7 ≤ 4 → 0 ≤ z0 → z0 ≤ 0 → (x3 + (-64) * z0) ≤ 0 → ((-x3) + 64 * z0) ≤ 0 → ((-x3) + x4) ≤ 15 → (x3 + (-x4)) ≤ 0 → h1.2.2 1 0 = y0 → 3 ≤ y0 → y0 ≤ 3 → ((-272) * x3 + (-8) * x4 + (-x7) + 17540) < N → jEv (jOk 1) none (fun _ => 0) c156_0 0 0 (PV G [(6, 0)] h) (c156_33, [(2, 1), (0, 2), (0, 16), (0, x3), (0, x4), (1, x5), (9, 0), (0, x7)], [], h1, 0, 0)) := by
  intro N
  induction N with
  | zero => exact ⟨fun h1 x3 y0 z0 j4 j5 j7 g1 k1 b0 b1 b2 b3 b4 b5 b6 b7 b8 hm => absurd hm (by omega), fun h1 x3 x4 y0 z0 j5 j7 g1 k1 b0 b1 b2 b3 b4 b5 b6 b7 b8 b9 b10 b11 b12 hm => absurd hm (by omega), fun h1 x3 x4 x5 x7 y0 z0 g1 k1 b0 b1 b2 b3 b4 b5 b6 b7 b8 b9 b10 b11 b12 b13 b14 b15 b16 hm => absurd hm (by omega)⟩
  | succ N ih =>
    refine ⟨?_, ?_, ?_⟩
    · intro h1 x3 y0 z0 j4 j5 j7 g1 k1 b0 b1 b2 b3 b4 b5 ey0 ly0 uy0 hm
      refine ev_iload_n rfl ?_
      refine ev_aload_n rfl ?_
      refine ev_in (d := 0) (a := 0) (b := 0) (cd' := c157_0) (m := 1) (L0 := [(2, 1)]) (jcall_v (A := []) (S' := [(0, x3)]) (r := 1) rfl (g1.lt ad1) (g1.tg ad1) (Nat.le_of_ble_eq_true rfl)) (by decide) ml157 pp157 (Nat.le_of_ble_eq_true rfl) rfl (by decide) (by decide) ?_
      refine ev_iconst ?_
      refine ev_iconst ?_
      refine ev_aload_n rfl ?_
      refine g_getv (r := 1) (v := y0) g1 ad1 (by decide) ft10_0 (ey0) ?_
      refine ev_imul (r := (2 * y0)) (by unfold w32; omega) ?_
      refine g_ishlB (a' := 1) (a := 1) (b := 6) (hi := 64) (by omega) (by omega) (by omega) (by omega) (by decide) (by decide) (fun v25715 ev25715 lv25715 uv25715 => ?_)
      refine ev_ret rfl (by decide) (by decide) ?_
      show jEv _ _ _ _ _ _ _ (_, [(2, 1), (0, 2), (0, 16), (0, x3), j4, j5, (9, 0), j7], [(0, v25715), (0, x3)], _, _, _)
      refine ev_icmpge f156_91 (fun c25716 => ?_) (fun c25716 => ?_)
      · exact ev_ret rfl (by decide) (by decide) ⟨rfl, g1, k1⟩
      · refine ev_iload_n rfl ?_
        refine ev_istore (L' := [(2, 1), (0, 2), (0, 16), (0, x3), (0, x3), j5, (9, 0), j7]) (Nat.le_of_ble_eq_true rfl) rfl ?_
        exact ih.2.1 _ _ _ _ z0 _ _ g1 k1 (by omega) (by omega) (by omega) (by omega) (by omega) (by omega) (by omega) (by omega) (by omega) (by omega) (ey0) (by omega) (by omega) (by omega)
    · intro h1 x3 x4 y0 z0 j5 j7 g1 k1 b0 b1 b2 b3 b4 b5 b6 b7 b8 b9 ey0 ly0 uy0 hm
      refine ev_iload rfl ?_
      refine ev_iload_n rfl ?_
      refine ev_iload_n rfl ?_
      refine ev_iadd (r := (x3 + 16)) (by unfold w32; omega) ?_
      refine ev_icmpge f156_82 (fun c25717 => ?_) (fun c25717 => ?_)
      · refine ev_iload_n rfl ?_
        refine ev_iconst ?_
        refine ev_iload_n rfl ?_
        refine ev_imul (r := 64) (by decide) ?_
        refine ev_iadd (r := (x3 + 64)) (by unfold w32; omega) ?_
        refine ev_istore_n (L' := [(2, 1), (0, 2), (0, 16), (0, (x3 + 64)), (0, x4), j5, (9, 0), j7]) (Nat.le_of_ble_eq_true rfl) rfl ?_
        refine ev_goto f156_8 ?_
        exact ih.1 _ _ _ (z0 + 1) _ _ _ g1 k1 (by omega) (by omega) (by omega) (by omega) (by omega) (by omega) (ey0) (by omega) (by omega) (by omega)
      · refine ev_lconst ?_
        refine ev_lstore (L' := [(2, 1), (0, 2), (0, 16), (0, x3), (0, x4), (1, 0), (9, 0), j7]) (Nat.le_of_ble_eq_true rfl) rfl ?_
        refine ev_iconst ?_
        refine ev_istore (L' := [(2, 1), (0, 2), (0, 16), (0, x3), (0, x4), (1, 0), (9, 0), (0, 1)]) (Nat.le_of_ble_eq_true rfl) rfl ?_
        exact ih.2.2 _ _ _ _ _ _ z0 g1 k1 (by omega) (by omega) (by omega) (by omega) (by omega) (by omega) (by omega) (by omega) (by omega) (by omega) (by omega) (by omega) (by omega) (by omega) (ey0) (by omega) (by omega) (by omega)
    · intro h1 x3 x4 x5 x7 y0 z0 g1 k1 b0 b1 b2 b3 b4 b5 b6 b7 b8 b9 b10 b11 b12 b13 ey0 ly0 uy0 hm
      refine ev_iload rfl ?_
      refine ev_aload_n rfl ?_
      refine g_getp (r := 1) (c := 2) g1 ad1 (by decide) (by decide) rf1_3 ft10_3 ?_
      refine ev_iload_n rfl ?_
      refine g_iald g1 ad2 rt2 (by omega) (by omega) (fun v25718 ev25718 lv25718 uv25718 => ?_)
      have xv25718 := (g1.ex.1.1 (2 : Int).toNat (by rw [(ey0)]; omega))
      rw [ev25718] at xv25718
      refine ev_icmpgt f156_67 (fun c25719 => ?_) (fun c25719 => ?_)
      · refine ev_aload_n rfl ?_
        refine g_getp (r := 1) (c := 6) g1 ad1 (by decide) (by decide) rf1_7 ft10_7 ?_
        refine ev_iload rfl ?_
        refine ev_lload rfl ?_
        refine g_last g1 ad6 rt6 (fun _ => rfl) (by omega) (by omega) (by omega) (by omega) (fun h25720 e25720 g25720 => ?_)
        have k25720 := k1.wr e25720 rfl
        refine ev_iinc (w := (x4 + 1)) (L' := [(2, 1), (0, 2), (0, 16), (0, x3), (0, (x4 + 1)), (1, x5), (9, 0), (0, x7)]) rfl (by unfold w32; omega) rfl ?_
        refine ev_goto f156_19 ?_
        exact ih.2.1 _ _ _ _ z0 _ _ g25720 k25720 (by omega) (by omega) (by omega) (by omega) (by omega) (by omega) (by omega) (by omega) (by omega) (by omega) (((jw_ne e25720 (Or.inl (by decide))).trans ey0)) (by omega) (by omega) (by omega)
      · refine ev_lload rfl ?_
        refine ev_aload_n rfl ?_
        refine g_getp (r := 1) (c := 6) g1 ad1 (by decide) (by decide) rf1_7 ft10_7 ?_
        refine ev_iload rfl ?_
        refine ev_iload rfl ?_
        refine ev_iload_n rfl ?_
        refine ev_imul (r := (16 * x7)) (by unfold w32; omega) ?_
        refine ev_iadd (r := (x4 + 16 * x7)) (by unfold w32; omega) ?_
        refine g_lald g1 ad6 rt6 (by omega) (by omega) (fun v25721 ev25721 lv25721 uv25721 => ?_)
        refine g_laddG (fun v25722 ev25722 lv25722 uv25722 => ?_)
        refine ev_lstore (L' := [(2, 1), (0, 2), (0, 16), (0, x3), (0, x4), (1, v25722), (9, 0), (0, x7)]) (Nat.le_of_ble_eq_true rfl) rfl ?_
        refine ev_iinc (w := (x7 + 1)) (L' := [(2, 1), (0, 2), (0, 16), (0, x3), (0, x4), (1, v25722), (9, 0), (0, (x7 + 1))]) rfl (by unfold w32; omega) rfl ?_
        refine ev_goto f156_33 ?_
        exact ih.2.2 _ _ _ _ _ _ z0 g1 k1 (by omega) (by omega) (by omega) (by omega) (by omega) (by omega) (by omega) (by omega) (by omega) (by omega) (by omega) (by omega) (by omega) (by omega) (ey0) (by omega) (by omega) (by omega)
set_option maxHeartbeats 4000000 in
theorem s156_2_3 {G : GH} {h : JH} (g : Gd G h) (ew0 : h.2.2 1 0 = 3) : jOk 2 0 0 156 [(2, 1), (0, 2)] h (PV G [(6, 0)] h) := by
  refine ⟨by decide, by rw [ml156]; exact Nat.le_of_ble_eq_true rfl, ?_⟩
  rw [ml156, pp156]
  show jEv _ none _ c156_0 0 0 _ (c156_0, [(2, 1), (0, 2), (9, 0), (9, 0), (9, 0), (9, 0), (9, 0), (9, 0)], [], h, 0, 0)
  have k0 := Kp.rf [(6, 0)] h
  refine ev_iconst ?_
  refine ev_iconst ?_
  refine ev_iload_n rfl ?_
  refine ev_imul (r := 4) (by decide) ?_
  refine ev_ishl (r := 16) (by decide) ?_
  refine ev_istore_n (L' := [(2, 1), (0, 2), (0, 16), (9, 0), (9, 0), (9, 0), (9, 0), (9, 0)]) (Nat.le_of_ble_eq_true rfl) rfl ?_
  refine ev_iconst ?_
  refine ev_istore_n (L' := [(2, 1), (0, 2), (0, 16), (0, 0), (9, 0), (9, 0), (9, 0), (9, 0)]) (Nat.le_of_ble_eq_true rfl) rfl ?_
  exact (s156_2_3_l ew0 35360).1 _ _ _ 0 _ _ _ g k0 (by omega) (by omega) (by omega) (by omega) (by omega) (by omega) (ew0) (by omega) (by omega) (by omega)
/-! s156_2_4  -/
set_option maxHeartbeats 4000000 in
theorem s156_2_4_l {G : GH} {h : JH} (ew0 : h.2.2 1 0 = 4) : ∀ N : Nat, (∀ (h1 : JH) (x3 y0 z0 : Int) (j4 j5 j7 : AV), Gd G h1 → Kp [(6, 0)] h h1 → 0 ≤ x3 → x3 ≤ 256 → 0 ≤ z0 → z0 ≤ 4 → (x3 + (-64) * z0) ≤ 0 → ((-x3) + 64 * z0) ≤ 0 → h1.2.2 1 0 = y0 → 4 ≤ y0 → y0 ≤ 4 → ((-4096) * x3 + 1050628) < N → jEv (jOk 1) none (fun _ => 0) c156_0 0 0 (PV G [(6, 0)] h) (c156_8, [(2, 1), (0, 2), (0, 16), (0, x3), j4, j5, (9, 0), j7], [], h1, 0, 0)) ∧ (∀ (h1 : JH) (x3 x4 y0 z0 : Int) (j5 j7 : AV), Gd G h1 → Kp [(6, 0)] h h1 → 0 ≤ x3 → x3 ≤ 199 → 0 ≤ x4 → x4 ≤ 255 → 0 ≤ z0 → z0 ≤ 3 → (x3 + (-64) * z0) ≤ 0 → ((-x3) + 64 * z0) ≤ 0 → ((-x3) + x4) ≤ 16 → (x3 + (-x4)) ≤ 0 → h1.2.2 1 0 = y0 → 4 ≤ y0 → y0 ≤ 4 → ((-4096) * x3 + (-8) * x4 + 1050620) < N → jEv (jOk 1) none (fun _ => 0) c156_0 0 0 (PV G [(6, 0)] h) (c156_19, [(2, 1), (0, 2), (0, 16), (0, x3), (0, x4), j5, (9, 0), j7], [], h1, 0, 0)) ∧ (∀ (h1 : JH) (x3 x4 x5 x7 y0 z0 : Int), Gd G h1 → Kp [(6, 0)] h h1 → 0 ≤ x3 → x3 ≤ 199 → 0 ≤ x4 → x4 ≤ 255 → (-9223372036854775808) ≤ x5 → x5 ≤ 9223372036854775807 → 1 ≤ x7 → x7 ≤ 4 → 0 ≤ z0 → z0 ≤ 3 → (x3 + (-64) * z0) ≤ 0 → ((-x3) + 64 * z0) ≤ 0 → ((-x3) + x4) ≤ 15 → (x3 + (-x4)) ≤ 0 → h1.2.2 1 0 = y0 → 4 ≤ y0 → y0 ≤ 4 → ((-4096) * x3 + (-8) * x4 + (-x7) + 1050620) < N → jEv (jOk 1) none (fun _ => 0) c156_0 0 0 (PV G [(6, 0)] h) (c156_33, [(2, 1), (0, 2), (0, 16), (0, x3), (0, x4), (1, x5), (9, 0), (0, x7)], [], h1, 0, 0)) := by
  intro N
  induction N with
  | zero => exact ⟨fun h1 x3 y0 z0 j4 j5 j7 g1 k1 b0 b1 b2 b3 b4 b5 b6 b7 b8 hm => absurd hm (by omega), fun h1 x3 x4 y0 z0 j5 j7 g1 k1 b0 b1 b2 b3 b4 b5 b6 b7 b8 b9 b10 b11 b12 hm => absurd hm (by omega), fun h1 x3 x4 x5 x7 y0 z0 g1 k1 b0 b1 b2 b3 b4 b5 b6 b7 b8 b9 b10 b11 b12 b13 b14 b15 b16 hm => absurd hm (by omega)⟩
  | succ N ih =>
    refine ⟨?_, ?_, ?_⟩
    · intro h1 x3 y0 z0 j4 j5 j7 g1 k1 b0 b1 b2 b3 b4 b5 ey0 ly0 uy0 hm
      refine ev_iload_n rfl ?_
      refine ev_aload_n rfl ?_
      refine ev_in (d := 0) (a := 0) (b := 0) (cd' := c157_0) (m := 1) (L0 := [(2, 1)]) (jcall_v (A := []) (S' := [(0, x3)]) (r := 1) rfl (g1.lt ad1) (g1.tg ad1) (Nat.le_of_ble_eq_true rfl)) (by decide) ml157 pp157 (Nat.le_of_ble_eq_true rfl) rfl (by decide) (by decide) ?_
      refine ev_iconst ?_
      refine ev_iconst ?_
      refine ev_aload_n rfl ?_
      refine g_getv (r := 1) (v := y0) g1 ad1 (by decide) ft10_0 (ey0) ?_
      refine ev_imul (r := (2 * y0)) (by unfold w32; omega) ?_
      refine g_ishlB (a' := 1) (a := 1) (b := 8) (hi := 256) (by omega) (by omega) (by omega) (by omega) (by decide) (by decide) (fun v25871 ev25871 lv25871 uv25871 => ?_)
      refine ev_ret rfl (by decide) (by decide) ?_
      show jEv _ _ _ _ _ _ _ (_, [(2, 1), (0, 2), (0, 16), (0, x3), j4, j5, (9, 0), j7], [(0, v25871), (0, x3)], _, _, _)
      refine ev_icmpge f156_91 (fun c25872 => ?_) (fun c25872 => ?_)
      · exact ev_ret rfl (by decide) (by decide) ⟨rfl, g1, k1⟩
      · refine ev_iload_n rfl ?_
        refine ev_istore (L' := [(2, 1), (0, 2), (0, 16), (0, x3), (0, x3), j5, (9, 0), j7]) (Nat.le_of_ble_eq_true rfl) rfl ?_
        exact ih.2.1 _ _ _ _ z0 _ _ g1 k1 (by omega) (by omega) (by omega) (by omega) (by omega) (by omega) (by omega) (by omega) (by omega) (by omega) (ey0) (by omega) (by omega) (by omega)
    · intro h1 x3 x4 y0 z0 j5 j7 g1 k1 b0 b1 b2 b3 b4 b5 b6 b7 b8 b9 ey0 ly0 uy0 hm
      refine ev_iload rfl ?_
      refine ev_iload_n rfl ?_
      refine ev_iload_n rfl ?_
      refine ev_iadd (r := (x3 + 16)) (by unfold w32; omega) ?_
      refine ev_icmpge f156_82 (fun c25873 => ?_) (fun c25873 => ?_)
      · refine ev_iload_n rfl ?_
        refine ev_iconst ?_
        refine ev_iload_n rfl ?_
        refine ev_imul (r := 64) (by decide) ?_
        refine ev_iadd (r := (x3 + 64)) (by unfold w32; omega) ?_
        refine ev_istore_n (L' := [(2, 1), (0, 2), (0, 16), (0, (x3 + 64)), (0, x4), j5, (9, 0), j7]) (Nat.le_of_ble_eq_true rfl) rfl ?_
        refine ev_goto f156_8 ?_
        exact ih.1 _ _ _ (z0 + 1) _ _ _ g1 k1 (by omega) (by omega) (by omega) (by omega) (by omega) (by omega) (ey0) (by omega) (by omega) (by omega)
      · refine ev_lconst ?_
        refine ev_lstore (L' := [(2, 1), (0, 2), (0, 16), (0, x3), (0, x4), (1, 0), (9, 0), j7]) (Nat.le_of_ble_eq_true rfl) rfl ?_
        refine ev_iconst ?_
        refine ev_istore (L' := [(2, 1), (0, 2), (0, 16), (0, x3), (0, x4), (1, 0), (9, 0), (0, 1)]) (Nat.le_of_ble_eq_true rfl) rfl ?_
        exact ih.2.2 _ _ _ _ _ _ z0 g1 k1 (by omega) (by omega) (by omega) (by omega) (by omega) (by omega) (by omega) (by omega) (by omega) (by omega) (by omega) (by omega) (by omega) (by omega) (ey0) (by omega) (by omega) (by omega)
    · intro h1 x3 x4 x5 x7 y0 z0 g1 k1 b0 b1 b2 b3 b4 b5 b6 b7 b8 b9 b10 b11 b12 b13 ey0 ly0 uy0 hm
      refine ev_iload rfl ?_
      refine ev_aload_n rfl ?_
      refine g_getp (r := 1) (c := 2) g1 ad1 (by decide) (by decide) rf1_3 ft10_3 ?_
      refine ev_iload_n rfl ?_
      refine g_iald g1 ad2 rt2 (by omega) (by omega) (fun v25874 ev25874 lv25874 uv25874 => ?_)
      have xv25874 := (g1.ex.1.1 (2 : Int).toNat (by rw [(ey0)]; omega))
      rw [ev25874] at xv25874
      refine ev_icmpgt f156_67 (fun c25875 => ?_) (fun c25875 => ?_)
      · refine ev_aload_n rfl ?_
        refine g_getp (r := 1) (c := 6) g1 ad1 (by decide) (by decide) rf1_7 ft10_7 ?_
        refine ev_iload rfl ?_
        refine ev_lload rfl ?_
        refine g_last g1 ad6 rt6 (fun _ => rfl) (by omega) (by omega) (by omega) (by omega) (fun h25876 e25876 g25876 => ?_)
        have k25876 := k1.wr e25876 rfl
        refine ev_iinc (w := (x4 + 1)) (L' := [(2, 1), (0, 2), (0, 16), (0, x3), (0, (x4 + 1)), (1, x5), (9, 0), (0, x7)]) rfl (by unfold w32; omega) rfl ?_
        refine ev_goto f156_19 ?_
        exact ih.2.1 _ _ _ _ z0 _ _ g25876 k25876 (by omega) (by omega) (by omega) (by omega) (by omega) (by omega) (by omega) (by omega) (by omega) (by omega) (((jw_ne e25876 (Or.inl (by decide))).trans ey0)) (by omega) (by omega) (by omega)
      · refine ev_lload rfl ?_
        refine ev_aload_n rfl ?_
        refine g_getp (r := 1) (c := 6) g1 ad1 (by decide) (by decide) rf1_7 ft10_7 ?_
        refine ev_iload rfl ?_
        refine ev_iload rfl ?_
        refine ev_iload_n rfl ?_
        refine ev_imul (r := (16 * x7)) (by unfold w32; omega) ?_
        refine ev_iadd (r := (x4 + 16 * x7)) (by unfold w32; omega) ?_
        refine g_lald g1 ad6 rt6 (by omega) (by omega) (fun v25877 ev25877 lv25877 uv25877 => ?_)
        refine g_laddG (fun v25878 ev25878 lv25878 uv25878 => ?_)
        refine ev_lstore (L' := [(2, 1), (0, 2), (0, 16), (0, x3), (0, x4), (1, v25878), (9, 0), (0, x7)]) (Nat.le_of_ble_eq_true rfl) rfl ?_
        refine ev_iinc (w := (x7 + 1)) (L' := [(2, 1), (0, 2), (0, 16), (0, x3), (0, x4), (1, v25878), (9, 0), (0, (x7 + 1))]) rfl (by unfold w32; omega) rfl ?_
        refine ev_goto f156_33 ?_
        exact ih.2.2 _ _ _ _ _ _ z0 g1 k1 (by omega) (by omega) (by omega) (by omega) (by omega) (by omega) (by omega) (by omega) (by omega) (by omega) (by omega) (by omega) (by omega) (by omega) (ey0) (by omega) (by omega) (by omega)
set_option maxHeartbeats 4000000 in
theorem s156_2_4 {G : GH} {h : JH} (g : Gd G h) (ew0 : h.2.2 1 0 = 4) : jOk 2 0 0 156 [(2, 1), (0, 2)] h (PV G [(6, 0)] h) := by
  refine ⟨by decide, by rw [ml156]; exact Nat.le_of_ble_eq_true rfl, ?_⟩
  rw [ml156, pp156]
  show jEv _ none _ c156_0 0 0 _ (c156_0, [(2, 1), (0, 2), (9, 0), (9, 0), (9, 0), (9, 0), (9, 0), (9, 0)], [], h, 0, 0)
  have k0 := Kp.rf [(6, 0)] h
  refine ev_iconst ?_
  refine ev_iconst ?_
  refine ev_iload_n rfl ?_
  refine ev_imul (r := 4) (by decide) ?_
  refine ev_ishl (r := 16) (by decide) ?_
  refine ev_istore_n (L' := [(2, 1), (0, 2), (0, 16), (9, 0), (9, 0), (9, 0), (9, 0), (9, 0)]) (Nat.le_of_ble_eq_true rfl) rfl ?_
  refine ev_iconst ?_
  refine ev_istore_n (L' := [(2, 1), (0, 2), (0, 16), (0, 0), (9, 0), (9, 0), (9, 0), (9, 0)]) (Nat.le_of_ble_eq_true rfl) rfl ?_
  exact (s156_2_4_l ew0 2105344).1 _ _ _ 0 _ _ _ g k0 (by omega) (by omega) (by omega) (by omega) (by omega) (by omega) (ew0) (by omega) (by omega) (by omega)
/-! s156_3_4  -/
set_option maxHeartbeats 4000000 in
theorem s156_3_4_l {G : GH} {h : JH} (ew0 : h.2.2 1 0 = 4) : ∀ N : Nat, (∀ (h1 : JH) (x3 y0 z0 : Int) (j4 j5 j7 : AV), Gd G h1 → Kp [(6, 0)] h h1 → 0 ≤ x3 → x3 ≤ 256 → 0 ≤ z0 → z0 ≤ 1 → (x3 + (-256) * z0) ≤ 0 → ((-x3) + 256 * z0) ≤ 0 → h1.2.2 1 0 = y0 → 4 ≤ y0 → y0 ≤ 4 → ((-1040) * x3 + 266764) < N → jEv (jOk 1) none (fun _ => 0) c156_0 0 0 (PV G [(6, 0)] h) (c156_8, [(2, 1), (0, 3), (0, 64), (0, x3), j4, j5, (9, 0), j7], [], h1, 0, 0)) ∧ (∀ (h1 : JH) (x3 x4 y0 z0 : Int) (j5 j7 : AV), Gd G h1 → Kp [(6, 0)] h h1 → 0 ≤ x3 → x3 ≤ 0 → 0 ≤ x4 → x4 ≤ 64 → 0 ≤ z0 → z0 ≤ 0 → (x3 + (-256) * z0) ≤ 0 → ((-x3) + 256 * z0) ≤ 0 → ((-x3) + x4) ≤ 64 → (x3 + (-x4)) ≤ 0 → h1.2.2 1 0 = y0 → 4 ≤ y0 → y0 ≤ 4 → ((-1040) * x3 + (-8) * x4 + 266756) < N → jEv (jOk 1) none (fun _ => 0) c156_0 0 0 (PV G [(6, 0)] h) (c156_19, [(2, 1), (0, 3), (0, 64), (0, x3), (0, x4), j5, (9, 0), j7], [], h1, 0, 0)) ∧ (∀ (h1 : JH) (x3 x4 x5 x7 y0 z0 : Int), Gd G h1 → Kp [(6, 0)] h h1 → 0 ≤ x3 → x3 ≤ 0 → 0 ≤ x4 → x4 ≤ 63 → (-9223372036854775808) ≤ x5 → x5 ≤ 9223372036854775807 → 1 ≤ x7 → x7 ≤ 4 → 0 ≤ z0 → z0 ≤ 0 → (x3 + (-256) * z0) ≤ 0 → ((-x3) + 256 * z0) ≤ 0 → ((-x3) + x4) ≤ 63 → (x3 + (-x4)) ≤ 0 → h1.2.2 1 0 = y0 → 4 ≤ y0 → y0 ≤ 4 → ((-1040) * x3 + (-8) * x4 + (-x7) + 266756) < N → jEv (jOk 1) none (fun _ => 0) c156_0 0 0 (PV G [(6, 0)] h) (c156_33, [(2, 1), (0, 3), (0, 64), (0, x3), (0, x4), (1, x5), (9, 0), (0, x7)], [], h1, 0, 0)) := by
  intro N
  induction N with
  | zero => exact ⟨fun h1 x3 y0 z0 j4 j5 j7 g1 k1 b0 b1 b2 b3 b4 b5 b6 b7 b8 hm => absurd hm (by omega), fun h1 x3 x4 y0 z0 j5 j7 g1 k1 b0 b1 b2 b3 b4 b5 b6 b7 b8 b9 b10 b11 b12 hm => absurd hm (by omega), fun h1 x3 x4 x5 x7 y0 z0 g1 k1 b0 b1 b2 b3 b4 b5 b6 b7 b8 b9 b10 b11 b12 b13 b14 b15 b16 hm => absurd hm (by omega)⟩
  | succ N ih =>
    refine ⟨?_, ?_, ?_⟩
    · intro h1 x3 y0 z0 j4 j5 j7 g1 k1 b0 b1 b2 b3 b4 b5 ey0 ly0 uy0 hm
      refine ev_iload_n rfl ?_
      refine ev_aload_n rfl ?_
      refine ev_in (d := 0) (a := 0) (b := 0) (cd' := c157_0) (m := 1) (L0 := [(2, 1)]) (jcall_v (A := []) (S' := [(0, x3)]) (r := 1) rfl (g1.lt ad1) (g1.tg ad1) (Nat.le_of_ble_eq_true rfl)) (by decide) ml157 pp157 (Nat.le_of_ble_eq_true rfl) rfl (by decide) (by decide) ?_
      refine ev_iconst ?_
      refine ev_iconst ?_
      refine ev_aload_n rfl ?_
      refine g_getv (r := 1) (v := y0) g1 ad1 (by decide) ft10_0 (ey0) ?_
      refine ev_imul (r := (2 * y0)) (by unfold w32; omega) ?_
      refine g_ishlB (a' := 1) (a := 1) (b := 8) (hi := 256) (by omega) (by omega) (by omega) (by omega) (by decide) (by decide) (fun v26085 ev26085 lv26085 uv26085 => ?_)
      refine ev_ret rfl (by decide) (by decide) ?_
      show jEv _ _ _ _ _ _ _ (_, [(2, 1), (0, 3), (0, 64), (0, x3), j4, j5, (9, 0), j7], [(0, v26085), (0, x3)], _, _, _)
      refine ev_icmpge f156_91 (fun c26086 => ?_) (fun c26086 => ?_)
      · exact ev_ret rfl (by decide) (by decide) ⟨rfl, g1, k1⟩
      · refine ev_iload_n rfl ?_
        refine ev_istore (L' := [(2, 1), (0, 3), (0, 64), (0, x3), (0, x3), j5, (9, 0), j7]) (Nat.le_of_ble_eq_true rfl) rfl ?_
        exact ih.2.1 _ _ _ _ z0 _ _ g1 k1 (by omega) (by omega) (by omega) (by omega) (by omega) (by omega) (by omega) (by omega) (by omega) (by omega) (ey0) (by omega) (by omega) (by omega)
    · intro h1 x3 x4 y0 z0 j5 j7 g1 k1 b0 b1 b2 b3 b4 b5 b6 b7 b8 b9 ey0 ly0 uy0 hm
      refine ev_iload rfl ?_
      refine ev_iload_n rfl ?_
      refine ev_iload_n rfl ?_
      refine ev_iadd (r := (x3 + 64)) (by unfold w32; omega) ?_
      refine ev_icmpge f156_82 (fun c26087 => ?_) (fun c26087 => ?_)
      · refine ev_iload_n rfl ?_
        refine ev_iconst ?_
        refine ev_iload_n rfl ?_
        refine ev_imul (r := 256) (by decide) ?_
        refine ev_iadd (r := (x3 + 256)) (by unfold w32; omega) ?_
        refine ev_istore_n (L' := [(2, 1), (0, 3), (0, 64), (0, (x3 + 256)), (0, x4), j5, (9, 0), j7]) (Nat.le_of_ble_eq_true rfl) rfl ?_
        refine ev_goto f156_8 ?_
        exact ih.1 _ _ _ (z0 + 1) _ _ _ g1 k1 (by omega) (by omega) (by omega) (by omega) (by omega) (by omega) (ey0) (by omega) (by omega) (by omega)
      · refine ev_lconst ?_
        refine ev_lstore (L' := [(2, 1), (0, 3), (0, 64), (0, x3), (0, x4), (1, 0), (9, 0), j7]) (Nat.le_of_ble_eq_true rfl) rfl ?_
        refine ev_iconst ?_
        refine ev_istore (L' := [(2, 1), (0, 3), (0, 64), (0, x3), (0, x4), (1, 0), (9, 0), (0, 1)]) (Nat.le_of_ble_eq_true rfl) rfl ?_
        exact ih.2.2 _ _ _ _ _ _ z0 g1 k1 (by omega) (by omega) (by omega) (by omega) (by omega) (by omega) (by omega) (by omega) (by omega) (by omega) (by omega) (by omega) (by omega) (by omega) (ey0) (by omega) (by omega) (by omega)
    · intro h1 x3 x4 x5 x7 y0 z0 g1 k1 b0 b1 b2 b3 b4 b5 b6 b7 b8 b9 b10 b11 b12 b13 ey0 ly0 uy0 hm
      refine ev_iload rfl ?_
      refine ev_aload_n rfl ?_
      refine g_getp (r := 1) (c := 2) g1 ad1 (by decide) (by decide) rf1_3 ft10_3 ?_
      refine ev_iload_n rfl ?_
      refine g_iald g1 ad2 rt2 (by omega) (by omega) (fun v26088 ev26088 lv26088 uv26088 => ?_)
      have xv26088 := (g1.ex.1.1 (3 : Int).toNat (by rw [(ey0)]; omega))
      rw [ev26088] at xv26088
      refine ev_icmpgt f156_67 (fun c26089 => ?_) (fun c26089 => ?_)
      · refine ev_aload_n rfl ?_
        refine g_getp (r := 1) (c := 6) g1 ad1 (by decide) (by decide) rf1_7 ft10_7 ?_
        refine ev_iload rfl ?_
        refine ev_lload rfl ?_
        refine g_last g1 ad6 rt6 (fun _ => rfl) (by omega) (by omega) (by omega) (by omega) (fun h26090 e26090 g26090 => ?_)
        have k26090 := k1.wr e26090 rfl
        refine ev_iinc (w := (x4 + 1)) (L' := [(2, 1), (0, 3), (0, 64), (0, x3), (0, (x4 + 1)), (1, x5), (9, 0), (0, x7)]) rfl (by unfold w32; omega) rfl ?_
        refine ev_goto f156_19 ?_
        exact ih.2.1 _ _ _ _ z0 _ _ g26090 k26090 (by omega) (by omega) (by omega) (by omega) (by omega) (by omega) (by omega) (by omega) (by omega) (by omega) (((jw_ne e26090 (Or.inl (by decide))).trans ey0)) (by omega) (by omega) (by omega)
      · refine ev_lload rfl ?_
        refine ev_aload_n rfl ?_
        refine g_getp (r := 1) (c := 6) g1 ad1 (by decide) (by decide) rf1_7 ft10_7 ?_
        refine ev_iload rfl ?_
        refine ev_iload rfl ?_
        refine ev_iload_n rfl ?_
        refine ev_imul (r := (64 * x7)) (by unfold w32; omega) ?_
        refine ev_iadd (r := (x4 + 64 * x7)) (by unfold w32; omega) ?_
        refine g_lald g1 ad6 rt6 (by omega) (by omega) (fun v26091 ev26091 lv26091 uv26091 => ?_)
        refine g_laddG (fun v26092 ev26092 lv26092 uv26092 => ?_)
        refine ev_lstore (L' := [(2, 1), (0, 3), (0, 64), (0, x3), (0, x4), (1, v26092), (9, 0), (0, x7)]) (Nat.le_of_ble_eq_true rfl) rfl ?_
        refine ev_iinc (w := (x7 + 1)) (L' := [(2, 1), (0, 3), (0, 64), (0, x3), (0, x4), (1, v26092), (9, 0), (0, (x7 + 1))]) rfl (by unfold w32; omega) rfl ?_
        refine ev_goto f156_33 ?_
        exact ih.2.2 _ _ _ _ _ _ z0 g1 k1 (by omega) (by omega) (by omega) (by omega) (by omega) (by omega) (by omega) (by omega) (by omega) (by omega) (by omega) (by omega) (by omega) (by omega) (ey0) (by omega) (by omega) (by omega)
set_option maxHeartbeats 4000000 in
theorem s156_3_4 {G : GH} {h : JH} (g : Gd G h) (ew0 : h.2.2 1 0 = 4) : jOk 2 0 0 156 [(2, 1), (0, 3)] h (PV G [(6, 0)] h) := by
  refine ⟨by decide, by rw [ml156]; exact Nat.le_of_ble_eq_true rfl, ?_⟩
  rw [ml156, pp156]
  show jEv _ none _ c156_0 0 0 _ (c156_0, [(2, 1), (0, 3), (9, 0), (9, 0), (9, 0), (9, 0), (9, 0), (9, 0)], [], h, 0, 0)
  have k0 := Kp.rf [(6, 0)] h
  refine ev_iconst ?_
  refine ev_iconst ?_
  refine ev_iload_n rfl ?_
  refine ev_imul (r := 6) (by decide) ?_
  refine ev_ishl (r := 64) (by decide) ?_
  refine ev_istore_n (L' := [(2, 1), (0, 3), (0, 64), (9, 0), (9, 0), (9, 0), (9, 0), (9, 0)]) (Nat.le_of_ble_eq_true rfl) rfl ?_
  refine ev_iconst ?_
  refine ev_istore_n (L' := [(2, 1), (0, 3), (0, 64), (0, 0), (9, 0), (9, 0), (9, 0), (9, 0)]) (Nat.le_of_ble_eq_true rfl) rfl ?_
  exact (s156_3_4_l ew0 534560).1 _ _ _ 0 _ _ _ g k0 (by omega) (by omega) (by omega) (by omega) (by omega) (by omega) (ew0) (by omega) (by omega) (by omega)
/-! s156  -/
theorem s156 {G : GH} {h : JH} (g : Gd G h) {a1 : Int} (l1 : 0 ≤ a1) (u1 : a1 ≤ 3) {w0 : Int} (e0 : h.2.2 1 0 = w0) (l0 : 0 ≤ w0) (u0 : w0 ≤ 4) (hr : a1 + 1 ≤ w0) : jOk 2 0 0 156 [(2, 1), (0, a1)] h (PV G [(6, 0)] h) := by
  rcases (show a1 = 0 ∨ a1 = 1 ∨ a1 = 2 ∨ a1 = 3 by omega) with e | e | e | e <;> subst e <;> rcases (show w0 = 1 ∨ w0 = 2 ∨ w0 = 3 ∨ w0 = 4 by omega) with f | f | f | f <;> subst f
  · exact s156_0_1 g e0
  · exact s156_0_2 g e0
  · exact s156_0_3 g e0
  · exact s156_0_4 g e0
  · omega
  · exact s156_1_2 g e0
  · exact s156_1_3 g e0
  · exact s156_1_4 g e0
  · omega
  · omega
  · exact s156_2_3 g e0
  · exact s156_2_4 g e0
  · omega
  · omega
  · omega
  · exact s156_3_4 g e0
/-! 154 weighStates -/
set_option maxHeartbeats 4000000 in
theorem s154_l {G : GH} {h : JH}  : ∀ N : Nat, (∀ (h1 : JH) (x1 : Int) (j2 j4 j5 : AV), Gd G h1 → Kp [(5, 0), (6, 0)] h h1 → 0 ≤ x1 → x1 ≤ 4 → ((-8) * x1 + 116) < N → jEv (jOk 3) none (fun _ => 0) c154_0 0 0 (PV G [(5, 0), (6, 0)] h) (c154_2, [(2, 1), (0, x1), j2, (9, 0), j4, j5], [], h1, 0, 0)) ∧ (∀ (h1 : JH) (x1 x2 x4 : Int) (j5 : AV), Gd G h1 → Kp [(5, 0), (6, 0)] h h1 → 0 ≤ x1 → x1 ≤ 3 → (-9223372036854775808) ≤ x2 → x2 ≤ 9223372036854775807 → 0 ≤ x4 → x4 ≤ 3 → ((-8) * x1 + (-x4) + 115) < N → jEv (jOk 3) none (fun _ => 0) c154_0 0 0 (PV G [(5, 0), (6, 0)] h) (c154_19, [(2, 1), (0, x1), (1, x2), (9, 0), (0, x4), j5], [], h1, 0, 0)) ∧ (∀ (h1 : JH) (x1 : Int) (j2 j4 j5 : AV), Gd G h1 → Kp [(5, 0), (6, 0)] h h1 → 0 ≤ x1 → x1 ≤ 4 → ((-8) * x1 + 76) < N → jEv (jOk 3) none (fun _ => 0) c154_0 0 0 (PV G [(5, 0), (6, 0)] h) (c154_85, [(2, 1), (0, x1), j2, (9, 0), j4, j5], [], h1, 0, 0)) ∧ (∀ (h1 : JH) (x1 : Int) (j2 j4 j5 : AV), Gd G h1 → Kp [(5, 0), (6, 0)] h h1 → 0 ≤ x1 → x1 ≤ 4 → ((-8) * x1 + 36) < N → jEv (jOk 3) none (fun _ => 0) c154_0 0 0 (PV G [(5, 0), (6, 0)] h) (c154_106, [(2, 1), (0, x1), j2, (9, 0), j4, j5], [], h1, 0, 0)) := by
  intro N
  induction N with
  | zero => exact ⟨fun h1 x1 j2 j4 j5 g1 k1 b0 b1 hm => absurd hm (by omega), fun h1 x1 x2 x4 j5 g1 k1 b0 b1 b2 b3 b4 b5 hm => absurd hm (by omega), fun h1 x1 j2 j4 j5 g1 k1 b0 b1 hm => absurd hm (by omega), fun h1 x1 j2 j4 j5 g1 k1 b0 b1 hm => absurd hm (by omega)⟩
  | succ N ih =>
    refine ⟨?_, ?_, ?_, ?_⟩
    · intro h1 x1 j2 j4 j5 g1 k1 b0 b1 hm
      refine ev_iload_n rfl ?_
      refine ev_aload_n rfl ?_
      obtain ⟨v26244, ev26244, lv26244, uv26244⟩ := g1.rd ad1 (show 0 < 8 by decide) rf1_0
      refine g_getv (r := 1) (v := v26244) g1 ad1 (by decide) ft10_0 ev26244 ?_
      refine ev_icmpge f154_76 (fun c26245 => ?_) (fun c26245 => ?_)
      · refine ev_aload_n rfl ?_
        refine g_getp (r := 1) (c := 6) g1 ad1 (by decide) (by decide) rf1_7 ft10_7 ?_
        refine ev_iconst ?_
        refine ev_lconst ?_
        refine g_last g1 ad6 rt6 (fun _ => rfl) (by omega) (by omega) (by omega) (by omega) (fun h26246 e26246 g26246 => ?_)
        have k26246 := k1.wr e26246 rfl
        refine ev_iconst ?_
        refine ev_istore_n (L' := [(2, 1), (0, 0), j2, (9, 0), j4, j5]) (Nat.le_of_ble_eq_true rfl) rfl ?_
        exact ih.2.2.1 _ _ _ _ _ g26246 k26246 (by omega) (by omega) (by omega)
      · refine ev_aload_n rfl ?_
        refine ev_iload_n rfl ?_
        refine ev_call (jcall_v (A := [(0, x1)]) (S' := []) (r := 1) rfl (g1.lt ad1) (g1.tg ad1) (Nat.le_of_ble_eq_true rfl)) (jOk_le (by decide) (s151 g1 (by omega) (by omega))) (by decide) (by decide) (fun w26247 h26247 q26247 => ?_)
        obtain ⟨v26248, rfl, lv26248, uv26248, g26247, kk26247⟩ := q26247
        have k26247 := k1.tr kk26247 (by decide)
        show jEv _ _ _ _ _ _ _ (_, [(2, 1), (0, x1), j2, (9, 0), j4, j5], [(1, v26248)], _, _, _)
        refine ev_lstore_n (L' := [(2, 1), (0, x1), (1, v26248), (9, 0), j4, j5]) (Nat.le_of_ble_eq_true rfl) rfl ?_
        refine ev_iconst ?_
        refine ev_istore (L' := [(2, 1), (0, x1), (1, v26248), (9, 0), (0, 0), j5]) (Nat.le_of_ble_eq_true rfl) rfl ?_
        exact ih.2.1 _ _ _ _ _ g26247 k26247 (by omega) (by omega) (by omega) (by omega) (by omega) (by omega) (by omega)
    · intro h1 x1 x2 x4 j5 g1 k1 b0 b1 b2 b3 b4 b5 hm
      refine ev_iload rfl ?_
      refine ev_aload_n rfl ?_
      refine ev_iload_n rfl ?_
      refine ev_in (d := 2) (a := 0) (b := 0) (cd' := c145_0) (m := 2) (L0 := [(2, 1), (0, x1)]) (jcall_v (A := [(0, x1)]) (S' := [(0, x4)]) (r := 1) rfl (g1.lt ad1) (g1.tg ad1) (Nat.le_of_ble_eq_true rfl)) (by decide) ml145 pp145 (Nat.le_of_ble_eq_true rfl) rfl (by decide) (by decide) ?_
      refine ev_aload_n rfl ?_
      refine g_getp (r := 1) (c := 3) g1 ad1 (by decide) (by decide) rf1_4 ft10_4 ?_
      refine ev_iload_n rfl ?_
      refine g_iald g1 ad3 rt3 (by omega) (by omega) (fun v26249 ev26249 lv26249 uv26249 => ?_)
      refine ev_ifge f145_13 (fun c26250 => ?_) (fun c26250 => ?_)
      · refine ev_aload_n rfl ?_
        refine g_getp (r := 1) (c := 2) g1 ad1 (by decide) (by decide) rf1_3 ft10_3 ?_
        refine ev_aload_n rfl ?_
        refine g_getp (r := 1) (c := 3) g1 ad1 (by decide) (by decide) rf1_4 ft10_4 ?_
        refine ev_iload_n rfl ?_
        refine g_ialdv (v := v26249) g1 ad3 (by omega) (by omega) (ev26249) ?_
        refine g_iald g1 ad2 rt2 (by omega) (by omega) (fun v26251 ev26251 lv26251 uv26251 => ?_)
        refine ev_ret rfl (by decide) (by decide) ?_
        show jEv _ _ _ _ _ _ _ (_, [(2, 1), (0, x1), (1, x2), (9, 0), (0, x4), j5], [(0, v26251), (0, x4)], _, _, _)
        refine ev_icmpge f154_70 (fun c26252 => ?_) (fun c26252 => ?_)
        · refine ev_iinc (w := (x1 + 1)) (L' := [(2, 1), (0, (x1 + 1)), (1, x2), (9, 0), (0, x4), j5]) rfl (by unfold w32; omega) rfl ?_
          refine ev_goto f154_2 ?_
          exact ih.1 _ _ _ _ _ g1 k1 (by omega) (by omega) (by omega)
        · refine ev_aload_n rfl ?_
          refine ev_iload_n rfl ?_
          refine ev_iload rfl ?_
          refine ev_call (jcall_v (A := [(0, x4), (0, x1)]) (S' := []) (r := 1) rfl (g1.lt ad1) (g1.tg ad1) (Nat.le_of_ble_eq_true rfl)) (jOk_le (by decide) (s150 g1 (by omega) (by omega) (by omega) (by omega))) (by decide) (by decide) (fun w26253 h26253 q26253 => ?_)
          obtain ⟨v26254, rfl, lv26254, uv26254, g26253, kk26253⟩ := q26253
          have k26253 := k1.tr kk26253 (by decide)
          show jEv _ _ _ _ _ _ _ (_, [(2, 1), (0, x1), (1, x2), (9, 0), (0, x4), j5], [(0, v26254)], _, _, _)
          refine ev_istore (L' := [(2, 1), (0, x1), (1, x2), (9, 0), (0, x4), (0, v26254)]) (Nat.le_of_ble_eq_true rfl) rfl ?_
          refine ev_aload_n rfl ?_
          refine g_getp (r := 1) (c := 5) g26253 ad1 (by decide) (by decide) rf1_6 ft10_6 ?_
          refine ev_iconst ?_
          refine ev_iload_n rfl ?_
          refine ev_imul (r := (3 * x1)) (by unfold w32; omega) ?_
          refine ev_iload rfl ?_
          refine ev_iadd (r := (3 * x1 + x4)) (by unfold w32; omega) ?_
          refine ev_iload rfl ?_
          refine ev_iconst ?_
          refine ev_icmpge f154_58 (fun c26255 => ?_) (fun c26255 => ?_)
          · refine ev_lload_n rfl ?_
            refine ev_iload rfl ?_
            refine ev_i2l ?_
            refine g_ldivG (by omega) (fun v26256 ev26256 lv26256 uv26256 => ?_)
            refine g_last g26253 ad5 rt5 (fun _ => rfl) (by omega) (by omega) (by omega) (by omega) (fun h26257 e26257 g26257 => ?_)
            have k26257 := k26253.wr e26257 rfl
            refine ev_iinc (w := (x4 + 1)) (L' := [(2, 1), (0, x1), (1, x2), (9, 0), (0, (x4 + 1)), (0, v26254)]) rfl (by unfold w32; omega) rfl ?_
            refine ev_goto f154_19 ?_
            exact ih.2.1 _ _ _ _ _ g26257 k26257 (by omega) (by omega) (by omega) (by omega) (by omega) (by omega) (by omega)
          · refine ev_lconst ?_
            refine ev_goto f154_63 ?_
            refine g_last g26253 ad5 rt5 (fun _ => rfl) (by omega) (by omega) (by omega) (by omega) (fun h26258 e26258 g26258 => ?_)
            have k26258 := k26253.wr e26258 rfl
            refine ev_iinc (w := (x4 + 1)) (L' := [(2, 1), (0, x1), (1, x2), (9, 0), (0, (x4 + 1)), (0, v26254)]) rfl (by unfold w32; omega) rfl ?_
            refine ev_goto f154_19 ?_
            exact ih.2.1 _ _ _ _ _ g26258 k26258 (by omega) (by omega) (by omega) (by omega) (by omega) (by omega) (by omega)
      · refine ev_iconst ?_
        refine ev_goto f145_24 ?_
        refine ev_ret rfl (by decide) (by decide) ?_
        show jEv _ _ _ _ _ _ _ (_, [(2, 1), (0, x1), (1, x2), (9, 0), (0, x4), j5], [(0, 1), (0, x4)], _, _, _)
        refine ev_icmpge f154_70 (fun c26259 => ?_) (fun c26259 => ?_)
        · refine ev_iinc (w := (x1 + 1)) (L' := [(2, 1), (0, (x1 + 1)), (1, x2), (9, 0), (0, x4), j5]) rfl (by unfold w32; omega) rfl ?_
          refine ev_goto f154_2 ?_
          exact ih.1 _ _ _ _ _ g1 k1 (by omega) (by omega) (by omega)
        · refine ev_aload_n rfl ?_
          refine ev_iload_n rfl ?_
          refine ev_iload rfl ?_
          refine ev_call (jcall_v (A := [(0, x4), (0, x1)]) (S' := []) (r := 1) rfl (g1.lt ad1) (g1.tg ad1) (Nat.le_of_ble_eq_true rfl)) (jOk_le (by decide) (s150 g1 (by omega) (by omega) (by omega) (by omega))) (by decide) (by decide) (fun w26260 h26260 q26260 => ?_)
          obtain ⟨v26261, rfl, lv26261, uv26261, g26260, kk26260⟩ := q26260
          have k26260 := k1.tr kk26260 (by decide)
          show jEv _ _ _ _ _ _ _ (_, [(2, 1), (0, x1), (1, x2), (9, 0), (0, x4), j5], [(0, v26261)], _, _, _)
          refine ev_istore (L' := [(2, 1), (0, x1), (1, x2), (9, 0), (0, x4), (0, v26261)]) (Nat.le_of_ble_eq_true rfl) rfl ?_
          refine ev_aload_n rfl ?_
          refine g_getp (r := 1) (c := 5) g26260 ad1 (by decide) (by decide) rf1_6 ft10_6 ?_
          refine ev_iconst ?_
          refine ev_iload_n rfl ?_
          refine ev_imul (r := (3 * x1)) (by unfold w32; omega) ?_
          refine ev_iload rfl ?_
          refine ev_iadd (r := (3 * x1 + x4)) (by unfold w32; omega) ?_
          refine ev_iload rfl ?_
          refine ev_iconst ?_
          refine ev_icmpge f154_58 (fun c26262 => ?_) (fun c26262 => ?_)
          · refine ev_lload_n rfl ?_
            refine ev_iload rfl ?_
            refine ev_i2l ?_
            refine g_ldivG (by omega) (fun v26263 ev26263 lv26263 uv26263 => ?_)
            refine g_last g26260 ad5 rt5 (fun _ => rfl) (by omega) (by omega) (by omega) (by omega) (fun h26264 e26264 g26264 => ?_)
            have k26264 := k26260.wr e26264 rfl
            refine ev_iinc (w := (x4 + 1)) (L' := [(2, 1), (0, x1), (1, x2), (9, 0), (0, (x4 + 1)), (0, v26261)]) rfl (by unfold w32; omega) rfl ?_
            refine ev_goto f154_19 ?_
            exact ih.2.1 _ _ _ _ _ g26264 k26264 (by omega) (by omega) (by omega) (by omega) (by omega) (by omega) (by omega)
          · refine ev_lconst ?_
            refine ev_goto f154_63 ?_
            refine g_last g26260 ad5 rt5 (fun _ => rfl) (by omega) (by omega) (by omega) (by omega) (fun h26265 e26265 g26265 => ?_)
            have k26265 := k26260.wr e26265 rfl
            refine ev_iinc (w := (x4 + 1)) (L' := [(2, 1), (0, x1), (1, x2), (9, 0), (0, (x4 + 1)), (0, v26261)]) rfl (by unfold w32; omega) rfl ?_
            refine ev_goto f154_19 ?_
            exact ih.2.1 _ _ _ _ _ g26265 k26265 (by omega) (by omega) (by omega) (by omega) (by omega) (by omega) (by omega)
    · intro h1 x1 j2 j4 j5 g1 k1 b0 b1 hm
      refine ev_iload_n rfl ?_
      refine ev_aload_n rfl ?_
      obtain ⟨v26266, ev26266, lv26266, uv26266⟩ := g1.rd ad1 (show 0 < 8 by decide) rf1_0
      refine g_getv (r := 1) (v := v26266) g1 ad1 (by decide) ft10_0 ev26266 ?_
      refine ev_icmpge f154_104 (fun c26267 => ?_) (fun c26267 => ?_)
      · refine ev_iconst ?_
        refine ev_istore_n (L' := [(2, 1), (0, 0), j2, (9, 0), j4, j5]) (Nat.le_of_ble_eq_true rfl) rfl ?_
        exact ih.2.2.2 _ _ _ _ _ g1 k1 (by omega) (by omega) (by omega)
      · refine ev_aload_n rfl ?_
        refine ev_iload_n rfl ?_
        refine ev_call (jcall_v (A := [(0, x1)]) (S' := []) (r := 1) rfl (g1.lt ad1) (g1.tg ad1) (Nat.le_of_ble_eq_true rfl)) (jOk_le (by decide) (s155 g1 (by omega) (by omega))) (by decide) (by decide) (fun w26268 h26268 q26268 => ?_)
        obtain ⟨rfl, g26268, kk26268⟩ := q26268
        have k26268 := k1.tr kk26268 (by decide)
        show jEv _ _ _ _ _ _ _ (_, [(2, 1), (0, x1), j2, (9, 0), j4, j5], [], _, _, _)
        refine ev_iinc (w := (x1 + 1)) (L' := [(2, 1), (0, (x1 + 1)), j2, (9, 0), j4, j5]) rfl (by unfold w32; omega) rfl ?_
        refine ev_goto f154_85 ?_
        exact ih.2.2.1 _ _ _ _ _ g26268 k26268 (by omega) (by omega) (by omega)
    · intro h1 x1 j2 j4 j5 g1 k1 b0 b1 hm
      refine ev_iload_n rfl ?_
      refine ev_aload_n rfl ?_
      obtain ⟨v26269, ev26269, lv26269, uv26269⟩ := g1.rd ad1 (show 0 < 8 by decide) rf1_0
      refine g_getv (r := 1) (v := v26269) g1 ad1 (by decide) ft10_0 ev26269 ?_
      refine ev_icmpge f154_125 (fun c26270 => ?_) (fun c26270 => ?_)
      · exact ev_ret rfl (by decide) (by decide) ⟨rfl, g1, k1⟩
      · refine ev_aload_n rfl ?_
        refine ev_iload_n rfl ?_
        refine ev_call (jcall_v (A := [(0, x1)]) (S' := []) (r := 1) rfl (g1.lt ad1) (g1.tg ad1) (Nat.le_of_ble_eq_true rfl)) (jOk_le (by decide) (s156 g1 (by omega) (by omega) (ev26269) (by omega) (by omega) (by omega))) (by decide) (by decide) (fun w26271 h26271 q26271 => ?_)
        obtain ⟨rfl, g26271, kk26271⟩ := q26271
        have k26271 := k1.tr kk26271 (by decide)
        show jEv _ _ _ _ _ _ _ (_, [(2, 1), (0, x1), j2, (9, 0), j4, j5], [], _, _, _)
        refine ev_iinc (w := (x1 + 1)) (L' := [(2, 1), (0, (x1 + 1)), j2, (9, 0), j4, j5]) rfl (by unfold w32; omega) rfl ?_
        refine ev_goto f154_106 ?_
        exact ih.2.2.2 _ _ _ _ _ g26271 k26271 (by omega) (by omega) (by omega)
set_option maxHeartbeats 4000000 in
theorem s154 {G : GH} {h : JH} (g : Gd G h)  : jOk 4 0 0 154 [(2, 1)] h (PV G [(5, 0), (6, 0)] h) := by
  refine ⟨by decide, by rw [ml154]; exact Nat.le_of_ble_eq_true rfl, ?_⟩
  rw [ml154, pp154]
  show jEv _ none _ c154_0 0 0 _ (c154_0, [(2, 1), (9, 0), (9, 0), (9, 0), (9, 0), (9, 0)], [], h, 0, 0)
  have k0 := Kp.rf [(5, 0), (6, 0)] h
  refine ev_iconst ?_
  refine ev_istore_n (L' := [(2, 1), (0, 0), (9, 0), (9, 0), (9, 0), (9, 0)]) (Nat.le_of_ble_eq_true rfl) rfl ?_
  exact (s154_l  160).1 _ _ _ _ _ g k0 (by omega) (by omega) (by omega)
/-! 90 addStep -/
set_option maxHeartbeats 4000000 in
theorem s90_l {G : GH} {h : JH} {a1 : Int} (la1 : (-9999) ≤ a1) (ua1 : a1 ≤ 9999) {a2 : Int} (la2 : 0 ≤ a2) (ua2 : a2 ≤ 90) {w0 : Int} (ew0 : h.2.2 19 3 = w0) (lw0 : 0 ≤ w0) (uw0 : w0 ≤ 5) {w1 : Int} (ew1 : h.2.2 19 4 = w1) (lw1 : 0 ≤ w1) (uw1 : w1 ≤ 5) (F0 : ((-w0) + w1) ≤ 0) : ∀ N : Nat, (∀ (h1 : JH) (x3 y0 y1 : Int) (j4 : AV), Gd G h1 → Kp [(19, 4), (19, 5), (20, 0), (21, 0)] h h1 → (-9999) ≤ a1 → a1 ≤ 9999 → 0 ≤ a2 → a2 ≤ 90 → 0 ≤ x3 → x3 ≤ 5 → ((-y0) + y1) ≤ 0 → h1.2.2 19 3 = y0 → 0 ≤ y0 → y0 ≤ 5 → h1.2.2 19 4 = y1 → 0 ≤ y1 → y1 ≤ 5 → ((-x3) + 11) < N → jEv (jOk 0) none (fun _ => 0) c90_0 0 0 (PI G [(19, 4), (19, 5), (20, 0), (21, 0)] h 0 1 6) (c90_2, [(2, 19), (0, a1), (0, a2), (0, x3), j4], [], h1, 0, 0)) ∧ (∀ (h1 : JH) (x3 x4 y0 y1 : Int), Gd G h1 → Kp [(19, 4), (19, 5), (20, 0), (21, 0)] h h1 → (-9999) ≤ a1 → a1 ≤ 9999 → 0 ≤ a2 → a2 ≤ 90 → 0 ≤ x3 → x3 ≤ 5 → 0 ≤ x4 → x4 ≤ 5 → ((-y0) + y1) ≤ 0 → h1.2.2 19 3 = y0 → 0 ≤ y0 → y0 ≤ 5 → h1.2.2 19 4 = y1 → 0 ≤ y1 → y1 ≤ 5 → x4 < N → jEv (jOk 0) none (fun _ => 0) c90_0 0 0 (PI G [(19, 4), (19, 5), (20, 0), (21, 0)] h 0 1 6) (c90_50, [(2, 19), (0, a1), (0, a2), (0, x3), (0, x4)], [], h1, 0, 0)) := by
  intro N
  induction N with
  | zero => exact ⟨fun h1 x3 y0 y1 j4 g1 k1 b0 b1 b2 b3 b4 b5 b6 b7 b8 b9 b10 b11 b12 hm => absurd hm (by omega), fun h1 x3 x4 y0 y1 g1 k1 b0 b1 b2 b3 b4 b5 b6 b7 b8 b9 b10 b11 b12 b13 b14 hm => absurd hm (by omega)⟩
  | succ N ih =>
    refine ⟨?_, ?_⟩
    · intro h1 x3 y0 y1 j4 g1 k1 b0 b1 b2 b3 b4 b5 b6 ey0 ly0 uy0 ey1 ly1 uy1 hm
      refine ev_iload_n rfl ?_
      refine ev_aload_n rfl ?_
      refine g_getv (r := 19) (v := y1) g1 ad19 (by decide) ft7_4 (ey1) ?_
      refine ev_icmpge f90_26 (fun c26366 => ?_) (fun c26366 => ?_)
      · refine ev_iload_n rfl ?_
        refine ev_aload_n rfl ?_
        refine g_getv (r := 19) (v := y1) g1 ad19 (by decide) ft7_4 (ey1) ?_
        refine ev_icmpeq f90_44 (fun c26367 => ?_) (fun c26367 => ?_)
        · refine ev_aload_n rfl ?_
          refine g_getv (r := 19) (v := y1) g1 ad19 (by decide) ft7_4 (ey1) ?_
          refine ev_istore (L' := [(2, 19), (0, a1), (0, a2), (0, x3), (0, y1)]) (Nat.le_of_ble_eq_true rfl) rfl ?_
          exact ih.2 _ _ _ _ _ g1 k1 (by omega) (by omega) (by omega) (by omega) (by omega) (by omega) (by omega) (by omega) (by omega) (ey0) (by omega) (by omega) (ey1) (by omega) (by omega) (by omega)
        · refine ev_aload_n rfl ?_
          refine g_getp (r := 19) (c := 20) g1 ad19 (by decide) (by decide) rf19_0 ft7_0 ?_
          refine ev_iload_n rfl ?_
          refine g_iald g1 ad20 rt20 (by omega) (by omega) (fun v26368 ev26368 lv26368 uv26368 => ?_)
          refine ev_iload_n rfl ?_
          refine ev_icmpeq f90_111 (fun c26369 => ?_) (fun c26369 => ?_)
          · refine ev_aload_n rfl ?_
            refine g_getp (r := 19) (c := 21) g1 ad19 (by decide) (by decide) rf19_1 ft7_1 ?_
            refine ev_iload_n rfl ?_
            refine ev_iload_n rfl ?_
            refine g_iast g1 ad21 rt21 (fun _ => rfl) (by omega) (by omega) (by omega) (by omega) (fun h26370 e26370 g26370 => ?_)
            have k26370 := k1.wr e26370 rfl
            refine ev_aload_n rfl ?_
            refine ev_dup (by decide) ?_
            refine g_getv (r := 19) (v := y0) g26370 ad19 (by decide) ft7_3 (((jw_ne e26370 (Or.inl (by decide))).trans ey0)) ?_
            refine ev_iconst ?_
            refine ev_iadd (r := (y0 + 1)) (by unfold w32; omega) ?_
            refine ev_putfG (r := 19) (g26370.lt ad19) (g26370.fam ad19 (by decide)) ft7_3 (fun e => absurd e nz7_3) (fun e => absurd e (by decide)) (fun h26371 e26371 => ?_)
            have g26371 := g26370.told e26371 (by rw [(((jw_ne e26370 (Or.inl (by decide))).trans ey0))]; omega) (by omega) (by omega)
            have k26371 := k26370.wr e26371 rfl
            refine ev_aload_n rfl ?_
            refine g_getv (r := 19) (v := (y0 + 1)) g26371 ad19 (by decide) ft7_3 ((jw_eq e26371)) ?_
            exact ev_ret rfl (by decide) (by decide) ⟨_, rfl, by omega, by omega, g26371, k26371⟩
          · refine ev_aload_n rfl ?_
            refine g_getv (r := 19) (v := y1) g1 ad19 (by decide) ft7_4 (ey1) ?_
            refine ev_istore (L' := [(2, 19), (0, a1), (0, a2), (0, x3), (0, y1)]) (Nat.le_of_ble_eq_true rfl) rfl ?_
            exact ih.2 _ _ _ _ _ g1 k1 (by omega) (by omega) (by omega) (by omega) (by omega) (by omega) (by omega) (by omega) (by omega) (ey0) (by omega) (by omega) (ey1) (by omega) (by omega) (by omega)
      · refine ev_aload_n rfl ?_
        refine g_getp (r := 19) (c := 20) g1 ad19 (by decide) (by decide) rf19_0 ft7_0 ?_
        refine ev_iload_n rfl ?_
        refine g_iald g1 ad20 rt20 (by omega) (by omega) (fun v26372 ev26372 lv26372 uv26372 => ?_)
        refine ev_iload_n rfl ?_
        refine ev_icmpge f90_26 (fun c26373 => ?_) (fun c26373 => ?_)
        · refine ev_iload_n rfl ?_
          refine ev_aload_n rfl ?_
          refine g_getv (r := 19) (v := y1) g1 ad19 (by decide) ft7_4 (ey1) ?_
          refine ev_icmpeq f90_44 (fun c26374 => absurd c26374 (by omega)) (fun c26374 => ?_)
          refine ev_aload_n rfl ?_
          refine g_getp (r := 19) (c := 20) g1 ad19 (by decide) (by decide) rf19_0 ft7_0 ?_
          refine ev_iload_n rfl ?_
          refine g_ialdv (v := v26372) g1 ad20 (by omega) (by omega) (ev26372) ?_
          refine ev_iload_n rfl ?_
          refine ev_icmpeq f90_111 (fun c26375 => ?_) (fun c26375 => ?_)
          · refine ev_aload_n rfl ?_
            refine g_getp (r := 19) (c := 21) g1 ad19 (by decide) (by decide) rf19_1 ft7_1 ?_
            refine ev_iload_n rfl ?_
            refine ev_iload_n rfl ?_
            refine g_iast g1 ad21 rt21 (fun _ => rfl) (by omega) (by omega) (by omega) (by omega) (fun h26376 e26376 g26376 => ?_)
            have k26376 := k1.wr e26376 rfl
            refine ev_aload_n rfl ?_
            refine ev_dup (by decide) ?_
            refine g_getv (r := 19) (v := y0) g26376 ad19 (by decide) ft7_3 (((jw_ne e26376 (Or.inl (by decide))).trans ey0)) ?_
            refine ev_iconst ?_
            refine ev_iadd (r := (y0 + 1)) (by unfold w32; omega) ?_
            refine ev_putfG (r := 19) (g26376.lt ad19) (g26376.fam ad19 (by decide)) ft7_3 (fun e => absurd e nz7_3) (fun e => absurd e (by decide)) (fun h26377 e26377 => ?_)
            have g26377 := g26376.told e26377 (by rw [(((jw_ne e26376 (Or.inl (by decide))).trans ey0))]; omega) (by omega) (by omega)
            have k26377 := k26376.wr e26377 rfl
            refine ev_aload_n rfl ?_
            refine g_getv (r := 19) (v := (y0 + 1)) g26377 ad19 (by decide) ft7_3 ((jw_eq e26377)) ?_
            exact ev_ret rfl (by decide) (by decide) ⟨_, rfl, by omega, by omega, g26377, k26377⟩
          · refine ev_aload_n rfl ?_
            refine g_getv (r := 19) (v := y1) g1 ad19 (by decide) ft7_4 (ey1) ?_
            refine ev_istore (L' := [(2, 19), (0, a1), (0, a2), (0, x3), (0, y1)]) (Nat.le_of_ble_eq_true rfl) rfl ?_
            exact ih.2 _ _ _ _ _ g1 k1 (by omega) (by omega) (by omega) (by omega) (by omega) (by omega) (by omega) (by omega) (by omega) (ey0) (by omega) (by omega) (ey1) (by omega) (by omega) (by omega)
        · refine ev_iinc (w := (x3 + 1)) (L' := [(2, 19), (0, a1), (0, a2), (0, (x3 + 1)), j4]) rfl (by unfold w32; omega) rfl ?_
          refine ev_goto f90_2 ?_
          exact ih.1 _ _ _ _ _ g1 k1 (by omega) (by omega) (by omega) (by omega) (by omega) (by omega) (by omega) (ey0) (by omega) (by omega) (ey1) (by omega) (by omega) (by omega)
    · intro h1 x3 x4 y0 y1 g1 k1 b0 b1 b2 b3 b4 b5 b6 b7 b8 ey0 ly0 uy0 ey1 ly1 uy1 hm
      refine ev_iload rfl ?_
      refine ev_iload_n rfl ?_
      refine ev_icmple f90_94 (fun c26378 => ?_) (fun c26378 => ?_)
      · refine ev_aload_n rfl ?_
        refine g_getp (r := 19) (c := 20) g1 ad19 (by decide) (by decide) rf19_0 ft7_0 ?_
        refine ev_iload_n rfl ?_
        refine ev_iload_n rfl ?_
        refine g_iast g1 ad20 rt20 (fun _ => rfl) (by omega) (by omega) (by omega) (by omega) (fun h26379 e26379 g26379 => ?_)
        have k26379 := k1.wr e26379 rfl
        refine ev_aload_n rfl ?_
        refine ev_dup (by decide) ?_
        refine g_getv (r := 19) (v := y1) g26379 ad19 (by decide) ft7_4 (((jw_ne e26379 (Or.inl (by decide))).trans ey1)) ?_
        refine ev_iconst ?_
        refine ev_iadd (r := (y1 + 1)) (by unfold w32; omega) ?_
        refine ev_putfG (r := 19) (g26379.lt ad19) (g26379.fam ad19 (by decide)) ft7_4 (fun e => absurd e nz7_4) (fun e => absurd e (by decide)) (fun h26380a e26380a => ?_)
        refine ev_aload_n rfl ?_
        refine ev_getf (r := 19) (v := 21) (by rw [(jwr_ty e26380a).1]; exact g26379.lt ad19) (by rw [(jwr_ty e26380a).2]; exact g26379.fam ad19 (by decide)) ft7_1 ((jw_ne e26380a (Or.inr (by decide))).trans (g26379.pt ad19 (i := 1) (by decide) rf19_1)) ?_
        refine ev_iload_n rfl ?_
        refine ev_iload_n rfl ?_
        refine ev_iastG (r := 21) (j := (x3).toNat) (by rw [(jwr_ty e26380a).1]; exact g26379.lt ad21) (by rw [(jwr_ty e26380a).2]; exact g26379.tg ad21) (by omega) (by rw [(jwr_ty e26380a).2, g26379.ln ad21]; omega) (fun h26380b e26380b => ?_)
        refine ev_aload_n rfl ?_
        refine ev_dup (by decide) ?_
        refine ev_getf (r := 19) (v := y0) (by rw [(jwr_ty e26380b).1, (jwr_ty e26380a).1]; exact g26379.lt ad19) (by rw [(jwr_ty e26380b).2, (jwr_ty e26380a).2]; exact g26379.fam ad19 (by decide)) ft7_3 ((jw_ne e26380b (Or.inl (by decide))).trans ((jw_ne e26380a (Or.inr (by decide))).trans (((jw_ne e26379 (Or.inl (by decide))).trans ey0)))) ?_
        refine ev_iconst ?_
        refine ev_iadd (r := (y0 + 1)) (by unfold w32; omega) ?_
        refine ev_putfG (r := 19) (by rw [(jwr_ty e26380b).1, (jwr_ty e26380a).1]; exact g26379.lt ad19) (by rw [(jwr_ty e26380b).2, (jwr_ty e26380a).2]; exact g26379.fam ad19 (by decide)) ft7_3 (fun e => absurd e nz7_3) (fun e => absurd e (by decide)) (fun h26380c e26380c => ?_)
        have g26380c := g26379.steps e26380a e26380b e26380c (by omega) (by omega) (by omega) (by omega) (by omega)
        have k26380c := ((k26379.wr e26380a rfl).wr e26380b rfl).wr e26380c rfl
        refine ev_aload_n rfl ?_
        refine g_getv (r := 19) (v := (y0 + 1)) g26380c ad19 (by decide) ft7_3 ((jw_eq e26380c)) ?_
        exact ev_ret rfl (by decide) (by decide) ⟨_, rfl, by omega, by omega, g26380c, k26380c⟩
      · refine ev_aload_n rfl ?_
        refine g_getp (r := 19) (c := 20) g1 ad19 (by decide) (by decide) rf19_0 ft7_0 ?_
        refine ev_iload rfl ?_
        refine ev_aload_n rfl ?_
        refine g_getp (r := 19) (c := 20) g1 ad19 (by decide) (by decide) rf19_0 ft7_0 ?_
        refine ev_iload rfl ?_
        refine ev_iconst ?_
        refine ev_isub (r := (x4 - 1)) (by unfold w32; omega) ?_
        refine g_iald g1 ad20 rt20 (by omega) (by omega) (fun v26381 ev26381 lv26381 uv26381 => ?_)
        refine g_iast g1 ad20 rt20 (fun _ => rfl) (by omega) (by omega) (by omega) (by omega) (fun h26382 e26382 g26382 => ?_)
        have k26382 := k1.wr e26382 rfl
        refine ev_aload_n rfl ?_
        refine g_getp (r := 19) (c := 21) g26382 ad19 (by decide) (by decide) rf19_1 ft7_1 ?_
        refine ev_iload rfl ?_
        refine ev_aload_n rfl ?_
        refine g_getp (r := 19) (c := 21) g26382 ad19 (by decide) (by decide) rf19_1 ft7_1 ?_
        refine ev_iload rfl ?_
        refine ev_iconst ?_
        refine ev_isub (r := (x4 - 1)) (by unfold w32; omega) ?_
        refine g_iald g26382 ad21 rt21 (by omega) (by omega) (fun v26383 ev26383 lv26383 uv26383 => ?_)
        refine g_iast g26382 ad21 rt21 (fun _ => rfl) (by omega) (by omega) (by omega) (by omega) (fun h26384 e26384 g26384 => ?_)
        have k26384 := k26382.wr e26384 rfl
        refine ev_iinc (w := (x4 - 1)) (L' := [(2, 19), (0, a1), (0, a2), (0, x3), (0, (x4 - 1))]) rfl (by unfold w32; omega) rfl ?_
        refine ev_goto f90_50 ?_
        exact ih.2 _ _ _ _ _ g26384 k26384 (by omega) (by omega) (by omega) (by omega) (by omega) (by omega) (by omega) (by omega) (by omega) (((jw_ne e26384 (Or.inl (by decide))).trans ((jw_ne e26382 (Or.inl (by decide))).trans ey0))) (by omega) (by omega) (((jw_ne e26384 (Or.inl (by decide))).trans ((jw_ne e26382 (Or.inl (by decide))).trans ey1))) (by omega) (by omega) (by omega)
set_option maxHeartbeats 4000000 in
theorem s90 {G : GH} {h : JH} (g : Gd G h) {a1 : Int} (la1 : (-9999) ≤ a1) (ua1 : a1 ≤ 9999) {a2 : Int} (la2 : 0 ≤ a2) (ua2 : a2 ≤ 90) {w0 : Int} (ew0 : h.2.2 19 3 = w0) (lw0 : 0 ≤ w0) (uw0 : w0 ≤ 5) {w1 : Int} (ew1 : h.2.2 19 4 = w1) (lw1 : 0 ≤ w1) (uw1 : w1 ≤ 5) (F0 : ((-w0) + w1) ≤ 0) : jOk 1 0 0 90 [(2, 19), (0, a1), (0, a2)] h (PI G [(19, 4), (19, 5), (20, 0), (21, 0)] h 0 1 6) := by
  refine ⟨by decide, by rw [ml90]; exact Nat.le_of_ble_eq_true rfl, ?_⟩
  rw [ml90, pp90]
  show jEv _ none _ c90_0 0 0 _ (c90_0, [(2, 19), (0, a1), (0, a2), (9, 0), (9, 0)], [], h, 0, 0)
  have k0 := Kp.rf [(19, 4), (19, 5), (20, 0), (21, 0)] h
  refine ev_iconst ?_
  refine ev_istore_n (L' := [(2, 19), (0, a1), (0, a2), (0, 0), (9, 0)]) (Nat.le_of_ble_eq_true rfl) rfl ?_
  exact (s90_l la1 ua1 la2 ua2 ew0 lw0 uw0 ew1 lw1 uw1 F0 18).1 _ _ _ _ _ g k0 (by omega) (by omega) (by omega) (by omega) (by omega) (by omega) (by omega) (ew0) (by omega) (by omega) (ew1) (by omega) (by omega) (by omega)
/-! 179 step -/
set_option maxHeartbeats 4000000 in
theorem s179 {G : GH} {h : JH} (g : Gd G h) {a1 : Int} (la1 : (-2147483648) ≤ a1) (ua1 : a1 ≤ 2147483647) {a2 : Int} (la2 : (-2147483648) ≤ a2) (ua2 : a2 ≤ 2147483647) : jOk 2 0 0 179 [(2, 0), (0, a1), (0, a2)] h (PI G [(19, 4), (19, 5), (20, 0), (21, 0)] h 0 (-3) 6) := by
  refine ⟨by decide, by rw [ml179]; exact Nat.le_of_ble_eq_true rfl, ?_⟩
  rw [ml179, pp179]
  show jEv _ none _ c179_0 0 0 _ (c179_0, [(2, 0), (0, a1), (0, a2)], [], h, 0, 0)
  have k0 := Kp.rf [(19, 4), (19, 5), (20, 0), (21, 0)] h
  refine ev_iload_n rfl ?_
  refine ev_sipush ?_
  refine ev_icmplt f179_24 (fun c26407 => ?_) (fun c26407 => ?_)
  · refine ev_iconst ?_
    exact ev_ret rfl (by decide) (by decide) ⟨_, rfl, by omega, by omega, g, k0⟩
  · refine ev_iload_n rfl ?_
    refine ev_sipush ?_
    refine ev_icmpgt f179_24 (fun c26408 => ?_) (fun c26408 => ?_)
    · refine ev_iconst ?_
      exact ev_ret rfl (by decide) (by decide) ⟨_, rfl, by omega, by omega, g, k0⟩
    · refine ev_iload_n rfl ?_
      refine ev_iflt f179_24 (fun c26409 => ?_) (fun c26409 => ?_)
      · refine ev_iconst ?_
        exact ev_ret rfl (by decide) (by decide) ⟨_, rfl, by omega, by omega, g, k0⟩
      · refine ev_iload_n rfl ?_
        refine ev_bipush ?_
        refine ev_icmple f179_26 (fun c26410 => ?_) (fun c26410 => ?_)
        · refine ev_aload_n rfl ?_
          refine g_getp (r := 0) (c := 19) g ad0 (by decide) (by decide) rf0_4 ft11_4 ?_
          refine ev_in (d := 0) (a := 0) (b := 0) (cd' := c89_0) (m := 1) (L0 := [(2, 19)]) (jcall_v (A := []) (S' := []) (r := 19) rfl (g.lt ad19) (g.tg ad19) (Nat.le_of_ble_eq_true rfl)) (by decide) ml89 pp89 (Nat.le_of_ble_eq_true rfl) rfl (by decide) (by decide) ?_
          refine ev_aload_n rfl ?_
          obtain ⟨v26411, ev26411, lv26411, uv26411⟩ := g.rd ad19 (show 3 < 6 by decide) rf19_3
          refine g_getv (r := 19) (v := v26411) g ad19 (by decide) ft7_3 ev26411 ?_
          refine ev_bipush ?_
          refine ev_icmpge f89_13 (fun c26412 => ?_) (fun c26412 => ?_)
          · refine ev_iconst ?_
            refine ev_ret rfl (by decide) (by decide) ?_
            show jEv _ _ _ _ _ _ _ (_, [(2, 0), (0, a1), (0, a2)], [(0, 0)], _, _, _)
            refine ev_ifeq f179_51 (fun c26413 => ?_) (fun c26413 => absurd c26413 (by omega))
            refine ev_bipush ?_
            exact ev_ret rfl (by decide) (by decide) ⟨_, rfl, by omega, by omega, g, k0⟩
          · refine ev_iconst ?_
            refine ev_goto f89_14 ?_
            refine ev_ret rfl (by decide) (by decide) ?_
            show jEv _ _ _ _ _ _ _ (_, [(2, 0), (0, a1), (0, a2)], [(0, 1)], _, _, _)
            refine ev_ifeq f179_51 (fun c26414 => absurd c26414 (by omega)) (fun c26414 => ?_)
            refine ev_aload_n rfl ?_
            refine g_getp (r := 0) (c := 19) g ad0 (by decide) (by decide) rf0_4 ft11_4 ?_
            refine ev_iload_n rfl ?_
            refine ev_bipush ?_
            refine ev_iload_n rfl ?_
            refine ev_imul (r := (10 * a2)) (by unfold w32; omega) ?_
            obtain ⟨v26415, ev26415, lv26415, uv26415⟩ := g.rd ad19 (show 4 < 6 by decide) rf19_4
            have tv26415 := g.2.2.2.2.2.2.1
            rw [ev26415, (ev26411)] at tv26415
            refine ev_call (jcall_v (A := [(0, (10 * a2)), (0, a1)]) (S' := []) (r := 19) rfl (g.lt ad19) (g.tg ad19) (Nat.le_of_ble_eq_true rfl)) (jOk_le (by decide) (s90 g (by omega) (by omega) (by omega) (by omega) (ev26411) (by omega) (by omega) ev26415 (by omega) (by omega) (by omega))) (by decide) (by decide) (fun w26416 h26416 q26416 => ?_)
            obtain ⟨v26417, rfl, lv26417, uv26417, g26416, kk26416⟩ := q26416
            have k26416 := k0.tr kk26416 (by decide)
            show jEv _ _ _ _ _ _ _ (_, [(2, 0), (0, a1), (0, a2)], [(0, v26417)], _, _, _)
            refine ev_goto f179_53 ?_
            exact ev_ret rfl (by decide) (by decide) ⟨_, rfl, by omega, by omega, g26416, k26416⟩
        · refine ev_iconst ?_
          exact ev_ret rfl (by decide) (by decide) ⟨_, rfl, by omega, by omega, g, k0⟩
/-! 209 run -/
set_option maxHeartbeats 4000000 in
theorem s209_l {G : GH} {h : JH} {a1 : Int} (la1 : (-2147483648) ≤ a1) (ua1 : a1 ≤ 2147483647) {a2 : Int} (la2 : (-2147483648) ≤ a2) (ua2 : a2 ≤ 2147483647) {a3 : Int} (la3 : (-2147483648) ≤ a3) (ua3 : a3 ≤ 2147483647) : ∀ N : Nat, (∀ (h1 : JH) (R4 : Nat) (M4 : Int) (x5 x6 x7 : Int) (j8 j9 : AV), IsQ G R4 M4 → Gd G h1 → Kp [(1000000, 0)] h h1 → 0 ≤ a1 → a1 ≤ 5 → (-2147483648) ≤ a2 → a2 ≤ 2147483647 → 1 ≤ a3 → a3 ≤ 200 → (-2147483648) ≤ x5 → x5 ≤ 2147483647 → (-2147483648) ≤ x6 → x6 ≤ 2147483647 → 0 ≤ x7 → x7 ≤ 200 → ((-10) * x7 + 2005) < N → jEv (jOk 3) none (fun _ => 0) c209_0 0 0 (PI G [(1000000, 0)] h 0 (-2147483648) 2147483647) (c209_41, [(2, 0), (0, a1), (0, a2), (0, a3), (2, (R4 : Int)), (0, x5), (0, x6), (0, x7), j8, j9], [], h1, 0, 0)) ∧ (∀ (h1 : JH) (R4 : Nat) (M4 : Int) (x5 x6 x7 x8 x9 : Int), IsQ G R4 M4 → Gd G h1 → Kp [(1000000, 0)] h h1 → 0 ≤ a1 → a1 ≤ 5 → (-2147483648) ≤ a2 → a2 ≤ 2147483647 → 1 ≤ a3 → a3 ≤ 200 → (-2147483648) ≤ x5 → x5 ≤ 2147483647 → (-2147483648) ≤ x6 → x6 ≤ 2147483647 → 0 ≤ x7 → x7 ≤ 199 → 0 ≤ x8 → x8 ≤ 255 → 0 ≤ x9 → x9 ≤ 4 → DS x9 x8 → ((-10) * x7 + (-x9) + 2004) < N → jEv (jOk 3) none (fun _ => 0) c209_0 0 0 (PI G [(1000000, 0)] h 0 (-2147483648) 2147483647) (c209_53, [(2, 0), (0, a1), (0, a2), (0, a3), (2, (R4 : Int)), (0, x5), (0, x6), (0, x7), (0, x8), (0, x9)], [], h1, 0, 0)) := by
  intro N
  induction N with
  | zero => exact ⟨fun h1 R4 M4 x5 x6 x7 j8 j9 Q4 g1 k1 b0 b1 b2 b3 b4 b5 b6 b7 b8 b9 b10 b11 hm => absurd hm (by omega), fun h1 R4 M4 x5 x6 x7 x8 x9 Q4 g1 k1 b0 b1 b2 b3 b4 b5 b6 b7 b8 b9 b10 b11 b12 b13 b14 b15 b16 hm => absurd hm (by omega)⟩
  | succ N ih =>
    refine ⟨?_, ?_⟩
    · intro h1 R4 M4 x5 x6 x7 j8 j9 Q4 g1 k1 b0 b1 b2 b3 b4 b5 b6 b7 b8 b9 b10 b11 hm
      have wR4 := g1.qb Q4
      have zR4 := Q4.1
      refine ev_iload rfl ?_
      refine ev_iload_n rfl ?_
      refine ev_icmpge f209_127 (fun c27024 => ?_) (fun c27024 => ?_)
      · refine ev_iload rfl ?_
        exact ev_ret rfl (by decide) (by decide) ⟨_, rfl, by omega, by omega, g1, k1⟩
      · refine ev_iconst ?_
        refine ev_istore (L' := [(2, 0), (0, a1), (0, a2), (0, a3), (2, (R4 : Int)), (0, x5), (0, x6), (0, x7), (0, 0), j9]) (Nat.le_of_ble_eq_true rfl) rfl ?_
        refine ev_iconst ?_
        refine ev_istore (L' := [(2, 0), (0, a1), (0, a2), (0, a3), (2, (R4 : Int)), (0, x5), (0, x6), (0, x7), (0, 0), (0, 0)]) (Nat.le_of_ble_eq_true rfl) rfl ?_
        exact ih.2 _ _ _ _ _ _ _ _ Q4 g1 k1 (by omega) (by omega) (by omega) (by omega) (by omega) (by omega) (by omega) (by omega) (by omega) (by omega) (by omega) (by omega) (by omega) (by omega) (by omega) (by omega) DS_0 (by omega)
    · intro h1 R4 M4 x5 x6 x7 x8 x9 Q4 g1 k1 b0 b1 b2 b3 b4 b5 b6 b7 b8 b9 b10 b11 b12 b13 b14 b15 H0 hm
      have wR4 := g1.qb Q4
      have zR4 := Q4.1
      refine ev_iload rfl ?_
      refine ev_aload_n rfl ?_
      refine g_getp (r := 0) (c := 1) g1 ad0 (by decide) (by decide) rf0_0 ft11_0 ?_
      obtain ⟨v27025, ev27025, lv27025, uv27025⟩ := g1.rd ad1 (show 0 < 8 by decide) rf1_0
      refine g_getv (r := 1) (v := v27025) g1 ad1 (by decide) ft10_0 ev27025 ?_
      refine ev_icmpge f209_109 (fun c27026 => ?_) (fun c27026 => ?_)
      · refine ev_iload rfl ?_
        refine ev_aload rfl ?_
        refine ev_iload rfl ?_
        refine ev_call (jcall_v (A := [(0, x8)]) (S' := [(0, x6)]) (r := R4) rfl (g1.qlt Q4) (g1.qtg Q4) (Nat.le_of_ble_eq_true rfl)) (jOk_le (by decide) (s53 g1 Q4 (by omega) (by omega))) (by decide) (by decide) (fun w27027 h27027 q27027 => ?_)
        obtain ⟨v27028, rfl, lv27028, uv27028, g27027, kk27027⟩ := q27027
        have k27027 := k1.tr kk27027 (by decide)
        show jEv _ _ _ _ _ _ _ (_, [(2, 0), (0, a1), (0, a2), (0, a3), (2, (R4 : Int)), (0, x5), (0, x6), (0, x7), (0, x8), (0, x9)], [(0, v27028), (0, x6)], _, _, _)
        refine g_iaddG (fun v27029 ev27029 lv27029 uv27029 => ?_)
        refine ev_istore (L' := [(2, 0), (0, a1), (0, a2), (0, a3), (2, (R4 : Int)), (0, x5), (0, v27029), (0, x7), (0, x8), (0, x9)]) (Nat.le_of_ble_eq_true rfl) rfl ?_
        refine ev_iinc (w := (x7 + 1)) (L' := [(2, 0), (0, a1), (0, a2), (0, a3), (2, (R4 : Int)), (0, x5), (0, v27029), (0, (x7 + 1)), (0, x8), (0, x9)]) rfl (by unfold w32; omega) rfl ?_
        refine ev_goto f209_41 ?_
        exact ih.1 _ _ _ _ _ _ _ _ Q4 g27027 k27027 (by omega) (by omega) (by omega) (by omega) (by omega) (by omega) (by omega) (by omega) (by omega) (by omega) (by omega) (by omega) (by omega)
      · refine ev_iload rfl ?_
        refine ev_ldc_w ?_
        refine g_imulG (fun v27030 ev27030 lv27030 uv27030 => ?_)
        refine ev_sipush ?_
        refine g_iaddG (fun v27031 ev27031 lv27031 uv27031 => ?_)
        refine ev_istore (L' := [(2, 0), (0, a1), (0, a2), (0, a3), (2, (R4 : Int)), (0, v27031), (0, x6), (0, x7), (0, x8), (0, x9)]) (Nat.le_of_ble_eq_true rfl) rfl ?_
        refine ev_iload rfl ?_
        refine ev_aload_n rfl ?_
        refine g_getp (r := 0) (c := 1) g1 ad0 (by decide) (by decide) rf0_0 ft11_0 ?_
        refine ev_iload rfl ?_
        refine ev_iload rfl ?_
        refine ev_iload rfl ?_
        refine ev_bipush ?_
        refine g_iushrB (s := 8) (hi := 16777215) (by decide) (by decide) (by decide) (fun v27032 ev27032 lv27032 uv27032 => ?_)
        refine ev_call (jcall_v (A := [(0, v27032), (0, x8), (0, x9)]) (S' := [(0, x8)]) (r := 1) rfl (g1.lt ad1) (g1.tg ad1) (Nat.le_of_ble_eq_true rfl)) (jOk_le (by decide) (s164 g1 (by omega) (by omega) (by omega) (by omega) (by omega) (by omega) (ev27025) (by omega) (by omega) (by omega) H0)) (by decide) (by decide) (fun w27033 h27033 q27033 => ?_)
        obtain ⟨v27034, rfl, lv27034, uv27034, g27033, kk27033⟩ := q27033
        have k27033 := k1.tr kk27033 (by decide)
        show jEv _ _ _ _ _ _ _ (_, [(2, 0), (0, a1), (0, a2), (0, a3), (2, (R4 : Int)), (0, v27031), (0, x6), (0, x7), (0, x8), (0, x9)], [(0, v27034), (0, x8)], _, _, _)
        refine ev_iconst ?_
        refine ev_iload rfl ?_
        refine ev_imul (r := (2 * x9)) (by unfold w32; omega) ?_
        refine g_ishlB (a' := 0) (a := 2) (b := 6) (hi := 128) (by omega) (by omega) (by omega) (by omega) (by decide) (by decide) (fun v27035 ev27035 lv27035 uv27035 => ?_)
        refine g_iorB (k := 8) (hi := 255) (by decide) (by decide) (by omega) (by omega) (by omega) (by omega) (fun v27036 ev27036 lv27036 uv27036 => ?_)
        refine ev_istore (L' := [(2, 0), (0, a1), (0, a2), (0, a3), (2, (R4 : Int)), (0, v27031), (0, x6), (0, x7), (0, v27036), (0, x9)]) (Nat.le_of_ble_eq_true rfl) rfl ?_
        refine ev_iinc (w := (x9 + 1)) (L' := [(2, 0), (0, a1), (0, a2), (0, a3), (2, (R4 : Int)), (0, v27031), (0, x6), (0, x7), (0, v27036), (0, (x9 + 1))]) rfl (by unfold w32; omega) rfl ?_
        refine ev_goto f209_53 ?_
        exact ih.2 _ _ _ _ _ _ _ _ Q4 g27033 k27033 (by omega) (by omega) (by omega) (by omega) (by omega) (by omega) (by omega) (by omega) (by omega) (by omega) (by omega) (by omega) (by omega) (by omega) (by omega) (by omega) (DS_step H0 (by omega) (by omega) (by omega) (by omega) ev27035 ev27036) (by omega)
set_option maxHeartbeats 4000000 in
theorem s209 {G : GH} {h : JH} (g : Gd G h) {a1 : Int} (la1 : (-2147483648) ≤ a1) (ua1 : a1 ≤ 2147483647) {a2 : Int} (la2 : (-2147483648) ≤ a2) (ua2 : a2 ≤ 2147483647) {a3 : Int} (la3 : (-2147483648) ≤ a3) (ua3 : a3 ≤ 2147483647) : jOk 4 0 0 209 [(2, 0), (0, a1), (0, a2), (0, a3)] h (PI G [(1000000, 0)] h 0 (-2147483648) 2147483647) := by
  refine ⟨by decide, by rw [ml209]; exact Nat.le_of_ble_eq_true rfl, ?_⟩
  rw [ml209, pp209]
  show jEv _ none _ c209_0 0 0 _ (c209_0, [(2, 0), (0, a1), (0, a2), (0, a3), (9, 0), (9, 0), (9, 0), (9, 0), (9, 0), (9, 0)], [], h, 0, 0)
  have k0 := Kp.rf [(1000000, 0)] h
  refine ev_aload_n rfl ?_
  refine ev_iload_n rfl ?_
  refine ev_in (d := 2) (a := 0) (b := 0) (cd' := c219_0) (m := 2) (L0 := [(2, 0), (0, a1)]) (jcall_v (A := [(0, a1)]) (S' := []) (r := 0) rfl (g.lt ad0) (g.tg ad0) (Nat.le_of_ble_eq_true rfl)) (by decide) ml219 pp219 (Nat.le_of_ble_eq_true rfl) rfl (by decide) (by decide) ?_
  refine ev_iload_n rfl ?_
  refine ev_iflt f219_12 (fun c27037 => ?_) (fun c27037 => ?_)
  · refine ev_aconst_null ?_
    refine ev_goto f219_22 ?_
    refine ev_ret rfl (by decide) (by decide) ?_
    show jEv _ _ _ _ _ _ _ (_, [(2, 0), (0, a1), (0, a2), (0, a3), (9, 0), (9, 0), (9, 0), (9, 0), (9, 0), (9, 0)], [(2, (-1))], _, _, _)
    refine ev_astore (L' := [(2, 0), (0, a1), (0, a2), (0, a3), (2, (-1)), (9, 0), (9, 0), (9, 0), (9, 0), (9, 0)]) (Nat.le_of_ble_eq_true rfl) rfl ?_
    refine ev_aload rfl ?_
    refine ev_ifnull f209_24 (fun c27038 => ?_) (fun c27038 => absurd c27038 (by decide))
    refine ev_ldc ?_
    exact ev_ret rfl (by decide) (by decide) ⟨_, rfl, by omega, by omega, g, k0⟩
  · refine ev_iload_n rfl ?_
    refine ev_aload_n rfl ?_
    obtain ⟨v27039, ev27039, lv27039, uv27039⟩ := g.rd ad0 (show 3 < 17 by decide) rf0_3
    refine g_getv (r := 0) (v := v27039) g ad0 (by decide) ft11_3 ev27039 ?_
    refine ev_icmplt f219_16 (fun c27040 => ?_) (fun c27040 => ?_)
    · refine ev_aload_n rfl ?_
      refine g_getp (r := 0) (c := 18) g ad0 (by decide) (by decide) rf0_2 ft11_2 ?_
      refine ev_iload_n rfl ?_
      refine g_qaald (g) (i := a1) (ev27039) (by omega) (by omega) (fun r27041 m27042 qr27041 => ?_)
      have wr27041 := g.qb qr27041
      have zr27041 := qr27041.1
      refine ev_ret rfl (by decide) (by decide) ?_
      show jEv _ _ _ _ _ _ _ (_, [(2, 0), (0, a1), (0, a2), (0, a3), (9, 0), (9, 0), (9, 0), (9, 0), (9, 0), (9, 0)], [(2, (r27041 : Int))], _, _, _)
      refine ev_astore (L' := [(2, 0), (0, a1), (0, a2), (0, a3), (2, (r27041 : Int)), (9, 0), (9, 0), (9, 0), (9, 0), (9, 0)]) (Nat.le_of_ble_eq_true rfl) rfl ?_
      refine ev_aload rfl ?_
      refine ev_ifnull f209_24 (fun c27043 => absurd c27043 (by omega)) (fun c27043 => ?_)
      refine ev_iload_n rfl ?_
      refine ev_iconst ?_
      refine ev_icmplt f209_24 (fun c27044 => ?_) (fun c27044 => ?_)
      · refine ev_ldc ?_
        exact ev_ret rfl (by decide) (by decide) ⟨_, rfl, by omega, by omega, g, k0⟩
      · refine ev_iload_n rfl ?_
        refine ev_sipush ?_
        refine ev_icmple f209_27 (fun c27045 => ?_) (fun c27045 => ?_)
        · refine ev_aload rfl ?_
          refine ev_call (jcall_v (A := []) (S' := []) (r := r27041) rfl (g.qlt qr27041) (g.qtg qr27041) (Nat.le_of_ble_eq_true rfl)) (jOk_le (by decide) (s42 g qr27041)) (by decide) (by decide) (fun w27046 h27046 q27046 => ?_)
          obtain ⟨rfl, g27046, kk27046⟩ := q27046
          have k27046 := k0.tr kk27046 (by decide)
          show jEv _ _ _ _ _ _ _ (_, [(2, 0), (0, a1), (0, a2), (0, a3), (2, (r27041 : Int)), (9, 0), (9, 0), (9, 0), (9, 0), (9, 0)], [], _, _, _)
          refine ev_iload_n rfl ?_
          refine ev_istore (L' := [(2, 0), (0, a1), (0, a2), (0, a3), (2, (r27041 : Int)), (0, a2), (9, 0), (9, 0), (9, 0), (9, 0)]) (Nat.le_of_ble_eq_true rfl) rfl ?_
          refine ev_iconst ?_
          refine ev_istore (L' := [(2, 0), (0, a1), (0, a2), (0, a3), (2, (r27041 : Int)), (0, a2), (0, 0), (9, 0), (9, 0), (9, 0)]) (Nat.le_of_ble_eq_true rfl) rfl ?_
          refine ev_iconst ?_
          refine ev_istore (L' := [(2, 0), (0, a1), (0, a2), (0, a3), (2, (r27041 : Int)), (0, a2), (0, 0), (0, 0), (9, 0), (9, 0)]) (Nat.le_of_ble_eq_true rfl) rfl ?_
          exact (s209_l la1 ua1 la2 ua2 la3 ua3 4020).1 _ _ _ _ _ _ _ _ qr27041 g27046 k27046 (by omega) (by omega) (by omega) (by omega) (by omega) (by omega) (by omega) (by omega) (by omega) (by omega) (by omega) (by omega) (by omega)
        · refine ev_ldc ?_
          exact ev_ret rfl (by decide) (by decide) ⟨_, rfl, by omega, by omega, g, k0⟩
    · refine ev_aconst_null ?_
      refine ev_goto f219_22 ?_
      refine ev_ret rfl (by decide) (by decide) ?_
      show jEv _ _ _ _ _ _ _ (_, [(2, 0), (0, a1), (0, a2), (0, a3), (9, 0), (9, 0), (9, 0), (9, 0), (9, 0), (9, 0)], [(2, (-1))], _, _, _)
      refine ev_astore (L' := [(2, 0), (0, a1), (0, a2), (0, a3), (2, (-1)), (9, 0), (9, 0), (9, 0), (9, 0), (9, 0)]) (Nat.le_of_ble_eq_true rfl) rfl ?_
      refine ev_aload rfl ?_
      refine ev_ifnull f209_24 (fun c27047 => ?_) (fun c27047 => absurd c27047 (by decide))
      refine ev_ldc ?_
      exact ev_ret rfl (by decide) (by decide) ⟨_, rfl, by omega, by omega, g, k0⟩
/-! s21  -/
def c21_19 : List JE := (19, .istore_n 2, 1, [], 0) :: (20, .aload_n 0, 1, [], 0) :: (21, .iload_n 2, 1, [], 0) :: (22, .newarray .int, 2, [], 0) :: (24, .putfield 24, 3, [4, 2, 3046, 0], 0) :: (27, .aload_n 0, 1, [], 0) :: (28, .iload_n 2, 1, [], 0) :: (29, .newarray .int, 2, [], 0) :: (31, .putfield 28, 3, [4, 3, 3047, 0], 0) :: (34, .aload_n 0, 1, [], 0) :: (35, .iload_n 2, 1, [], 0) :: (36, .newarray .int, 2, [], 0) :: (38, .putfield 31, 3, [4, 4, 3048, 0], 0) :: (41, .aload_n 0, 1, [], 0) :: (42, .iconst 4, 1, [], 0) :: (43, .iload_n 2, 1, [], 0) :: (44, .imul, 1, [], 0) :: (45, .newarray .int, 2, [], 0) :: (47, .putfield 34, 3, [4, 5, 3049, 0], 0) :: (50, .aload_n 0, 1, [], 0) :: (51, .iconst 4, 1, [], 0) :: (52, .iload_n 2, 1, [], 0) :: (53, .imul, 1, [], 0) :: (54, .newarray .int, 2, [], 0) :: (56, .putfield 37, 3, [4, 6, 3050, 0], 0) :: (59, .aload_n 0, 1, [], 0) :: (60, .iload_n 2, 1, [], 0) :: (61, .newarray .int, 2, [], 0) :: (63, .putfield 40, 3, [4, 7, 3051, 0], 0) :: (66, .aload_n 0, 1, [], 0) :: (67, .iload_n 2, 1, [], 0) :: (68, .newarray .int, 2, [], 0) :: (70, .putfield 43, 3, [4, 8, 3052, 0], 0) :: (73, .aload_n 0, 1, [], 0) :: (74, .iload_n 2, 1, [], 0) :: (75, .newarray .int, 2, [], 0) :: (77, .putfield 46, 3, [4, 9, 3053, 0], 0) :: (80, .aload_n 0, 1, [], 0) :: (81, .iload_n 2, 1, [], 0) :: (82, .newarray .int, 2, [], 0) :: (84, .putfield 49, 3, [4, 10, 3054, 0], 0) :: (87, .aload_n 0, 1, [], 0) :: (88, .iload_n 2, 1, [], 0) :: (89, .newarray .int, 2, [], 0) :: (91, .putfield 52, 3, [4, 11, 3055, 0], 0) :: (94, .aload_n 0, 1, [], 0) :: (95, .iload_n 2, 1, [], 0) :: (96, .newarray .long, 2, [], 0) :: (98, .putfield 55, 3, [4, 12, 3056, 0], 0) :: (101, .aload_n 0, 1, [], 0) :: (102, .iload_n 2, 1, [], 0) :: (103, .newarray .boolean, 2, [], 0) :: (105, .putfield 59, 3, [4, 13, 3057, 0], 0) :: (108, .return_, 1, [], 0) :: []
theorem jn4 : jN 4 = 14 := by decide +kernel
set_option maxHeartbeats 4000000 in
theorem s21 {G : GH} {h0 : JH} (g : Gd G h0) {a1 : Int} (l1 : 1 ≤ a1) (u1 : a1 ≤ 100) : jOk 2 12 1800 21 [(2, (h0.1 : Int)), (0, a1)] (jnew h0 4 14) (fun v h' => v = none ∧ QP h0 h' h0.1 14 a1) := by
  refine ⟨by decide, by rw [ml21]; exact Nat.le_of_ble_eq_true rfl, ?_⟩
  rw [ml21, pp21]
  show jEv _ none _ c21_0 12 1800 _ (c21_0, [(2, (h0.1 : Int)), (0, a1), (9, 0)], [], jnew h0 4 14, 0, 0)
  have hl : h0.1 < (jnew h0 4 14).1 := Nat.lt_succ_self _
  have hf : jfam 4 ((jnew h0 4 14).2.1 h0.1).1 = true := by show jfam 4 (if h0.1 = h0.1 then (4, 14) else h0.2.1 h0.1).1 = true; rw [if_pos rfl]; rfl
  refine ev_aload_n rfl ?_
  refine ev_obji (Nat.le_of_ble_eq_true rfl) ?_
  refine ev_aload_n rfl ?_
  refine ev_iconst ?_
  refine ev_putfG hl hf ft4_0 (fun e => absurd e nz4_0) (fun e => absurd e (by decide)) (fun hA eA => ?_)
  refine ev_aload_n rfl ?_
  refine ev_iconst ?_
  refine ev_putfG (by rw [(jwr_ty eA).1]; exact hl) (by rw [(jwr_ty eA).2]; exact hf) ft4_1 (fun e => absurd e nz4_1) (fun e => absurd e (by decide)) (fun hB eB => ?_)
  have q2 : QP h0 hB h0.1 2 a1 := by
    subst eB
    subst eA
    refine ⟨rfl, fun a ha => ?_, ?_, fun k k1 k2 => by omega, fun a i ha => ?_, ?_, ?_, fun k k1 k2 => by omega, fun k i k1 k2 => by omega⟩
    · show (if a = h0.1 then (4, 14) else h0.2.1 a) = _
      rw [if_neg (by omega)]
    · show (if h0.1 = h0.1 then (4, 14) else h0.2.1 h0.1) = _
      rw [if_pos rfl]
    · show (if a = h0.1 ∧ i = 1 then (-1 : Int) else if a = h0.1 ∧ i = 0 then 0 else if a = h0.1 then jdef 4 i else h0.2.2 a i) = _
      rw [if_neg (by omega), if_neg (by omega), if_neg (by omega)]
    · show (if h0.1 = h0.1 ∧ 0 = 1 then (-1 : Int) else if h0.1 = h0.1 ∧ 0 = 0 then 0 else _) = _
      rw [if_neg (by omega), if_pos ⟨rfl, rfl⟩]
    · show (if h0.1 = h0.1 ∧ 1 = 1 then (-1 : Int) else _) = _
      rw [if_pos ⟨rfl, rfl⟩]
  refine ev_iconst ?_
  refine ev_iload_n rfl ?_
  refine ev_in (d := 0) (a := 0) (b := 0) (cd' := c379_0) (m := 2) (L0 := [(0, 1), (0, a1)]) (jcall_s (A := [(0, a1), (0, 1)]) (S' := []) (by decide) rfl (Nat.le_of_ble_eq_true rfl)) (by decide) ml379 pp379 (Nat.le_of_ble_eq_true rfl) rfl (by decide) (by decide) ?_
  have fin : jEv (jOk (0 + 1)) none (fun _ => 0) c21_0 12 1800 (fun v h' => v = none ∧ QP h0 h' h0.1 14 a1) (c21_19, [(2, (h0.1 : Int)), (0, a1), (9, 0)], [(0, a1)], hB, 0 + 0, 0 + 0) := by
    refine ev_istore_n (L' := [(2, (h0.1 : Int)), (0, a1), (0, a1)]) (Nat.le_of_ble_eq_true rfl) rfl ?_
    refine ev_aload_n rfl ?_
    refine ev_iload_n rfl ?_
    refine ev_newa (t := 20) (m := a1.toNat) rfl (by omega) (by omega) (by omega) (by omega) ?_
    have lt2 : h0.1 < (jnew hB 20 (a1.toNat)).1 := by show h0.1 < hB.1 + 1; rw [q2.1]; omega
    have fa2 : jfam 4 ((jnew hB 20 (a1.toNat)).2.1 h0.1).1 = true := by show jfam 4 (if h0.1 = hB.1 then (20, a1.toNat) else hB.2.1 h0.1).1 = true; rw [if_neg (by rw [q2.1]; omega), q2.2.2.1]; rfl
    refine ev_putfG lt2 fa2 ft4_2 (fun e => absurd e nz4_2) (fun _ => by omega) (fun h2 e2 => ?_)
    have q3 : QP h0 h2 h0.1 3 a1 := by rw [e2]; exact q2.step (c := 2) (by decide) (by decide) rfl (by show (a1).toNat = _; rfl)
    refine ev_aload_n rfl ?_
    refine ev_iload_n rfl ?_
    refine ev_newa (t := 20) (m := a1.toNat) rfl (by omega) (by omega) (by omega) (by omega) ?_
    have lt3 : h0.1 < (jnew h2 20 (a1.toNat)).1 := by show h0.1 < h2.1 + 1; rw [q3.1]; omega
    have fa3 : jfam 4 ((jnew h2 20 (a1.toNat)).2.1 h0.1).1 = true := by show jfam 4 (if h0.1 = h2.1 then (20, a1.toNat) else h2.2.1 h0.1).1 = true; rw [if_neg (by rw [q3.1]; omega), q3.2.2.1]; rfl
    refine ev_putfG lt3 fa3 ft4_3 (fun e => absurd e nz4_3) (fun _ => by omega) (fun h3 e3 => ?_)
    have q4 : QP h0 h3 h0.1 4 a1 := by rw [e3]; exact q3.step (c := 3) (by decide) (by decide) rfl (by show (a1).toNat = _; rfl)
    refine ev_aload_n rfl ?_
    refine ev_iload_n rfl ?_
    refine ev_newa (t := 20) (m := a1.toNat) rfl (by omega) (by omega) (by omega) (by omega) ?_
    have lt4 : h0.1 < (jnew h3 20 (a1.toNat)).1 := by show h0.1 < h3.1 + 1; rw [q4.1]; omega
    have fa4 : jfam 4 ((jnew h3 20 (a1.toNat)).2.1 h0.1).1 = true := by show jfam 4 (if h0.1 = h3.1 then (20, a1.toNat) else h3.2.1 h0.1).1 = true; rw [if_neg (by rw [q4.1]; omega), q4.2.2.1]; rfl
    refine ev_putfG lt4 fa4 ft4_4 (fun e => absurd e nz4_4) (fun _ => by omega) (fun h4 e4 => ?_)
    have q5 : QP h0 h4 h0.1 5 a1 := by rw [e4]; exact q4.step (c := 4) (by decide) (by decide) rfl (by show (a1).toNat = _; rfl)
    refine ev_aload_n rfl ?_
    refine ev_iconst ?_
    refine ev_iload_n rfl ?_
    refine ev_imul (r := 4 * a1) (by unfold w32; omega) ?_
    refine ev_newa (t := 20) (m := (4 * a1).toNat) rfl (by omega) (by omega) (by omega) (by omega) ?_
    have lt5 : h0.1 < (jnew h4 20 ((4 * a1).toNat)).1 := by show h0.1 < h4.1 + 1; rw [q5.1]; omega
    have fa5 : jfam 4 ((jnew h4 20 ((4 * a1).toNat)).2.1 h0.1).1 = true := by show jfam 4 (if h0.1 = h4.1 then (20, (4 * a1).toNat) else h4.2.1 h0.1).1 = true; rw [if_neg (by rw [q5.1]; omega), q5.2.2.1]; rfl
    refine ev_putfG lt5 fa5 ft4_5 (fun e => absurd e nz4_5) (fun _ => by omega) (fun h5 e5 => ?_)
    have q6 : QP h0 h5 h0.1 6 a1 := by rw [e5]; exact q5.step (c := 5) (by decide) (by decide) rfl (by show (4 * a1).toNat = _; rfl)
    refine ev_aload_n rfl ?_
    refine ev_iconst ?_
    refine ev_iload_n rfl ?_
    refine ev_imul (r := 4 * a1) (by unfold w32; omega) ?_
    refine ev_newa (t := 20) (m := (4 * a1).toNat) rfl (by omega) (by omega) (by omega) (by omega) ?_
    have lt6 : h0.1 < (jnew h5 20 ((4 * a1).toNat)).1 := by show h0.1 < h5.1 + 1; rw [q6.1]; omega
    have fa6 : jfam 4 ((jnew h5 20 ((4 * a1).toNat)).2.1 h0.1).1 = true := by show jfam 4 (if h0.1 = h5.1 then (20, (4 * a1).toNat) else h5.2.1 h0.1).1 = true; rw [if_neg (by rw [q6.1]; omega), q6.2.2.1]; rfl
    refine ev_putfG lt6 fa6 ft4_6 (fun e => absurd e nz4_6) (fun _ => by omega) (fun h6 e6 => ?_)
    have q7 : QP h0 h6 h0.1 7 a1 := by rw [e6]; exact q6.step (c := 6) (by decide) (by decide) rfl (by show (4 * a1).toNat = _; rfl)
    refine ev_aload_n rfl ?_
    refine ev_iload_n rfl ?_
    refine ev_newa (t := 20) (m := a1.toNat) rfl (by omega) (by omega) (by omega) (by omega) ?_
    have lt7 : h0.1 < (jnew h6 20 (a1.toNat)).1 := by show h0.1 < h6.1 + 1; rw [q7.1]; omega
    have fa7 : jfam 4 ((jnew h6 20 (a1.toNat)).2.1 h0.1).1 = true := by show jfam 4 (if h0.1 = h6.1 then (20, a1.toNat) else h6.2.1 h0.1).1 = true; rw [if_neg (by rw [q7.1]; omega), q7.2.2.1]; rfl
    refine ev_putfG lt7 fa7 ft4_7 (fun e => absurd e nz4_7) (fun _ => by omega) (fun h7 e7 => ?_)
    have q8 : QP h0 h7 h0.1 8 a1 := by rw [e7]; exact q7.step (c := 7) (by decide) (by decide) rfl (by show (a1).toNat = _; rfl)
    refine ev_aload_n rfl ?_
    refine ev_iload_n rfl ?_
    refine ev_newa (t := 20) (m := a1.toNat) rfl (by omega) (by omega) (by omega) (by omega) ?_
    have lt8 : h0.1 < (jnew h7 20 (a1.toNat)).1 := by show h0.1 < h7.1 + 1; rw [q8.1]; omega
    have fa8 : jfam 4 ((jnew h7 20 (a1.toNat)).2.1 h0.1).1 = true := by show jfam 4 (if h0.1 = h7.1 then (20, a1.toNat) else h7.2.1 h0.1).1 = true; rw [if_neg (by rw [q8.1]; omega), q8.2.2.1]; rfl
    refine ev_putfG lt8 fa8 ft4_8 (fun e => absurd e nz4_8) (fun _ => by omega) (fun h8 e8 => ?_)
    have q9 : QP h0 h8 h0.1 9 a1 := by rw [e8]; exact q8.step (c := 8) (by decide) (by decide) rfl (by show (a1).toNat = _; rfl)
    refine ev_aload_n rfl ?_
    refine ev_iload_n rfl ?_
    refine ev_newa (t := 20) (m := a1.toNat) rfl (by omega) (by omega) (by omega) (by omega) ?_
    have lt9 : h0.1 < (jnew h8 20 (a1.toNat)).1 := by show h0.1 < h8.1 + 1; rw [q9.1]; omega
    have fa9 : jfam 4 ((jnew h8 20 (a1.toNat)).2.1 h0.1).1 = true := by show jfam 4 (if h0.1 = h8.1 then (20, a1.toNat) else h8.2.1 h0.1).1 = true; rw [if_neg (by rw [q9.1]; omega), q9.2.2.1]; rfl
    refine ev_putfG lt9 fa9 ft4_9 (fun e => absurd e nz4_9) (fun _ => by omega) (fun h9 e9 => ?_)
    have q10 : QP h0 h9 h0.1 10 a1 := by rw [e9]; exact q9.step (c := 9) (by decide) (by decide) rfl (by show (a1).toNat = _; rfl)
    refine ev_aload_n rfl ?_
    refine ev_iload_n rfl ?_
    refine ev_newa (t := 20) (m := a1.toNat) rfl (by omega) (by omega) (by omega) (by omega) ?_
    have lt10 : h0.1 < (jnew h9 20 (a1.toNat)).1 := by show h0.1 < h9.1 + 1; rw [q10.1]; omega
    have fa10 : jfam 4 ((jnew h9 20 (a1.toNat)).2.1 h0.1).1 = true := by show jfam 4 (if h0.1 = h9.1 then (20, a1.toNat) else h9.2.1 h0.1).1 = true; rw [if_neg (by rw [q10.1]; omega), q10.2.2.1]; rfl
    refine ev_putfG lt10 fa10 ft4_10 (fun e => absurd e nz4_10) (fun _ => by omega) (fun h10 e10 => ?_)
    have q11 : QP h0 h10 h0.1 11 a1 := by rw [e10]; exact q10.step (c := 10) (by decide) (by decide) rfl (by show (a1).toNat = _; rfl)
    refine ev_aload_n rfl ?_
    refine ev_iload_n rfl ?_
    refine ev_newa (t := 20) (m := a1.toNat) rfl (by omega) (by omega) (by omega) (by omega) ?_
    have lt11 : h0.1 < (jnew h10 20 (a1.toNat)).1 := by show h0.1 < h10.1 + 1; rw [q11.1]; omega
    have fa11 : jfam 4 ((jnew h10 20 (a1.toNat)).2.1 h0.1).1 = true := by show jfam 4 (if h0.1 = h10.1 then (20, a1.toNat) else h10.2.1 h0.1).1 = true; rw [if_neg (by rw [q11.1]; omega), q11.2.2.1]; rfl
    refine ev_putfG lt11 fa11 ft4_11 (fun e => absurd e nz4_11) (fun _ => by omega) (fun h11 e11 => ?_)
    have q12 : QP h0 h11 h0.1 12 a1 := by rw [e11]; exact q11.step (c := 11) (by decide) (by decide) rfl (by show (a1).toNat = _; rfl)
    refine ev_aload_n rfl ?_
    refine ev_iload_n rfl ?_
    refine ev_newa (t := 21) (m := a1.toNat) rfl (by omega) (by omega) (by omega) (by omega) ?_
    have lt12 : h0.1 < (jnew h11 21 (a1.toNat)).1 := by show h0.1 < h11.1 + 1; rw [q12.1]; omega
    have fa12 : jfam 4 ((jnew h11 21 (a1.toNat)).2.1 h0.1).1 = true := by show jfam 4 (if h0.1 = h11.1 then (21, a1.toNat) else h11.2.1 h0.1).1 = true; rw [if_neg (by rw [q12.1]; omega), q12.2.2.1]; rfl
    refine ev_putfG lt12 fa12 ft4_12 (fun e => absurd e nz4_12) (fun _ => by omega) (fun h12 e12 => ?_)
    have q13 : QP h0 h12 h0.1 13 a1 := by rw [e12]; exact q12.step (c := 12) (by decide) (by decide) rfl (by show (a1).toNat = _; rfl)
    refine ev_aload_n rfl ?_
    refine ev_iload_n rfl ?_
    refine ev_newa (t := 23) (m := a1.toNat) rfl (by omega) (by omega) (by omega) (by omega) ?_
    have lt13 : h0.1 < (jnew h12 23 (a1.toNat)).1 := by show h0.1 < h12.1 + 1; rw [q13.1]; omega
    have fa13 : jfam 4 ((jnew h12 23 (a1.toNat)).2.1 h0.1).1 = true := by show jfam 4 (if h0.1 = h12.1 then (23, a1.toNat) else h12.2.1 h0.1).1 = true; rw [if_neg (by rw [q13.1]; omega), q13.2.2.1]; rfl
    refine ev_putfG lt13 fa13 ft4_13 (fun e => absurd e nz4_13) (fun _ => by omega) (fun h13 e13 => ?_)
    have q14 : QP h0 h13 h0.1 14 a1 := by rw [e13]; exact q13.step (c := 13) (by decide) (by decide) rfl (by show (a1).toNat = _; rfl)
    exact ev_ret rfl (by omega) (by omega) ⟨rfl, q14⟩
  refine ev_iload_n rfl ?_
  refine ev_iload_n rfl ?_
  refine ev_icmplt f379_9 (fun c => ?_) (fun c => ?_)
  · refine ev_iload_n rfl ?_
    refine ev_ret rfl (by decide) (by decide) ?_
    exact fin
  · have e : a1 = 1 := by omega
    refine ev_iload_n rfl ?_
    refine ev_goto f379_10 ?_
    refine ev_ret rfl (by decide) (by decide) ?_
    rw [e] at fin ⊢
    exact fin

/-! s82_13  -/
set_option maxHeartbeats 4000000 in
theorem s82_13_l {G : GH} {h : JH} {r1 : Nat} {m1 : Int} (q1 : IsQ G r1 m1) {a2 : Int} (la2 : 0 ≤ a2) (ua2 : a2 ≤ 199) {a3 : Int} (la3 : (-1) ≤ a3) (ua3 : a3 ≤ m1 - 1) {a4 : Int} (la4 : (-2147483648) ≤ a4) (ua4 : a4 ≤ 2147483647) : ∀ N : Nat, (∀ (h1 : JH) (x6 : Int) (j8 j9 : AV), Gd G h1 → Kp [(1000000, 0)] h h1 → 0 ≤ a2 → a2 ≤ 199 → (-1) ≤ a3 → a3 ≤ 99 → (-2147483648) ≤ a4 → a4 ≤ 2147483647 → (-1) ≤ x6 → x6 ≤ 99 → x6 ≤ m1 - 1 → 0 < N → jEv (jOk 1) none (fun _ => 0) c82_0 0 0 (PM G [(1000000, 0)] h m1 0 (-1) (-1)) (c82_24, [(2, 7), (2, (r1 : Int)), (0, a2), (0, a3), (0, a4), (0, 13), (0, x6), (0, 0), j8, j9], [], h1, 0, 0)) := by
  intro N
  induction N with
  | zero => exact fun h1 x6 j8 j9 g1 k1 b0 b1 b2 b3 b4 b5 b6 b7 b8 hm => absurd hm (by omega)
  | succ N ih =>
    show _
    intro h1 x6 j8 j9 g1 k1 b0 b1 b2 b3 b4 b5 b6 b7 b8 hm
    have wr1 := g1.qb q1
    have zr1 := q1.1
    refine ev_iload rfl ?_
    refine ev_aload_n rfl ?_
    refine g_getp (r := 7) (c := 12) g1 ad7 (by decide) (by decide) rf7_9 ft5_9 ?_
    refine ev_iload_n rfl ?_
    refine g_iald g1 ad12 rt12 (by omega) (by omega) (fun v27062 ev27062 lv27062 uv27062 => ?_)
    refine ev_icmpge f82_126 (fun c27063 => ?_) (fun c27063 => ?_)
    · refine ev_iload rfl ?_
      exact ev_ret rfl (by decide) (by decide) ⟨_, rfl, by omega, by omega, g1, k1⟩
    · refine ev_iload rfl ?_
      refine ev_bipush ?_
      refine ev_icmpgt f82_126 (fun c27064 => ?_) (fun c27064 => absurd c27064 (by omega))
      refine ev_iload rfl ?_
      exact ev_ret rfl (by decide) (by decide) ⟨_, rfl, by omega, by omega, g1, k1⟩
set_option maxHeartbeats 4000000 in
theorem s82_13 {G : GH} {h : JH} (g : Gd G h) {r1 : Nat} {m1 : Int} (q1 : IsQ G r1 m1) {a2 : Int} (la2 : 0 ≤ a2) (ua2 : a2 ≤ 199) {a3 : Int} (la3 : (-1) ≤ a3) (ua3 : a3 ≤ m1 - 1) {a4 : Int} (la4 : (-2147483648) ≤ a4) (ua4 : a4 ≤ 2147483647) : jOk 2 0 0 82 [(2, 7), (2, (r1 : Int)), (0, a2), (0, a3), (0, a4), (0, 13)] h (PM G [(1000000, 0)] h m1 0 (-1) (-1)) := by
  refine ⟨by decide, by rw [ml82]; exact Nat.le_of_ble_eq_true rfl, ?_⟩
  rw [ml82, pp82]
  show jEv _ none _ c82_0 0 0 _ (c82_0, [(2, 7), (2, (r1 : Int)), (0, a2), (0, a3), (0, a4), (0, 13), (9, 0), (9, 0), (9, 0), (9, 0)], [], h, 0, 0)
  have k0 := Kp.rf [(1000000, 0)] h
  have wr1 := g.qb q1
  have zr1 := q1.1
  refine ev_aload_n rfl ?_
  refine ev_aload_n rfl ?_
  refine g_getp (r := 7) (c := 10) g ad7 (by decide) (by decide) rf7_7 ft5_7 ?_
  refine ev_iload_n rfl ?_
  refine g_iald g ad10 rt10 (by omega) (by omega) (fun v27065 ev27065 lv27065 uv27065 => ?_)
  refine ev_aload_n rfl ?_
  refine g_getp (r := 7) (c := 11) g ad7 (by decide) (by decide) rf7_8 ft5_8 ?_
  refine ev_iload_n rfl ?_
  refine g_iald g ad11 rt11 (by omega) (by omega) (fun v27066 ev27066 lv27066 uv27066 => ?_)
  refine ev_iload_n rfl ?_
  refine ev_iload rfl ?_
  refine ev_call (jcall_v (A := [(0, a4), (0, a3), (0, v27066), (0, v27065)]) (S' := []) (r := r1) rfl (g.qlt q1) (g.qtg q1) (Nat.le_of_ble_eq_true rfl)) (jOk_le (by decide) (s22 g q1 (by omega) (by omega) (by omega) (by omega) (by omega) (by omega) (by omega) (by omega))) (by decide) (by decide) (fun w27067 h27067 q27067 => ?_)
  obtain ⟨v27068, rfl, lv27068, uv27068, g27067, kk27067⟩ := q27067
  have k27067 := k0.tr kk27067 (by decide)
  show jEv _ _ _ _ _ _ _ (_, [(2, 7), (2, (r1 : Int)), (0, a2), (0, a3), (0, a4), (0, 13), (9, 0), (9, 0), (9, 0), (9, 0)], [(0, v27068)], _, _, _)
  refine ev_istore (L' := [(2, 7), (2, (r1 : Int)), (0, a2), (0, a3), (0, a4), (0, 13), (0, v27068), (9, 0), (9, 0), (9, 0)]) (Nat.le_of_ble_eq_true rfl) rfl ?_
  refine ev_iconst ?_
  refine ev_istore (L' := [(2, 7), (2, (r1 : Int)), (0, a2), (0, a3), (0, a4), (0, 13), (0, v27068), (0, 0), (9, 0), (9, 0)]) (Nat.le_of_ble_eq_true rfl) rfl ?_
  exact (s82_13_l q1 la2 ua2 la3 ua3 la4 ua4 2) _ _ _ _ g27067 k27067 (by omega) (by omega) (by omega) (by omega) (by omega) (by omega) (by omega) (by omega) (by omega) (by omega)
/-! s82_12  -/
set_option maxHeartbeats 4000000 in
theorem s82_12_l {G : GH} {h : JH} {r1 : Nat} {m1 : Int} (q1 : IsQ G r1 m1) {a2 : Int} (la2 : 0 ≤ a2) (ua2 : a2 ≤ 199) {a3 : Int} (la3 : (-1) ≤ a3) (ua3 : a3 ≤ m1 - 1) {a4 : Int} (la4 : (-2147483648) ≤ a4) (ua4 : a4 ≤ 2147483647) : ∀ N : Nat, (∀ (h1 : JH) (x6 x7 : Int) (j8 j9 : AV), Gd G h1 → Kp [(1000000, 0)] h h1 → 0 ≤ a2 → a2 ≤ 199 → (-1) ≤ a3 → a3 ≤ 99 → (-2147483648) ≤ a4 → a4 ≤ 2147483647 → (-1) ≤ x6 → x6 ≤ 99 → x6 ≤ m1 - 1 → 0 ≤ x7 → x7 ≤ 4 → ((-x7) + 4) < N → jEv (jOk 2) none (fun _ => 0) c82_0 0 0 (PM G [(1000000, 0)] h m1 0 (-1) (-1)) (c82_24, [(2, 7), (2, (r1 : Int)), (0, a2), (0, a3), (0, a4), (0, 12), (0, x6), (0, x7), j8, j9], [], h1, 0, 0)) := by
  intro N
  induction N with
  | zero => exact fun h1 x6 x7 j8 j9 g1 k1 b0 b1 b2 b3 b4 b5 b6 b7 b8 b9 b10 hm => absurd hm (by omega)
  | succ N ih =>
    show _
    intro h1 x6 x7 j8 j9 g1 k1 b0 b1 b2 b3 b4 b5 b6 b7 b8 b9 b10 hm
    have wr1 := g1.qb q1
    have zr1 := q1.1
    refine ev_iload rfl ?_
    refine ev_aload_n rfl ?_
    refine g_getp (r := 7) (c := 12) g1 ad7 (by decide) (by decide) rf7_9 ft5_9 ?_
    refine ev_iload_n rfl ?_
    refine g_iald g1 ad12 rt12 (by omega) (by omega) (fun v27191 ev27191 lv27191 uv27191 => ?_)
    refine ev_icmpge f82_126 (fun c27192 => ?_) (fun c27192 => ?_)
    · refine ev_iload rfl ?_
      exact ev_ret rfl (by decide) (by decide) ⟨_, rfl, by omega, by omega, g1, k1⟩
    · refine ev_iload rfl ?_
      refine ev_bipush ?_
      refine ev_icmpgt f82_126 (fun c27193 => absurd c27193 (by omega)) (fun c27193 => ?_)
      refine ev_aload_n rfl ?_
      refine g_getp (r := 7) (c := 10) g1 ad7 (by decide) (by decide) rf7_7 ft5_7 ?_
      refine ev_iload_n rfl ?_
      refine g_iald g1 ad10 rt10 (by omega) (by omega) (fun v27194 ev27194 lv27194 uv27194 => ?_)
      refine ev_iconst ?_
      refine ev_icmpne f82_71 (fun c27195 => ?_) (fun c27195 => ?_)
      · refine ev_iload rfl ?_
        refine ev_istore (L' := [(2, 7), (2, (r1 : Int)), (0, a2), (0, a3), (0, a4), (0, 12), (0, x6), (0, x7), (0, a4), j9]) (Nat.le_of_ble_eq_true rfl) rfl ?_
        refine ev_aload_n rfl ?_
        refine ev_aload_n rfl ?_
        refine ev_aload_n rfl ?_
        refine g_getp (r := 7) (c := 13) g1 ad7 (by decide) (by decide) rf7_10 ft5_10 ?_
        refine ev_iconst ?_
        refine ev_iload_n rfl ?_
        refine ev_imul (r := (4 * a2)) (by unfold w32; omega) ?_
        refine ev_iload rfl ?_
        refine ev_iadd (r := (4 * a2 + x7)) (by unfold w32; omega) ?_
        refine g_iald g1 ad13 rt13 (by omega) (by omega) (fun v27196 ev27196 lv27196 uv27196 => ?_)
        refine ev_iload rfl ?_
        refine ev_iload rfl ?_
        refine ev_iload rfl ?_
        refine ev_iconst ?_
        refine ev_iadd (r := 13) (by decide) ?_
        refine ev_call (jcall_v (A := [(0, 13), (0, a4), (0, x6), (0, v27196), (2, (r1 : Int))]) (S' := []) (r := 7) rfl (g1.lt ad7) (g1.tg ad7) (Nat.le_of_ble_eq_true rfl)) (jOk_le (by decide) (s82_13 g1 q1 (by omega) (by omega) (by omega) (by omega) (by omega) (by omega))) (by decide) (by decide) (fun w27197 h27197 q27197 => ?_)
        obtain ⟨v27198, rfl, lv27198, uv27198, g27197, kk27197⟩ := q27197
        have k27197 := k1.tr kk27197 (by decide)
        show jEv _ _ _ _ _ _ _ (_, [(2, 7), (2, (r1 : Int)), (0, a2), (0, a3), (0, a4), (0, 12), (0, x6), (0, x7), (0, a4), j9], [(0, v27198)], _, _, _)
        refine ev_istore (L' := [(2, 7), (2, (r1 : Int)), (0, a2), (0, a3), (0, a4), (0, 12), (0, x6), (0, x7), (0, a4), (0, v27198)]) (Nat.le_of_ble_eq_true rfl) rfl ?_
        refine ev_aload_n rfl ?_
        refine ev_iload rfl ?_
        refine ev_aload_n rfl ?_
        refine g_getp (r := 7) (c := 14) g27197 ad7 (by decide) (by decide) rf7_11 ft5_11 ?_
        refine ev_iconst ?_
        refine ev_iload_n rfl ?_
        refine ev_imul (r := (4 * a2)) (by unfold w32; omega) ?_
        refine ev_iload rfl ?_
        refine ev_iadd (r := (4 * a2 + x7)) (by unfold w32; omega) ?_
        refine g_iald g27197 ad14 rt14 (by omega) (by omega) (fun v27199 ev27199 lv27199 uv27199 => ?_)
        refine ev_iload rfl ?_
        refine ev_call (jcall_v (A := [(0, v27198), (0, v27199), (0, x6)]) (S' := []) (r := r1) rfl (g27197.qlt q1) (g27197.qtg q1) (Nat.le_of_ble_eq_true rfl)) (jOk_le (by decide) (s23 g27197 q1 (by omega) (by omega) (by omega) (by omega) (by omega) (by omega))) (by decide) (by decide) (fun w27200 h27200 q27200 => ?_)
        obtain ⟨rfl, g27200, kk27200⟩ := q27200
        have k27200 := k27197.tr kk27200 (by decide)
        show jEv _ _ _ _ _ _ _ (_, [(2, 7), (2, (r1 : Int)), (0, a2), (0, a3), (0, a4), (0, 12), (0, x6), (0, x7), (0, a4), (0, v27198)], [], _, _, _)
        refine ev_iinc (w := (x7 + 1)) (L' := [(2, 7), (2, (r1 : Int)), (0, a2), (0, a3), (0, a4), (0, 12), (0, x6), (0, (x7 + 1)), (0, a4), (0, v27198)]) rfl (by unfold w32; omega) rfl ?_
        refine ev_goto f82_24 ?_
        exact ih _ _ _ _ _ g27200 k27200 (by omega) (by omega) (by omega) (by omega) (by omega) (by omega) (by omega) (by omega) (by omega) (by omega) (by omega) (by omega)
      · refine ev_iload rfl ?_
        refine ev_iload rfl ?_
        refine ev_iconst ?_
        refine ev_iadd (r := (x7 + 1)) (by unfold w32; omega) ?_
        refine ev_iconst ?_
        refine ev_aload_n rfl ?_
        refine g_getp (r := 7) (c := 11) g1 ad7 (by decide) (by decide) rf7_8 ft5_8 ?_
        refine ev_iload_n rfl ?_
        refine g_iald g1 ad11 rt11 (by omega) (by omega) (fun v27201 ev27201 lv27201 uv27201 => ?_)
        refine g_imulG (fun v27202 ev27202 lv27202 uv27202 => ?_)
        refine g_ishlG (fun v27203 ev27203 lv27203 uv27203 => ?_)
        refine g_iorG (fun v27204 ev27204 lv27204 uv27204 => ?_)
        refine ev_goto f82_73 ?_
        refine ev_istore (L' := [(2, 7), (2, (r1 : Int)), (0, a2), (0, a3), (0, a4), (0, 12), (0, x6), (0, x7), (0, v27204), j9]) (Nat.le_of_ble_eq_true rfl) rfl ?_
        refine ev_aload_n rfl ?_
        refine ev_aload_n rfl ?_
        refine ev_aload_n rfl ?_
        refine g_getp (r := 7) (c := 13) g1 ad7 (by decide) (by decide) rf7_10 ft5_10 ?_
        refine ev_iconst ?_
        refine ev_iload_n rfl ?_
        refine ev_imul (r := (4 * a2)) (by unfold w32; omega) ?_
        refine ev_iload rfl ?_
        refine ev_iadd (r := (4 * a2 + x7)) (by unfold w32; omega) ?_
        refine g_iald g1 ad13 rt13 (by omega) (by omega) (fun v27205 ev27205 lv27205 uv27205 => ?_)
        refine ev_iload rfl ?_
        refine ev_iload rfl ?_
        refine ev_iload rfl ?_
        refine ev_iconst ?_
        refine ev_iadd (r := 13) (by decide) ?_
        refine ev_call (jcall_v (A := [(0, 13), (0, v27204), (0, x6), (0, v27205), (2, (r1 : Int))]) (S' := []) (r := 7) rfl (g1.lt ad7) (g1.tg ad7) (Nat.le_of_ble_eq_true rfl)) (jOk_le (by decide) (s82_13 g1 q1 (by omega) (by omega) (by omega) (by omega) (by omega) (by omega))) (by decide) (by decide) (fun w27206 h27206 q27206 => ?_)
        obtain ⟨v27207, rfl, lv27207, uv27207, g27206, kk27206⟩ := q27206
        have k27206 := k1.tr kk27206 (by decide)
        show jEv _ _ _ _ _ _ _ (_, [(2, 7), (2, (r1 : Int)), (0, a2), (0, a3), (0, a4), (0, 12), (0, x6), (0, x7), (0, v27204), j9], [(0, v27207)], _, _, _)
        refine ev_istore (L' := [(2, 7), (2, (r1 : Int)), (0, a2), (0, a3), (0, a4), (0, 12), (0, x6), (0, x7), (0, v27204), (0, v27207)]) (Nat.le_of_ble_eq_true rfl) rfl ?_
        refine ev_aload_n rfl ?_
        refine ev_iload rfl ?_
        refine ev_aload_n rfl ?_
        refine g_getp (r := 7) (c := 14) g27206 ad7 (by decide) (by decide) rf7_11 ft5_11 ?_
        refine ev_iconst ?_
        refine ev_iload_n rfl ?_
        refine ev_imul (r := (4 * a2)) (by unfold w32; omega) ?_
        refine ev_iload rfl ?_
        refine ev_iadd (r := (4 * a2 + x7)) (by unfold w32; omega) ?_
        refine g_iald g27206 ad14 rt14 (by omega) (by omega) (fun v27208 ev27208 lv27208 uv27208 => ?_)
        refine ev_iload rfl ?_
        refine ev_call (jcall_v (A := [(0, v27207), (0, v27208), (0, x6)]) (S' := []) (r := r1) rfl (g27206.qlt q1) (g27206.qtg q1) (Nat.le_of_ble_eq_true rfl)) (jOk_le (by decide) (s23 g27206 q1 (by omega) (by omega) (by omega) (by omega) (by omega) (by omega))) (by decide) (by decide) (fun w27209 h27209 q27209 => ?_)
        obtain ⟨rfl, g27209, kk27209⟩ := q27209
        have k27209 := k27206.tr kk27209 (by decide)
        show jEv _ _ _ _ _ _ _ (_, [(2, 7), (2, (r1 : Int)), (0, a2), (0, a3), (0, a4), (0, 12), (0, x6), (0, x7), (0, v27204), (0, v27207)], [], _, _, _)
        refine ev_iinc (w := (x7 + 1)) (L' := [(2, 7), (2, (r1 : Int)), (0, a2), (0, a3), (0, a4), (0, 12), (0, x6), (0, (x7 + 1)), (0, v27204), (0, v27207)]) rfl (by unfold w32; omega) rfl ?_
        refine ev_goto f82_24 ?_
        exact ih _ _ _ _ _ g27209 k27209 (by omega) (by omega) (by omega) (by omega) (by omega) (by omega) (by omega) (by omega) (by omega) (by omega) (by omega) (by omega)
set_option maxHeartbeats 4000000 in
theorem s82_12 {G : GH} {h : JH} (g : Gd G h) {r1 : Nat} {m1 : Int} (q1 : IsQ G r1 m1) {a2 : Int} (la2 : 0 ≤ a2) (ua2 : a2 ≤ 199) {a3 : Int} (la3 : (-1) ≤ a3) (ua3 : a3 ≤ m1 - 1) {a4 : Int} (la4 : (-2147483648) ≤ a4) (ua4 : a4 ≤ 2147483647) : jOk 3 0 0 82 [(2, 7), (2, (r1 : Int)), (0, a2), (0, a3), (0, a4), (0, 12)] h (PM G [(1000000, 0)] h m1 0 (-1) (-1)) := by
  refine ⟨by decide, by rw [ml82]; exact Nat.le_of_ble_eq_true rfl, ?_⟩
  rw [ml82, pp82]
  show jEv _ none _ c82_0 0 0 _ (c82_0, [(2, 7), (2, (r1 : Int)), (0, a2), (0, a3), (0, a4), (0, 12), (9, 0), (9, 0), (9, 0), (9, 0)], [], h, 0, 0)
  have k0 := Kp.rf [(1000000, 0)] h
  have wr1 := g.qb q1
  have zr1 := q1.1
  refine ev_aload_n rfl ?_
  refine ev_aload_n rfl ?_
  refine g_getp (r := 7) (c := 10) g ad7 (by decide) (by decide) rf7_7 ft5_7 ?_
  refine ev_iload_n rfl ?_
  refine g_iald g ad10 rt10 (by omega) (by omega) (fun v27210 ev27210 lv27210 uv27210 => ?_)
  refine ev_aload_n rfl ?_
  refine g_getp (r := 7) (c := 11) g ad7 (by decide) (by decide) rf7_8 ft5_8 ?_
  refine ev_iload_n rfl ?_
  refine g_iald g ad11 rt11 (by omega) (by omega) (fun v27211 ev27211 lv27211 uv27211 => ?_)
  refine ev_iload_n rfl ?_
  refine ev_iload rfl ?_
  refine ev_call (jcall_v (A := [(0, a4), (0, a3), (0, v27211), (0, v27210)]) (S' := []) (r := r1) rfl (g.qlt q1) (g.qtg q1) (Nat.le_of_ble_eq_true rfl)) (jOk_le (by decide) (s22 g q1 (by omega) (by omega) (by omega) (by omega) (by omega) (by omega) (by omega) (by omega))) (by decide) (by decide) (fun w27212 h27212 q27212 => ?_)
  obtain ⟨v27213, rfl, lv27213, uv27213, g27212, kk27212⟩ := q27212
  have k27212 := k0.tr kk27212 (by decide)
  show jEv _ _ _ _ _ _ _ (_, [(2, 7), (2, (r1 : Int)), (0, a2), (0, a3), (0, a4), (0, 12), (9, 0), (9, 0), (9, 0), (9, 0)], [(0, v27213)], _, _, _)
  refine ev_istore (L' := [(2, 7), (2, (r1 : Int)), (0, a2), (0, a3), (0, a4), (0, 12), (0, v27213), (9, 0), (9, 0), (9, 0)]) (Nat.le_of_ble_eq_true rfl) rfl ?_
  refine ev_iconst ?_
  refine ev_istore (L' := [(2, 7), (2, (r1 : Int)), (0, a2), (0, a3), (0, a4), (0, 12), (0, v27213), (0, 0), (9, 0), (9, 0)]) (Nat.le_of_ble_eq_true rfl) rfl ?_
  exact (s82_12_l q1 la2 ua2 la3 ua3 la4 ua4 10) _ _ _ _ _ g27212 k27212 (by omega) (by omega) (by omega) (by omega) (by omega) (by omega) (by omega) (by omega) (by omega) (by omega) (by omega) (by omega)
/-! s82_11  -/
set_option maxHeartbeats 4000000 in
theorem s82_11_l {G : GH} {h : JH} {r1 : Nat} {m1 : Int} (q1 : IsQ G r1 m1) {a2 : Int} (la2 : 0 ≤ a2) (ua2 : a2 ≤ 199) {a3 : Int} (la3 : (-1) ≤ a3) (ua3 : a3 ≤ m1 - 1) {a4 : Int} (la4 : (-2147483648) ≤ a4) (ua4 : a4 ≤ 2147483647) : ∀ N : Nat, (∀ (h1 : JH) (x6 x7 : Int) (j8 j9 : AV), Gd G h1 → Kp [(1000000, 0)] h h1 → 0 ≤ a2 → a2 ≤ 199 → (-1) ≤ a3 → a3 ≤ 99 → (-2147483648) ≤ a4 → a4 ≤ 2147483647 → (-1) ≤ x6 → x6 ≤ 99 → x6 ≤ m1 - 1 → 0 ≤ x7 → x7 ≤ 4 → ((-x7) + 4) < N → jEv (jOk 3) none (fun _ => 0) c82_0 0 0 (PM G [(1000000, 0)] h m1 0 (-1) (-1)) (c82_24, [(2, 7), (2, (r1 : Int)), (0, a2), (0, a3), (0, a4), (0, 11), (0, x6), (0, x7), j8, j9], [], h1, 0, 0)) := by
  intro N
  induction N with
  | zero => exact fun h1 x6 x7 j8 j9 g1 k1 b0 b1 b2 b3 b4 b5 b6 b7 b8 b9 b10 hm => absurd hm (by omega)
  | succ N ih =>
    show _
    intro h1 x6 x7 j8 j9 g1 k1 b0 b1 b2 b3 b4 b5 b6 b7 b8 b9 b10 hm
    have wr1 := g1.qb q1
    have zr1 := q1.1
    refine ev_iload rfl ?_
    refine ev_aload_n rfl ?_
    refine g_getp (r := 7) (c := 12) g1 ad7 (by decide) (by decide) rf7_9 ft5_9 ?_
    refine ev_iload_n rfl ?_
    refine g_iald g1 ad12 rt12 (by omega) (by omega) (fun v27336 ev27336 lv27336 uv27336 => ?_)
    refine ev_icmpge f82_126 (fun c27337 => ?_) (fun c27337 => ?_)
    · refine ev_iload rfl ?_
      exact ev_ret rfl (by decide) (by decide) ⟨_, rfl, by omega, by omega, g1, k1⟩
    · refine ev_iload rfl ?_
      refine ev_bipush ?_
      refine ev_icmpgt f82_126 (fun c27338 => absurd c27338 (by omega)) (fun c27338 => ?_)
      refine ev_aload_n rfl ?_
      refine g_getp (r := 7) (c := 10) g1 ad7 (by decide) (by decide) rf7_7 ft5_7 ?_
      refine ev_iload_n rfl ?_
      refine g_iald g1 ad10 rt10 (by omega) (by omega) (fun v27339 ev27339 lv27339 uv27339 => ?_)
      refine ev_iconst ?_
      refine ev_icmpne f82_71 (fun c27340 => ?_) (fun c27340 => ?_)
      · refine ev_iload rfl ?_
        refine ev_istore (L' := [(2, 7), (2, (r1 : Int)), (0, a2), (0, a3), (0, a4), (0, 11), (0, x6), (0, x7), (0, a4), j9]) (Nat.le_of_ble_eq_true rfl) rfl ?_
        refine ev_aload_n rfl ?_
        refine ev_aload_n rfl ?_
        refine ev_aload_n rfl ?_
        refine g_getp (r := 7) (c := 13) g1 ad7 (by decide) (by decide) rf7_10 ft5_10 ?_
        refine ev_iconst ?_
        refine ev_iload_n rfl ?_
        refine ev_imul (r := (4 * a2)) (by unfold w32; omega) ?_
        refine ev_iload rfl ?_
        refine ev_iadd (r := (4 * a2 + x7)) (by unfold w32; omega) ?_
        refine g_iald g1 ad13 rt13 (by omega) (by omega) (fun v27341 ev27341 lv27341 uv27341 => ?_)
        refine ev_iload rfl ?_
        refine ev_iload rfl ?_
        refine ev_iload rfl ?_
        refine ev_iconst ?_
        refine ev_iadd (r := 12) (by decide) ?_
        refine ev_call (jcall_v (A := [(0, 12), (0, a4), (0, x6), (0, v27341), (2, (r1 : Int))]) (S' := []) (r := 7) rfl (g1.lt ad7) (g1.tg ad7) (Nat.le_of_ble_eq_true rfl)) (jOk_le (by decide) (s82_12 g1 q1 (by omega) (by omega) (by omega) (by omega) (by omega) (by omega))) (by decide) (by decide) (fun w27342 h27342 q27342 => ?_)
        obtain ⟨v27343, rfl, lv27343, uv27343, g27342, kk27342⟩ := q27342
        have k27342 := k1.tr kk27342 (by decide)
        show jEv _ _ _ _ _ _ _ (_, [(2, 7), (2, (r1 : Int)), (0, a2), (0, a3), (0, a4), (0, 11), (0, x6), (0, x7), (0, a4), j9], [(0, v27343)], _, _, _)
        refine ev_istore (L' := [(2, 7), (2, (r1 : Int)), (0, a2), (0, a3), (0, a4), (0, 11), (0, x6), (0, x7), (0, a4), (0, v27343)]) (Nat.le_of_ble_eq_true rfl) rfl ?_
        refine ev_aload_n rfl ?_
        refine ev_iload rfl ?_
        refine ev_aload_n rfl ?_
        refine g_getp (r := 7) (c := 14) g27342 ad7 (by decide) (by decide) rf7_11 ft5_11 ?_
        refine ev_iconst ?_
        refine ev_iload_n rfl ?_
        refine ev_imul (r := (4 * a2)) (by unfold w32; omega) ?_
        refine ev_iload rfl ?_
        refine ev_iadd (r := (4 * a2 + x7)) (by unfold w32; omega) ?_
        refine g_iald g27342 ad14 rt14 (by omega) (by omega) (fun v27344 ev27344 lv27344 uv27344 => ?_)
        refine ev_iload rfl ?_
        refine ev_call (jcall_v (A := [(0, v27343), (0, v27344), (0, x6)]) (S' := []) (r := r1) rfl (g27342.qlt q1) (g27342.qtg q1) (Nat.le_of_ble_eq_true rfl)) (jOk_le (by decide) (s23 g27342 q1 (by omega) (by omega) (by omega) (by omega) (by omega) (by omega))) (by decide) (by decide) (fun w27345 h27345 q27345 => ?_)
        obtain ⟨rfl, g27345, kk27345⟩ := q27345
        have k27345 := k27342.tr kk27345 (by decide)
        show jEv _ _ _ _ _ _ _ (_, [(2, 7), (2, (r1 : Int)), (0, a2), (0, a3), (0, a4), (0, 11), (0, x6), (0, x7), (0, a4), (0, v27343)], [], _, _, _)
        refine ev_iinc (w := (x7 + 1)) (L' := [(2, 7), (2, (r1 : Int)), (0, a2), (0, a3), (0, a4), (0, 11), (0, x6), (0, (x7 + 1)), (0, a4), (0, v27343)]) rfl (by unfold w32; omega) rfl ?_
        refine ev_goto f82_24 ?_
        exact ih _ _ _ _ _ g27345 k27345 (by omega) (by omega) (by omega) (by omega) (by omega) (by omega) (by omega) (by omega) (by omega) (by omega) (by omega) (by omega)
      · refine ev_iload rfl ?_
        refine ev_iload rfl ?_
        refine ev_iconst ?_
        refine ev_iadd (r := (x7 + 1)) (by unfold w32; omega) ?_
        refine ev_iconst ?_
        refine ev_aload_n rfl ?_
        refine g_getp (r := 7) (c := 11) g1 ad7 (by decide) (by decide) rf7_8 ft5_8 ?_
        refine ev_iload_n rfl ?_
        refine g_iald g1 ad11 rt11 (by omega) (by omega) (fun v27346 ev27346 lv27346 uv27346 => ?_)
        refine g_imulG (fun v27347 ev27347 lv27347 uv27347 => ?_)
        refine g_ishlG (fun v27348 ev27348 lv27348 uv27348 => ?_)
        refine g_iorG (fun v27349 ev27349 lv27349 uv27349 => ?_)
        refine ev_goto f82_73 ?_
        refine ev_istore (L' := [(2, 7), (2, (r1 : Int)), (0, a2), (0, a3), (0, a4), (0, 11), (0, x6), (0, x7), (0, v27349), j9]) (Nat.le_of_ble_eq_true rfl) rfl ?_
        refine ev_aload_n rfl ?_
        refine ev_aload_n rfl ?_
        refine ev_aload_n rfl ?_
        refine g_getp (r := 7) (c := 13) g1 ad7 (by decide) (by decide) rf7_10 ft5_10 ?_
        refine ev_iconst ?_
        refine ev_iload_n rfl ?_
        refine ev_imul (r := (4 * a2)) (by unfold w32; omega) ?_
        refine ev_iload rfl ?_
        refine ev_iadd (r := (4 * a2 + x7)) (by unfold w32; omega) ?_
        refine g_iald g1 ad13 rt13 (by omega) (by omega) (fun v27350 ev27350 lv27350 uv27350 => ?_)
        refine ev_iload rfl ?_
        refine ev_iload rfl ?_
        refine ev_iload rfl ?_
        refine ev_iconst ?_
        refine ev_iadd (r := 12) (by decide) ?_
        refine ev_call (jcall_v (A := [(0, 12), (0, v27349), (0, x6), (0, v27350), (2, (r1 : Int))]) (S' := []) (r := 7) rfl (g1.lt ad7) (g1.tg ad7) (Nat.le_of_ble_eq_true rfl)) (jOk_le (by decide) (s82_12 g1 q1 (by omega) (by omega) (by omega) (by omega) (by omega) (by omega))) (by decide) (by decide) (fun w27351 h27351 q27351 => ?_)
        obtain ⟨v27352, rfl, lv27352, uv27352, g27351, kk27351⟩ := q27351
        have k27351 := k1.tr kk27351 (by decide)
        show jEv _ _ _ _ _ _ _ (_, [(2, 7), (2, (r1 : Int)), (0, a2), (0, a3), (0, a4), (0, 11), (0, x6), (0, x7), (0, v27349), j9], [(0, v27352)], _, _, _)
        refine ev_istore (L' := [(2, 7), (2, (r1 : Int)), (0, a2), (0, a3), (0, a4), (0, 11), (0, x6), (0, x7), (0, v27349), (0, v27352)]) (Nat.le_of_ble_eq_true rfl) rfl ?_
        refine ev_aload_n rfl ?_
        refine ev_iload rfl ?_
        refine ev_aload_n rfl ?_
        refine g_getp (r := 7) (c := 14) g27351 ad7 (by decide) (by decide) rf7_11 ft5_11 ?_
        refine ev_iconst ?_
        refine ev_iload_n rfl ?_
        refine ev_imul (r := (4 * a2)) (by unfold w32; omega) ?_
        refine ev_iload rfl ?_
        refine ev_iadd (r := (4 * a2 + x7)) (by unfold w32; omega) ?_
        refine g_iald g27351 ad14 rt14 (by omega) (by omega) (fun v27353 ev27353 lv27353 uv27353 => ?_)
        refine ev_iload rfl ?_
        refine ev_call (jcall_v (A := [(0, v27352), (0, v27353), (0, x6)]) (S' := []) (r := r1) rfl (g27351.qlt q1) (g27351.qtg q1) (Nat.le_of_ble_eq_true rfl)) (jOk_le (by decide) (s23 g27351 q1 (by omega) (by omega) (by omega) (by omega) (by omega) (by omega))) (by decide) (by decide) (fun w27354 h27354 q27354 => ?_)
        obtain ⟨rfl, g27354, kk27354⟩ := q27354
        have k27354 := k27351.tr kk27354 (by decide)
        show jEv _ _ _ _ _ _ _ (_, [(2, 7), (2, (r1 : Int)), (0, a2), (0, a3), (0, a4), (0, 11), (0, x6), (0, x7), (0, v27349), (0, v27352)], [], _, _, _)
        refine ev_iinc (w := (x7 + 1)) (L' := [(2, 7), (2, (r1 : Int)), (0, a2), (0, a3), (0, a4), (0, 11), (0, x6), (0, (x7 + 1)), (0, v27349), (0, v27352)]) rfl (by unfold w32; omega) rfl ?_
        refine ev_goto f82_24 ?_
        exact ih _ _ _ _ _ g27354 k27354 (by omega) (by omega) (by omega) (by omega) (by omega) (by omega) (by omega) (by omega) (by omega) (by omega) (by omega) (by omega)
set_option maxHeartbeats 4000000 in
theorem s82_11 {G : GH} {h : JH} (g : Gd G h) {r1 : Nat} {m1 : Int} (q1 : IsQ G r1 m1) {a2 : Int} (la2 : 0 ≤ a2) (ua2 : a2 ≤ 199) {a3 : Int} (la3 : (-1) ≤ a3) (ua3 : a3 ≤ m1 - 1) {a4 : Int} (la4 : (-2147483648) ≤ a4) (ua4 : a4 ≤ 2147483647) : jOk 4 0 0 82 [(2, 7), (2, (r1 : Int)), (0, a2), (0, a3), (0, a4), (0, 11)] h (PM G [(1000000, 0)] h m1 0 (-1) (-1)) := by
  refine ⟨by decide, by rw [ml82]; exact Nat.le_of_ble_eq_true rfl, ?_⟩
  rw [ml82, pp82]
  show jEv _ none _ c82_0 0 0 _ (c82_0, [(2, 7), (2, (r1 : Int)), (0, a2), (0, a3), (0, a4), (0, 11), (9, 0), (9, 0), (9, 0), (9, 0)], [], h, 0, 0)
  have k0 := Kp.rf [(1000000, 0)] h
  have wr1 := g.qb q1
  have zr1 := q1.1
  refine ev_aload_n rfl ?_
  refine ev_aload_n rfl ?_
  refine g_getp (r := 7) (c := 10) g ad7 (by decide) (by decide) rf7_7 ft5_7 ?_
  refine ev_iload_n rfl ?_
  refine g_iald g ad10 rt10 (by omega) (by omega) (fun v27355 ev27355 lv27355 uv27355 => ?_)
  refine ev_aload_n rfl ?_
  refine g_getp (r := 7) (c := 11) g ad7 (by decide) (by decide) rf7_8 ft5_8 ?_
  refine ev_iload_n rfl ?_
  refine g_iald g ad11 rt11 (by omega) (by omega) (fun v27356 ev27356 lv27356 uv27356 => ?_)
  refine ev_iload_n rfl ?_
  refine ev_iload rfl ?_
  refine ev_call (jcall_v (A := [(0, a4), (0, a3), (0, v27356), (0, v27355)]) (S' := []) (r := r1) rfl (g.qlt q1) (g.qtg q1) (Nat.le_of_ble_eq_true rfl)) (jOk_le (by decide) (s22 g q1 (by omega) (by omega) (by omega) (by omega) (by omega) (by omega) (by omega) (by omega))) (by decide) (by decide) (fun w27357 h27357 q27357 => ?_)
  obtain ⟨v27358, rfl, lv27358, uv27358, g27357, kk27357⟩ := q27357
  have k27357 := k0.tr kk27357 (by decide)
  show jEv _ _ _ _ _ _ _ (_, [(2, 7), (2, (r1 : Int)), (0, a2), (0, a3), (0, a4), (0, 11), (9, 0), (9, 0), (9, 0), (9, 0)], [(0, v27358)], _, _, _)
  refine ev_istore (L' := [(2, 7), (2, (r1 : Int)), (0, a2), (0, a3), (0, a4), (0, 11), (0, v27358), (9, 0), (9, 0), (9, 0)]) (Nat.le_of_ble_eq_true rfl) rfl ?_
  refine ev_iconst ?_
  refine ev_istore (L' := [(2, 7), (2, (r1 : Int)), (0, a2), (0, a3), (0, a4), (0, 11), (0, v27358), (0, 0), (9, 0), (9, 0)]) (Nat.le_of_ble_eq_true rfl) rfl ?_
  exact (s82_11_l q1 la2 ua2 la3 ua3 la4 ua4 10) _ _ _ _ _ g27357 k27357 (by omega) (by omega) (by omega) (by omega) (by omega) (by omega) (by omega) (by omega) (by omega) (by omega) (by omega) (by omega)
/-! s82_10  -/
set_option maxHeartbeats 4000000 in
theorem s82_10_l {G : GH} {h : JH} {r1 : Nat} {m1 : Int} (q1 : IsQ G r1 m1) {a2 : Int} (la2 : 0 ≤ a2) (ua2 : a2 ≤ 199) {a3 : Int} (la3 : (-1) ≤ a3) (ua3 : a3 ≤ m1 - 1) {a4 : Int} (la4 : (-2147483648) ≤ a4) (ua4 : a4 ≤ 2147483647) : ∀ N : Nat, (∀ (h1 : JH) (x6 x7 : Int) (j8 j9 : AV), Gd G h1 → Kp [(1000000, 0)] h h1 → 0 ≤ a2 → a2 ≤ 199 → (-1) ≤ a3 → a3 ≤ 99 → (-2147483648) ≤ a4 → a4 ≤ 2147483647 → (-1) ≤ x6 → x6 ≤ 99 → x6 ≤ m1 - 1 → 0 ≤ x7 → x7 ≤ 4 → ((-x7) + 4) < N → jEv (jOk 4) none (fun _ => 0) c82_0 0 0 (PM G [(1000000, 0)] h m1 0 (-1) (-1)) (c82_24, [(2, 7), (2, (r1 : Int)), (0, a2), (0, a3), (0, a4), (0, 10), (0, x6), (0, x7), j8, j9], [], h1, 0, 0)) := by
  intro N
  induction N with
  | zero => exact fun h1 x6 x7 j8 j9 g1 k1 b0 b1 b2 b3 b4 b5 b6 b7 b8 b9 b10 hm => absurd hm (by omega)
  | succ N ih =>
    show _
    intro h1 x6 x7 j8 j9 g1 k1 b0 b1 b2 b3 b4 b5 b6 b7 b8 b9 b10 hm
    have wr1 := g1.qb q1
    have zr1 := q1.1
    refine ev_iload rfl ?_
    refine ev_aload_n rfl ?_
    refine g_getp (r := 7) (c := 12) g1 ad7 (by decide) (by decide) rf7_9 ft5_9 ?_
    refine ev_iload_n rfl ?_
    refine g_iald g1 ad12 rt12 (by omega) (by omega) (fun v27481 ev27481 lv27481 uv27481 => ?_)
    refine ev_icmpge f82_126 (fun c27482 => ?_) (fun c27482 => ?_)
    · refine ev_iload rfl ?_
      exact ev_ret rfl (by decide) (by decide) ⟨_, rfl, by omega, by omega, g1, k1⟩
    · refine ev_iload rfl ?_
      refine ev_bipush ?_
      refine ev_icmpgt f82_126 (fun c27483 => absurd c27483 (by omega)) (fun c27483 => ?_)
      refine ev_aload_n rfl ?_
      refine g_getp (r := 7) (c := 10) g1 ad7 (by decide) (by decide) rf7_7 ft5_7 ?_
      refine ev_iload_n rfl ?_
      refine g_iald g1 ad10 rt10 (by omega) (by omega) (fun v27484 ev27484 lv27484 uv27484 => ?_)
      refine ev_iconst ?_
      refine ev_icmpne f82_71 (fun c27485 => ?_) (fun c27485 => ?_)
      · refine ev_iload rfl ?_
        refine ev_istore (L' := [(2, 7), (2, (r1 : Int)), (0, a2), (0, a3), (0, a4), (0, 10), (0, x6), (0, x7), (0, a4), j9]) (Nat.le_of_ble_eq_true rfl) rfl ?_
        refine ev_aload_n rfl ?_
        refine ev_aload_n rfl ?_
        refine ev_aload_n rfl ?_
        refine g_getp (r := 7) (c := 13) g1 ad7 (by decide) (by decide) rf7_10 ft5_10 ?_
        refine ev_iconst ?_
        refine ev_iload_n rfl ?_
        refine ev_imul (r := (4 * a2)) (by unfold w32; omega) ?_
        refine ev_iload rfl ?_
        refine ev_iadd (r := (4 * a2 + x7)) (by unfold w32; omega) ?_
        refine g_iald g1 ad13 rt13 (by omega) (by omega) (fun v27486 ev27486 lv27486 uv27486 => ?_)
        refine ev_iload rfl ?_
        refine ev_iload rfl ?_
        refine ev_iload rfl ?_
        refine ev_iconst ?_
        refine ev_iadd (r := 11) (by decide) ?_
        refine ev_call (jcall_v (A := [(0, 11), (0, a4), (0, x6), (0, v27486), (2, (r1 : Int))]) (S' := []) (r := 7) rfl (g1.lt ad7) (g1.tg ad7) (Nat.le_of_ble_eq_true rfl)) (jOk_le (by decide) (s82_11 g1 q1 (by omega) (by omega) (by omega) (by omega) (by omega) (by omega))) (by decide) (by decide) (fun w27487 h27487 q27487 => ?_)
        obtain ⟨v27488, rfl, lv27488, uv27488, g27487, kk27487⟩ := q27487
        have k27487 := k1.tr kk27487 (by decide)
        show jEv _ _ _ _ _ _ _ (_, [(2, 7), (2, (r1 : Int)), (0, a2), (0, a3), (0, a4), (0, 10), (0, x6), (0, x7), (0, a4), j9], [(0, v27488)], _, _, _)
        refine ev_istore (L' := [(2, 7), (2, (r1 : Int)), (0, a2), (0, a3), (0, a4), (0, 10), (0, x6), (0, x7), (0, a4), (0, v27488)]) (Nat.le_of_ble_eq_true rfl) rfl ?_
        refine ev_aload_n rfl ?_
        refine ev_iload rfl ?_
        refine ev_aload_n rfl ?_
        refine g_getp (r := 7) (c := 14) g27487 ad7 (by decide) (by decide) rf7_11 ft5_11 ?_
        refine ev_iconst ?_
        refine ev_iload_n rfl ?_
        refine ev_imul (r := (4 * a2)) (by unfold w32; omega) ?_
        refine ev_iload rfl ?_
        refine ev_iadd (r := (4 * a2 + x7)) (by unfold w32; omega) ?_
        refine g_iald g27487 ad14 rt14 (by omega) (by omega) (fun v27489 ev27489 lv27489 uv27489 => ?_)
        refine ev_iload rfl ?_
        refine ev_call (jcall_v (A := [(0, v27488), (0, v27489), (0, x6)]) (S' := []) (r := r1) rfl (g27487.qlt q1) (g27487.qtg q1) (Nat.le_of_ble_eq_true rfl)) (jOk_le (by decide) (s23 g27487 q1 (by omega) (by omega) (by omega) (by omega) (by omega) (by omega))) (by decide) (by decide) (fun w27490 h27490 q27490 => ?_)
        obtain ⟨rfl, g27490, kk27490⟩ := q27490
        have k27490 := k27487.tr kk27490 (by decide)
        show jEv _ _ _ _ _ _ _ (_, [(2, 7), (2, (r1 : Int)), (0, a2), (0, a3), (0, a4), (0, 10), (0, x6), (0, x7), (0, a4), (0, v27488)], [], _, _, _)
        refine ev_iinc (w := (x7 + 1)) (L' := [(2, 7), (2, (r1 : Int)), (0, a2), (0, a3), (0, a4), (0, 10), (0, x6), (0, (x7 + 1)), (0, a4), (0, v27488)]) rfl (by unfold w32; omega) rfl ?_
        refine ev_goto f82_24 ?_
        exact ih _ _ _ _ _ g27490 k27490 (by omega) (by omega) (by omega) (by omega) (by omega) (by omega) (by omega) (by omega) (by omega) (by omega) (by omega) (by omega)
      · refine ev_iload rfl ?_
        refine ev_iload rfl ?_
        refine ev_iconst ?_
        refine ev_iadd (r := (x7 + 1)) (by unfold w32; omega) ?_
        refine ev_iconst ?_
        refine ev_aload_n rfl ?_
        refine g_getp (r := 7) (c := 11) g1 ad7 (by decide) (by decide) rf7_8 ft5_8 ?_
        refine ev_iload_n rfl ?_
        refine g_iald g1 ad11 rt11 (by omega) (by omega) (fun v27491 ev27491 lv27491 uv27491 => ?_)
        refine g_imulG (fun v27492 ev27492 lv27492 uv27492 => ?_)
        refine g_ishlG (fun v27493 ev27493 lv27493 uv27493 => ?_)
        refine g_iorG (fun v27494 ev27494 lv27494 uv27494 => ?_)
        refine ev_goto f82_73 ?_
        refine ev_istore (L' := [(2, 7), (2, (r1 : Int)), (0, a2), (0, a3), (0, a4), (0, 10), (0, x6), (0, x7), (0, v27494), j9]) (Nat.le_of_ble_eq_true rfl) rfl ?_
        refine ev_aload_n rfl ?_
        refine ev_aload_n rfl ?_
        refine ev_aload_n rfl ?_
        refine g_getp (r := 7) (c := 13) g1 ad7 (by decide) (by decide) rf7_10 ft5_10 ?_
        refine ev_iconst ?_
        refine ev_iload_n rfl ?_
        refine ev_imul (r := (4 * a2)) (by unfold w32; omega) ?_
        refine ev_iload rfl ?_
        refine ev_iadd (r := (4 * a2 + x7)) (by unfold w32; omega) ?_
        refine g_iald g1 ad13 rt13 (by omega) (by omega) (fun v27495 ev27495 lv27495 uv27495 => ?_)
        refine ev_iload rfl ?_
        refine ev_iload rfl ?_
        refine ev_iload rfl ?_
        refine ev_iconst ?_
        refine ev_iadd (r := 11) (by decide) ?_
        refine ev_call (jcall_v (A := [(0, 11), (0, v27494), (0, x6), (0, v27495), (2, (r1 : Int))]) (S' := []) (r := 7) rfl (g1.lt ad7) (g1.tg ad7) (Nat.le_of_ble_eq_true rfl)) (jOk_le (by decide) (s82_11 g1 q1 (by omega) (by omega) (by omega) (by omega) (by omega) (by omega))) (by decide) (by decide) (fun w27496 h27496 q27496 => ?_)
        obtain ⟨v27497, rfl, lv27497, uv27497, g27496, kk27496⟩ := q27496
        have k27496 := k1.tr kk27496 (by decide)
        show jEv _ _ _ _ _ _ _ (_, [(2, 7), (2, (r1 : Int)), (0, a2), (0, a3), (0, a4), (0, 10), (0, x6), (0, x7), (0, v27494), j9], [(0, v27497)], _, _, _)
        refine ev_istore (L' := [(2, 7), (2, (r1 : Int)), (0, a2), (0, a3), (0, a4), (0, 10), (0, x6), (0, x7), (0, v27494), (0, v27497)]) (Nat.le_of_ble_eq_true rfl) rfl ?_
        refine ev_aload_n rfl ?_
        refine ev_iload rfl ?_
        refine ev_aload_n rfl ?_
        refine g_getp (r := 7) (c := 14) g27496 ad7 (by decide) (by decide) rf7_11 ft5_11 ?_
        refine ev_iconst ?_
        refine ev_iload_n rfl ?_
        refine ev_imul (r := (4 * a2)) (by unfold w32; omega) ?_
        refine ev_iload rfl ?_
        refine ev_iadd (r := (4 * a2 + x7)) (by unfold w32; omega) ?_
        refine g_iald g27496 ad14 rt14 (by omega) (by omega) (fun v27498 ev27498 lv27498 uv27498 => ?_)
        refine ev_iload rfl ?_
        refine ev_call (jcall_v (A := [(0, v27497), (0, v27498), (0, x6)]) (S' := []) (r := r1) rfl (g27496.qlt q1) (g27496.qtg q1) (Nat.le_of_ble_eq_true rfl)) (jOk_le (by decide) (s23 g27496 q1 (by omega) (by omega) (by omega) (by omega) (by omega) (by omega))) (by decide) (by decide) (fun w27499 h27499 q27499 => ?_)
        obtain ⟨rfl, g27499, kk27499⟩ := q27499
        have k27499 := k27496.tr kk27499 (by decide)
        show jEv _ _ _ _ _ _ _ (_, [(2, 7), (2, (r1 : Int)), (0, a2), (0, a3), (0, a4), (0, 10), (0, x6), (0, x7), (0, v27494), (0, v27497)], [], _, _, _)
        refine ev_iinc (w := (x7 + 1)) (L' := [(2, 7), (2, (r1 : Int)), (0, a2), (0, a3), (0, a4), (0, 10), (0, x6), (0, (x7 + 1)), (0, v27494), (0, v27497)]) rfl (by unfold w32; omega) rfl ?_
        refine ev_goto f82_24 ?_
        exact ih _ _ _ _ _ g27499 k27499 (by omega) (by omega) (by omega) (by omega) (by omega) (by omega) (by omega) (by omega) (by omega) (by omega) (by omega) (by omega)
set_option maxHeartbeats 4000000 in
theorem s82_10 {G : GH} {h : JH} (g : Gd G h) {r1 : Nat} {m1 : Int} (q1 : IsQ G r1 m1) {a2 : Int} (la2 : 0 ≤ a2) (ua2 : a2 ≤ 199) {a3 : Int} (la3 : (-1) ≤ a3) (ua3 : a3 ≤ m1 - 1) {a4 : Int} (la4 : (-2147483648) ≤ a4) (ua4 : a4 ≤ 2147483647) : jOk 5 0 0 82 [(2, 7), (2, (r1 : Int)), (0, a2), (0, a3), (0, a4), (0, 10)] h (PM G [(1000000, 0)] h m1 0 (-1) (-1)) := by
  refine ⟨by decide, by rw [ml82]; exact Nat.le_of_ble_eq_true rfl, ?_⟩
  rw [ml82, pp82]
  show jEv _ none _ c82_0 0 0 _ (c82_0, [(2, 7), (2, (r1 : Int)), (0, a2), (0, a3), (0, a4), (0, 10), (9, 0), (9, 0), (9, 0), (9, 0)], [], h, 0, 0)
  have k0 := Kp.rf [(1000000, 0)] h
  have wr1 := g.qb q1
  have zr1 := q1.1
  refine ev_aload_n rfl ?_
  refine ev_aload_n rfl ?_
  refine g_getp (r := 7) (c := 10) g ad7 (by decide) (by decide) rf7_7 ft5_7 ?_
  refine ev_iload_n rfl ?_
  refine g_iald g ad10 rt10 (by omega) (by omega) (fun v27500 ev27500 lv27500 uv27500 => ?_)
  refine ev_aload_n rfl ?_
  refine g_getp (r := 7) (c := 11) g ad7 (by decide) (by decide) rf7_8 ft5_8 ?_
  refine ev_iload_n rfl ?_
  refine g_iald g ad11 rt11 (by omega) (by omega) (fun v27501 ev27501 lv27501 uv27501 => ?_)
  refine ev_iload_n rfl ?_
  refine ev_iload rfl ?_
  refine ev_call (jcall_v (A := [(0, a4), (0, a3), (0, v27501), (0, v27500)]) (S' := []) (r := r1) rfl (g.qlt q1) (g.qtg q1) (Nat.le_of_ble_eq_true rfl)) (jOk_le (by decide) (s22 g q1 (by omega) (by omega) (by omega) (by omega) (by omega) (by omega) (by omega) (by omega))) (by decide) (by decide) (fun w27502 h27502 q27502 => ?_)
  obtain ⟨v27503, rfl, lv27503, uv27503, g27502, kk27502⟩ := q27502
  have k27502 := k0.tr kk27502 (by decide)
  show jEv _ _ _ _ _ _ _ (_, [(2, 7), (2, (r1 : Int)), (0, a2), (0, a3), (0, a4), (0, 10), (9, 0), (9, 0), (9, 0), (9, 0)], [(0, v27503)], _, _, _)
  refine ev_istore (L' := [(2, 7), (2, (r1 : Int)), (0, a2), (0, a3), (0, a4), (0, 10), (0, v27503), (9, 0), (9, 0), (9, 0)]) (Nat.le_of_ble_eq_true rfl) rfl ?_
  refine ev_iconst ?_
  refine ev_istore (L' := [(2, 7), (2, (r1 : Int)), (0, a2), (0, a3), (0, a4), (0, 10), (0, v27503), (0, 0), (9, 0), (9, 0)]) (Nat.le_of_ble_eq_true rfl) rfl ?_
  exact (s82_10_l q1 la2 ua2 la3 ua3 la4 ua4 10) _ _ _ _ _ g27502 k27502 (by omega) (by omega) (by omega) (by omega) (by omega) (by omega) (by omega) (by omega) (by omega) (by omega) (by omega) (by omega)
/-! s82_9  -/
set_option maxHeartbeats 4000000 in
theorem s82_9_l {G : GH} {h : JH} {r1 : Nat} {m1 : Int} (q1 : IsQ G r1 m1) {a2 : Int} (la2 : 0 ≤ a2) (ua2 : a2 ≤ 199) {a3 : Int} (la3 : (-1) ≤ a3) (ua3 : a3 ≤ m1 - 1) {a4 : Int} (la4 : (-2147483648) ≤ a4) (ua4 : a4 ≤ 2147483647) : ∀ N : Nat, (∀ (h1 : JH) (x6 x7 : Int) (j8 j9 : AV), Gd G h1 → Kp [(1000000, 0)] h h1 → 0 ≤ a2 → a2 ≤ 199 → (-1) ≤ a3 → a3 ≤ 99 → (-2147483648) ≤ a4 → a4 ≤ 2147483647 → (-1) ≤ x6 → x6 ≤ 99 → x6 ≤ m1 - 1 → 0 ≤ x7 → x7 ≤ 4 → ((-x7) + 4) < N → jEv (jOk 5) none (fun _ => 0) c82_0 0 0 (PM G [(1000000, 0)] h m1 0 (-1) (-1)) (c82_24, [(2, 7), (2, (r1 : Int)), (0, a2), (0, a3), (0, a4), (0, 9), (0, x6), (0, x7), j8, j9], [], h1, 0, 0)) := by
  intro N
  induction N with
  | zero => exact fun h1 x6 x7 j8 j9 g1 k1 b0 b1 b2 b3 b4 b5 b6 b7 b8 b9 b10 hm => absurd hm (by omega)
  | succ N ih =>
    show _
    intro h1 x6 x7 j8 j9 g1 k1 b0 b1 b2 b3 b4 b5 b6 b7 b8 b9 b10 hm
    have wr1 := g1.qb q1
    have zr1 := q1.1
    refine ev_iload rfl ?_
    refine ev_aload_n rfl ?_
    refine g_getp (r := 7) (c := 12) g1 ad7 (by decide) (by decide) rf7_9 ft5_9 ?_
    refine ev_iload_n rfl ?_
    refine g_iald g1 ad12 rt12 (by omega) (by omega) (fun v27626 ev27626 lv27626 uv27626 => ?_)
    refine ev_icmpge f82_126 (fun c27627 => ?_) (fun c27627 => ?_)
    · refine ev_iload rfl ?_
      exact ev_ret rfl (by decide) (by decide) ⟨_, rfl, by omega, by omega, g1, k1⟩
    · refine ev_iload rfl ?_
      refine ev_bipush ?_
      refine ev_icmpgt f82_126 (fun c27628 => absurd c27628 (by omega)) (fun c27628 => ?_)
      refine ev_aload_n rfl ?_
      refine g_getp (r := 7) (c := 10) g1 ad7 (by decide) (by decide) rf7_7 ft5_7 ?_
      refine ev_iload_n rfl ?_
      refine g_iald g1 ad10 rt10 (by omega) (by omega) (fun v27629 ev27629 lv27629 uv27629 => ?_)
      refine ev_iconst ?_
      refine ev_icmpne f82_71 (fun c27630 => ?_) (fun c27630 => ?_)
      · refine ev_iload rfl ?_
        refine ev_istore (L' := [(2, 7), (2, (r1 : Int)), (0, a2), (0, a3), (0, a4), (0, 9), (0, x6), (0, x7), (0, a4), j9]) (Nat.le_of_ble_eq_true rfl) rfl ?_
        refine ev_aload_n rfl ?_
        refine ev_aload_n rfl ?_
        refine ev_aload_n rfl ?_
        refine g_getp (r := 7) (c := 13) g1 ad7 (by decide) (by decide) rf7_10 ft5_10 ?_
        refine ev_iconst ?_
        refine ev_iload_n rfl ?_
        refine ev_imul (r := (4 * a2)) (by unfold w32; omega) ?_
        refine ev_iload rfl ?_
        refine ev_iadd (r := (4 * a2 + x7)) (by unfold w32; omega) ?_
        refine g_iald g1 ad13 rt13 (by omega) (by omega) (fun v27631 ev27631 lv27631 uv27631 => ?_)
        refine ev_iload rfl ?_
        refine ev_iload rfl ?_
        refine ev_iload rfl ?_
        refine ev_iconst ?_
        refine ev_iadd (r := 10) (by decide) ?_
        refine ev_call (jcall_v (A := [(0, 10), (0, a4), (0, x6), (0, v27631), (2, (r1 : Int))]) (S' := []) (r := 7) rfl (g1.lt ad7) (g1.tg ad7) (Nat.le_of_ble_eq_true rfl)) (jOk_le (by decide) (s82_10 g1 q1 (by omega) (by omega) (by omega) (by omega) (by omega) (by omega))) (by decide) (by decide) (fun w27632 h27632 q27632 => ?_)
        obtain ⟨v27633, rfl, lv27633, uv27633, g27632, kk27632⟩ := q27632
        have k27632 := k1.tr kk27632 (by decide)
        show jEv _ _ _ _ _ _ _ (_, [(2, 7), (2, (r1 : Int)), (0, a2), (0, a3), (0, a4), (0, 9), (0, x6), (0, x7), (0, a4), j9], [(0, v27633)], _, _, _)
        refine ev_istore (L' := [(2, 7), (2, (r1 : Int)), (0, a2), (0, a3), (0, a4), (0, 9), (0, x6), (0, x7), (0, a4), (0, v27633)]) (Nat.le_of_ble_eq_true rfl) rfl ?_
        refine ev_aload_n rfl ?_
        refine ev_iload rfl ?_
        refine ev_aload_n rfl ?_
        refine g_getp (r := 7) (c := 14) g27632 ad7 (by decide) (by decide) rf7_11 ft5_11 ?_
        refine ev_iconst ?_
        refine ev_iload_n rfl ?_
        refine ev_imul (r := (4 * a2)) (by unfold w32; omega) ?_
        refine ev_iload rfl ?_
        refine ev_iadd (r := (4 * a2 + x7)) (by unfold w32; omega) ?_
        refine g_iald g27632 ad14 rt14 (by omega) (by omega) (fun v27634 ev27634 lv27634 uv27634 => ?_)
        refine ev_iload rfl ?_
        refine ev_call (jcall_v (A := [(0, v27633), (0, v27634), (0, x6)]) (S' := []) (r := r1) rfl (g27632.qlt q1) (g27632.qtg q1) (Nat.le_of_ble_eq_true rfl)) (jOk_le (by decide) (s23 g27632 q1 (by omega) (by omega) (by omega) (by omega) (by omega) (by omega))) (by decide) (by decide) (fun w27635 h27635 q27635 => ?_)
        obtain ⟨rfl, g27635, kk27635⟩ := q27635
        have k27635 := k27632.tr kk27635 (by decide)
        show jEv _ _ _ _ _ _ _ (_, [(2, 7), (2, (r1 : Int)), (0, a2), (0, a3), (0, a4), (0, 9), (0, x6), (0, x7), (0, a4), (0, v27633)], [], _, _, _)
        refine ev_iinc (w := (x7 + 1)) (L' := [(2, 7), (2, (r1 : Int)), (0, a2), (0, a3), (0, a4), (0, 9), (0, x6), (0, (x7 + 1)), (0, a4), (0, v27633)]) rfl (by unfold w32; omega) rfl ?_
        refine ev_goto f82_24 ?_
        exact ih _ _ _ _ _ g27635 k27635 (by omega) (by omega) (by omega) (by omega) (by omega) (by omega) (by omega) (by omega) (by omega) (by omega) (by omega) (by omega)
      · refine ev_iload rfl ?_
        refine ev_iload rfl ?_
        refine ev_iconst ?_
        refine ev_iadd (r := (x7 + 1)) (by unfold w32; omega) ?_
        refine ev_iconst ?_
        refine ev_aload_n rfl ?_
        refine g_getp (r := 7) (c := 11) g1 ad7 (by decide) (by decide) rf7_8 ft5_8 ?_
        refine ev_iload_n rfl ?_
        refine g_iald g1 ad11 rt11 (by omega) (by omega) (fun v27636 ev27636 lv27636 uv27636 => ?_)
        refine g_imulG (fun v27637 ev27637 lv27637 uv27637 => ?_)
        refine g_ishlG (fun v27638 ev27638 lv27638 uv27638 => ?_)
        refine g_iorG (fun v27639 ev27639 lv27639 uv27639 => ?_)
        refine ev_goto f82_73 ?_
        refine ev_istore (L' := [(2, 7), (2, (r1 : Int)), (0, a2), (0, a3), (0, a4), (0, 9), (0, x6), (0, x7), (0, v27639), j9]) (Nat.le_of_ble_eq_true rfl) rfl ?_
        refine ev_aload_n rfl ?_
        refine ev_aload_n rfl ?_
        refine ev_aload_n rfl ?_
        refine g_getp (r := 7) (c := 13) g1 ad7 (by decide) (by decide) rf7_10 ft5_10 ?_
        refine ev_iconst ?_
        refine ev_iload_n rfl ?_
        refine ev_imul (r := (4 * a2)) (by unfold w32; omega) ?_
        refine ev_iload rfl ?_
        refine ev_iadd (r := (4 * a2 + x7)) (by unfold w32; omega) ?_
        refine g_iald g1 ad13 rt13 (by omega) (by omega) (fun v27640 ev27640 lv27640 uv27640 => ?_)
        refine ev_iload rfl ?_
        refine ev_iload rfl ?_
        refine ev_iload rfl ?_
        refine ev_iconst ?_
        refine ev_iadd (r := 10) (by decide) ?_
        refine ev_call (jcall_v (A := [(0, 10), (0, v27639), (0, x6), (0, v27640), (2, (r1 : Int))]) (S' := []) (r := 7) rfl (g1.lt ad7) (g1.tg ad7) (Nat.le_of_ble_eq_true rfl)) (jOk_le (by decide) (s82_10 g1 q1 (by omega) (by omega) (by omega) (by omega) (by omega) (by omega))) (by decide) (by decide) (fun w27641 h27641 q27641 => ?_)
        obtain ⟨v27642, rfl, lv27642, uv27642, g27641, kk27641⟩ := q27641
        have k27641 := k1.tr kk27641 (by decide)
        show jEv _ _ _ _ _ _ _ (_, [(2, 7), (2, (r1 : Int)), (0, a2), (0, a3), (0, a4), (0, 9), (0, x6), (0, x7), (0, v27639), j9], [(0, v27642)], _, _, _)
        refine ev_istore (L' := [(2, 7), (2, (r1 : Int)), (0, a2), (0, a3), (0, a4), (0, 9), (0, x6), (0, x7), (0, v27639), (0, v27642)]) (Nat.le_of_ble_eq_true rfl) rfl ?_
        refine ev_aload_n rfl ?_
        refine ev_iload rfl ?_
        refine ev_aload_n rfl ?_
        refine g_getp (r := 7) (c := 14) g27641 ad7 (by decide) (by decide) rf7_11 ft5_11 ?_
        refine ev_iconst ?_
        refine ev_iload_n rfl ?_
        refine ev_imul (r := (4 * a2)) (by unfold w32; omega) ?_
        refine ev_iload rfl ?_
        refine ev_iadd (r := (4 * a2 + x7)) (by unfold w32; omega) ?_
        refine g_iald g27641 ad14 rt14 (by omega) (by omega) (fun v27643 ev27643 lv27643 uv27643 => ?_)
        refine ev_iload rfl ?_
        refine ev_call (jcall_v (A := [(0, v27642), (0, v27643), (0, x6)]) (S' := []) (r := r1) rfl (g27641.qlt q1) (g27641.qtg q1) (Nat.le_of_ble_eq_true rfl)) (jOk_le (by decide) (s23 g27641 q1 (by omega) (by omega) (by omega) (by omega) (by omega) (by omega))) (by decide) (by decide) (fun w27644 h27644 q27644 => ?_)
        obtain ⟨rfl, g27644, kk27644⟩ := q27644
        have k27644 := k27641.tr kk27644 (by decide)
        show jEv _ _ _ _ _ _ _ (_, [(2, 7), (2, (r1 : Int)), (0, a2), (0, a3), (0, a4), (0, 9), (0, x6), (0, x7), (0, v27639), (0, v27642)], [], _, _, _)
        refine ev_iinc (w := (x7 + 1)) (L' := [(2, 7), (2, (r1 : Int)), (0, a2), (0, a3), (0, a4), (0, 9), (0, x6), (0, (x7 + 1)), (0, v27639), (0, v27642)]) rfl (by unfold w32; omega) rfl ?_
        refine ev_goto f82_24 ?_
        exact ih _ _ _ _ _ g27644 k27644 (by omega) (by omega) (by omega) (by omega) (by omega) (by omega) (by omega) (by omega) (by omega) (by omega) (by omega) (by omega)
set_option maxHeartbeats 4000000 in
theorem s82_9 {G : GH} {h : JH} (g : Gd G h) {r1 : Nat} {m1 : Int} (q1 : IsQ G r1 m1) {a2 : Int} (la2 : 0 ≤ a2) (ua2 : a2 ≤ 199) {a3 : Int} (la3 : (-1) ≤ a3) (ua3 : a3 ≤ m1 - 1) {a4 : Int} (la4 : (-2147483648) ≤ a4) (ua4 : a4 ≤ 2147483647) : jOk 6 0 0 82 [(2, 7), (2, (r1 : Int)), (0, a2), (0, a3), (0, a4), (0, 9)] h (PM G [(1000000, 0)] h m1 0 (-1) (-1)) := by
  refine ⟨by decide, by rw [ml82]; exact Nat.le_of_ble_eq_true rfl, ?_⟩
  rw [ml82, pp82]
  show jEv _ none _ c82_0 0 0 _ (c82_0, [(2, 7), (2, (r1 : Int)), (0, a2), (0, a3), (0, a4), (0, 9), (9, 0), (9, 0), (9, 0), (9, 0)], [], h, 0, 0)
  have k0 := Kp.rf [(1000000, 0)] h
  have wr1 := g.qb q1
  have zr1 := q1.1
  refine ev_aload_n rfl ?_
  refine ev_aload_n rfl ?_
  refine g_getp (r := 7) (c := 10) g ad7 (by decide) (by decide) rf7_7 ft5_7 ?_
  refine ev_iload_n rfl ?_
  refine g_iald g ad10 rt10 (by omega) (by omega) (fun v27645 ev27645 lv27645 uv27645 => ?_)
  refine ev_aload_n rfl ?_
  refine g_getp (r := 7) (c := 11) g ad7 (by decide) (by decide) rf7_8 ft5_8 ?_
  refine ev_iload_n rfl ?_
  refine g_iald g ad11 rt11 (by omega) (by omega) (fun v27646 ev27646 lv27646 uv27646 => ?_)
  refine ev_iload_n rfl ?_
  refine ev_iload rfl ?_
  refine ev_call (jcall_v (A := [(0, a4), (0, a3), (0, v27646), (0, v27645)]) (S' := []) (r := r1) rfl (g.qlt q1) (g.qtg q1) (Nat.le_of_ble_eq_true rfl)) (jOk_le (by decide) (s22 g q1 (by omega) (by omega) (by omega) (by omega) (by omega) (by omega) (by omega) (by omega))) (by decide) (by decide) (fun w27647 h27647 q27647 => ?_)
  obtain ⟨v27648, rfl, lv27648, uv27648, g27647, kk27647⟩ := q27647
  have k27647 := k0.tr kk27647 (by decide)
  show jEv _ _ _ _ _ _ _ (_, [(2, 7), (2, (r1 : Int)), (0, a2), (0, a3), (0, a4), (0, 9), (9, 0), (9, 0), (9, 0), (9, 0)], [(0, v27648)], _, _, _)
  refine ev_istore (L' := [(2, 7), (2, (r1 : Int)), (0, a2), (0, a3), (0, a4), (0, 9), (0, v27648), (9, 0), (9, 0), (9, 0)]) (Nat.le_of_ble_eq_true rfl) rfl ?_
  refine ev_iconst ?_
  refine ev_istore (L' := [(2, 7), (2, (r1 : Int)), (0, a2), (0, a3), (0, a4), (0, 9), (0, v27648), (0, 0), (9, 0), (9, 0)]) (Nat.le_of_ble_eq_true rfl) rfl ?_
  exact (s82_9_l q1 la2 ua2 la3 ua3 la4 ua4 10) _ _ _ _ _ g27647 k27647 (by omega) (by omega) (by omega) (by omega) (by omega) (by omega) (by omega) (by omega) (by omega) (by omega) (by omega) (by omega)
/-! s82_8  -/
set_option maxHeartbeats 4000000 in
theorem s82_8_l {G : GH} {h : JH} {r1 : Nat} {m1 : Int} (q1 : IsQ G r1 m1) {a2 : Int} (la2 : 0 ≤ a2) (ua2 : a2 ≤ 199) {a3 : Int} (la3 : (-1) ≤ a3) (ua3 : a3 ≤ m1 - 1) {a4 : Int} (la4 : (-2147483648) ≤ a4) (ua4 : a4 ≤ 2147483647) : ∀ N : Nat, (∀ (h1 : JH) (x6 x7 : Int) (j8 j9 : AV), Gd G h1 → Kp [(1000000, 0)] h h1 → 0 ≤ a2 → a2 ≤ 199 → (-1) ≤ a3 → a3 ≤ 99 → (-2147483648) ≤ a4 → a4 ≤ 2147483647 → (-1) ≤ x6 → x6 ≤ 99 → x6 ≤ m1 - 1 → 0 ≤ x7 → x7 ≤ 4 → ((-x7) + 4) < N → jEv (jOk 6) none (fun _ => 0) c82_0 0 0 (PM G [(1000000, 0)] h m1 0 (-1) (-1)) (c82_24, [(2, 7), (2, (r1 : Int)), (0, a2), (0, a3), (0, a4), (0, 8), (0, x6), (0, x7), j8, j9], [], h1, 0, 0)) := by
  intro N
  induction N with
  | zero => exact fun h1 x6 x7 j8 j9 g1 k1 b0 b1 b2 b3 b4 b5 b6 b7 b8 b9 b10 hm => absurd hm (by omega)
  | succ N ih =>
    show _
    intro h1 x6 x7 j8 j9 g1 k1 b0 b1 b2 b3 b4 b5 b6 b7 b8 b9 b10 hm
    have wr1 := g1.qb q1
    have zr1 := q1.1
    refine ev_iload rfl ?_
    refine ev_aload_n rfl ?_
    refine g_getp (r := 7) (c := 12) g1 ad7 (by decide) (by decide) rf7_9 ft5_9 ?_
    refine ev_iload_n rfl ?_
    refine g_iald g1 ad12 rt12 (by omega) (by omega) (fun v27771 ev27771 lv27771 uv27771 => ?_)
    refine ev_icmpge f82_126 (fun c27772 => ?_) (fun c27772 => ?_)
    · refine ev_iload rfl ?_
      exact ev_ret rfl (by decide) (by decide) ⟨_, rfl, by omega, by omega, g1, k1⟩
    · refine ev_iload rfl ?_
      refine ev_bipush ?_
      refine ev_icmpgt f82_126 (fun c27773 => absurd c27773 (by omega)) (fun c27773 => ?_)
      refine ev_aload_n rfl ?_
      refine g_getp (r := 7) (c := 10) g1 ad7 (by decide) (by decide) rf7_7 ft5_7 ?_
      refine ev_iload_n rfl ?_
      refine g_iald g1 ad10 rt10 (by omega) (by omega) (fun v27774 ev27774 lv27774 uv27774 => ?_)
      refine ev_iconst ?_
      refine ev_icmpne f82_71 (fun c27775 => ?_) (fun c27775 => ?_)
      · refine ev_iload rfl ?_
        refine ev_istore (L' := [(2, 7), (2, (r1 : Int)), (0, a2), (0, a3), (0, a4), (0, 8), (0, x6), (0, x7), (0, a4), j9]) (Nat.le_of_ble_eq_true rfl) rfl ?_
        refine ev_aload_n rfl ?_
        refine ev_aload_n rfl ?_
        refine ev_aload_n rfl ?_
        refine g_getp (r := 7) (c := 13) g1 ad7 (by decide) (by decide) rf7_10 ft5_10 ?_
        refine ev_iconst ?_
        refine ev_iload_n rfl ?_
        refine ev_imul (r := (4 * a2)) (by unfold w32; omega) ?_
        refine ev_iload rfl ?_
        refine ev_iadd (r := (4 * a2 + x7)) (by unfold w32; omega) ?_
        refine g_iald g1 ad13 rt13 (by omega) (by omega) (fun v27776 ev27776 lv27776 uv27776 => ?_)
        refine ev_iload rfl ?_
        refine ev_iload rfl ?_
        refine ev_iload rfl ?_
        refine ev_iconst ?_
        refine ev_iadd (r := 9) (by decide) ?_
        refine ev_call (jcall_v (A := [(0, 9), (0, a4), (0, x6), (0, v27776), (2, (r1 : Int))]) (S' := []) (r := 7) rfl (g1.lt ad7) (g1.tg ad7) (Nat.le_of_ble_eq_true rfl)) (jOk_le (by decide) (s82_9 g1 q1 (by omega) (by omega) (by omega) (by omega) (by omega) (by omega))) (by decide) (by decide) (fun w27777 h27777 q27777 => ?_)
        obtain ⟨v27778, rfl, lv27778, uv27778, g27777, kk27777⟩ := q27777
        have k27777 := k1.tr kk27777 (by decide)
        show jEv _ _ _ _ _ _ _ (_, [(2, 7), (2, (r1 : Int)), (0, a2), (0, a3), (0, a4), (0, 8), (0, x6), (0, x7), (0, a4), j9], [(0, v27778)], _, _, _)
        refine ev_istore (L' := [(2, 7), (2, (r1 : Int)), (0, a2), (0, a3), (0, a4), (0, 8), (0, x6), (0, x7), (0, a4), (0, v27778)]) (Nat.le_of_ble_eq_true rfl) rfl ?_
        refine ev_aload_n rfl ?_
        refine ev_iload rfl ?_
        refine ev_aload_n rfl ?_
        refine g_getp (r := 7) (c := 14) g27777 ad7 (by decide) (by decide) rf7_11 ft5_11 ?_
        refine ev_iconst ?_
        refine ev_iload_n rfl ?_
        refine ev_imul (r := (4 * a2)) (by unfold w32; omega) ?_
        refine ev_iload rfl ?_
        refine ev_iadd (r := (4 * a2 + x7)) (by unfold w32; omega) ?_
        refine g_iald g27777 ad14 rt14 (by omega) (by omega) (fun v27779 ev27779 lv27779 uv27779 => ?_)
        refine ev_iload rfl ?_
        refine ev_call (jcall_v (A := [(0, v27778), (0, v27779), (0, x6)]) (S' := []) (r := r1) rfl (g27777.qlt q1) (g27777.qtg q1) (Nat.le_of_ble_eq_true rfl)) (jOk_le (by decide) (s23 g27777 q1 (by omega) (by omega) (by omega) (by omega) (by omega) (by omega))) (by decide) (by decide) (fun w27780 h27780 q27780 => ?_)
        obtain ⟨rfl, g27780, kk27780⟩ := q27780
        have k27780 := k27777.tr kk27780 (by decide)
        show jEv _ _ _ _ _ _ _ (_, [(2, 7), (2, (r1 : Int)), (0, a2), (0, a3), (0, a4), (0, 8), (0, x6), (0, x7), (0, a4), (0, v27778)], [], _, _, _)
        refine ev_iinc (w := (x7 + 1)) (L' := [(2, 7), (2, (r1 : Int)), (0, a2), (0, a3), (0, a4), (0, 8), (0, x6), (0, (x7 + 1)), (0, a4), (0, v27778)]) rfl (by unfold w32; omega) rfl ?_
        refine ev_goto f82_24 ?_
        exact ih _ _ _ _ _ g27780 k27780 (by omega) (by omega) (by omega) (by omega) (by omega) (by omega) (by omega) (by omega) (by omega) (by omega) (by omega) (by omega)
      · refine ev_iload rfl ?_
        refine ev_iload rfl ?_
        refine ev_iconst ?_
        refine ev_iadd (r := (x7 + 1)) (by unfold w32; omega) ?_
        refine ev_iconst ?_
        refine ev_aload_n rfl ?_
        refine g_getp (r := 7) (c := 11) g1 ad7 (by decide) (by decide) rf7_8 ft5_8 ?_
        refine ev_iload_n rfl ?_
        refine g_iald g1 ad11 rt11 (by omega) (by omega) (fun v27781 ev27781 lv27781 uv27781 => ?_)
        refine g_imulG (fun v27782 ev27782 lv27782 uv27782 => ?_)
        refine g_ishlG (fun v27783 ev27783 lv27783 uv27783 => ?_)
        refine g_iorG (fun v27784 ev27784 lv27784 uv27784 => ?_)
        refine ev_goto f82_73 ?_
        refine ev_istore (L' := [(2, 7), (2, (r1 : Int)), (0, a2), (0, a3), (0, a4), (0, 8), (0, x6), (0, x7), (0, v27784), j9]) (Nat.le_of_ble_eq_true rfl) rfl ?_
        refine ev_aload_n rfl ?_
        refine ev_aload_n rfl ?_
        refine ev_aload_n rfl ?_
        refine g_getp (r := 7) (c := 13) g1 ad7 (by decide) (by decide) rf7_10 ft5_10 ?_
        refine ev_iconst ?_
        refine ev_iload_n rfl ?_
        refine ev_imul (r := (4 * a2)) (by unfold w32; omega) ?_
        refine ev_iload rfl ?_
        refine ev_iadd (r := (4 * a2 + x7)) (by unfold w32; omega) ?_
        refine g_iald g1 ad13 rt13 (by omega) (by omega) (fun v27785 ev27785 lv27785 uv27785 => ?_)
        refine ev_iload rfl ?_
        refine ev_iload rfl ?_
        refine ev_iload rfl ?_
        refine ev_iconst ?_
        refine ev_iadd (r := 9) (by decide) ?_
        refine ev_call (jcall_v (A := [(0, 9), (0, v27784), (0, x6), (0, v27785), (2, (r1 : Int))]) (S' := []) (r := 7) rfl (g1.lt ad7) (g1.tg ad7) (Nat.le_of_ble_eq_true rfl)) (jOk_le (by decide) (s82_9 g1 q1 (by omega) (by omega) (by omega) (by omega) (by omega) (by omega))) (by decide) (by decide) (fun w27786 h27786 q27786 => ?_)
        obtain ⟨v27787, rfl, lv27787, uv27787, g27786, kk27786⟩ := q27786
        have k27786 := k1.tr kk27786 (by decide)
        show jEv _ _ _ _ _ _ _ (_, [(2, 7), (2, (r1 : Int)), (0, a2), (0, a3), (0, a4), (0, 8), (0, x6), (0, x7), (0, v27784), j9], [(0, v27787)], _, _, _)
        refine ev_istore (L' := [(2, 7), (2, (r1 : Int)), (0, a2), (0, a3), (0, a4), (0, 8), (0, x6), (0, x7), (0, v27784), (0, v27787)]) (Nat.le_of_ble_eq_true rfl) rfl ?_
        refine ev_aload_n rfl ?_
        refine ev_iload rfl ?_
        refine ev_aload_n rfl ?_
        refine g_getp (r := 7) (c := 14) g27786 ad7 (by decide) (by decide) rf7_11 ft5_11 ?_
        refine ev_iconst ?_
        refine ev_iload_n rfl ?_
        refine ev_imul (r := (4 * a2)) (by unfold w32; omega) ?_
        refine ev_iload rfl ?_
        refine ev_iadd (r := (4 * a2 + x7)) (by unfold w32; omega) ?_
        refine g_iald g27786 ad14 rt14 (by omega) (by omega) (fun v27788 ev27788 lv27788 uv27788 => ?_)
        refine ev_iload rfl ?_
        refine ev_call (jcall_v (A := [(0, v27787), (0, v27788), (0, x6)]) (S' := []) (r := r1) rfl (g27786.qlt q1) (g27786.qtg q1) (Nat.le_of_ble_eq_true rfl)) (jOk_le (by decide) (s23 g27786 q1 (by omega) (by omega) (by omega) (by omega) (by omega) (by omega))) (by decide) (by decide) (fun w27789 h27789 q27789 => ?_)
        obtain ⟨rfl, g27789, kk27789⟩ := q27789
        have k27789 := k27786.tr kk27789 (by decide)
        show jEv _ _ _ _ _ _ _ (_, [(2, 7), (2, (r1 : Int)), (0, a2), (0, a3), (0, a4), (0, 8), (0, x6), (0, x7), (0, v27784), (0, v27787)], [], _, _, _)
        refine ev_iinc (w := (x7 + 1)) (L' := [(2, 7), (2, (r1 : Int)), (0, a2), (0, a3), (0, a4), (0, 8), (0, x6), (0, (x7 + 1)), (0, v27784), (0, v27787)]) rfl (by unfold w32; omega) rfl ?_
        refine ev_goto f82_24 ?_
        exact ih _ _ _ _ _ g27789 k27789 (by omega) (by omega) (by omega) (by omega) (by omega) (by omega) (by omega) (by omega) (by omega) (by omega) (by omega) (by omega)
set_option maxHeartbeats 4000000 in
theorem s82_8 {G : GH} {h : JH} (g : Gd G h) {r1 : Nat} {m1 : Int} (q1 : IsQ G r1 m1) {a2 : Int} (la2 : 0 ≤ a2) (ua2 : a2 ≤ 199) {a3 : Int} (la3 : (-1) ≤ a3) (ua3 : a3 ≤ m1 - 1) {a4 : Int} (la4 : (-2147483648) ≤ a4) (ua4 : a4 ≤ 2147483647) : jOk 7 0 0 82 [(2, 7), (2, (r1 : Int)), (0, a2), (0, a3), (0, a4), (0, 8)] h (PM G [(1000000, 0)] h m1 0 (-1) (-1)) := by
  refine ⟨by decide, by rw [ml82]; exact Nat.le_of_ble_eq_true rfl, ?_⟩
  rw [ml82, pp82]
  show jEv _ none _ c82_0 0 0 _ (c82_0, [(2, 7), (2, (r1 : Int)), (0, a2), (0, a3), (0, a4), (0, 8), (9, 0), (9, 0), (9, 0), (9, 0)], [], h, 0, 0)
  have k0 := Kp.rf [(1000000, 0)] h
  have wr1 := g.qb q1
  have zr1 := q1.1
  refine ev_aload_n rfl ?_
  refine ev_aload_n rfl ?_
  refine g_getp (r := 7) (c := 10) g ad7 (by decide) (by decide) rf7_7 ft5_7 ?_
  refine ev_iload_n rfl ?_
  refine g_iald g ad10 rt10 (by omega) (by omega) (fun v27790 ev27790 lv27790 uv27790 => ?_)
  refine ev_aload_n rfl ?_
  refine g_getp (r := 7) (c := 11) g ad7 (by decide) (by decide) rf7_8 ft5_8 ?_
  refine ev_iload_n rfl ?_
  refine g_iald g ad11 rt11 (by omega) (by omega) (fun v27791 ev27791 lv27791 uv27791 => ?_)
  refine ev_iload_n rfl ?_
  refine ev_iload rfl ?_
  refine ev_call (jcall_v (A := [(0, a4), (0, a3), (0, v27791), (0, v27790)]) (S' := []) (r := r1) rfl (g.qlt q1) (g.qtg q1) (Nat.le_of_ble_eq_true rfl)) (jOk_le (by decide) (s22 g q1 (by omega) (by omega) (by omega) (by omega) (by omega) (by omega) (by omega) (by omega))) (by decide) (by decide) (fun w27792 h27792 q27792 => ?_)
  obtain ⟨v27793, rfl, lv27793, uv27793, g27792, kk27792⟩ := q27792
  have k27792 := k0.tr kk27792 (by decide)
  show jEv _ _ _ _ _ _ _ (_, [(2, 7), (2, (r1 : Int)), (0, a2), (0, a3), (0, a4), (0, 8), (9, 0), (9, 0), (9, 0), (9, 0)], [(0, v27793)], _, _, _)
  refine ev_istore (L' := [(2, 7), (2, (r1 : Int)), (0, a2), (0, a3), (0, a4), (0, 8), (0, v27793), (9, 0), (9, 0), (9, 0)]) (Nat.le_of_ble_eq_true rfl) rfl ?_
  refine ev_iconst ?_
  refine ev_istore (L' := [(2, 7), (2, (r1 : Int)), (0, a2), (0, a3), (0, a4), (0, 8), (0, v27793), (0, 0), (9, 0), (9, 0)]) (Nat.le_of_ble_eq_true rfl) rfl ?_
  exact (s82_8_l q1 la2 ua2 la3 ua3 la4 ua4 10) _ _ _ _ _ g27792 k27792 (by omega) (by omega) (by omega) (by omega) (by omega) (by omega) (by omega) (by omega) (by omega) (by omega) (by omega) (by omega)
/-! s82_7  -/
set_option maxHeartbeats 4000000 in
theorem s82_7_l {G : GH} {h : JH} {r1 : Nat} {m1 : Int} (q1 : IsQ G r1 m1) {a2 : Int} (la2 : 0 ≤ a2) (ua2 : a2 ≤ 199) {a3 : Int} (la3 : (-1) ≤ a3) (ua3 : a3 ≤ m1 - 1) {a4 : Int} (la4 : (-2147483648) ≤ a4) (ua4 : a4 ≤ 2147483647) : ∀ N : Nat, (∀ (h1 : JH) (x6 x7 : Int) (j8 j9 : AV), Gd G h1 → Kp [(1000000, 0)] h h1 → 0 ≤ a2 → a2 ≤ 199 → (-1) ≤ a3 → a3 ≤ 99 → (-2147483648) ≤ a4 → a4 ≤ 2147483647 → (-1) ≤ x6 → x6 ≤ 99 → x6 ≤ m1 - 1 → 0 ≤ x7 → x7 ≤ 4 → ((-x7) + 4) < N → jEv (jOk 7) none (fun _ => 0) c82_0 0 0 (PM G [(1000000, 0)] h m1 0 (-1) (-1)) (c82_24, [(2, 7), (2, (r1 : Int)), (0, a2), (0, a3), (0, a4), (0, 7), (0, x6), (0, x7), j8, j9], [], h1, 0, 0)) := by
  intro N
  induction N with
  | zero => exact fun h1 x6 x7 j8 j9 g1 k1 b0 b1 b2 b3 b4 b5 b6 b7 b8 b9 b10 hm => absurd hm (by omega)
  | succ N ih =>
    show _
    intro h1 x6 x7 j8 j9 g1 k1 b0 b1 b2 b3 b4 b5 b6 b7 b8 b9 b10 hm
    have wr1 := g1.qb q1
    have zr1 := q1.1
    refine ev_iload rfl ?_
    refine ev_aload_n rfl ?_
    refine g_getp (r := 7) (c := 12) g1 ad7 (by decide) (by decide) rf7_9 ft5_9 ?_
    refine ev_iload_n rfl ?_
    refine g_iald g1 ad12 rt12 (by omega) (by omega) (fun v27916 ev27916 lv27916 uv27916 => ?_)
    refine ev_icmpge f82_126 (fun c27917 => ?_) (fun c27917 => ?_)
    · refine ev_iload rfl ?_
      exact ev_ret rfl (by decide) (by decide) ⟨_, rfl, by omega, by omega, g1, k1⟩
    · refine ev_iload rfl ?_
      refine ev_bipush ?_
      refine ev_icmpgt f82_126 (fun c27918 => absurd c27918 (by omega)) (fun c27918 => ?_)
      refine ev_aload_n rfl ?_
      refine g_getp (r := 7) (c := 10) g1 ad7 (by decide) (by decide) rf7_7 ft5_7 ?_
      refine ev_iload_n rfl ?_
      refine g_iald g1 ad10 rt10 (by omega) (by omega) (fun v27919 ev27919 lv27919 uv27919 => ?_)
      refine ev_iconst ?_
      refine ev_icmpne f82_71 (fun c27920 => ?_) (fun c27920 => ?_)
      · refine ev_iload rfl ?_
        refine ev_istore (L' := [(2, 7), (2, (r1 : Int)), (0, a2), (0, a3), (0, a4), (0, 7), (0, x6), (0, x7), (0, a4), j9]) (Nat.le_of_ble_eq_true rfl) rfl ?_
        refine ev_aload_n rfl ?_
        refine ev_aload_n rfl ?_
        refine ev_aload_n rfl ?_
        refine g_getp (r := 7) (c := 13) g1 ad7 (by decide) (by decide) rf7_10 ft5_10 ?_
        refine ev_iconst ?_
        refine ev_iload_n rfl ?_
        refine ev_imul (r := (4 * a2)) (by unfold w32; omega) ?_
        refine ev_iload rfl ?_
        refine ev_iadd (r := (4 * a2 + x7)) (by unfold w32; omega) ?_
        refine g_iald g1 ad13 rt13 (by omega) (by omega) (fun v27921 ev27921 lv27921 uv27921 => ?_)
        refine ev_iload rfl ?_
        refine ev_iload rfl ?_
        refine ev_iload rfl ?_
        refine ev_iconst ?_
        refine ev_iadd (r := 8) (by decide) ?_
        refine ev_call (jcall_v (A := [(0, 8), (0, a4), (0, x6), (0, v27921), (2, (r1 : Int))]) (S' := []) (r := 7) rfl (g1.lt ad7) (g1.tg ad7) (Nat.le_of_ble_eq_true rfl)) (jOk_le (by decide) (s82_8 g1 q1 (by omega) (by omega) (by omega) (by omega) (by omega) (by omega))) (by decide) (by decide) (fun w27922 h27922 q27922 => ?_)
        obtain ⟨v27923, rfl, lv27923, uv27923, g27922, kk27922⟩ := q27922
        have k27922 := k1.tr kk27922 (by decide)
        show jEv _ _ _ _ _ _ _ (_, [(2, 7), (2, (r1 : Int)), (0, a2), (0, a3), (0, a4), (0, 7), (0, x6), (0, x7), (0, a4), j9], [(0, v27923)], _, _, _)
        refine ev_istore (L' := [(2, 7), (2, (r1 : Int)), (0, a2), (0, a3), (0, a4), (0, 7), (0, x6), (0, x7), (0, a4), (0, v27923)]) (Nat.le_of_ble_eq_true rfl) rfl ?_
        refine ev_aload_n rfl ?_
        refine ev_iload rfl ?_
        refine ev_aload_n rfl ?_
        refine g_getp (r := 7) (c := 14) g27922 ad7 (by decide) (by decide) rf7_11 ft5_11 ?_
        refine ev_iconst ?_
        refine ev_iload_n rfl ?_
        refine ev_imul (r := (4 * a2)) (by unfold w32; omega) ?_
        refine ev_iload rfl ?_
        refine ev_iadd (r := (4 * a2 + x7)) (by unfold w32; omega) ?_
        refine g_iald g27922 ad14 rt14 (by omega) (by omega) (fun v27924 ev27924 lv27924 uv27924 => ?_)
        refine ev_iload rfl ?_
        refine ev_call (jcall_v (A := [(0, v27923), (0, v27924), (0, x6)]) (S' := []) (r := r1) rfl (g27922.qlt q1) (g27922.qtg q1) (Nat.le_of_ble_eq_true rfl)) (jOk_le (by decide) (s23 g27922 q1 (by omega) (by omega) (by omega) (by omega) (by omega) (by omega))) (by decide) (by decide) (fun w27925 h27925 q27925 => ?_)
        obtain ⟨rfl, g27925, kk27925⟩ := q27925
        have k27925 := k27922.tr kk27925 (by decide)
        show jEv _ _ _ _ _ _ _ (_, [(2, 7), (2, (r1 : Int)), (0, a2), (0, a3), (0, a4), (0, 7), (0, x6), (0, x7), (0, a4), (0, v27923)], [], _, _, _)
        refine ev_iinc (w := (x7 + 1)) (L' := [(2, 7), (2, (r1 : Int)), (0, a2), (0, a3), (0, a4), (0, 7), (0, x6), (0, (x7 + 1)), (0, a4), (0, v27923)]) rfl (by unfold w32; omega) rfl ?_
        refine ev_goto f82_24 ?_
        exact ih _ _ _ _ _ g27925 k27925 (by omega) (by omega) (by omega) (by omega) (by omega) (by omega) (by omega) (by omega) (by omega) (by omega) (by omega) (by omega)
      · refine ev_iload rfl ?_
        refine ev_iload rfl ?_
        refine ev_iconst ?_
        refine ev_iadd (r := (x7 + 1)) (by unfold w32; omega) ?_
        refine ev_iconst ?_
        refine ev_aload_n rfl ?_
        refine g_getp (r := 7) (c := 11) g1 ad7 (by decide) (by decide) rf7_8 ft5_8 ?_
        refine ev_iload_n rfl ?_
        refine g_iald g1 ad11 rt11 (by omega) (by omega) (fun v27926 ev27926 lv27926 uv27926 => ?_)
        refine g_imulG (fun v27927 ev27927 lv27927 uv27927 => ?_)
        refine g_ishlG (fun v27928 ev27928 lv27928 uv27928 => ?_)
        refine g_iorG (fun v27929 ev27929 lv27929 uv27929 => ?_)
        refine ev_goto f82_73 ?_
        refine ev_istore (L' := [(2, 7), (2, (r1 : Int)), (0, a2), (0, a3), (0, a4), (0, 7), (0, x6), (0, x7), (0, v27929), j9]) (Nat.le_of_ble_eq_true rfl) rfl ?_
        refine ev_aload_n rfl ?_
        refine ev_aload_n rfl ?_
        refine ev_aload_n rfl ?_
        refine g_getp (r := 7) (c := 13) g1 ad7 (by decide) (by decide) rf7_10 ft5_10 ?_
        refine ev_iconst ?_
        refine ev_iload_n rfl ?_
        refine ev_imul (r := (4 * a2)) (by unfold w32; omega) ?_
        refine ev_iload rfl ?_
        refine ev_iadd (r := (4 * a2 + x7)) (by unfold w32; omega) ?_
        refine g_iald g1 ad13 rt13 (by omega) (by omega) (fun v27930 ev27930 lv27930 uv27930 => ?_)
        refine ev_iload rfl ?_
        refine ev_iload rfl ?_
        refine ev_iload rfl ?_
        refine ev_iconst ?_
        refine ev_iadd (r := 8) (by decide) ?_
        refine ev_call (jcall_v (A := [(0, 8), (0, v27929), (0, x6), (0, v27930), (2, (r1 : Int))]) (S' := []) (r := 7) rfl (g1.lt ad7) (g1.tg ad7) (Nat.le_of_ble_eq_true rfl)) (jOk_le (by decide) (s82_8 g1 q1 (by omega) (by omega) (by omega) (by omega) (by omega) (by omega))) (by decide) (by decide) (fun w27931 h27931 q27931 => ?_)
        obtain ⟨v27932, rfl, lv27932, uv27932, g27931, kk27931⟩ := q27931
        have k27931 := k1.tr kk27931 (by decide)
        show jEv _ _ _ _ _ _ _ (_, [(2, 7), (2, (r1 : Int)), (0, a2), (0, a3), (0, a4), (0, 7), (0, x6), (0, x7), (0, v27929), j9], [(0, v27932)], _, _, _)
        refine ev_istore (L' := [(2, 7), (2, (r1 : Int)), (0, a2), (0, a3), (0, a4), (0, 7), (0, x6), (0, x7), (0, v27929), (0, v27932)]) (Nat.le_of_ble_eq_true rfl) rfl ?_
        refine ev_aload_n rfl ?_
        refine ev_iload rfl ?_
        refine ev_aload_n rfl ?_
        refine g_getp (r := 7) (c := 14) g27931 ad7 (by decide) (by decide) rf7_11 ft5_11 ?_
        refine ev_iconst ?_
        refine ev_iload_n rfl ?_
        refine ev_imul (r := (4 * a2)) (by unfold w32; omega) ?_
        refine ev_iload rfl ?_
        refine ev_iadd (r := (4 * a2 + x7)) (by unfold w32; omega) ?_
        refine g_iald g27931 ad14 rt14 (by omega) (by omega) (fun v27933 ev27933 lv27933 uv27933 => ?_)
        refine ev_iload rfl ?_
        refine ev_call (jcall_v (A := [(0, v27932), (0, v27933), (0, x6)]) (S' := []) (r := r1) rfl (g27931.qlt q1) (g27931.qtg q1) (Nat.le_of_ble_eq_true rfl)) (jOk_le (by decide) (s23 g27931 q1 (by omega) (by omega) (by omega) (by omega) (by omega) (by omega))) (by decide) (by decide) (fun w27934 h27934 q27934 => ?_)
        obtain ⟨rfl, g27934, kk27934⟩ := q27934
        have k27934 := k27931.tr kk27934 (by decide)
        show jEv _ _ _ _ _ _ _ (_, [(2, 7), (2, (r1 : Int)), (0, a2), (0, a3), (0, a4), (0, 7), (0, x6), (0, x7), (0, v27929), (0, v27932)], [], _, _, _)
        refine ev_iinc (w := (x7 + 1)) (L' := [(2, 7), (2, (r1 : Int)), (0, a2), (0, a3), (0, a4), (0, 7), (0, x6), (0, (x7 + 1)), (0, v27929), (0, v27932)]) rfl (by unfold w32; omega) rfl ?_
        refine ev_goto f82_24 ?_
        exact ih _ _ _ _ _ g27934 k27934 (by omega) (by omega) (by omega) (by omega) (by omega) (by omega) (by omega) (by omega) (by omega) (by omega) (by omega) (by omega)
set_option maxHeartbeats 4000000 in
theorem s82_7 {G : GH} {h : JH} (g : Gd G h) {r1 : Nat} {m1 : Int} (q1 : IsQ G r1 m1) {a2 : Int} (la2 : 0 ≤ a2) (ua2 : a2 ≤ 199) {a3 : Int} (la3 : (-1) ≤ a3) (ua3 : a3 ≤ m1 - 1) {a4 : Int} (la4 : (-2147483648) ≤ a4) (ua4 : a4 ≤ 2147483647) : jOk 8 0 0 82 [(2, 7), (2, (r1 : Int)), (0, a2), (0, a3), (0, a4), (0, 7)] h (PM G [(1000000, 0)] h m1 0 (-1) (-1)) := by
  refine ⟨by decide, by rw [ml82]; exact Nat.le_of_ble_eq_true rfl, ?_⟩
  rw [ml82, pp82]
  show jEv _ none _ c82_0 0 0 _ (c82_0, [(2, 7), (2, (r1 : Int)), (0, a2), (0, a3), (0, a4), (0, 7), (9, 0), (9, 0), (9, 0), (9, 0)], [], h, 0, 0)
  have k0 := Kp.rf [(1000000, 0)] h
  have wr1 := g.qb q1
  have zr1 := q1.1
  refine ev_aload_n rfl ?_
  refine ev_aload_n rfl ?_
  refine g_getp (r := 7) (c := 10) g ad7 (by decide) (by decide) rf7_7 ft5_7 ?_
  refine ev_iload_n rfl ?_
  refine g_iald g ad10 rt10 (by omega) (by omega) (fun v27935 ev27935 lv27935 uv27935 => ?_)
  refine ev_aload_n rfl ?_
  refine g_getp (r := 7) (c := 11) g ad7 (by decide) (by decide) rf7_8 ft5_8 ?_
  refine ev_iload_n rfl ?_
  refine g_iald g ad11 rt11 (by omega) (by omega) (fun v27936 ev27936 lv27936 uv27936 => ?_)
  refine ev_iload_n rfl ?_
  refine ev_iload rfl ?_
  refine ev_call (jcall_v (A := [(0, a4), (0, a3), (0, v27936), (0, v27935)]) (S' := []) (r := r1) rfl (g.qlt q1) (g.qtg q1) (Nat.le_of_ble_eq_true rfl)) (jOk_le (by decide) (s22 g q1 (by omega) (by omega) (by omega) (by omega) (by omega) (by omega) (by omega) (by omega))) (by decide) (by decide) (fun w27937 h27937 q27937 => ?_)
  obtain ⟨v27938, rfl, lv27938, uv27938, g27937, kk27937⟩ := q27937
  have k27937 := k0.tr kk27937 (by decide)
  show jEv _ _ _ _ _ _ _ (_, [(2, 7), (2, (r1 : Int)), (0, a2), (0, a3), (0, a4), (0, 7), (9, 0), (9, 0), (9, 0), (9, 0)], [(0, v27938)], _, _, _)
  refine ev_istore (L' := [(2, 7), (2, (r1 : Int)), (0, a2), (0, a3), (0, a4), (0, 7), (0, v27938), (9, 0), (9, 0), (9, 0)]) (Nat.le_of_ble_eq_true rfl) rfl ?_
  refine ev_iconst ?_
  refine ev_istore (L' := [(2, 7), (2, (r1 : Int)), (0, a2), (0, a3), (0, a4), (0, 7), (0, v27938), (0, 0), (9, 0), (9, 0)]) (Nat.le_of_ble_eq_true rfl) rfl ?_
  exact (s82_7_l q1 la2 ua2 la3 ua3 la4 ua4 10) _ _ _ _ _ g27937 k27937 (by omega) (by omega) (by omega) (by omega) (by omega) (by omega) (by omega) (by omega) (by omega) (by omega) (by omega) (by omega)
/-! s82_6  -/
set_option maxHeartbeats 4000000 in
theorem s82_6_l {G : GH} {h : JH} {r1 : Nat} {m1 : Int} (q1 : IsQ G r1 m1) {a2 : Int} (la2 : 0 ≤ a2) (ua2 : a2 ≤ 199) {a3 : Int} (la3 : (-1) ≤ a3) (ua3 : a3 ≤ m1 - 1) {a4 : Int} (la4 : (-2147483648) ≤ a4) (ua4 : a4 ≤ 2147483647) : ∀ N : Nat, (∀ (h1 : JH) (x6 x7 : Int) (j8 j9 : AV), Gd G h1 → Kp [(1000000, 0)] h h1 → 0 ≤ a2 → a2 ≤ 199 → (-1) ≤ a3 → a3 ≤ 99 → (-2147483648) ≤ a4 → a4 ≤ 2147483647 → (-1) ≤ x6 → x6 ≤ 99 → x6 ≤ m1 - 1 → 0 ≤ x7 → x7 ≤ 4 → ((-x7) + 4) < N → jEv (jOk 8) none (fun _ => 0) c82_0 0 0 (PM G [(1000000, 0)] h m1 0 (-1) (-1)) (c82_24, [(2, 7), (2, (r1 : Int)), (0, a2), (0, a3), (0, a4), (0, 6), (0, x6), (0, x7), j8, j9], [], h1, 0, 0)) := by
  intro N
  induction N with
  | zero => exact fun h1 x6 x7 j8 j9 g1 k1 b0 b1 b2 b3 b4 b5 b6 b7 b8 b9 b10 hm => absurd hm (by omega)
  | succ N ih =>
    show _
    intro h1 x6 x7 j8 j9 g1 k1 b0 b1 b2 b3 b4 b5 b6 b7 b8 b9 b10 hm
    have wr1 := g1.qb q1
    have zr1 := q1.1
    refine ev_iload rfl ?_
    refine ev_aload_n rfl ?_
    refine g_getp (r := 7) (c := 12) g1 ad7 (by decide) (by decide) rf7_9 ft5_9 ?_
    refine ev_iload_n rfl ?_
    refine g_iald g1 ad12 rt12 (by omega) (by omega) (fun v28061 ev28061 lv28061 uv28061 => ?_)
    refine ev_icmpge f82_126 (fun c28062 => ?_) (fun c28062 => ?_)
    · refine ev_iload rfl ?_
      exact ev_ret rfl (by decide) (by decide) ⟨_, rfl, by omega, by omega, g1, k1⟩
    · refine ev_iload rfl ?_
      refine ev_bipush ?_
      refine ev_icmpgt f82_126 (fun c28063 => absurd c28063 (by omega)) (fun c28063 => ?_)
      refine ev_aload_n rfl ?_
      refine g_getp (r := 7) (c := 10) g1 ad7 (by decide) (by decide) rf7_7 ft5_7 ?_
      refine ev_iload_n rfl ?_
      refine g_iald g1 ad10 rt10 (by omega) (by omega) (fun v28064 ev28064 lv28064 uv28064 => ?_)
      refine ev_iconst ?_
      refine ev_icmpne f82_71 (fun c28065 => ?_) (fun c28065 => ?_)
      · refine ev_iload rfl ?_
        refine ev_istore (L' := [(2, 7), (2, (r1 : Int)), (0, a2), (0, a3), (0, a4), (0, 6), (0, x6), (0, x7), (0, a4), j9]) (Nat.le_of_ble_eq_true rfl) rfl ?_
        refine ev_aload_n rfl ?_
        refine ev_aload_n rfl ?_
        refine ev_aload_n rfl ?_
        refine g_getp (r := 7) (c := 13) g1 ad7 (by decide) (by decide) rf7_10 ft5_10 ?_
        refine ev_iconst ?_
        refine ev_iload_n rfl ?_
        refine ev_imul (r := (4 * a2)) (by unfold w32; omega) ?_
        refine ev_iload rfl ?_
        refine ev_iadd (r := (4 * a2 + x7)) (by unfold w32; omega) ?_
        refine g_iald g1 ad13 rt13 (by omega) (by omega) (fun v28066 ev28066 lv28066 uv28066 => ?_)
        refine ev_iload rfl ?_
        refine ev_iload rfl ?_
        refine ev_iload rfl ?_
        refine ev_iconst ?_
        refine ev_iadd (r := 7) (by decide) ?_
        refine ev_call (jcall_v (A := [(0, 7), (0, a4), (0, x6), (0, v28066), (2, (r1 : Int))]) (S' := []) (r := 7) rfl (g1.lt ad7) (g1.tg ad7) (Nat.le_of_ble_eq_true rfl)) (jOk_le (by decide) (s82_7 g1 q1 (by omega) (by omega) (by omega) (by omega) (by omega) (by omega))) (by decide) (by decide) (fun w28067 h28067 q28067 => ?_)
        obtain ⟨v28068, rfl, lv28068, uv28068, g28067, kk28067⟩ := q28067
        have k28067 := k1.tr kk28067 (by decide)
        show jEv _ _ _ _ _ _ _ (_, [(2, 7), (2, (r1 : Int)), (0, a2), (0, a3), (0, a4), (0, 6), (0, x6), (0, x7), (0, a4), j9], [(0, v28068)], _, _, _)
        refine ev_istore (L' := [(2, 7), (2, (r1 : Int)), (0, a2), (0, a3), (0, a4), (0, 6), (0, x6), (0, x7), (0, a4), (0, v28068)]) (Nat.le_of_ble_eq_true rfl) rfl ?_
        refine ev_aload_n rfl ?_
        refine ev_iload rfl ?_
        refine ev_aload_n rfl ?_
        refine g_getp (r := 7) (c := 14) g28067 ad7 (by decide) (by decide) rf7_11 ft5_11 ?_
        refine ev_iconst ?_
        refine ev_iload_n rfl ?_
        refine ev_imul (r := (4 * a2)) (by unfold w32; omega) ?_
        refine ev_iload rfl ?_
        refine ev_iadd (r := (4 * a2 + x7)) (by unfold w32; omega) ?_
        refine g_iald g28067 ad14 rt14 (by omega) (by omega) (fun v28069 ev28069 lv28069 uv28069 => ?_)
        refine ev_iload rfl ?_
        refine ev_call (jcall_v (A := [(0, v28068), (0, v28069), (0, x6)]) (S' := []) (r := r1) rfl (g28067.qlt q1) (g28067.qtg q1) (Nat.le_of_ble_eq_true rfl)) (jOk_le (by decide) (s23 g28067 q1 (by omega) (by omega) (by omega) (by omega) (by omega) (by omega))) (by decide) (by decide) (fun w28070 h28070 q28070 => ?_)
        obtain ⟨rfl, g28070, kk28070⟩ := q28070
        have k28070 := k28067.tr kk28070 (by decide)
        show jEv _ _ _ _ _ _ _ (_, [(2, 7), (2, (r1 : Int)), (0, a2), (0, a3), (0, a4), (0, 6), (0, x6), (0, x7), (0, a4), (0, v28068)], [], _, _, _)
        refine ev_iinc (w := (x7 + 1)) (L' := [(2, 7), (2, (r1 : Int)), (0, a2), (0, a3), (0, a4), (0, 6), (0, x6), (0, (x7 + 1)), (0, a4), (0, v28068)]) rfl (by unfold w32; omega) rfl ?_
        refine ev_goto f82_24 ?_
        exact ih _ _ _ _ _ g28070 k28070 (by omega) (by omega) (by omega) (by omega) (by omega) (by omega) (by omega) (by omega) (by omega) (by omega) (by omega) (by omega)
      · refine ev_iload rfl ?_
        refine ev_iload rfl ?_
        refine ev_iconst ?_
        refine ev_iadd (r := (x7 + 1)) (by unfold w32; omega) ?_
        refine ev_iconst ?_
        refine ev_aload_n rfl ?_
        refine g_getp (r := 7) (c := 11) g1 ad7 (by decide) (by decide) rf7_8 ft5_8 ?_
        refine ev_iload_n rfl ?_
        refine g_iald g1 ad11 rt11 (by omega) (by omega) (fun v28071 ev28071 lv28071 uv28071 => ?_)
        refine g_imulG (fun v28072 ev28072 lv28072 uv28072 => ?_)
        refine g_ishlG (fun v28073 ev28073 lv28073 uv28073 => ?_)
        refine g_iorG (fun v28074 ev28074 lv28074 uv28074 => ?_)
        refine ev_goto f82_73 ?_
        refine ev_istore (L' := [(2, 7), (2, (r1 : Int)), (0, a2), (0, a3), (0, a4), (0, 6), (0, x6), (0, x7), (0, v28074), j9]) (Nat.le_of_ble_eq_true rfl) rfl ?_
        refine ev_aload_n rfl ?_
        refine ev_aload_n rfl ?_
        refine ev_aload_n rfl ?_
        refine g_getp (r := 7) (c := 13) g1 ad7 (by decide) (by decide) rf7_10 ft5_10 ?_
        refine ev_iconst ?_
        refine ev_iload_n rfl ?_
        refine ev_imul (r := (4 * a2)) (by unfold w32; omega) ?_
        refine ev_iload rfl ?_
        refine ev_iadd (r := (4 * a2 + x7)) (by unfold w32; omega) ?_
        refine g_iald g1 ad13 rt13 (by omega) (by omega) (fun v28075 ev28075 lv28075 uv28075 => ?_)
        refine ev_iload rfl ?_
        refine ev_iload rfl ?_
        refine ev_iload rfl ?_
        refine ev_iconst ?_
        refine ev_iadd (r := 7) (by decide) ?_
        refine ev_call (jcall_v (A := [(0, 7), (0, v28074), (0, x6), (0, v28075), (2, (r1 : Int))]) (S' := []) (r := 7) rfl (g1.lt ad7) (g1.tg ad7) (Nat.le_of_ble_eq_true rfl)) (jOk_le (by decide) (s82_7 g1 q1 (by omega) (by omega) (by omega) (by omega) (by omega) (by omega))) (by decide) (by decide) (fun w28076 h28076 q28076 => ?_)
        obtain ⟨v28077, rfl, lv28077, uv28077, g28076, kk28076⟩ := q28076
        have k28076 := k1.tr kk28076 (by decide)
        show jEv _ _ _ _ _ _ _ (_, [(2, 7), (2, (r1 : Int)), (0, a2), (0, a3), (0, a4), (0, 6), (0, x6), (0, x7), (0, v28074), j9], [(0, v28077)], _, _, _)
        refine ev_istore (L' := [(2, 7), (2, (r1 : Int)), (0, a2), (0, a3), (0, a4), (0, 6), (0, x6), (0, x7), (0, v28074), (0, v28077)]) (Nat.le_of_ble_eq_true rfl) rfl ?_
        refine ev_aload_n rfl ?_
        refine ev_iload rfl ?_
        refine ev_aload_n rfl ?_
        refine g_getp (r := 7) (c := 14) g28076 ad7 (by decide) (by decide) rf7_11 ft5_11 ?_
        refine ev_iconst ?_
        refine ev_iload_n rfl ?_
        refine ev_imul (r := (4 * a2)) (by unfold w32; omega) ?_
        refine ev_iload rfl ?_
        refine ev_iadd (r := (4 * a2 + x7)) (by unfold w32; omega) ?_
        refine g_iald g28076 ad14 rt14 (by omega) (by omega) (fun v28078 ev28078 lv28078 uv28078 => ?_)
        refine ev_iload rfl ?_
        refine ev_call (jcall_v (A := [(0, v28077), (0, v28078), (0, x6)]) (S' := []) (r := r1) rfl (g28076.qlt q1) (g28076.qtg q1) (Nat.le_of_ble_eq_true rfl)) (jOk_le (by decide) (s23 g28076 q1 (by omega) (by omega) (by omega) (by omega) (by omega) (by omega))) (by decide) (by decide) (fun w28079 h28079 q28079 => ?_)
        obtain ⟨rfl, g28079, kk28079⟩ := q28079
        have k28079 := k28076.tr kk28079 (by decide)
        show jEv _ _ _ _ _ _ _ (_, [(2, 7), (2, (r1 : Int)), (0, a2), (0, a3), (0, a4), (0, 6), (0, x6), (0, x7), (0, v28074), (0, v28077)], [], _, _, _)
        refine ev_iinc (w := (x7 + 1)) (L' := [(2, 7), (2, (r1 : Int)), (0, a2), (0, a3), (0, a4), (0, 6), (0, x6), (0, (x7 + 1)), (0, v28074), (0, v28077)]) rfl (by unfold w32; omega) rfl ?_
        refine ev_goto f82_24 ?_
        exact ih _ _ _ _ _ g28079 k28079 (by omega) (by omega) (by omega) (by omega) (by omega) (by omega) (by omega) (by omega) (by omega) (by omega) (by omega) (by omega)
set_option maxHeartbeats 4000000 in
theorem s82_6 {G : GH} {h : JH} (g : Gd G h) {r1 : Nat} {m1 : Int} (q1 : IsQ G r1 m1) {a2 : Int} (la2 : 0 ≤ a2) (ua2 : a2 ≤ 199) {a3 : Int} (la3 : (-1) ≤ a3) (ua3 : a3 ≤ m1 - 1) {a4 : Int} (la4 : (-2147483648) ≤ a4) (ua4 : a4 ≤ 2147483647) : jOk 9 0 0 82 [(2, 7), (2, (r1 : Int)), (0, a2), (0, a3), (0, a4), (0, 6)] h (PM G [(1000000, 0)] h m1 0 (-1) (-1)) := by
  refine ⟨by decide, by rw [ml82]; exact Nat.le_of_ble_eq_true rfl, ?_⟩
  rw [ml82, pp82]
  show jEv _ none _ c82_0 0 0 _ (c82_0, [(2, 7), (2, (r1 : Int)), (0, a2), (0, a3), (0, a4), (0, 6), (9, 0), (9, 0), (9, 0), (9, 0)], [], h, 0, 0)
  have k0 := Kp.rf [(1000000, 0)] h
  have wr1 := g.qb q1
  have zr1 := q1.1
  refine ev_aload_n rfl ?_
  refine ev_aload_n rfl ?_
  refine g_getp (r := 7) (c := 10) g ad7 (by decide) (by decide) rf7_7 ft5_7 ?_
  refine ev_iload_n rfl ?_
  refine g_iald g ad10 rt10 (by omega) (by omega) (fun v28080 ev28080 lv28080 uv28080 => ?_)
  refine ev_aload_n rfl ?_
  refine g_getp (r := 7) (c := 11) g ad7 (by decide) (by decide) rf7_8 ft5_8 ?_
  refine ev_iload_n rfl ?_
  refine g_iald g ad11 rt11 (by omega) (by omega) (fun v28081 ev28081 lv28081 uv28081 => ?_)
  refine ev_iload_n rfl ?_
  refine ev_iload rfl ?_
  refine ev_call (jcall_v (A := [(0, a4), (0, a3), (0, v28081), (0, v28080)]) (S' := []) (r := r1) rfl (g.qlt q1) (g.qtg q1) (Nat.le_of_ble_eq_true rfl)) (jOk_le (by decide) (s22 g q1 (by omega) (by omega) (by omega) (by omega) (by omega) (by omega) (by omega) (by omega))) (by decide) (by decide) (fun w28082 h28082 q28082 => ?_)
  obtain ⟨v28083, rfl, lv28083, uv28083, g28082, kk28082⟩ := q28082
  have k28082 := k0.tr kk28082 (by decide)
  show jEv _ _ _ _ _ _ _ (_, [(2, 7), (2, (r1 : Int)), (0, a2), (0, a3), (0, a4), (0, 6), (9, 0), (9, 0), (9, 0), (9, 0)], [(0, v28083)], _, _, _)
  refine ev_istore (L' := [(2, 7), (2, (r1 : Int)), (0, a2), (0, a3), (0, a4), (0, 6), (0, v28083), (9, 0), (9, 0), (9, 0)]) (Nat.le_of_ble_eq_true rfl) rfl ?_
  refine ev_iconst ?_
  refine ev_istore (L' := [(2, 7), (2, (r1 : Int)), (0, a2), (0, a3), (0, a4), (0, 6), (0, v28083), (0, 0), (9, 0), (9, 0)]) (Nat.le_of_ble_eq_true rfl) rfl ?_
  exact (s82_6_l q1 la2 ua2 la3 ua3 la4 ua4 10) _ _ _ _ _ g28082 k28082 (by omega) (by omega) (by omega) (by omega) (by omega) (by omega) (by omega) (by omega) (by omega) (by omega) (by omega) (by omega)
/-! s82_5  -/
set_option maxHeartbeats 4000000 in
theorem s82_5_l {G : GH} {h : JH} {r1 : Nat} {m1 : Int} (q1 : IsQ G r1 m1) {a2 : Int} (la2 : 0 ≤ a2) (ua2 : a2 ≤ 199) {a3 : Int} (la3 : (-1) ≤ a3) (ua3 : a3 ≤ m1 - 1) {a4 : Int} (la4 : (-2147483648) ≤ a4) (ua4 : a4 ≤ 2147483647) : ∀ N : Nat, (∀ (h1 : JH) (x6 x7 : Int) (j8 j9 : AV), Gd G h1 → Kp [(1000000, 0)] h h1 → 0 ≤ a2 → a2 ≤ 199 → (-1) ≤ a3 → a3 ≤ 99 → (-2147483648) ≤ a4 → a4 ≤ 2147483647 → (-1) ≤ x6 → x6 ≤ 99 → x6 ≤ m1 - 1 → 0 ≤ x7 → x7 ≤ 4 → ((-x7) + 4) < N → jEv (jOk 9) none (fun _ => 0) c82_0 0 0 (PM G [(1000000, 0)] h m1 0 (-1) (-1)) (c82_24, [(2, 7), (2, (r1 : Int)), (0, a2), (0, a3), (0, a4), (0, 5), (0, x6), (0, x7), j8, j9], [], h1, 0, 0)) := by
  intro N
  induction N with
  | zero => exact fun h1 x6 x7 j8 j9 g1 k1 b0 b1 b2 b3 b4 b5 b6 b7 b8 b9 b10 hm => absurd hm (by omega)
  | succ N ih =>
    show _
    intro h1 x6 x7 j8 j9 g1 k1 b0 b1 b2 b3 b4 b5 b6 b7 b8 b9 b10 hm
    have wr1 := g1.qb q1
    have zr1 := q1.1
    refine ev_iload rfl ?_
    refine ev_aload_n rfl ?_
    refine g_getp (r := 7) (c := 12) g1 ad7 (by decide) (by decide) rf7_9 ft5_9 ?_
    refine ev_iload_n rfl ?_
    refine g_iald g1 ad12 rt12 (by omega) (by omega) (fun v28206 ev28206 lv28206 uv28206 => ?_)
    refine ev_icmpge f82_126 (fun c28207 => ?_) (fun c28207 => ?_)
    · refine ev_iload rfl ?_
      exact ev_ret rfl (by decide) (by decide) ⟨_, rfl, by omega, by omega, g1, k1⟩
    · refine ev_iload rfl ?_
      refine ev_bipush ?_
      refine ev_icmpgt f82_126 (fun c28208 => absurd c28208 (by omega)) (fun c28208 => ?_)
      refine ev_aload_n rfl ?_
      refine g_getp (r := 7) (c := 10) g1 ad7 (by decide) (by decide) rf7_7 ft5_7 ?_
      refine ev_iload_n rfl ?_
      refine g_iald g1 ad10 rt10 (by omega) (by omega) (fun v28209 ev28209 lv28209 uv28209 => ?_)
      refine ev_iconst ?_
      refine ev_icmpne f82_71 (fun c28210 => ?_) (fun c28210 => ?_)
      · refine ev_iload rfl ?_
        refine ev_istore (L' := [(2, 7), (2, (r1 : Int)), (0, a2), (0, a3), (0, a4), (0, 5), (0, x6), (0, x7), (0, a4), j9]) (Nat.le_of_ble_eq_true rfl) rfl ?_
        refine ev_aload_n rfl ?_
        refine ev_aload_n rfl ?_
        refine ev_aload_n rfl ?_
        refine g_getp (r := 7) (c := 13) g1 ad7 (by decide) (by decide) rf7_10 ft5_10 ?_
        refine ev_iconst ?_
        refine ev_iload_n rfl ?_
        refine ev_imul (r := (4 * a2)) (by unfold w32; omega) ?_
        refine ev_iload rfl ?_
        refine ev_iadd (r := (4 * a2 + x7)) (by unfold w32; omega) ?_
        refine g_iald g1 ad13 rt13 (by omega) (by omega) (fun v28211 ev28211 lv28211 uv28211 => ?_)
        refine ev_iload rfl ?_
        refine ev_iload rfl ?_
        refine ev_iload rfl ?_
        refine ev_iconst ?_
        refine ev_iadd (r := 6) (by decide) ?_
        refine ev_call (jcall_v (A := [(0, 6), (0, a4), (0, x6), (0, v28211), (2, (r1 : Int))]) (S' := []) (r := 7) rfl (g1.lt ad7) (g1.tg ad7) (Nat.le_of_ble_eq_true rfl)) (jOk_le (by decide) (s82_6 g1 q1 (by omega) (by omega) (by omega) (by omega) (by omega) (by omega))) (by decide) (by decide) (fun w28212 h28212 q28212 => ?_)
        obtain ⟨v28213, rfl, lv28213, uv28213, g28212, kk28212⟩ := q28212
        have k28212 := k1.tr kk28212 (by decide)
        show jEv _ _ _ _ _ _ _ (_, [(2, 7), (2, (r1 : Int)), (0, a2), (0, a3), (0, a4), (0, 5), (0, x6), (0, x7), (0, a4), j9], [(0, v28213)], _, _, _)
        refine ev_istore (L' := [(2, 7), (2, (r1 : Int)), (0, a2), (0, a3), (0, a4), (0, 5), (0, x6), (0, x7), (0, a4), (0, v28213)]) (Nat.le_of_ble_eq_true rfl) rfl ?_
        refine ev_aload_n rfl ?_
        refine ev_iload rfl ?_
        refine ev_aload_n rfl ?_
        refine g_getp (r := 7) (c := 14) g28212 ad7 (by decide) (by decide) rf7_11 ft5_11 ?_
        refine ev_iconst ?_
        refine ev_iload_n rfl ?_
        refine ev_imul (r := (4 * a2)) (by unfold w32; omega) ?_
        refine ev_iload rfl ?_
        refine ev_iadd (r := (4 * a2 + x7)) (by unfold w32; omega) ?_
        refine g_iald g28212 ad14 rt14 (by omega) (by omega) (fun v28214 ev28214 lv28214 uv28214 => ?_)
        refine ev_iload rfl ?_
        refine ev_call (jcall_v (A := [(0, v28213), (0, v28214), (0, x6)]) (S' := []) (r := r1) rfl (g28212.qlt q1) (g28212.qtg q1) (Nat.le_of_ble_eq_true rfl)) (jOk_le (by decide) (s23 g28212 q1 (by omega) (by omega) (by omega) (by omega) (by omega) (by omega))) (by decide) (by decide) (fun w28215 h28215 q28215 => ?_)
        obtain ⟨rfl, g28215, kk28215⟩ := q28215
        have k28215 := k28212.tr kk28215 (by decide)
        show jEv _ _ _ _ _ _ _ (_, [(2, 7), (2, (r1 : Int)), (0, a2), (0, a3), (0, a4), (0, 5), (0, x6), (0, x7), (0, a4), (0, v28213)], [], _, _, _)
        refine ev_iinc (w := (x7 + 1)) (L' := [(2, 7), (2, (r1 : Int)), (0, a2), (0, a3), (0, a4), (0, 5), (0, x6), (0, (x7 + 1)), (0, a4), (0, v28213)]) rfl (by unfold w32; omega) rfl ?_
        refine ev_goto f82_24 ?_
        exact ih _ _ _ _ _ g28215 k28215 (by omega) (by omega) (by omega) (by omega) (by omega) (by omega) (by omega) (by omega) (by omega) (by omega) (by omega) (by omega)
      · refine ev_iload rfl ?_
        refine ev_iload rfl ?_
        refine ev_iconst ?_
        refine ev_iadd (r := (x7 + 1)) (by unfold w32; omega) ?_
        refine ev_iconst ?_
        refine ev_aload_n rfl ?_
        refine g_getp (r := 7) (c := 11) g1 ad7 (by decide) (by decide) rf7_8 ft5_8 ?_
        refine ev_iload_n rfl ?_
        refine g_iald g1 ad11 rt11 (by omega) (by omega) (fun v28216 ev28216 lv28216 uv28216 => ?_)
        refine g_imulG (fun v28217 ev28217 lv28217 uv28217 => ?_)
        refine g_ishlG (fun v28218 ev28218 lv28218 uv28218 => ?_)
        refine g_iorG (fun v28219 ev28219 lv28219 uv28219 => ?_)
        refine ev_goto f82_73 ?_
        refine ev_istore (L' := [(2, 7), (2, (r1 : Int)), (0, a2), (0, a3), (0, a4), (0, 5), (0, x6), (0, x7), (0, v28219), j9]) (Nat.le_of_ble_eq_true rfl) rfl ?_
        refine ev_aload_n rfl ?_
        refine ev_aload_n rfl ?_
        refine ev_aload_n rfl ?_
        refine g_getp (r := 7) (c := 13) g1 ad7 (by decide) (by decide) rf7_10 ft5_10 ?_
        refine ev_iconst ?_
        refine ev_iload_n rfl ?_
        refine ev_imul (r := (4 * a2)) (by unfold w32; omega) ?_
        refine ev_iload rfl ?_
        refine ev_iadd (r := (4 * a2 + x7)) (by unfold w32; omega) ?_
        refine g_iald g1 ad13 rt13 (by omega) (by omega) (fun v28220 ev28220 lv28220 uv28220 => ?_)
        refine ev_iload rfl ?_
        refine ev_iload rfl ?_
        refine ev_iload rfl ?_
        refine ev_iconst ?_
        refine ev_iadd (r := 6) (by decide) ?_
        refine ev_call (jcall_v (A := [(0, 6), (0, v28219), (0, x6), (0, v28220), (2, (r1 : Int))]) (S' := []) (r := 7) rfl (g1.lt ad7) (g1.tg ad7) (Nat.le_of_ble_eq_true rfl)) (jOk_le (by decide) (s82_6 g1 q1 (by omega) (by omega) (by omega) (by omega) (by omega) (by omega))) (by decide) (by decide) (fun w28221 h28221 q28221 => ?_)
        obtain ⟨v28222, rfl, lv28222, uv28222, g28221, kk28221⟩ := q28221
        have k28221 := k1.tr kk28221 (by decide)
        show jEv _ _ _ _ _ _ _ (_, [(2, 7), (2, (r1 : Int)), (0, a2), (0, a3), (0, a4), (0, 5), (0, x6), (0, x7), (0, v28219), j9], [(0, v28222)], _, _, _)
        refine ev_istore (L' := [(2, 7), (2, (r1 : Int)), (0, a2), (0, a3), (0, a4), (0, 5), (0, x6), (0, x7), (0, v28219), (0, v28222)]) (Nat.le_of_ble_eq_true rfl) rfl ?_
        refine ev_aload_n rfl ?_
        refine ev_iload rfl ?_
        refine ev_aload_n rfl ?_
        refine g_getp (r := 7) (c := 14) g28221 ad7 (by decide) (by decide) rf7_11 ft5_11 ?_
        refine ev_iconst ?_
        refine ev_iload_n rfl ?_
        refine ev_imul (r := (4 * a2)) (by unfold w32; omega) ?_
        refine ev_iload rfl ?_
        refine ev_iadd (r := (4 * a2 + x7)) (by unfold w32; omega) ?_
        refine g_iald g28221 ad14 rt14 (by omega) (by omega) (fun v28223 ev28223 lv28223 uv28223 => ?_)
        refine ev_iload rfl ?_
        refine ev_call (jcall_v (A := [(0, v28222), (0, v28223), (0, x6)]) (S' := []) (r := r1) rfl (g28221.qlt q1) (g28221.qtg q1) (Nat.le_of_ble_eq_true rfl)) (jOk_le (by decide) (s23 g28221 q1 (by omega) (by omega) (by omega) (by omega) (by omega) (by omega))) (by decide) (by decide) (fun w28224 h28224 q28224 => ?_)
        obtain ⟨rfl, g28224, kk28224⟩ := q28224
        have k28224 := k28221.tr kk28224 (by decide)
        show jEv _ _ _ _ _ _ _ (_, [(2, 7), (2, (r1 : Int)), (0, a2), (0, a3), (0, a4), (0, 5), (0, x6), (0, x7), (0, v28219), (0, v28222)], [], _, _, _)
        refine ev_iinc (w := (x7 + 1)) (L' := [(2, 7), (2, (r1 : Int)), (0, a2), (0, a3), (0, a4), (0, 5), (0, x6), (0, (x7 + 1)), (0, v28219), (0, v28222)]) rfl (by unfold w32; omega) rfl ?_
        refine ev_goto f82_24 ?_
        exact ih _ _ _ _ _ g28224 k28224 (by omega) (by omega) (by omega) (by omega) (by omega) (by omega) (by omega) (by omega) (by omega) (by omega) (by omega) (by omega)
set_option maxHeartbeats 4000000 in
theorem s82_5 {G : GH} {h : JH} (g : Gd G h) {r1 : Nat} {m1 : Int} (q1 : IsQ G r1 m1) {a2 : Int} (la2 : 0 ≤ a2) (ua2 : a2 ≤ 199) {a3 : Int} (la3 : (-1) ≤ a3) (ua3 : a3 ≤ m1 - 1) {a4 : Int} (la4 : (-2147483648) ≤ a4) (ua4 : a4 ≤ 2147483647) : jOk 10 0 0 82 [(2, 7), (2, (r1 : Int)), (0, a2), (0, a3), (0, a4), (0, 5)] h (PM G [(1000000, 0)] h m1 0 (-1) (-1)) := by
  refine ⟨by decide, by rw [ml82]; exact Nat.le_of_ble_eq_true rfl, ?_⟩
  rw [ml82, pp82]
  show jEv _ none _ c82_0 0 0 _ (c82_0, [(2, 7), (2, (r1 : Int)), (0, a2), (0, a3), (0, a4), (0, 5), (9, 0), (9, 0), (9, 0), (9, 0)], [], h, 0, 0)
  have k0 := Kp.rf [(1000000, 0)] h
  have wr1 := g.qb q1
  have zr1 := q1.1
  refine ev_aload_n rfl ?_
  refine ev_aload_n rfl ?_
  refine g_getp (r := 7) (c := 10) g ad7 (by decide) (by decide) rf7_7 ft5_7 ?_
  refine ev_iload_n rfl ?_
  refine g_iald g ad10 rt10 (by omega) (by omega) (fun v28225 ev28225 lv28225 uv28225 => ?_)
  refine ev_aload_n rfl ?_
  refine g_getp (r := 7) (c := 11) g ad7 (by decide) (by decide) rf7_8 ft5_8 ?_
  refine ev_iload_n rfl ?_
  refine g_iald g ad11 rt11 (by omega) (by omega) (fun v28226 ev28226 lv28226 uv28226 => ?_)
  refine ev_iload_n rfl ?_
  refine ev_iload rfl ?_
  refine ev_call (jcall_v (A := [(0, a4), (0, a3), (0, v28226), (0, v28225)]) (S' := []) (r := r1) rfl (g.qlt q1) (g.qtg q1) (Nat.le_of_ble_eq_true rfl)) (jOk_le (by decide) (s22 g q1 (by omega) (by omega) (by omega) (by omega) (by omega) (by omega) (by omega) (by omega))) (by decide) (by decide) (fun w28227 h28227 q28227 => ?_)
  obtain ⟨v28228, rfl, lv28228, uv28228, g28227, kk28227⟩ := q28227
  have k28227 := k0.tr kk28227 (by decide)
  show jEv _ _ _ _ _ _ _ (_, [(2, 7), (2, (r1 : Int)), (0, a2), (0, a3), (0, a4), (0, 5), (9, 0), (9, 0), (9, 0), (9, 0)], [(0, v28228)], _, _, _)
  refine ev_istore (L' := [(2, 7), (2, (r1 : Int)), (0, a2), (0, a3), (0, a4), (0, 5), (0, v28228), (9, 0), (9, 0), (9, 0)]) (Nat.le_of_ble_eq_true rfl) rfl ?_
  refine ev_iconst ?_
  refine ev_istore (L' := [(2, 7), (2, (r1 : Int)), (0, a2), (0, a3), (0, a4), (0, 5), (0, v28228), (0, 0), (9, 0), (9, 0)]) (Nat.le_of_ble_eq_true rfl) rfl ?_
  exact (s82_5_l q1 la2 ua2 la3 ua3 la4 ua4 10) _ _ _ _ _ g28227 k28227 (by omega) (by omega) (by omega) (by omega) (by omega) (by omega) (by omega) (by omega) (by omega) (by omega) (by omega) (by omega)
/-! s82_4  -/
set_option maxHeartbeats 4000000 in
theorem s82_4_l {G : GH} {h : JH} {r1 : Nat} {m1 : Int} (q1 : IsQ G r1 m1) {a2 : Int} (la2 : 0 ≤ a2) (ua2 : a2 ≤ 199) {a3 : Int} (la3 : (-1) ≤ a3) (ua3 : a3 ≤ m1 - 1) {a4 : Int} (la4 : (-2147483648) ≤ a4) (ua4 : a4 ≤ 2147483647) : ∀ N : Nat, (∀ (h1 : JH) (x6 x7 : Int) (j8 j9 : AV), Gd G h1 → Kp [(1000000, 0)] h h1 → 0 ≤ a2 → a2 ≤ 199 → (-1) ≤ a3 → a3 ≤ 99 → (-2147483648) ≤ a4 → a4 ≤ 2147483647 → (-1) ≤ x6 → x6 ≤ 99 → x6 ≤ m1 - 1 → 0 ≤ x7 → x7 ≤ 4 → ((-x7) + 4) < N → jEv (jOk 10) none (fun _ => 0) c82_0 0 0 (PM G [(1000000, 0)] h m1 0 (-1) (-1)) (c82_24, [(2, 7), (2, (r1 : Int)), (0, a2), (0, a3), (0, a4), (0, 4), (0, x6), (0, x7), j8, j9], [], h1, 0, 0)) := by
  intro N
  induction N with
  | zero => exact fun h1 x6 x7 j8 j9 g1 k1 b0 b1 b2 b3 b4 b5 b6 b7 b8 b9 b10 hm => absurd hm (by omega)
  | succ N ih =>
    show _
    intro h1 x6 x7 j8 j9 g1 k1 b0 b1 b2 b3 b4 b5 b6 b7 b8 b9 b10 hm
    have wr1 := g1.qb q1
    have zr1 := q1.1
    refine ev_iload rfl ?_
    refine ev_aload_n rfl ?_
    refine g_getp (r := 7) (c := 12) g1 ad7 (by decide) (by decide) rf7_9 ft5_9 ?_
    refine ev_iload_n rfl ?_
    refine g_iald g1 ad12 rt12 (by omega) (by omega) (fun v28351 ev28351 lv28351 uv28351 => ?_)
    refine ev_icmpge f82_126 (fun c28352 => ?_) (fun c28352 => ?_)
    · refine ev_iload rfl ?_
      exact ev_ret rfl (by decide) (by decide) ⟨_, rfl, by omega, by omega, g1, k1⟩
    · refine ev_iload rfl ?_
      refine ev_bipush ?_
      refine ev_icmpgt f82_126 (fun c28353 => absurd c28353 (by omega)) (fun c28353 => ?_)
      refine ev_aload_n rfl ?_
      refine g_getp (r := 7) (c := 10) g1 ad7 (by decide) (by decide) rf7_7 ft5_7 ?_
      refine ev_iload_n rfl ?_
      refine g_iald g1 ad10 rt10 (by omega) (by omega) (fun v28354 ev28354 lv28354 uv28354 => ?_)
      refine ev_iconst ?_
      refine ev_icmpne f82_71 (fun c28355 => ?_) (fun c28355 => ?_)
      · refine ev_iload rfl ?_
        refine ev_istore (L' := [(2, 7), (2, (r1 : Int)), (0, a2), (0, a3), (0, a4), (0, 4), (0, x6), (0, x7), (0, a4), j9]) (Nat.le_of_ble_eq_true rfl) rfl ?_
        refine ev_aload_n rfl ?_
        refine ev_aload_n rfl ?_
        refine ev_aload_n rfl ?_
        refine g_getp (r := 7) (c := 13) g1 ad7 (by decide) (by decide) rf7_10 ft5_10 ?_
        refine ev_iconst ?_
        refine ev_iload_n rfl ?_
        refine ev_imul (r := (4 * a2)) (by unfold w32; omega) ?_
        refine ev_iload rfl ?_
        refine ev_iadd (r := (4 * a2 + x7)) (by unfold w32; omega) ?_
        refine g_iald g1 ad13 rt13 (by omega) (by omega) (fun v28356 ev28356 lv28356 uv28356 => ?_)
        refine ev_iload rfl ?_
        refine ev_iload rfl ?_
        refine ev_iload rfl ?_
        refine ev_iconst ?_
        refine ev_iadd (r := 5) (by decide) ?_
        refine ev_call (jcall_v (A := [(0, 5), (0, a4), (0, x6), (0, v28356), (2, (r1 : Int))]) (S' := []) (r := 7) rfl (g1.lt ad7) (g1.tg ad7) (Nat.le_of_ble_eq_true rfl)) (jOk_le (by decide) (s82_5 g1 q1 (by omega) (by omega) (by omega) (by omega) (by omega) (by omega))) (by decide) (by decide) (fun w28357 h28357 q28357 => ?_)
        obtain ⟨v28358, rfl, lv28358, uv28358, g28357, kk28357⟩ := q28357
        have k28357 := k1.tr kk28357 (by decide)
        show jEv _ _ _ _ _ _ _ (_, [(2, 7), (2, (r1 : Int)), (0, a2), (0, a3), (0, a4), (0, 4), (0, x6), (0, x7), (0, a4), j9], [(0, v28358)], _, _, _)
        refine ev_istore (L' := [(2, 7), (2, (r1 : Int)), (0, a2), (0, a3), (0, a4), (0, 4), (0, x6), (0, x7), (0, a4), (0, v28358)]) (Nat.le_of_ble_eq_true rfl) rfl ?_
        refine ev_aload_n rfl ?_
        refine ev_iload rfl ?_
        refine ev_aload_n rfl ?_
        refine g_getp (r := 7) (c := 14) g28357 ad7 (by decide) (by decide) rf7_11 ft5_11 ?_
        refine ev_iconst ?_
        refine ev_iload_n rfl ?_
        refine ev_imul (r := (4 * a2)) (by unfold w32; omega) ?_
        refine ev_iload rfl ?_
        refine ev_iadd (r := (4 * a2 + x7)) (by unfold w32; omega) ?_
        refine g_iald g28357 ad14 rt14 (by omega) (by omega) (fun v28359 ev28359 lv28359 uv28359 => ?_)
        refine ev_iload rfl ?_
        refine ev_call (jcall_v (A := [(0, v28358), (0, v28359), (0, x6)]) (S' := []) (r := r1) rfl (g28357.qlt q1) (g28357.qtg q1) (Nat.le_of_ble_eq_true rfl)) (jOk_le (by decide) (s23 g28357 q1 (by omega) (by omega) (by omega) (by omega) (by omega) (by omega))) (by decide) (by decide) (fun w28360 h28360 q28360 => ?_)
        obtain ⟨rfl, g28360, kk28360⟩ := q28360
        have k28360 := k28357.tr kk28360 (by decide)
        show jEv _ _ _ _ _ _ _ (_, [(2, 7), (2, (r1 : Int)), (0, a2), (0, a3), (0, a4), (0, 4), (0, x6), (0, x7), (0, a4), (0, v28358)], [], _, _, _)
        refine ev_iinc (w := (x7 + 1)) (L' := [(2, 7), (2, (r1 : Int)), (0, a2), (0, a3), (0, a4), (0, 4), (0, x6), (0, (x7 + 1)), (0, a4), (0, v28358)]) rfl (by unfold w32; omega) rfl ?_
        refine ev_goto f82_24 ?_
        exact ih _ _ _ _ _ g28360 k28360 (by omega) (by omega) (by omega) (by omega) (by omega) (by omega) (by omega) (by omega) (by omega) (by omega) (by omega) (by omega)
      · refine ev_iload rfl ?_
        refine ev_iload rfl ?_
        refine ev_iconst ?_
        refine ev_iadd (r := (x7 + 1)) (by unfold w32; omega) ?_
        refine ev_iconst ?_
        refine ev_aload_n rfl ?_
        refine g_getp (r := 7) (c := 11) g1 ad7 (by decide) (by decide) rf7_8 ft5_8 ?_
        refine ev_iload_n rfl ?_
        refine g_iald g1 ad11 rt11 (by omega) (by omega) (fun v28361 ev28361 lv28361 uv28361 => ?_)
        refine g_imulG (fun v28362 ev28362 lv28362 uv28362 => ?_)
        refine g_ishlG (fun v28363 ev28363 lv28363 uv28363 => ?_)
        refine g_iorG (fun v28364 ev28364 lv28364 uv28364 => ?_)
        refine ev_goto f82_73 ?_
        refine ev_istore (L' := [(2, 7), (2, (r1 : Int)), (0, a2), (0, a3), (0, a4), (0, 4), (0, x6), (0, x7), (0, v28364), j9]) (Nat.le_of_ble_eq_true rfl) rfl ?_
        refine ev_aload_n rfl ?_
        refine ev_aload_n rfl ?_
        refine ev_aload_n rfl ?_
        refine g_getp (r := 7) (c := 13) g1 ad7 (by decide) (by decide) rf7_10 ft5_10 ?_
        refine ev_iconst ?_
        refine ev_iload_n rfl ?_
        refine ev_imul (r := (4 * a2)) (by unfold w32; omega) ?_
        refine ev_iload rfl ?_
        refine ev_iadd (r := (4 * a2 + x7)) (by unfold w32; omega) ?_
        refine g_iald g1 ad13 rt13 (by omega) (by omega) (fun v28365 ev28365 lv28365 uv28365 => ?_)
        refine ev_iload rfl ?_
        refine ev_iload rfl ?_
        refine ev_iload rfl ?_
        refine ev_iconst ?_
        refine ev_iadd (r := 5) (by decide) ?_
        refine ev_call (jcall_v (A := [(0, 5), (0, v28364), (0, x6), (0, v28365), (2, (r1 : Int))]) (S' := []) (r := 7) rfl (g1.lt ad7) (g1.tg ad7) (Nat.le_of_ble_eq_true rfl)) (jOk_le (by decide) (s82_5 g1 q1 (by omega) (by omega) (by omega) (by omega) (by omega) (by omega))) (by decide) (by decide) (fun w28366 h28366 q28366 => ?_)
        obtain ⟨v28367, rfl, lv28367, uv28367, g28366, kk28366⟩ := q28366
        have k28366 := k1.tr kk28366 (by decide)
        show jEv _ _ _ _ _ _ _ (_, [(2, 7), (2, (r1 : Int)), (0, a2), (0, a3), (0, a4), (0, 4), (0, x6), (0, x7), (0, v28364), j9], [(0, v28367)], _, _, _)
        refine ev_istore (L' := [(2, 7), (2, (r1 : Int)), (0, a2), (0, a3), (0, a4), (0, 4), (0, x6), (0, x7), (0, v28364), (0, v28367)]) (Nat.le_of_ble_eq_true rfl) rfl ?_
        refine ev_aload_n rfl ?_
        refine ev_iload rfl ?_
        refine ev_aload_n rfl ?_
        refine g_getp (r := 7) (c := 14) g28366 ad7 (by decide) (by decide) rf7_11 ft5_11 ?_
        refine ev_iconst ?_
        refine ev_iload_n rfl ?_
        refine ev_imul (r := (4 * a2)) (by unfold w32; omega) ?_
        refine ev_iload rfl ?_
        refine ev_iadd (r := (4 * a2 + x7)) (by unfold w32; omega) ?_
        refine g_iald g28366 ad14 rt14 (by omega) (by omega) (fun v28368 ev28368 lv28368 uv28368 => ?_)
        refine ev_iload rfl ?_
        refine ev_call (jcall_v (A := [(0, v28367), (0, v28368), (0, x6)]) (S' := []) (r := r1) rfl (g28366.qlt q1) (g28366.qtg q1) (Nat.le_of_ble_eq_true rfl)) (jOk_le (by decide) (s23 g28366 q1 (by omega) (by omega) (by omega) (by omega) (by omega) (by omega))) (by decide) (by decide) (fun w28369 h28369 q28369 => ?_)
        obtain ⟨rfl, g28369, kk28369⟩ := q28369
        have k28369 := k28366.tr kk28369 (by decide)
        show jEv _ _ _ _ _ _ _ (_, [(2, 7), (2, (r1 : Int)), (0, a2), (0, a3), (0, a4), (0, 4), (0, x6), (0, x7), (0, v28364), (0, v28367)], [], _, _, _)
        refine ev_iinc (w := (x7 + 1)) (L' := [(2, 7), (2, (r1 : Int)), (0, a2), (0, a3), (0, a4), (0, 4), (0, x6), (0, (x7 + 1)), (0, v28364), (0, v28367)]) rfl (by unfold w32; omega) rfl ?_
        refine ev_goto f82_24 ?_
        exact ih _ _ _ _ _ g28369 k28369 (by omega) (by omega) (by omega) (by omega) (by omega) (by omega) (by omega) (by omega) (by omega) (by omega) (by omega) (by omega)
set_option maxHeartbeats 4000000 in
theorem s82_4 {G : GH} {h : JH} (g : Gd G h) {r1 : Nat} {m1 : Int} (q1 : IsQ G r1 m1) {a2 : Int} (la2 : 0 ≤ a2) (ua2 : a2 ≤ 199) {a3 : Int} (la3 : (-1) ≤ a3) (ua3 : a3 ≤ m1 - 1) {a4 : Int} (la4 : (-2147483648) ≤ a4) (ua4 : a4 ≤ 2147483647) : jOk 11 0 0 82 [(2, 7), (2, (r1 : Int)), (0, a2), (0, a3), (0, a4), (0, 4)] h (PM G [(1000000, 0)] h m1 0 (-1) (-1)) := by
  refine ⟨by decide, by rw [ml82]; exact Nat.le_of_ble_eq_true rfl, ?_⟩
  rw [ml82, pp82]
  show jEv _ none _ c82_0 0 0 _ (c82_0, [(2, 7), (2, (r1 : Int)), (0, a2), (0, a3), (0, a4), (0, 4), (9, 0), (9, 0), (9, 0), (9, 0)], [], h, 0, 0)
  have k0 := Kp.rf [(1000000, 0)] h
  have wr1 := g.qb q1
  have zr1 := q1.1
  refine ev_aload_n rfl ?_
  refine ev_aload_n rfl ?_
  refine g_getp (r := 7) (c := 10) g ad7 (by decide) (by decide) rf7_7 ft5_7 ?_
  refine ev_iload_n rfl ?_
  refine g_iald g ad10 rt10 (by omega) (by omega) (fun v28370 ev28370 lv28370 uv28370 => ?_)
  refine ev_aload_n rfl ?_
  refine g_getp (r := 7) (c := 11) g ad7 (by decide) (by decide) rf7_8 ft5_8 ?_
  refine ev_iload_n rfl ?_
  refine g_iald g ad11 rt11 (by omega) (by omega) (fun v28371 ev28371 lv28371 uv28371 => ?_)
  refine ev_iload_n rfl ?_
  refine ev_iload rfl ?_
  refine ev_call (jcall_v (A := [(0, a4), (0, a3), (0, v28371), (0, v28370)]) (S' := []) (r := r1) rfl (g.qlt q1) (g.qtg q1) (Nat.le_of_ble_eq_true rfl)) (jOk_le (by decide) (s22 g q1 (by omega) (by omega) (by omega) (by omega) (by omega) (by omega) (by omega) (by omega))) (by decide) (by decide) (fun w28372 h28372 q28372 => ?_)
  obtain ⟨v28373, rfl, lv28373, uv28373, g28372, kk28372⟩ := q28372
  have k28372 := k0.tr kk28372 (by decide)
  show jEv _ _ _ _ _ _ _ (_, [(2, 7), (2, (r1 : Int)), (0, a2), (0, a3), (0, a4), (0, 4), (9, 0), (9, 0), (9, 0), (9, 0)], [(0, v28373)], _, _, _)
  refine ev_istore (L' := [(2, 7), (2, (r1 : Int)), (0, a2), (0, a3), (0, a4), (0, 4), (0, v28373), (9, 0), (9, 0), (9, 0)]) (Nat.le_of_ble_eq_true rfl) rfl ?_
  refine ev_iconst ?_
  refine ev_istore (L' := [(2, 7), (2, (r1 : Int)), (0, a2), (0, a3), (0, a4), (0, 4), (0, v28373), (0, 0), (9, 0), (9, 0)]) (Nat.le_of_ble_eq_true rfl) rfl ?_
  exact (s82_4_l q1 la2 ua2 la3 ua3 la4 ua4 10) _ _ _ _ _ g28372 k28372 (by omega) (by omega) (by omega) (by omega) (by omega) (by omega) (by omega) (by omega) (by omega) (by omega) (by omega) (by omega)
/-! s82_3  -/
set_option maxHeartbeats 4000000 in
theorem s82_3_l {G : GH} {h : JH} {r1 : Nat} {m1 : Int} (q1 : IsQ G r1 m1) {a2 : Int} (la2 : 0 ≤ a2) (ua2 : a2 ≤ 199) {a3 : Int} (la3 : (-1) ≤ a3) (ua3 : a3 ≤ m1 - 1) {a4 : Int} (la4 : (-2147483648) ≤ a4) (ua4 : a4 ≤ 2147483647) : ∀ N : Nat, (∀ (h1 : JH) (x6 x7 : Int) (j8 j9 : AV), Gd G h1 → Kp [(1000000, 0)] h h1 → 0 ≤ a2 → a2 ≤ 199 → (-1) ≤ a3 → a3 ≤ 99 → (-2147483648) ≤ a4 → a4 ≤ 2147483647 → (-1) ≤ x6 → x6 ≤ 99 → x6 ≤ m1 - 1 → 0 ≤ x7 → x7 ≤ 4 → ((-x7) + 4) < N → jEv (jOk 11) none (fun _ => 0) c82_0 0 0 (PM G [(1000000, 0)] h m1 0 (-1) (-1)) (c82_24, [(2, 7), (2, (r1 : Int)), (0, a2), (0, a3), (0, a4), (0, 3), (0, x6), (0, x7), j8, j9], [], h1, 0, 0)) := by
  intro N
  induction N with
  | zero => exact fun h1 x6 x7 j8 j9 g1 k1 b0 b1 b2 b3 b4 b5 b6 b7 b8 b9 b10 hm => absurd hm (by omega)
  | succ N ih =>
    show _
    intro h1 x6 x7 j8 j9 g1 k1 b0 b1 b2 b3 b4 b5 b6 b7 b8 b9 b10 hm
    have wr1 := g1.qb q1
    have zr1 := q1.1
    refine ev_iload rfl ?_
    refine ev_aload_n rfl ?_
    refine g_getp (r := 7) (c := 12) g1 ad7 (by decide) (by decide) rf7_9 ft5_9 ?_
    refine ev_iload_n rfl ?_
    refine g_iald g1 ad12 rt12 (by omega) (by omega) (fun v28496 ev28496 lv28496 uv28496 => ?_)
    refine ev_icmpge f82_126 (fun c28497 => ?_) (fun c28497 => ?_)
    · refine ev_iload rfl ?_
      exact ev_ret rfl (by decide) (by decide) ⟨_, rfl, by omega, by omega, g1, k1⟩
    · refine ev_iload rfl ?_
      refine ev_bipush ?_
      refine ev_icmpgt f82_126 (fun c28498 => absurd c28498 (by omega)) (fun c28498 => ?_)
      refine ev_aload_n rfl ?_
      refine g_getp (r := 7) (c := 10) g1 ad7 (by decide) (by decide) rf7_7 ft5_7 ?_
      refine ev_iload_n rfl ?_
      refine g_iald g1 ad10 rt10 (by omega) (by omega) (fun v28499 ev28499 lv28499 uv28499 => ?_)
      refine ev_iconst ?_
      refine ev_icmpne f82_71 (fun c28500 => ?_) (fun c28500 => ?_)
      · refine ev_iload rfl ?_
        refine ev_istore (L' := [(2, 7), (2, (r1 : Int)), (0, a2), (0, a3), (0, a4), (0, 3), (0, x6), (0, x7), (0, a4), j9]) (Nat.le_of_ble_eq_true rfl) rfl ?_
        refine ev_aload_n rfl ?_
        refine ev_aload_n rfl ?_
        refine ev_aload_n rfl ?_
        refine g_getp (r := 7) (c := 13) g1 ad7 (by decide) (by decide) rf7_10 ft5_10 ?_
        refine ev_iconst ?_
        refine ev_iload_n rfl ?_
        refine ev_imul (r := (4 * a2)) (by unfold w32; omega) ?_
        refine ev_iload rfl ?_
        refine ev_iadd (r := (4 * a2 + x7)) (by unfold w32; omega) ?_
        refine g_iald g1 ad13 rt13 (by omega) (by omega) (fun v28501 ev28501 lv28501 uv28501 => ?_)
        refine ev_iload rfl ?_
        refine ev_iload rfl ?_
        refine ev_iload rfl ?_
        refine ev_iconst ?_
        refine ev_iadd (r := 4) (by decide) ?_
        refine ev_call (jcall_v (A := [(0, 4), (0, a4), (0, x6), (0, v28501), (2, (r1 : Int))]) (S' := []) (r := 7) rfl (g1.lt ad7) (g1.tg ad7) (Nat.le_of_ble_eq_true rfl)) (jOk_le (by decide) (s82_4 g1 q1 (by omega) (by omega) (by omega) (by omega) (by omega) (by omega))) (by decide) (by decide) (fun w28502 h28502 q28502 => ?_)
        obtain ⟨v28503, rfl, lv28503, uv28503, g28502, kk28502⟩ := q28502
        have k28502 := k1.tr kk28502 (by decide)
        show jEv _ _ _ _ _ _ _ (_, [(2, 7), (2, (r1 : Int)), (0, a2), (0, a3), (0, a4), (0, 3), (0, x6), (0, x7), (0, a4), j9], [(0, v28503)], _, _, _)
        refine ev_istore (L' := [(2, 7), (2, (r1 : Int)), (0, a2), (0, a3), (0, a4), (0, 3), (0, x6), (0, x7), (0, a4), (0, v28503)]) (Nat.le_of_ble_eq_true rfl) rfl ?_
        refine ev_aload_n rfl ?_
        refine ev_iload rfl ?_
        refine ev_aload_n rfl ?_
        refine g_getp (r := 7) (c := 14) g28502 ad7 (by decide) (by decide) rf7_11 ft5_11 ?_
        refine ev_iconst ?_
        refine ev_iload_n rfl ?_
        refine ev_imul (r := (4 * a2)) (by unfold w32; omega) ?_
        refine ev_iload rfl ?_
        refine ev_iadd (r := (4 * a2 + x7)) (by unfold w32; omega) ?_
        refine g_iald g28502 ad14 rt14 (by omega) (by omega) (fun v28504 ev28504 lv28504 uv28504 => ?_)
        refine ev_iload rfl ?_
        refine ev_call (jcall_v (A := [(0, v28503), (0, v28504), (0, x6)]) (S' := []) (r := r1) rfl (g28502.qlt q1) (g28502.qtg q1) (Nat.le_of_ble_eq_true rfl)) (jOk_le (by decide) (s23 g28502 q1 (by omega) (by omega) (by omega) (by omega) (by omega) (by omega))) (by decide) (by decide) (fun w28505 h28505 q28505 => ?_)
        obtain ⟨rfl, g28505, kk28505⟩ := q28505
        have k28505 := k28502.tr kk28505 (by decide)
        show jEv _ _ _ _ _ _ _ (_, [(2, 7), (2, (r1 : Int)), (0, a2), (0, a3), (0, a4), (0, 3), (0, x6), (0, x7), (0, a4), (0, v28503)], [], _, _, _)
        refine ev_iinc (w := (x7 + 1)) (L' := [(2, 7), (2, (r1 : Int)), (0, a2), (0, a3), (0, a4), (0, 3), (0, x6), (0, (x7 + 1)), (0, a4), (0, v28503)]) rfl (by unfold w32; omega) rfl ?_
        refine ev_goto f82_24 ?_
        exact ih _ _ _ _ _ g28505 k28505 (by omega) (by omega) (by omega) (by omega) (by omega) (by omega) (by omega) (by omega) (by omega) (by omega) (by omega) (by omega)
      · refine ev_iload rfl ?_
        refine ev_iload rfl ?_
        refine ev_iconst ?_
        refine ev_iadd (r := (x7 + 1)) (by unfold w32; omega) ?_
        refine ev_iconst ?_
        refine ev_aload_n rfl ?_
        refine g_getp (r := 7) (c := 11) g1 ad7 (by decide) (by decide) rf7_8 ft5_8 ?_
        refine ev_iload_n rfl ?_
        refine g_iald g1 ad11 rt11 (by omega) (by omega) (fun v28506 ev28506 lv28506 uv28506 => ?_)
        refine g_imulG (fun v28507 ev28507 lv28507 uv28507 => ?_)
        refine g_ishlG (fun v28508 ev28508 lv28508 uv28508 => ?_)
        refine g_iorG (fun v28509 ev28509 lv28509 uv28509 => ?_)
        refine ev_goto f82_73 ?_
        refine ev_istore (L' := [(2, 7), (2, (r1 : Int)), (0, a2), (0, a3), (0, a4), (0, 3), (0, x6), (0, x7), (0, v28509), j9]) (Nat.le_of_ble_eq_true rfl) rfl ?_
        refine ev_aload_n rfl ?_
        refine ev_aload_n rfl ?_
        refine ev_aload_n rfl ?_
        refine g_getp (r := 7) (c := 13) g1 ad7 (by decide) (by decide) rf7_10 ft5_10 ?_
        refine ev_iconst ?_
        refine ev_iload_n rfl ?_
        refine ev_imul (r := (4 * a2)) (by unfold w32; omega) ?_
        refine ev_iload rfl ?_
        refine ev_iadd (r := (4 * a2 + x7)) (by unfold w32; omega) ?_
        refine g_iald g1 ad13 rt13 (by omega) (by omega) (fun v28510 ev28510 lv28510 uv28510 => ?_)
        refine ev_iload rfl ?_
        refine ev_iload rfl ?_
        refine ev_iload rfl ?_
        refine ev_iconst ?_
        refine ev_iadd (r := 4) (by decide) ?_
        refine ev_call (jcall_v (A := [(0, 4), (0, v28509), (0, x6), (0, v28510), (2, (r1 : Int))]) (S' := []) (r := 7) rfl (g1.lt ad7) (g1.tg ad7) (Nat.le_of_ble_eq_true rfl)) (jOk_le (by decide) (s82_4 g1 q1 (by omega) (by omega) (by omega) (by omega) (by omega) (by omega))) (by decide) (by decide) (fun w28511 h28511 q28511 => ?_)
        obtain ⟨v28512, rfl, lv28512, uv28512, g28511, kk28511⟩ := q28511
        have k28511 := k1.tr kk28511 (by decide)
        show jEv _ _ _ _ _ _ _ (_, [(2, 7), (2, (r1 : Int)), (0, a2), (0, a3), (0, a4), (0, 3), (0, x6), (0, x7), (0, v28509), j9], [(0, v28512)], _, _, _)
        refine ev_istore (L' := [(2, 7), (2, (r1 : Int)), (0, a2), (0, a3), (0, a4), (0, 3), (0, x6), (0, x7), (0, v28509), (0, v28512)]) (Nat.le_of_ble_eq_true rfl) rfl ?_
        refine ev_aload_n rfl ?_
        refine ev_iload rfl ?_
        refine ev_aload_n rfl ?_
        refine g_getp (r := 7) (c := 14) g28511 ad7 (by decide) (by decide) rf7_11 ft5_11 ?_
        refine ev_iconst ?_
        refine ev_iload_n rfl ?_
        refine ev_imul (r := (4 * a2)) (by unfold w32; omega) ?_
        refine ev_iload rfl ?_
        refine ev_iadd (r := (4 * a2 + x7)) (by unfold w32; omega) ?_
        refine g_iald g28511 ad14 rt14 (by omega) (by omega) (fun v28513 ev28513 lv28513 uv28513 => ?_)
        refine ev_iload rfl ?_
        refine ev_call (jcall_v (A := [(0, v28512), (0, v28513), (0, x6)]) (S' := []) (r := r1) rfl (g28511.qlt q1) (g28511.qtg q1) (Nat.le_of_ble_eq_true rfl)) (jOk_le (by decide) (s23 g28511 q1 (by omega) (by omega) (by omega) (by omega) (by omega) (by omega))) (by decide) (by decide) (fun w28514 h28514 q28514 => ?_)
        obtain ⟨rfl, g28514, kk28514⟩ := q28514
        have k28514 := k28511.tr kk28514 (by decide)
        show jEv _ _ _ _ _ _ _ (_, [(2, 7), (2, (r1 : Int)), (0, a2), (0, a3), (0, a4), (0, 3), (0, x6), (0, x7), (0, v28509), (0, v28512)], [], _, _, _)
        refine ev_iinc (w := (x7 + 1)) (L' := [(2, 7), (2, (r1 : Int)), (0, a2), (0, a3), (0, a4), (0, 3), (0, x6), (0, (x7 + 1)), (0, v28509), (0, v28512)]) rfl (by unfold w32; omega) rfl ?_
        refine ev_goto f82_24 ?_
        exact ih _ _ _ _ _ g28514 k28514 (by omega) (by omega) (by omega) (by omega) (by omega) (by omega) (by omega) (by omega) (by omega) (by omega) (by omega) (by omega)
set_option maxHeartbeats 4000000 in
theorem s82_3 {G : GH} {h : JH} (g : Gd G h) {r1 : Nat} {m1 : Int} (q1 : IsQ G r1 m1) {a2 : Int} (la2 : 0 ≤ a2) (ua2 : a2 ≤ 199) {a3 : Int} (la3 : (-1) ≤ a3) (ua3 : a3 ≤ m1 - 1) {a4 : Int} (la4 : (-2147483648) ≤ a4) (ua4 : a4 ≤ 2147483647) : jOk 12 0 0 82 [(2, 7), (2, (r1 : Int)), (0, a2), (0, a3), (0, a4), (0, 3)] h (PM G [(1000000, 0)] h m1 0 (-1) (-1)) := by
  refine ⟨by decide, by rw [ml82]; exact Nat.le_of_ble_eq_true rfl, ?_⟩
  rw [ml82, pp82]
  show jEv _ none _ c82_0 0 0 _ (c82_0, [(2, 7), (2, (r1 : Int)), (0, a2), (0, a3), (0, a4), (0, 3), (9, 0), (9, 0), (9, 0), (9, 0)], [], h, 0, 0)
  have k0 := Kp.rf [(1000000, 0)] h
  have wr1 := g.qb q1
  have zr1 := q1.1
  refine ev_aload_n rfl ?_
  refine ev_aload_n rfl ?_
  refine g_getp (r := 7) (c := 10) g ad7 (by decide) (by decide) rf7_7 ft5_7 ?_
  refine ev_iload_n rfl ?_
  refine g_iald g ad10 rt10 (by omega) (by omega) (fun v28515 ev28515 lv28515 uv28515 => ?_)
  refine ev_aload_n rfl ?_
  refine g_getp (r := 7) (c := 11) g ad7 (by decide) (by decide) rf7_8 ft5_8 ?_
  refine ev_iload_n rfl ?_
  refine g_iald g ad11 rt11 (by omega) (by omega) (fun v28516 ev28516 lv28516 uv28516 => ?_)
  refine ev_iload_n rfl ?_
  refine ev_iload rfl ?_
  refine ev_call (jcall_v (A := [(0, a4), (0, a3), (0, v28516), (0, v28515)]) (S' := []) (r := r1) rfl (g.qlt q1) (g.qtg q1) (Nat.le_of_ble_eq_true rfl)) (jOk_le (by decide) (s22 g q1 (by omega) (by omega) (by omega) (by omega) (by omega) (by omega) (by omega) (by omega))) (by decide) (by decide) (fun w28517 h28517 q28517 => ?_)
  obtain ⟨v28518, rfl, lv28518, uv28518, g28517, kk28517⟩ := q28517
  have k28517 := k0.tr kk28517 (by decide)
  show jEv _ _ _ _ _ _ _ (_, [(2, 7), (2, (r1 : Int)), (0, a2), (0, a3), (0, a4), (0, 3), (9, 0), (9, 0), (9, 0), (9, 0)], [(0, v28518)], _, _, _)
  refine ev_istore (L' := [(2, 7), (2, (r1 : Int)), (0, a2), (0, a3), (0, a4), (0, 3), (0, v28518), (9, 0), (9, 0), (9, 0)]) (Nat.le_of_ble_eq_true rfl) rfl ?_
  refine ev_iconst ?_
  refine ev_istore (L' := [(2, 7), (2, (r1 : Int)), (0, a2), (0, a3), (0, a4), (0, 3), (0, v28518), (0, 0), (9, 0), (9, 0)]) (Nat.le_of_ble_eq_true rfl) rfl ?_
  exact (s82_3_l q1 la2 ua2 la3 ua3 la4 ua4 10) _ _ _ _ _ g28517 k28517 (by omega) (by omega) (by omega) (by omega) (by omega) (by omega) (by omega) (by omega) (by omega) (by omega) (by omega) (by omega)
/-! s82_2  -/
set_option maxHeartbeats 4000000 in
theorem s82_2_l {G : GH} {h : JH} {r1 : Nat} {m1 : Int} (q1 : IsQ G r1 m1) {a2 : Int} (la2 : 0 ≤ a2) (ua2 : a2 ≤ 199) {a3 : Int} (la3 : (-1) ≤ a3) (ua3 : a3 ≤ m1 - 1) {a4 : Int} (la4 : (-2147483648) ≤ a4) (ua4 : a4 ≤ 2147483647) : ∀ N : Nat, (∀ (h1 : JH) (x6 x7 : Int) (j8 j9 : AV), Gd G h1 → Kp [(1000000, 0)] h h1 → 0 ≤ a2 → a2 ≤ 199 → (-1) ≤ a3 → a3 ≤ 99 → (-2147483648) ≤ a4 → a4 ≤ 2147483647 → (-1) ≤ x6 → x6 ≤ 99 → x6 ≤ m1 - 1 → 0 ≤ x7 → x7 ≤ 4 → ((-x7) + 4) < N → jEv (jOk 12) none (fun _ => 0) c82_0 0 0 (PM G [(1000000, 0)] h m1 0 (-1) (-1)) (c82_24, [(2, 7), (2, (r1 : Int)), (0, a2), (0, a3), (0, a4), (0, 2), (0, x6), (0, x7), j8, j9], [], h1, 0, 0)) := by
  intro N
  induction N with
  | zero => exact fun h1 x6 x7 j8 j9 g1 k1 b0 b1 b2 b3 b4 b5 b6 b7 b8 b9 b10 hm => absurd hm (by omega)
  | succ N ih =>
    show _
    intro h1 x6 x7 j8 j9 g1 k1 b0 b1 b2 b3 b4 b5 b6 b7 b8 b9 b10 hm
    have wr1 := g1.qb q1
    have zr1 := q1.1
    refine ev_iload rfl ?_
    refine ev_aload_n rfl ?_
    refine g_getp (r := 7) (c := 12) g1 ad7 (by decide) (by decide) rf7_9 ft5_9 ?_
    refine ev_iload_n rfl ?_
    refine g_iald g1 ad12 rt12 (by omega) (by omega) (fun v28641 ev28641 lv28641 uv28641 => ?_)
    refine ev_icmpge f82_126 (fun c28642 => ?_) (fun c28642 => ?_)
    · refine ev_iload rfl ?_
      exact ev_ret rfl (by decide) (by decide) ⟨_, rfl, by omega, by omega, g1, k1⟩
    · refine ev_iload rfl ?_
      refine ev_bipush ?_
      refine ev_icmpgt f82_126 (fun c28643 => absurd c28643 (by omega)) (fun c28643 => ?_)
      refine ev_aload_n rfl ?_
      refine g_getp (r := 7) (c := 10) g1 ad7 (by decide) (by decide) rf7_7 ft5_7 ?_
      refine ev_iload_n rfl ?_
      refine g_iald g1 ad10 rt10 (by omega) (by omega) (fun v28644 ev28644 lv28644 uv28644 => ?_)
      refine ev_iconst ?_
      refine ev_icmpne f82_71 (fun c28645 => ?_) (fun c28645 => ?_)
      · refine ev_iload rfl ?_
        refine ev_istore (L' := [(2, 7), (2, (r1 : Int)), (0, a2), (0, a3), (0, a4), (0, 2), (0, x6), (0, x7), (0, a4), j9]) (Nat.le_of_ble_eq_true rfl) rfl ?_
        refine ev_aload_n rfl ?_
        refine ev_aload_n rfl ?_
        refine ev_aload_n rfl ?_
        refine g_getp (r := 7) (c := 13) g1 ad7 (by decide) (by decide) rf7_10 ft5_10 ?_
        refine ev_iconst ?_
        refine ev_iload_n rfl ?_
        refine ev_imul (r := (4 * a2)) (by unfold w32; omega) ?_
        refine ev_iload rfl ?_
        refine ev_iadd (r := (4 * a2 + x7)) (by unfold w32; omega) ?_
        refine g_iald g1 ad13 rt13 (by omega) (by omega) (fun v28646 ev28646 lv28646 uv28646 => ?_)
        refine ev_iload rfl ?_
        refine ev_iload rfl ?_
        refine ev_iload rfl ?_
        refine ev_iconst ?_
        refine ev_iadd (r := 3) (by decide) ?_
        refine ev_call (jcall_v (A := [(0, 3), (0, a4), (0, x6), (0, v28646), (2, (r1 : Int))]) (S' := []) (r := 7) rfl (g1.lt ad7) (g1.tg ad7) (Nat.le_of_ble_eq_true rfl)) (jOk_le (by decide) (s82_3 g1 q1 (by omega) (by omega) (by omega) (by omega) (by omega) (by omega))) (by decide) (by decide) (fun w28647 h28647 q28647 => ?_)
        obtain ⟨v28648, rfl, lv28648, uv28648, g28647, kk28647⟩ := q28647
        have k28647 := k1.tr kk28647 (by decide)
        show jEv _ _ _ _ _ _ _ (_, [(2, 7), (2, (r1 : Int)), (0, a2), (0, a3), (0, a4), (0, 2), (0, x6), (0, x7), (0, a4), j9], [(0, v28648)], _, _, _)
        refine ev_istore (L' := [(2, 7), (2, (r1 : Int)), (0, a2), (0, a3), (0, a4), (0, 2), (0, x6), (0, x7), (0, a4), (0, v28648)]) (Nat.le_of_ble_eq_true rfl) rfl ?_
        refine ev_aload_n rfl ?_
        refine ev_iload rfl ?_
        refine ev_aload_n rfl ?_
        refine g_getp (r := 7) (c := 14) g28647 ad7 (by decide) (by decide) rf7_11 ft5_11 ?_
        refine ev_iconst ?_
        refine ev_iload_n rfl ?_
        refine ev_imul (r := (4 * a2)) (by unfold w32; omega) ?_
        refine ev_iload rfl ?_
        refine ev_iadd (r := (4 * a2 + x7)) (by unfold w32; omega) ?_
        refine g_iald g28647 ad14 rt14 (by omega) (by omega) (fun v28649 ev28649 lv28649 uv28649 => ?_)
        refine ev_iload rfl ?_
        refine ev_call (jcall_v (A := [(0, v28648), (0, v28649), (0, x6)]) (S' := []) (r := r1) rfl (g28647.qlt q1) (g28647.qtg q1) (Nat.le_of_ble_eq_true rfl)) (jOk_le (by decide) (s23 g28647 q1 (by omega) (by omega) (by omega) (by omega) (by omega) (by omega))) (by decide) (by decide) (fun w28650 h28650 q28650 => ?_)
        obtain ⟨rfl, g28650, kk28650⟩ := q28650
        have k28650 := k28647.tr kk28650 (by decide)
        show jEv _ _ _ _ _ _ _ (_, [(2, 7), (2, (r1 : Int)), (0, a2), (0, a3), (0, a4), (0, 2), (0, x6), (0, x7), (0, a4), (0, v28648)], [], _, _, _)
        refine ev_iinc (w := (x7 + 1)) (L' := [(2, 7), (2, (r1 : Int)), (0, a2), (0, a3), (0, a4), (0, 2), (0, x6), (0, (x7 + 1)), (0, a4), (0, v28648)]) rfl (by unfold w32; omega) rfl ?_
        refine ev_goto f82_24 ?_
        exact ih _ _ _ _ _ g28650 k28650 (by omega) (by omega) (by omega) (by omega) (by omega) (by omega) (by omega) (by omega) (by omega) (by omega) (by omega) (by omega)
      · refine ev_iload rfl ?_
        refine ev_iload rfl ?_
        refine ev_iconst ?_
        refine ev_iadd (r := (x7 + 1)) (by unfold w32; omega) ?_
        refine ev_iconst ?_
        refine ev_aload_n rfl ?_
        refine g_getp (r := 7) (c := 11) g1 ad7 (by decide) (by decide) rf7_8 ft5_8 ?_
        refine ev_iload_n rfl ?_
        refine g_iald g1 ad11 rt11 (by omega) (by omega) (fun v28651 ev28651 lv28651 uv28651 => ?_)
        refine g_imulG (fun v28652 ev28652 lv28652 uv28652 => ?_)
        refine g_ishlG (fun v28653 ev28653 lv28653 uv28653 => ?_)
        refine g_iorG (fun v28654 ev28654 lv28654 uv28654 => ?_)
        refine ev_goto f82_73 ?_
        refine ev_istore (L' := [(2, 7), (2, (r1 : Int)), (0, a2), (0, a3), (0, a4), (0, 2), (0, x6), (0, x7), (0, v28654), j9]) (Nat.le_of_ble_eq_true rfl) rfl ?_
        refine ev_aload_n rfl ?_
        refine ev_aload_n rfl ?_
        refine ev_aload_n rfl ?_
        refine g_getp (r := 7) (c := 13) g1 ad7 (by decide) (by decide) rf7_10 ft5_10 ?_
        refine ev_iconst ?_
        refine ev_iload_n rfl ?_
        refine ev_imul (r := (4 * a2)) (by unfold w32; omega) ?_
        refine ev_iload rfl ?_
        refine ev_iadd (r := (4 * a2 + x7)) (by unfold w32; omega) ?_
        refine g_iald g1 ad13 rt13 (by omega) (by omega) (fun v28655 ev28655 lv28655 uv28655 => ?_)
        refine ev_iload rfl ?_
        refine ev_iload rfl ?_
        refine ev_iload rfl ?_
        refine ev_iconst ?_
        refine ev_iadd (r := 3) (by decide) ?_
        refine ev_call (jcall_v (A := [(0, 3), (0, v28654), (0, x6), (0, v28655), (2, (r1 : Int))]) (S' := []) (r := 7) rfl (g1.lt ad7) (g1.tg ad7) (Nat.le_of_ble_eq_true rfl)) (jOk_le (by decide) (s82_3 g1 q1 (by omega) (by omega) (by omega) (by omega) (by omega) (by omega))) (by decide) (by decide) (fun w28656 h28656 q28656 => ?_)
        obtain ⟨v28657, rfl, lv28657, uv28657, g28656, kk28656⟩ := q28656
        have k28656 := k1.tr kk28656 (by decide)
        show jEv _ _ _ _ _ _ _ (_, [(2, 7), (2, (r1 : Int)), (0, a2), (0, a3), (0, a4), (0, 2), (0, x6), (0, x7), (0, v28654), j9], [(0, v28657)], _, _, _)
        refine ev_istore (L' := [(2, 7), (2, (r1 : Int)), (0, a2), (0, a3), (0, a4), (0, 2), (0, x6), (0, x7), (0, v28654), (0, v28657)]) (Nat.le_of_ble_eq_true rfl) rfl ?_
        refine ev_aload_n rfl ?_
        refine ev_iload rfl ?_
        refine ev_aload_n rfl ?_
        refine g_getp (r := 7) (c := 14) g28656 ad7 (by decide) (by decide) rf7_11 ft5_11 ?_
        refine ev_iconst ?_
        refine ev_iload_n rfl ?_
        refine ev_imul (r := (4 * a2)) (by unfold w32; omega) ?_
        refine ev_iload rfl ?_
        refine ev_iadd (r := (4 * a2 + x7)) (by unfold w32; omega) ?_
        refine g_iald g28656 ad14 rt14 (by omega) (by omega) (fun v28658 ev28658 lv28658 uv28658 => ?_)
        refine ev_iload rfl ?_
        refine ev_call (jcall_v (A := [(0, v28657), (0, v28658), (0, x6)]) (S' := []) (r := r1) rfl (g28656.qlt q1) (g28656.qtg q1) (Nat.le_of_ble_eq_true rfl)) (jOk_le (by decide) (s23 g28656 q1 (by omega) (by omega) (by omega) (by omega) (by omega) (by omega))) (by decide) (by decide) (fun w28659 h28659 q28659 => ?_)
        obtain ⟨rfl, g28659, kk28659⟩ := q28659
        have k28659 := k28656.tr kk28659 (by decide)
        show jEv _ _ _ _ _ _ _ (_, [(2, 7), (2, (r1 : Int)), (0, a2), (0, a3), (0, a4), (0, 2), (0, x6), (0, x7), (0, v28654), (0, v28657)], [], _, _, _)
        refine ev_iinc (w := (x7 + 1)) (L' := [(2, 7), (2, (r1 : Int)), (0, a2), (0, a3), (0, a4), (0, 2), (0, x6), (0, (x7 + 1)), (0, v28654), (0, v28657)]) rfl (by unfold w32; omega) rfl ?_
        refine ev_goto f82_24 ?_
        exact ih _ _ _ _ _ g28659 k28659 (by omega) (by omega) (by omega) (by omega) (by omega) (by omega) (by omega) (by omega) (by omega) (by omega) (by omega) (by omega)
set_option maxHeartbeats 4000000 in
theorem s82_2 {G : GH} {h : JH} (g : Gd G h) {r1 : Nat} {m1 : Int} (q1 : IsQ G r1 m1) {a2 : Int} (la2 : 0 ≤ a2) (ua2 : a2 ≤ 199) {a3 : Int} (la3 : (-1) ≤ a3) (ua3 : a3 ≤ m1 - 1) {a4 : Int} (la4 : (-2147483648) ≤ a4) (ua4 : a4 ≤ 2147483647) : jOk 13 0 0 82 [(2, 7), (2, (r1 : Int)), (0, a2), (0, a3), (0, a4), (0, 2)] h (PM G [(1000000, 0)] h m1 0 (-1) (-1)) := by
  refine ⟨by decide, by rw [ml82]; exact Nat.le_of_ble_eq_true rfl, ?_⟩
  rw [ml82, pp82]
  show jEv _ none _ c82_0 0 0 _ (c82_0, [(2, 7), (2, (r1 : Int)), (0, a2), (0, a3), (0, a4), (0, 2), (9, 0), (9, 0), (9, 0), (9, 0)], [], h, 0, 0)
  have k0 := Kp.rf [(1000000, 0)] h
  have wr1 := g.qb q1
  have zr1 := q1.1
  refine ev_aload_n rfl ?_
  refine ev_aload_n rfl ?_
  refine g_getp (r := 7) (c := 10) g ad7 (by decide) (by decide) rf7_7 ft5_7 ?_
  refine ev_iload_n rfl ?_
  refine g_iald g ad10 rt10 (by omega) (by omega) (fun v28660 ev28660 lv28660 uv28660 => ?_)
  refine ev_aload_n rfl ?_
  refine g_getp (r := 7) (c := 11) g ad7 (by decide) (by decide) rf7_8 ft5_8 ?_
  refine ev_iload_n rfl ?_
  refine g_iald g ad11 rt11 (by omega) (by omega) (fun v28661 ev28661 lv28661 uv28661 => ?_)
  refine ev_iload_n rfl ?_
  refine ev_iload rfl ?_
  refine ev_call (jcall_v (A := [(0, a4), (0, a3), (0, v28661), (0, v28660)]) (S' := []) (r := r1) rfl (g.qlt q1) (g.qtg q1) (Nat.le_of_ble_eq_true rfl)) (jOk_le (by decide) (s22 g q1 (by omega) (by omega) (by omega) (by omega) (by omega) (by omega) (by omega) (by omega))) (by decide) (by decide) (fun w28662 h28662 q28662 => ?_)
  obtain ⟨v28663, rfl, lv28663, uv28663, g28662, kk28662⟩ := q28662
  have k28662 := k0.tr kk28662 (by decide)
  show jEv _ _ _ _ _ _ _ (_, [(2, 7), (2, (r1 : Int)), (0, a2), (0, a3), (0, a4), (0, 2), (9, 0), (9, 0), (9, 0), (9, 0)], [(0, v28663)], _, _, _)
  refine ev_istore (L' := [(2, 7), (2, (r1 : Int)), (0, a2), (0, a3), (0, a4), (0, 2), (0, v28663), (9, 0), (9, 0), (9, 0)]) (Nat.le_of_ble_eq_true rfl) rfl ?_
  refine ev_iconst ?_
  refine ev_istore (L' := [(2, 7), (2, (r1 : Int)), (0, a2), (0, a3), (0, a4), (0, 2), (0, v28663), (0, 0), (9, 0), (9, 0)]) (Nat.le_of_ble_eq_true rfl) rfl ?_
  exact (s82_2_l q1 la2 ua2 la3 ua3 la4 ua4 10) _ _ _ _ _ g28662 k28662 (by omega) (by omega) (by omega) (by omega) (by omega) (by omega) (by omega) (by omega) (by omega) (by omega) (by omega) (by omega)
