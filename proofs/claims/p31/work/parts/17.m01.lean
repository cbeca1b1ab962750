/-! 91 felt -/
set_option maxHeartbeats 4000000 in
theorem s91 {G : GH} {h : JH} (g : Gd G h) {a1 : Int} (la1 : (-2147483648) ≤ a1) (ua1 : a1 ≤ 2147483647) : jOk 2 0 0 91 [(2, 19), (0, a1)] h (PI G [] h 0 (-2147483648) 2147483647) := by
  refine ⟨by decide, by rw [ml91]; exact Nat.le_of_ble_eq_true rfl, ?_⟩
  rw [ml91, pp91]
  show jEv _ none _ c91_0 0 0 _ (c91_0, [(2, 19), (0, a1)], [], h, 0, 0)
  have k0 := Kp.rf [] h
  refine ev_iload_n rfl ?_
  refine ev_ifle f91_13 (fun c4274 => ?_) (fun c4274 => ?_)
  · refine ev_aload_n rfl ?_
    refine ev_iload_n rfl ?_
    refine ev_iconst ?_
    refine ev_iadd (r := (a1 + 1)) (by unfold w32; omega) ?_
    refine ev_iconst ?_
    refine ev_call (jcall_v (A := [(0, 0), (0, (a1 + 1))]) (S' := []) (r := 19) rfl (g.lt ad19) (g.tg ad19) (Nat.le_of_ble_eq_true rfl)) (jOk_le (by decide) (s92 g (by omega) (by omega) (by omega) (by omega))) (by decide) (by decide) (fun w4275 h4275 q4275 => ?_)
    obtain ⟨v4276, rfl, lv4276, uv4276, g4275, kk4275⟩ := q4275
    have k4275 := k0.tr kk4275 (by decide)
    show jEv _ _ _ _ _ _ _ (_, [(2, 19), (0, a1)], [(0, v4276)], _, _, _)
    refine g_inegG (fun v4277 ev4277 lv4277 uv4277 => ?_)
    exact ev_ret rfl (by decide) (by decide) ⟨_, rfl, by omega, by omega, g4275, k4275⟩
  · refine ev_aload_n rfl ?_
    refine ev_iconst ?_
    refine ev_iload_n rfl ?_
    refine ev_call (jcall_v (A := [(0, a1), (0, 1)]) (S' := []) (r := 19) rfl (g.lt ad19) (g.tg ad19) (Nat.le_of_ble_eq_true rfl)) (jOk_le (by decide) (s92 g (by omega) (by omega) (by omega) (by omega))) (by decide) (by decide) (fun w4278 h4278 q4278 => ?_)
    obtain ⟨v4279, rfl, lv4279, uv4279, g4278, kk4278⟩ := q4278
    have k4278 := k0.tr kk4278 (by decide)
    show jEv _ _ _ _ _ _ _ (_, [(2, 19), (0, a1)], [(0, v4279)], _, _, _)
    refine ev_goto f91_22 ?_
    exact ev_ret rfl (by decide) (by decide) ⟨_, rfl, by omega, by omega, g4278, k4278⟩
/-! 94 begins -/
set_option maxHeartbeats 4000000 in
theorem s94 {G : GH} {h : JH} (g : Gd G h) {a1 : Int} (la1 : (-2147483648) ≤ a1) (ua1 : a1 ≤ 2147483647) {w0 : Int} (ew0 : h.2.2 19 5 = w0) (lw0 : 0 ≤ w0) (uw0 : w0 ≤ 999) : jOk 1 0 0 94 [(2, 19), (0, a1)] h (fun v h' => PV G [(19, 6), (22, 0)] h v h' ∧ h'.2.2 19 5 ≤ w0 + 1) := by
  refine ⟨by decide, by rw [ml94]; exact Nat.le_of_ble_eq_true rfl, ?_⟩
  rw [ml94, pp94]
  show jEv _ none _ c94_0 0 0 _ (c94_0, [(2, 19), (0, a1)], [], h, 0, 0)
  have k0 := Kp.rf [(19, 6), (22, 0)] h
  refine ev_aload_n rfl ?_
  refine g_getv (r := 19) (v := w0) g ad19 (by decide) ft7_5 (ew0) ?_
  refine ev_bipush ?_
  refine ev_icmpge f94_19 (fun c4288 => ?_) (fun c4288 => ?_)
  · refine ev_aload_n rfl ?_
    refine ev_dup (by decide) ?_
    refine g_getv (r := 19) (v := w0) g ad19 (by decide) ft7_5 (ew0) ?_
    refine ev_iconst ?_
    refine ev_iadd (r := (w0 + 1)) (by unfold w32; omega) ?_
    refine g_putf (r := 19) g ad19 (by decide) ft7_5 (by decide) (fun e => absurd e nz7_5) rf19_5 (by decide) (by omega) (by omega) (fun h4289 e4289 g4289 => ?_)
    have k4289 := k0.wr e4289 rfl
    exact ev_ret rfl (by decide) (by decide) ⟨⟨rfl, g4289, k4289⟩, Int.le_trans (Int.le_of_eq ((jw_eq e4289))) (by omega)⟩
  · refine ev_aload_n rfl ?_
    refine g_getp (r := 19) (c := 22) g ad19 (by decide) (by decide) rf19_2 ft7_2 ?_
    refine ev_aload_n rfl ?_
    refine g_getv (r := 19) (v := w0) g ad19 (by decide) ft7_5 (ew0) ?_
    refine ev_iload_n rfl ?_
    refine g_iast g ad22 rt22 (fun _ => rfl) (by omega) (by omega) (by omega) (by omega) (fun h4290 e4290 g4290 => ?_)
    have k4290 := k0.wr e4290 rfl
    refine ev_aload_n rfl ?_
    refine ev_dup (by decide) ?_
    refine g_getv (r := 19) (v := w0) g4290 ad19 (by decide) ft7_5 (((jw_ne e4290 (Or.inl (by decide))).trans ew0)) ?_
    refine ev_iconst ?_
    refine ev_iadd (r := (w0 + 1)) (by unfold w32; omega) ?_
    refine g_putf (r := 19) g4290 ad19 (by decide) ft7_5 (by decide) (fun e => absurd e nz7_5) rf19_5 (by decide) (by omega) (by omega) (fun h4291 e4291 g4291 => ?_)
    have k4291 := k4290.wr e4291 rfl
    exact ev_ret rfl (by decide) (by decide) ⟨⟨rfl, g4291, k4291⟩, Int.le_trans (Int.le_of_eq ((jw_eq e4291))) (by omega)⟩
/-! 5 pays -/
set_option maxHeartbeats 4000000 in
theorem s5 {G : GH} {h : JH} (g : Gd G h) {f0 : Nat} (q0 : IsF G f0) {a1 : Int} (la1 : (-2147483648) ≤ a1) (ua1 : a1 ≤ 2147483647) {w0 : Int} (ew0 : h.2.2 19 5 = w0) (lw0 : 0 ≤ w0) (uw0 : w0 ≤ 998) : jOk 2 0 0 5 [(2, (f0 : Int)), (0, a1)] h (fun v h' => PI G [(19, 6), (22, 0)] h 0 (-2147483648) 2147483647 v h' ∧ h'.2.2 19 5 ≤ w0 + 2) := by
  refine ⟨by decide, by rw [ml5]; exact Nat.le_of_ble_eq_true rfl, ?_⟩
  rw [ml5, pp5]
  show jEv _ none _ c5_0 0 0 _ (c5_0, [(2, (f0 : Int)), (0, a1)], [], h, 0, 0)
  have k0 := Kp.rf [(19, 6), (22, 0)] h
  refine ev_aload_n rfl ?_
  refine g_fget0 g q0 ft0_0 ?_
  refine ev_iconst ?_
  refine ev_call (jcall_v (A := [(0, 1)]) (S' := []) (r := 19) rfl (g.lt ad19) (g.tg ad19) (Nat.le_of_ble_eq_true rfl)) (jOk_le (by decide) (s94 g (by omega) (by omega) (ew0) (by omega) (by omega))) (by decide) (by decide) (fun w4300 h4300 q4300 => ?_)
  obtain ⟨q4300, fp4300⟩ := q4300
  obtain ⟨rfl, g4300, kk4300⟩ := q4300
  have k4300 := k0.tr kk4300 (by decide)
  obtain ⟨v4301, ev4301, lv4301, uv4301⟩ := g4300.rd ad19 (show 5 < 6 by decide) rf19_5
  rw [ev4301] at fp4300
  show jEv _ _ _ _ _ _ _ (_, [(2, (f0 : Int)), (0, a1)], [], _, _, _)
  refine ev_iload_n rfl ?_
  refine ev_aload_n rfl ?_
  refine g_fget1 g4300 q0 ft0_1 (fun v4302 ev4302 lv4302 uv4302 => ?_)
  refine g_iaddG (fun v4303 ev4303 lv4303 uv4303 => ?_)
  exact ev_ret rfl (by decide) (by decide) ⟨⟨_, rfl, by omega, by omega, g4300, k4300⟩, Int.le_trans (Int.le_of_eq (ev4301)) (by omega)⟩
/-! 7 fears -/
set_option maxHeartbeats 4000000 in
theorem s7 {G : GH} {h : JH} (g : Gd G h) {f0 : Nat} (q0 : IsF G f0) {a1 : Int} (la1 : (-2147483648) ≤ a1) (ua1 : a1 ≤ 2147483647) {w0 : Int} (ew0 : h.2.2 19 5 = w0) (lw0 : 0 ≤ w0) (uw0 : w0 ≤ 998) : jOk 2 0 0 7 [(2, (f0 : Int)), (0, a1)] h (fun v h' => PI G [(19, 6), (22, 0)] h 0 (-2147483648) 2147483647 v h' ∧ h'.2.2 19 5 ≤ w0 + 2) := by
  refine ⟨by decide, by rw [ml7]; exact Nat.le_of_ble_eq_true rfl, ?_⟩
  rw [ml7, pp7]
  show jEv _ none _ c7_0 0 0 _ (c7_0, [(2, (f0 : Int)), (0, a1)], [], h, 0, 0)
  have k0 := Kp.rf [(19, 6), (22, 0)] h
  refine ev_aload_n rfl ?_
  refine g_fget0 g q0 ft0_0 ?_
  refine ev_bipush ?_
  refine ev_call (jcall_v (A := [(0, 11)]) (S' := []) (r := 19) rfl (g.lt ad19) (g.tg ad19) (Nat.le_of_ble_eq_true rfl)) (jOk_le (by decide) (s94 g (by omega) (by omega) (ew0) (by omega) (by omega))) (by decide) (by decide) (fun w4312 h4312 q4312 => ?_)
  obtain ⟨q4312, fp4312⟩ := q4312
  obtain ⟨rfl, g4312, kk4312⟩ := q4312
  have k4312 := k0.tr kk4312 (by decide)
  obtain ⟨v4313, ev4313, lv4313, uv4313⟩ := g4312.rd ad19 (show 5 < 6 by decide) rf19_5
  rw [ev4313] at fp4312
  show jEv _ _ _ _ _ _ _ (_, [(2, (f0 : Int)), (0, a1)], [], _, _, _)
  refine ev_iload_n rfl ?_
  refine ev_aload_n rfl ?_
  refine g_fget1 g4312 q0 ft0_1 (fun v4314 ev4314 lv4314 uv4314 => ?_)
  refine g_ixorG (fun v4315 ev4315 lv4315 uv4315 => ?_)
  exact ev_ret rfl (by decide) (by decide) ⟨⟨_, rfl, by omega, by omega, g4312, k4312⟩, Int.le_trans (Int.le_of_eq (ev4313)) (by omega)⟩
/-! 224 commonDivisor -/
set_option maxHeartbeats 4000000 in
theorem s224_l {G : GH} {h : JH} {a0 : Int} (la0 : (-9223372036854775808) ≤ a0) (ua0 : a0 ≤ 9223372036854775807) {a1 : Int} (la1 : (-9223372036854775808) ≤ a1) (ua1 : a1 ≤ 9223372036854775807) : ∀ N : Nat, (∀ (h1 : JH) (x4 x6 x8 : Int) (j9 : AV), Gd G h1 → Kp [] h h1 → (-9223372036854775808) ≤ a0 → a0 ≤ 9223372036854775807 → (-9223372036854775808) ≤ a1 → a1 ≤ 9223372036854775807 → (-9223372036854775808) ≤ x4 → x4 ≤ 9223372036854775807 → (-9223372036854775808) ≤ x6 → x6 ≤ 9223372036854775807 → 0 ≤ x8 → x8 ≤ 200 → ((-x8) + 200) < N → jEv (jOk 0) none (fun _ => 0) c224_0 0 0 (PI G [] h 1 (-9223372036854775808) 9223372036854775807) (c224_9, [(1, a0), (9, 0), (1, a1), (9, 0), (1, x4), (9, 0), (1, x6), (9, 0), (0, x8), j9, (9, 0)], [], h1, 0, 0)) := by
  intro N
  induction N with
  | zero => exact fun h1 x4 x6 x8 j9 g1 k1 b0 b1 b2 b3 b4 b5 b6 b7 b8 b9 hm => absurd hm (by omega)
  | succ N ih =>
    show _
    intro h1 x4 x6 x8 j9 g1 k1 b0 b1 b2 b3 b4 b5 b6 b7 b8 b9 hm
    refine ev_iload rfl ?_
    refine ev_sipush ?_
    refine ev_icmpge f224_45 (fun c4454 => ?_) (fun c4454 => ?_)
    · refine ev_lload rfl ?_
      exact ev_ret rfl (by decide) (by decide) ⟨_, rfl, by omega, by omega, g1, k1⟩
    · refine ev_lload rfl ?_
      refine ev_lconst ?_
      refine ev_lcmp ?_
      refine ev_ifeq f224_45 (fun c4455 => ?_) (fun c4455 => ?_)
      · have c4455b := jcmpL_eq c4455
        refine ev_lload rfl ?_
        exact ev_ret rfl (by decide) (by decide) ⟨_, rfl, by omega, by omega, g1, k1⟩
      · have c4455b := jcmpL_eqN c4455
        refine ev_lload rfl ?_
        refine ev_lload rfl ?_
        refine g_lremG (by omega) (by omega) (by omega) (fun v4456 ev4456 lv4456 uv4456 => ?_)
        refine ev_lstore (L' := [(1, a0), (9, 0), (1, a1), (9, 0), (1, x4), (9, 0), (1, x6), (9, 0), (0, x8), (1, v4456), (9, 0)]) (Nat.le_of_ble_eq_true rfl) rfl ?_
        refine ev_lload rfl ?_
        refine ev_lstore (L' := [(1, a0), (9, 0), (1, a1), (9, 0), (1, x6), (9, 0), (1, x6), (9, 0), (0, x8), (1, v4456), (9, 0)]) (Nat.le_of_ble_eq_true rfl) rfl ?_
        refine ev_lload rfl ?_
        refine ev_lstore (L' := [(1, a0), (9, 0), (1, a1), (9, 0), (1, x6), (9, 0), (1, v4456), (9, 0), (0, x8), (1, v4456), (9, 0)]) (Nat.le_of_ble_eq_true rfl) rfl ?_
        refine ev_iinc (w := (x8 + 1)) (L' := [(1, a0), (9, 0), (1, a1), (9, 0), (1, x6), (9, 0), (1, v4456), (9, 0), (0, (x8 + 1)), (1, v4456), (9, 0)]) rfl (by unfold w32; omega) rfl ?_
        refine ev_goto f224_9 ?_
        exact ih _ _ _ _ _ g1 k1 (by omega) (by omega) (by omega) (by omega) (by omega) (by omega) (by omega) (by omega) (by omega) (by omega) (by omega)
set_option maxHeartbeats 4000000 in
theorem s224 {G : GH} {h : JH} (g : Gd G h) {a0 : Int} (la0 : (-9223372036854775808) ≤ a0) (ua0 : a0 ≤ 9223372036854775807) {a1 : Int} (la1 : (-9223372036854775808) ≤ a1) (ua1 : a1 ≤ 9223372036854775807) : jOk 1 0 0 224 [(1, a0), (1, a1)] h (PI G [] h 1 (-9223372036854775808) 9223372036854775807) := by
  refine ⟨by decide, by rw [ml224]; exact Nat.le_of_ble_eq_true rfl, ?_⟩
  rw [ml224, pp224]
  show jEv _ none _ c224_0 0 0 _ (c224_0, [(1, a0), (9, 0), (1, a1), (9, 0), (9, 0), (9, 0), (9, 0), (9, 0), (9, 0), (9, 0), (9, 0)], [], h, 0, 0)
  have k0 := Kp.rf [] h
  refine ev_lload_n rfl ?_
  refine ev_lstore (L' := [(1, a0), (9, 0), (1, a1), (9, 0), (1, a0), (9, 0), (9, 0), (9, 0), (9, 0), (9, 0), (9, 0)]) (Nat.le_of_ble_eq_true rfl) rfl ?_
  refine ev_lload_n rfl ?_
  refine ev_lstore (L' := [(1, a0), (9, 0), (1, a1), (9, 0), (1, a0), (9, 0), (1, a1), (9, 0), (9, 0), (9, 0), (9, 0)]) (Nat.le_of_ble_eq_true rfl) rfl ?_
  refine ev_iconst ?_
  refine ev_istore (L' := [(1, a0), (9, 0), (1, a1), (9, 0), (1, a0), (9, 0), (1, a1), (9, 0), (0, 0), (9, 0), (9, 0)]) (Nat.le_of_ble_eq_true rfl) rfl ?_
  exact (s224_l la0 ua0 la1 ua1 402) _ _ _ _ _ g k0 (by omega) (by omega) (by omega) (by omega) (by omega) (by omega) (by omega) (by omega) (by omega) (by omega) (by omega)
/-! 223 fraction -/
set_option maxHeartbeats 4000000 in
theorem s223 {G : GH} {h : JH} (g : Gd G h) {a0 : Int} (la0 : (-9223372036854775808) ≤ a0) (ua0 : a0 ≤ 9223372036854775807) {a1 : Int} (la1 : (-9223372036854775808) ≤ a1) (ua1 : a1 ≤ 9223372036854775807) {a2 : Int} (la2 : (-2147483648) ≤ a2) (ua2 : a2 ≤ 2147483647) : jOk 2 0 0 223 [(1, a0), (1, a1), (0, a2)] h (PI G [] h 1 (-9223372036854775808) 9223372036854775807) := by
  refine ⟨by decide, by rw [ml223]; exact Nat.le_of_ble_eq_true rfl, ?_⟩
  rw [ml223, pp223]
  show jEv _ none _ c223_0 0 0 _ (c223_0, [(1, a0), (9, 0), (1, a1), (9, 0), (0, a2), (9, 0), (9, 0), (9, 0), (9, 0)], [], h, 0, 0)
  have k0 := Kp.rf [] h
  refine ev_lload_n rfl ?_
  refine ev_lconst ?_
  refine ev_lcmp ?_
  refine ev_ifge f223_11 (fun c4489 => ?_) (fun c4489 => ?_)
  · have c4489b := jcmpL_ge c4489
    refine ev_lload_n rfl ?_
    refine ev_lload_n rfl ?_
    refine ev_call (jcall_s (A := [(1, a1), (1, a0)]) (S' := []) (by decide) rfl (Nat.le_of_ble_eq_true rfl)) (jOk_le (by decide) (s224 g (by omega) (by omega) (by omega) (by omega))) (by decide) (by decide) (fun w4490 h4490 q4490 => ?_)
    obtain ⟨v4491, rfl, lv4491, uv4491, g4490, kk4490⟩ := q4490
    have k4490 := k0.tr kk4490 (by decide)
    show jEv _ _ _ _ _ _ _ (_, [(1, a0), (9, 0), (1, a1), (9, 0), (0, a2), (9, 0), (9, 0), (9, 0), (9, 0)], [(1, v4491)], _, _, _)
    refine ev_lstore (L' := [(1, a0), (9, 0), (1, a1), (9, 0), (0, a2), (1, v4491), (9, 0), (9, 0), (9, 0)]) (Nat.le_of_ble_eq_true rfl) rfl ?_
    refine ev_iload rfl ?_
    refine ev_ifne f223_27 (fun c4492 => ?_) (fun c4492 => ?_)
    · refine ev_lload_n rfl ?_
      refine ev_lstore (L' := [(1, a0), (9, 0), (1, a1), (9, 0), (0, a2), (1, v4491), (9, 0), (1, a1), (9, 0)]) (Nat.le_of_ble_eq_true rfl) rfl ?_
      refine ev_lload rfl ?_
      refine ev_lconst ?_
      refine ev_lcmp ?_
      refine ev_ifgt f223_42 (fun c4493 => ?_) (fun c4493 => ?_)
      · have c4493b := jcmpL_gt c4493
        refine ev_lload rfl ?_
        refine ev_lload rfl ?_
        refine g_ldivG (by omega) (fun v4494 ev4494 lv4494 uv4494 => ?_)
        exact ev_ret rfl (by decide) (by decide) ⟨_, rfl, by omega, by omega, g4490, k4490⟩
      · have c4493b := jcmpL_gtN c4493
        refine ev_lload rfl ?_
        refine ev_goto f223_47 ?_
        exact ev_ret rfl (by decide) (by decide) ⟨_, rfl, by omega, by omega, g4490, k4490⟩
    · refine ev_lload_n rfl ?_
      refine ev_goto f223_28 ?_
      refine ev_lstore (L' := [(1, a0), (9, 0), (1, a1), (9, 0), (0, a2), (1, v4491), (9, 0), (1, a0), (9, 0)]) (Nat.le_of_ble_eq_true rfl) rfl ?_
      refine ev_lload rfl ?_
      refine ev_lconst ?_
      refine ev_lcmp ?_
      refine ev_ifgt f223_42 (fun c4495 => ?_) (fun c4495 => ?_)
      · have c4495b := jcmpL_gt c4495
        refine ev_lload rfl ?_
        refine ev_lload rfl ?_
        refine g_ldivG (by omega) (fun v4496 ev4496 lv4496 uv4496 => ?_)
        exact ev_ret rfl (by decide) (by decide) ⟨_, rfl, by omega, by omega, g4490, k4490⟩
      · have c4495b := jcmpL_gtN c4495
        refine ev_lload rfl ?_
        refine ev_goto f223_47 ?_
        exact ev_ret rfl (by decide) (by decide) ⟨_, rfl, by omega, by omega, g4490, k4490⟩
  · have c4489b := jcmpL_geN c4489
    refine ev_lload_n rfl ?_
    refine g_lnegG (fun v4497 ev4497 lv4497 uv4497 => ?_)
    refine ev_goto f223_12 ?_
    refine ev_lload_n rfl ?_
    refine ev_call (jcall_s (A := [(1, a1), (1, v4497)]) (S' := []) (by decide) rfl (Nat.le_of_ble_eq_true rfl)) (jOk_le (by decide) (s224 g (by omega) (by omega) (by omega) (by omega))) (by decide) (by decide) (fun w4498 h4498 q4498 => ?_)
    obtain ⟨v4499, rfl, lv4499, uv4499, g4498, kk4498⟩ := q4498
    have k4498 := k0.tr kk4498 (by decide)
    show jEv _ _ _ _ _ _ _ (_, [(1, a0), (9, 0), (1, a1), (9, 0), (0, a2), (9, 0), (9, 0), (9, 0), (9, 0)], [(1, v4499)], _, _, _)
    refine ev_lstore (L' := [(1, a0), (9, 0), (1, a1), (9, 0), (0, a2), (1, v4499), (9, 0), (9, 0), (9, 0)]) (Nat.le_of_ble_eq_true rfl) rfl ?_
    refine ev_iload rfl ?_
    refine ev_ifne f223_27 (fun c4500 => ?_) (fun c4500 => ?_)
    · refine ev_lload_n rfl ?_
      refine ev_lstore (L' := [(1, a0), (9, 0), (1, a1), (9, 0), (0, a2), (1, v4499), (9, 0), (1, a1), (9, 0)]) (Nat.le_of_ble_eq_true rfl) rfl ?_
      refine ev_lload rfl ?_
      refine ev_lconst ?_
      refine ev_lcmp ?_
      refine ev_ifgt f223_42 (fun c4501 => ?_) (fun c4501 => ?_)
      · have c4501b := jcmpL_gt c4501
        refine ev_lload rfl ?_
        refine ev_lload rfl ?_
        refine g_ldivG (by omega) (fun v4502 ev4502 lv4502 uv4502 => ?_)
        exact ev_ret rfl (by decide) (by decide) ⟨_, rfl, by omega, by omega, g4498, k4498⟩
      · have c4501b := jcmpL_gtN c4501
        refine ev_lload rfl ?_
        refine ev_goto f223_47 ?_
        exact ev_ret rfl (by decide) (by decide) ⟨_, rfl, by omega, by omega, g4498, k4498⟩
    · refine ev_lload_n rfl ?_
      refine ev_goto f223_28 ?_
      refine ev_lstore (L' := [(1, a0), (9, 0), (1, a1), (9, 0), (0, a2), (1, v4499), (9, 0), (1, a0), (9, 0)]) (Nat.le_of_ble_eq_true rfl) rfl ?_
      refine ev_lload rfl ?_
      refine ev_lconst ?_
      refine ev_lcmp ?_
      refine ev_ifgt f223_42 (fun c4503 => ?_) (fun c4503 => ?_)
      · have c4503b := jcmpL_gt c4503
        refine ev_lload rfl ?_
        refine ev_lload rfl ?_
        refine g_ldivG (by omega) (fun v4504 ev4504 lv4504 uv4504 => ?_)
        exact ev_ret rfl (by decide) (by decide) ⟨_, rfl, by omega, by omega, g4498, k4498⟩
      · have c4503b := jcmpL_gtN c4503
        refine ev_lload rfl ?_
        refine ev_goto f223_47 ?_
        exact ev_ret rfl (by decide) (by decide) ⟨_, rfl, by omega, by omega, g4498, k4498⟩
/-! 144 levelWeights -/
set_option maxHeartbeats 4000000 in
theorem s144_l {G : GH} {h : JH} {a1 : Int} (la1 : 0 ≤ a1) (ua1 : a1 ≤ 3) : ∀ N : Nat, (∀ (h1 : JH) (x2 : Int), Gd G h1 → Kp [(4, 0)] h h1 → 0 ≤ a1 → a1 ≤ 3 → 0 ≤ x2 → x2 ≤ 36 → ((-x2) + 36) < N → jEv (jOk 1) none (fun _ => 0) c144_0 0 0 (PV G [(4, 0)] h) (c144_7, [(2, 1), (0, a1), (0, x2)], [], h1, 0, 0)) := by
  intro N
  induction N with
  | zero => exact fun h1 x2 g1 k1 b0 b1 b2 b3 hm => absurd hm (by omega)
  | succ N ih =>
    show _
    intro h1 x2 g1 k1 b0 b1 b2 b3 hm
    refine ev_iload_n rfl ?_
    refine ev_iload_n rfl ?_
    refine ev_iconst ?_
    refine ev_iadd (r := (a1 + 1)) (by unfold w32; omega) ?_
    refine ev_iconst ?_
    refine ev_iconst ?_
    refine ev_in (d := 0) (a := 0) (b := 0) (cd' := c147_0) (m := 3) (L0 := [(0, (a1 + 1)), (0, 0), (0, 0)]) (jcall_s (A := [(0, 0), (0, 0), (0, (a1 + 1))]) (S' := [(0, x2)]) (by decide) rfl (Nat.le_of_ble_eq_true rfl)) (by decide) ml147 pp147 (Nat.le_of_ble_eq_true rfl) rfl (by decide) (by decide) ?_
    refine ev_bipush ?_
    refine ev_iload_n rfl ?_
    refine ev_imul (r := (9 * a1 + 9)) (by unfold w32; omega) ?_
    refine ev_iconst ?_
    refine ev_iload_n rfl ?_
    refine ev_imul (r := 0) (by decide) ?_
    refine ev_iadd (r := (9 * a1 + 9)) (by unfold w32; omega) ?_
    refine ev_iload_n rfl ?_
    refine ev_iadd (r := (9 * a1 + 9)) (by unfold w32; omega) ?_
    refine ev_ret rfl (by decide) (by decide) ?_
    show jEv _ _ _ _ _ _ _ (_, [(2, 1), (0, a1), (0, x2)], [(0, (9 * a1 + 9)), (0, x2)], _, _, _)
    refine ev_icmpge f144_38 (fun c4529 => ?_) (fun c4529 => ?_)
    · exact ev_ret rfl (by decide) (by decide) ⟨rfl, g1, k1⟩
    · refine ev_iload_n rfl ?_
      refine ev_bipush ?_
      refine ev_icmpge f144_38 (fun c4530 => absurd c4530 (by omega)) (fun c4530 => ?_)
      refine ev_aload_n rfl ?_
      refine g_getp (r := 1) (c := 4) g1 ad1 (by decide) (by decide) rf1_5 ft10_5 ?_
      refine ev_iload_n rfl ?_
      refine ev_iconst ?_
      refine g_iast g1 ad4 rt4 (fun _ => rfl) (by omega) (by omega) (by omega) (by omega) (fun h4531 e4531 g4531 => ?_)
      have k4531 := k1.wr e4531 rfl
      refine ev_iinc (w := (x2 + 1)) (L' := [(2, 1), (0, a1), (0, (x2 + 1))]) rfl (by unfold w32; omega) rfl ?_
      refine ev_goto f144_7 ?_
      exact ih _ _ g4531 k4531 (by omega) (by omega) (by omega) (by omega) (by omega)
set_option maxHeartbeats 4000000 in
theorem s144 {G : GH} {h : JH} (g : Gd G h) {a1 : Int} (la1 : 0 ≤ a1) (ua1 : a1 ≤ 3) : jOk 2 0 0 144 [(2, 1), (0, a1)] h (PV G [(4, 0)] h) := by
  refine ⟨by decide, by rw [ml144]; exact Nat.le_of_ble_eq_true rfl, ?_⟩
  rw [ml144, pp144]
  show jEv _ none _ c144_0 0 0 _ (c144_0, [(2, 1), (0, a1), (9, 0)], [], h, 0, 0)
  have k0 := Kp.rf [(4, 0)] h
  refine ev_iload_n rfl ?_
  refine ev_iconst ?_
  refine ev_iconst ?_
  refine ev_in (d := 0) (a := 0) (b := 0) (cd' := c147_0) (m := 3) (L0 := [(0, a1), (0, 0), (0, 0)]) (jcall_s (A := [(0, 0), (0, 0), (0, a1)]) (S' := []) (by decide) rfl (Nat.le_of_ble_eq_true rfl)) (by decide) ml147 pp147 (Nat.le_of_ble_eq_true rfl) rfl (by decide) (by decide) ?_
  refine ev_bipush ?_
  refine ev_iload_n rfl ?_
  refine ev_imul (r := (9 * a1)) (by unfold w32; omega) ?_
  refine ev_iconst ?_
  refine ev_iload_n rfl ?_
  refine ev_imul (r := 0) (by decide) ?_
  refine ev_iadd (r := (9 * a1)) (by unfold w32; omega) ?_
  refine ev_iload_n rfl ?_
  refine ev_iadd (r := (9 * a1)) (by unfold w32; omega) ?_
  refine ev_ret rfl (by decide) (by decide) ?_
  show jEv _ _ _ _ _ _ _ (_, [(2, 1), (0, a1), (9, 0)], [(0, (9 * a1))], _, _, _)
  refine ev_istore_n (L' := [(2, 1), (0, a1), (0, (9 * a1))]) (Nat.le_of_ble_eq_true rfl) rfl ?_
  exact (s144_l la1 ua1 74) _ _ g k0 (by omega) (by omega) (by omega) (by omega) (by omega)
/-! 150 rowSum -/
set_option maxHeartbeats 4000000 in
theorem s150_l {G : GH} {h : JH} {a1 : Int} (la1 : 0 ≤ a1) (ua1 : a1 ≤ 3) {a2 : Int} (la2 : 0 ≤ a2) (ua2 : a2 ≤ 2) : ∀ N : Nat, (∀ (h1 : JH) (x3 x4 : Int), Gd G h1 → Kp [] h h1 → 0 ≤ a1 → a1 ≤ 3 → 0 ≤ a2 → a2 ≤ 2 → (-2147483648) ≤ x3 → x3 ≤ 2147483647 → 0 ≤ x4 → x4 ≤ 3 → ((-x4) + 3) < N → jEv (jOk 1) none (fun _ => 0) c150_0 0 0 (PI G [] h 0 (-2147483648) 2147483647) (c150_5, [(2, 1), (0, a1), (0, a2), (0, x3), (0, x4)], [], h1, 0, 0)) := by
  intro N
  induction N with
  | zero => exact fun h1 x3 x4 g1 k1 b0 b1 b2 b3 b4 b5 b6 b7 hm => absurd hm (by omega)
  | succ N ih =>
    show _
    intro h1 x3 x4 g1 k1 b0 b1 b2 b3 b4 b5 b6 b7 hm
    refine ev_iload rfl ?_
    refine ev_aload_n rfl ?_
    refine g_getp (r := 1) (c := 2) g1 ad1 (by decide) (by decide) rf1_3 ft10_3 ?_
    refine ev_iload_n rfl ?_
    refine g_iald g1 ad2 rt2 (by omega) (by omega) (fun v4551 ev4551 lv4551 uv4551 => ?_)
    refine ev_icmpge f150_37 (fun c4552 => ?_) (fun c4552 => ?_)
    · refine ev_iload_n rfl ?_
      exact ev_ret rfl (by decide) (by decide) ⟨_, rfl, by omega, by omega, g1, k1⟩
    · refine ev_iload_n rfl ?_
      refine ev_aload_n rfl ?_
      refine g_getp (r := 1) (c := 4) g1 ad1 (by decide) (by decide) rf1_5 ft10_5 ?_
      refine ev_iload_n rfl ?_
      refine ev_iload_n rfl ?_
      refine ev_iload rfl ?_
      refine ev_in (d := 0) (a := 0) (b := 0) (cd' := c147_0) (m := 3) (L0 := [(0, a1), (0, a2), (0, x4)]) (jcall_s (A := [(0, x4), (0, a2), (0, a1)]) (S' := [(2, 4), (0, x3)]) (by decide) rfl (Nat.le_of_ble_eq_true rfl)) (by decide) ml147 pp147 (Nat.le_of_ble_eq_true rfl) rfl (by decide) (by decide) ?_
      refine ev_bipush ?_
      refine ev_iload_n rfl ?_
      refine ev_imul (r := (9 * a1)) (by unfold w32; omega) ?_
      refine ev_iconst ?_
      refine ev_iload_n rfl ?_
      refine ev_imul (r := (3 * a2)) (by unfold w32; omega) ?_
      refine ev_iadd (r := (9 * a1 + 3 * a2)) (by unfold w32; omega) ?_
      refine ev_iload_n rfl ?_
      refine ev_iadd (r := (9 * a1 + 3 * a2 + x4)) (by unfold w32; omega) ?_
      refine ev_ret rfl (by decide) (by decide) ?_
      show jEv _ _ _ _ _ _ _ (_, [(2, 1), (0, a1), (0, a2), (0, x3), (0, x4)], [(0, (9 * a1 + 3 * a2 + x4)), (2, 4), (0, x3)], _, _, _)
      refine g_iald g1 ad4 rt4 (by omega) (by omega) (fun v4553 ev4553 lv4553 uv4553 => ?_)
      refine g_iaddG (fun v4554 ev4554 lv4554 uv4554 => ?_)
      refine ev_istore_n (L' := [(2, 1), (0, a1), (0, a2), (0, v4554), (0, x4)]) (Nat.le_of_ble_eq_true rfl) rfl ?_
      refine ev_iinc (w := (x4 + 1)) (L' := [(2, 1), (0, a1), (0, a2), (0, v4554), (0, (x4 + 1))]) rfl (by unfold w32; omega) rfl ?_
      refine ev_goto f150_5 ?_
      exact ih _ _ _ g1 k1 (by omega) (by omega) (by omega) (by omega) (by omega) (by omega) (by omega) (by omega) (by omega)
set_option maxHeartbeats 4000000 in
theorem s150 {G : GH} {h : JH} (g : Gd G h) {a1 : Int} (la1 : 0 ≤ a1) (ua1 : a1 ≤ 3) {a2 : Int} (la2 : 0 ≤ a2) (ua2 : a2 ≤ 2) : jOk 2 0 0 150 [(2, 1), (0, a1), (0, a2)] h (PI G [] h 0 (-2147483648) 2147483647) := by
  refine ⟨by decide, by rw [ml150]; exact Nat.le_of_ble_eq_true rfl, ?_⟩
  rw [ml150, pp150]
  show jEv _ none _ c150_0 0 0 _ (c150_0, [(2, 1), (0, a1), (0, a2), (9, 0), (9, 0)], [], h, 0, 0)
  have k0 := Kp.rf [] h
  refine ev_iconst ?_
  refine ev_istore_n (L' := [(2, 1), (0, a1), (0, a2), (0, 0), (9, 0)]) (Nat.le_of_ble_eq_true rfl) rfl ?_
  refine ev_iconst ?_
  refine ev_istore (L' := [(2, 1), (0, a1), (0, a2), (0, 0), (0, 0)]) (Nat.le_of_ble_eq_true rfl) rfl ?_
  exact (s150_l la1 ua1 la2 ua2 8) _ _ _ g k0 (by omega) (by omega) (by omega) (by omega) (by omega) (by omega) (by omega) (by omega) (by omega)
/-! 151 commonMultiple -/
set_option maxHeartbeats 4000000 in
theorem s151_l {G : GH} {h : JH} {a1 : Int} (la1 : 0 ≤ a1) (ua1 : a1 ≤ 3) : ∀ N : Nat, (∀ (h1 : JH) (x2 x4 : Int) (j5 j7 : AV), Gd G h1 → Kp [] h h1 → 0 ≤ a1 → a1 ≤ 3 → (-9223372036854775808) ≤ x2 → x2 ≤ 9223372036854775807 → 0 ≤ x4 → x4 ≤ 3 → ((-x4) + 3) < N → jEv (jOk 2) none (fun _ => 0) c151_0 0 0 (PI G [] h 1 (-9223372036854775808) 9223372036854775807) (c151_5, [(2, 1), (0, a1), (1, x2), (9, 0), (0, x4), j5, (9, 0), j7, (9, 0)], [], h1, 0, 0)) := by
  intro N
  induction N with
  | zero => exact fun h1 x2 x4 j5 j7 g1 k1 b0 b1 b2 b3 b4 b5 hm => absurd hm (by omega)
  | succ N ih =>
    show _
    intro h1 x2 x4 j5 j7 g1 k1 b0 b1 b2 b3 b4 b5 hm
    refine ev_iload rfl ?_
    refine ev_aload_n rfl ?_
    refine ev_iload_n rfl ?_
    refine ev_in (d := 1) (a := 0) (b := 0) (cd' := c145_0) (m := 2) (L0 := [(2, 1), (0, a1)]) (jcall_v (A := [(0, a1)]) (S' := [(0, x4)]) (r := 1) rfl (g1.lt ad1) (g1.tg ad1) (Nat.le_of_ble_eq_true rfl)) (by decide) ml145 pp145 (Nat.le_of_ble_eq_true rfl) rfl (by decide) (by decide) ?_
    refine ev_aload_n rfl ?_
    refine g_getp (r := 1) (c := 3) g1 ad1 (by decide) (by decide) rf1_4 ft10_4 ?_
    refine ev_iload_n rfl ?_
    refine g_iald g1 ad3 rt3 (by omega) (by omega) (fun v4650 ev4650 lv4650 uv4650 => ?_)
    refine ev_ifge f145_13 (fun c4651 => ?_) (fun c4651 => ?_)
    · refine ev_aload_n rfl ?_
      refine g_getp (r := 1) (c := 2) g1 ad1 (by decide) (by decide) rf1_3 ft10_3 ?_
      refine ev_aload_n rfl ?_
      refine g_getp (r := 1) (c := 3) g1 ad1 (by decide) (by decide) rf1_4 ft10_4 ?_
      refine ev_iload_n rfl ?_
      refine g_ialdv (v := v4650) g1 ad3 (by omega) (by omega) (ev4650) ?_
      refine g_iald g1 ad2 rt2 (by omega) (by omega) (fun v4652 ev4652 lv4652 uv4652 => ?_)
      refine ev_ret rfl (by decide) (by decide) ?_
      show jEv _ _ _ _ _ _ _ (_, [(2, 1), (0, a1), (1, x2), (9, 0), (0, x4), j5, (9, 0), j7, (9, 0)], [(0, v4652), (0, x4)], _, _, _)
      refine ev_icmpge f151_58 (fun c4653 => ?_) (fun c4653 => ?_)
      · refine ev_lload_n rfl ?_
        exact ev_ret rfl (by decide) (by decide) ⟨_, rfl, by omega, by omega, g1, k1⟩
      · refine ev_aload_n rfl ?_
        refine ev_iload_n rfl ?_
        refine ev_iload rfl ?_
        refine ev_call (jcall_v (A := [(0, x4), (0, a1)]) (S' := []) (r := 1) rfl (g1.lt ad1) (g1.tg ad1) (Nat.le_of_ble_eq_true rfl)) (jOk_le (by decide) (s150 g1 (by omega) (by omega) (by omega) (by omega))) (by decide) (by decide) (fun w4654 h4654 q4654 => ?_)
        obtain ⟨v4655, rfl, lv4655, uv4655, g4654, kk4654⟩ := q4654
        have k4654 := k1.tr kk4654 (by decide)
        show jEv _ _ _ _ _ _ _ (_, [(2, 1), (0, a1), (1, x2), (9, 0), (0, x4), j5, (9, 0), j7, (9, 0)], [(0, v4655)], _, _, _)
        refine ev_i2l ?_
        refine ev_lstore (L' := [(2, 1), (0, a1), (1, x2), (9, 0), (0, x4), (1, v4655), (9, 0), j7, (9, 0)]) (Nat.le_of_ble_eq_true rfl) rfl ?_
        refine ev_lload_n rfl ?_
        refine ev_lload rfl ?_
        refine ev_call (jcall_s (A := [(1, v4655), (1, x2)]) (S' := []) (by decide) rfl (Nat.le_of_ble_eq_true rfl)) (jOk_le (by decide) (s224 g4654 (by omega) (by omega) (by omega) (by omega))) (by decide) (by decide) (fun w4656 h4656 q4656 => ?_)
        obtain ⟨v4657, rfl, lv4657, uv4657, g4656, kk4656⟩ := q4656
        have k4656 := k4654.tr kk4656 (by decide)
        show jEv _ _ _ _ _ _ _ (_, [(2, 1), (0, a1), (1, x2), (9, 0), (0, x4), (1, v4655), (9, 0), j7, (9, 0)], [(1, v4657)], _, _, _)
        refine ev_lstore (L' := [(2, 1), (0, a1), (1, x2), (9, 0), (0, x4), (1, v4655), (9, 0), (1, v4657), (9, 0)]) (Nat.le_of_ble_eq_true rfl) rfl ?_
        refine ev_lload rfl ?_
        refine ev_lconst ?_
        refine ev_lcmp ?_
        refine ev_ifge f151_44 (fun c4658 => ?_) (fun c4658 => ?_)
        · have c4658b := jcmpL_ge c4658
          refine ev_lload_n rfl ?_
          refine ev_lload rfl ?_
          refine g_ldivG (by omega) (fun v4659 ev4659 lv4659 uv4659 => ?_)
          refine ev_lload rfl ?_
          refine g_lmulG (fun v4660 ev4660 lv4660 uv4660 => ?_)
          refine ev_lstore_n (L' := [(2, 1), (0, a1), (1, v4660), (9, 0), (0, x4), (1, v4655), (9, 0), (1, v4657), (9, 0)]) (Nat.le_of_ble_eq_true rfl) rfl ?_
          refine ev_iinc (w := (x4 + 1)) (L' := [(2, 1), (0, a1), (1, v4660), (9, 0), (0, (x4 + 1)), (1, v4655), (9, 0), (1, v4657), (9, 0)]) rfl (by unfold w32; omega) rfl ?_
          refine ev_goto f151_5 ?_
          exact ih _ _ _ _ _ g4656 k4656 (by omega) (by omega) (by omega) (by omega) (by omega) (by omega) (by omega)
        · have c4658b := jcmpL_geN c4658
          refine ev_lload_n rfl ?_
          refine ev_goto f151_51 ?_
          refine ev_lstore_n (L' := [(2, 1), (0, a1), (1, x2), (9, 0), (0, x4), (1, v4655), (9, 0), (1, v4657), (9, 0)]) (Nat.le_of_ble_eq_true rfl) rfl ?_
          refine ev_iinc (w := (x4 + 1)) (L' := [(2, 1), (0, a1), (1, x2), (9, 0), (0, (x4 + 1)), (1, v4655), (9, 0), (1, v4657), (9, 0)]) rfl (by unfold w32; omega) rfl ?_
          refine ev_goto f151_5 ?_
          exact ih _ _ _ _ _ g4656 k4656 (by omega) (by omega) (by omega) (by omega) (by omega) (by omega) (by omega)
    · refine ev_iconst ?_
      refine ev_goto f145_24 ?_
      refine ev_ret rfl (by decide) (by decide) ?_
      show jEv _ _ _ _ _ _ _ (_, [(2, 1), (0, a1), (1, x2), (9, 0), (0, x4), j5, (9, 0), j7, (9, 0)], [(0, 1), (0, x4)], _, _, _)
      refine ev_icmpge f151_58 (fun c4661 => ?_) (fun c4661 => ?_)
      · refine ev_lload_n rfl ?_
        exact ev_ret rfl (by decide) (by decide) ⟨_, rfl, by omega, by omega, g1, k1⟩
      · refine ev_aload_n rfl ?_
        refine ev_iload_n rfl ?_
        refine ev_iload rfl ?_
        refine ev_call (jcall_v (A := [(0, x4), (0, a1)]) (S' := []) (r := 1) rfl (g1.lt ad1) (g1.tg ad1) (Nat.le_of_ble_eq_true rfl)) (jOk_le (by decide) (s150 g1 (by omega) (by omega) (by omega) (by omega))) (by decide) (by decide) (fun w4662 h4662 q4662 => ?_)
        obtain ⟨v4663, rfl, lv4663, uv4663, g4662, kk4662⟩ := q4662
        have k4662 := k1.tr kk4662 (by decide)
        show jEv _ _ _ _ _ _ _ (_, [(2, 1), (0, a1), (1, x2), (9, 0), (0, x4), j5, (9, 0), j7, (9, 0)], [(0, v4663)], _, _, _)
        refine ev_i2l ?_
        refine ev_lstore (L' := [(2, 1), (0, a1), (1, x2), (9, 0), (0, x4), (1, v4663), (9, 0), j7, (9, 0)]) (Nat.le_of_ble_eq_true rfl) rfl ?_
        refine ev_lload_n rfl ?_
        refine ev_lload rfl ?_
        refine ev_call (jcall_s (A := [(1, v4663), (1, x2)]) (S' := []) (by decide) rfl (Nat.le_of_ble_eq_true rfl)) (jOk_le (by decide) (s224 g4662 (by omega) (by omega) (by omega) (by omega))) (by decide) (by decide) (fun w4664 h4664 q4664 => ?_)
        obtain ⟨v4665, rfl, lv4665, uv4665, g4664, kk4664⟩ := q4664
        have k4664 := k4662.tr kk4664 (by decide)
        show jEv _ _ _ _ _ _ _ (_, [(2, 1), (0, a1), (1, x2), (9, 0), (0, x4), (1, v4663), (9, 0), j7, (9, 0)], [(1, v4665)], _, _, _)
        refine ev_lstore (L' := [(2, 1), (0, a1), (1, x2), (9, 0), (0, x4), (1, v4663), (9, 0), (1, v4665), (9, 0)]) (Nat.le_of_ble_eq_true rfl) rfl ?_
        refine ev_lload rfl ?_
        refine ev_lconst ?_
        refine ev_lcmp ?_
        refine ev_ifge f151_44 (fun c4666 => ?_) (fun c4666 => ?_)
        · have c4666b := jcmpL_ge c4666
          refine ev_lload_n rfl ?_
          refine ev_lload rfl ?_
          refine g_ldivG (by omega) (fun v4667 ev4667 lv4667 uv4667 => ?_)
          refine ev_lload rfl ?_
          refine g_lmulG (fun v4668 ev4668 lv4668 uv4668 => ?_)
          refine ev_lstore_n (L' := [(2, 1), (0, a1), (1, v4668), (9, 0), (0, x4), (1, v4663), (9, 0), (1, v4665), (9, 0)]) (Nat.le_of_ble_eq_true rfl) rfl ?_
          refine ev_iinc (w := (x4 + 1)) (L' := [(2, 1), (0, a1), (1, v4668), (9, 0), (0, (x4 + 1)), (1, v4663), (9, 0), (1, v4665), (9, 0)]) rfl (by unfold w32; omega) rfl ?_
          refine ev_goto f151_5 ?_
          exact ih _ _ _ _ _ g4664 k4664 (by omega) (by omega) (by omega) (by omega) (by omega) (by omega) (by omega)
        · have c4666b := jcmpL_geN c4666
          refine ev_lload_n rfl ?_
          refine ev_goto f151_51 ?_
          refine ev_lstore_n (L' := [(2, 1), (0, a1), (1, x2), (9, 0), (0, x4), (1, v4663), (9, 0), (1, v4665), (9, 0)]) (Nat.le_of_ble_eq_true rfl) rfl ?_
          refine ev_iinc (w := (x4 + 1)) (L' := [(2, 1), (0, a1), (1, x2), (9, 0), (0, (x4 + 1)), (1, v4663), (9, 0), (1, v4665), (9, 0)]) rfl (by unfold w32; omega) rfl ?_
          refine ev_goto f151_5 ?_
          exact ih _ _ _ _ _ g4664 k4664 (by omega) (by omega) (by omega) (by omega) (by omega) (by omega) (by omega)
set_option maxHeartbeats 4000000 in
theorem s151 {G : GH} {h : JH} (g : Gd G h) {a1 : Int} (la1 : 0 ≤ a1) (ua1 : a1 ≤ 3) : jOk 3 0 0 151 [(2, 1), (0, a1)] h (PI G [] h 1 (-9223372036854775808) 9223372036854775807) := by
  refine ⟨by decide, by rw [ml151]; exact Nat.le_of_ble_eq_true rfl, ?_⟩
  rw [ml151, pp151]
  show jEv _ none _ c151_0 0 0 _ (c151_0, [(2, 1), (0, a1), (9, 0), (9, 0), (9, 0), (9, 0), (9, 0), (9, 0), (9, 0)], [], h, 0, 0)
  have k0 := Kp.rf [] h
  refine ev_lconst ?_
  refine ev_lstore_n (L' := [(2, 1), (0, a1), (1, 1), (9, 0), (9, 0), (9, 0), (9, 0), (9, 0), (9, 0)]) (Nat.le_of_ble_eq_true rfl) rfl ?_
  refine ev_iconst ?_
  refine ev_istore (L' := [(2, 1), (0, a1), (1, 1), (9, 0), (0, 0), (9, 0), (9, 0), (9, 0), (9, 0)]) (Nat.le_of_ble_eq_true rfl) rfl ?_
  exact (s151_l la1 ua1 8) _ _ _ _ _ g k0 (by omega) (by omega) (by omega) (by omega) (by omega) (by omega) (by omega)
/-! 152 bottomOf -/
set_option maxHeartbeats 4000000 in
theorem s152_l {G : GH} {h : JH}  : ∀ N : Nat, (∀ (h1 : JH) (x1 x3 : Int) (j4 : AV), Gd G h1 → Kp [] h h1 → (-9223372036854775808) ≤ x1 → x1 ≤ 9223372036854775807 → 0 ≤ x3 → x3 ≤ 4 → ((-x3) + 4) < N → jEv (jOk 3) none (fun _ => 0) c152_0 0 0 (PI G [] h 1 (-9223372036854775808) 9223372036854775807) (c152_4, [(2, 1), (1, x1), (9, 0), (0, x3), j4, (9, 0)], [], h1, 0, 0)) := by
  intro N
  induction N with
  | zero => exact fun h1 x1 x3 j4 g1 k1 b0 b1 b2 b3 hm => absurd hm (by omega)
  | succ N ih =>
    show _
    intro h1 x1 x3 j4 g1 k1 b0 b1 b2 b3 hm
    refine ev_iload_n rfl ?_
    refine ev_aload_n rfl ?_
    obtain ⟨v4717, ev4717, lv4717, uv4717⟩ := g1.rd ad1 (show 0 < 8 by decide) rf1_0
    refine g_getv (r := 1) (v := v4717) g1 ad1 (by decide) ft10_0 ev4717 ?_
    refine ev_icmpge f152_50 (fun c4718 => ?_) (fun c4718 => ?_)
    · refine ev_lload_n rfl ?_
      exact ev_ret rfl (by decide) (by decide) ⟨_, rfl, by omega, by omega, g1, k1⟩
    · refine ev_aload_n rfl ?_
      refine ev_iload_n rfl ?_
      refine ev_call (jcall_v (A := [(0, x3)]) (S' := []) (r := 1) rfl (g1.lt ad1) (g1.tg ad1) (Nat.le_of_ble_eq_true rfl)) (jOk_le (by decide) (s151 g1 (by omega) (by omega))) (by decide) (by decide) (fun w4719 h4719 q4719 => ?_)
      obtain ⟨v4720, rfl, lv4720, uv4720, g4719, kk4719⟩ := q4719
      have k4719 := k1.tr kk4719 (by decide)
      show jEv _ _ _ _ _ _ _ (_, [(2, 1), (1, x1), (9, 0), (0, x3), j4, (9, 0)], [(1, v4720)], _, _, _)
      refine ev_lstore (L' := [(2, 1), (1, x1), (9, 0), (0, x3), (1, v4720), (9, 0)]) (Nat.le_of_ble_eq_true rfl) rfl ?_
      refine ev_lload rfl ?_
      refine ev_lconst ?_
      refine ev_lcmp ?_
      refine ev_iflt f152_37 (fun c4721 => ?_) (fun c4721 => ?_)
      · have c4721b := jcmpL_lt c4721
        refine ev_lconst ?_
        exact ev_ret rfl (by decide) (by decide) ⟨_, rfl, by omega, by omega, g4719, k4719⟩
      · have c4721b := jcmpL_ltN c4721
        refine ev_lload_n rfl ?_
        refine ev_ldc2_w ?_
        refine ev_lload rfl ?_
        refine g_ldivG (by omega) (fun v4722 ev4722 lv4722 uv4722 => ?_)
        refine ev_lcmp ?_
        refine ev_ifle f152_39 (fun c4723 => ?_) (fun c4723 => ?_)
        · have c4723b := jcmpL_le c4723
          refine ev_lload_n rfl ?_
          refine ev_lload rfl ?_
          refine g_lmulG (fun v4724 ev4724 lv4724 uv4724 => ?_)
          refine ev_lstore_n (L' := [(2, 1), (1, v4724), (9, 0), (0, x3), (1, v4720), (9, 0)]) (Nat.le_of_ble_eq_true rfl) rfl ?_
          refine ev_iinc (w := (x3 + 1)) (L' := [(2, 1), (1, v4724), (9, 0), (0, (x3 + 1)), (1, v4720), (9, 0)]) rfl (by unfold w32; omega) rfl ?_
          refine ev_goto f152_4 ?_
          exact ih _ _ _ _ g4719 k4719 (by omega) (by omega) (by omega) (by omega) (by omega)
        · have c4723b := jcmpL_leN c4723
          refine ev_lconst ?_
          exact ev_ret rfl (by decide) (by decide) ⟨_, rfl, by omega, by omega, g4719, k4719⟩
set_option maxHeartbeats 4000000 in
theorem s152 {G : GH} {h : JH} (g : Gd G h)  : jOk 4 0 0 152 [(2, 1)] h (PI G [] h 1 (-9223372036854775808) 9223372036854775807) := by
  refine ⟨by decide, by rw [ml152]; exact Nat.le_of_ble_eq_true rfl, ?_⟩
  rw [ml152, pp152]
  show jEv _ none _ c152_0 0 0 _ (c152_0, [(2, 1), (9, 0), (9, 0), (9, 0), (9, 0), (9, 0)], [], h, 0, 0)
  have k0 := Kp.rf [] h
  refine ev_lconst ?_
  refine ev_lstore_n (L' := [(2, 1), (1, 1), (9, 0), (9, 0), (9, 0), (9, 0)]) (Nat.le_of_ble_eq_true rfl) rfl ?_
  refine ev_iconst ?_
  refine ev_istore_n (L' := [(2, 1), (1, 1), (9, 0), (0, 0), (9, 0), (9, 0)]) (Nat.le_of_ble_eq_true rfl) rfl ?_
  exact (s152_l  10) _ _ _ _ g k0 (by omega) (by omega) (by omega) (by omega) (by omega)
/-! 155 spread -/
set_option maxHeartbeats 4000000 in
theorem s155_l {G : GH} {h : JH} {a1 : Int} (la1 : 0 ≤ a1) (ua1 : a1 ≤ 3) : ∀ N : Nat, (∀ (h1 : JH) (x2 : Int) (j3 j5 j6 j7 : AV), Gd G h1 → Kp [(6, 0)] h h1 → 0 ≤ a1 → a1 ≤ 3 → 0 ≤ x2 → x2 ≤ 64 → ((-8) * x2 + 516) < N → jEv (jOk 1) none (fun _ => 0) c155_0 0 0 (PV G [(6, 0)] h) (c155_2, [(2, 1), (0, a1), (0, x2), j3, (9, 0), j5, j6, j7], [], h1, 0, 0)) ∧ (∀ (h1 : JH) (x2 x3 x5 x6 : Int) (j7 : AV), Gd G h1 → Kp [(6, 0)] h h1 → 0 ≤ a1 → a1 ≤ 3 → 0 ≤ x2 → x2 ≤ 63 → (-9223372036854775808) ≤ x3 → x3 ≤ 9223372036854775807 → (-1) ≤ x5 → x5 ≤ 2 → 0 ≤ x6 → x6 ≤ 3 → ((-8) * x2 + (-x6) + 515) < N → jEv (jOk 1) none (fun _ => 0) c155_0 0 0 (PV G [(6, 0)] h) (c155_50, [(2, 1), (0, a1), (0, x2), (1, x3), (9, 0), (0, x5), (0, x6), j7], [], h1, 0, 0)) := by
  intro N
  induction N with
  | zero => exact ⟨fun h1 x2 j3 j5 j6 j7 g1 k1 b0 b1 b2 b3 hm => absurd hm (by omega), fun h1 x2 x3 x5 x6 j7 g1 k1 b0 b1 b2 b3 b4 b5 b6 b7 b8 b9 hm => absurd hm (by omega)⟩
  | succ N ih =>
    refine ⟨?_, ?_⟩
    · intro h1 x2 j3 j5 j6 j7 g1 k1 b0 b1 b2 b3 hm
      refine ev_iload_n rfl ?_
      refine ev_iconst ?_
      refine ev_iconst ?_
      refine ev_iload_n rfl ?_
      refine ev_imul (r := (2 * a1)) (by unfold w32; omega) ?_
      refine g_ishlB (a' := 1) (a := 1) (b := 6) (hi := 64) (by omega) (by omega) (by omega) (by omega) (by decide) (by decide) (fun v5830 ev5830 lv5830 uv5830 => ?_)
      refine ev_icmpge f155_156 (fun c5831 => ?_) (fun c5831 => ?_)
      · exact ev_ret rfl (by decide) (by decide) ⟨rfl, g1, k1⟩
      · refine ev_aload_n rfl ?_
        refine g_getp (r := 1) (c := 6) g1 ad1 (by decide) (by decide) rf1_7 ft10_7 ?_
        refine ev_iload_n rfl ?_
        refine g_lald g1 ad6 rt6 (by omega) (by omega) (fun v5832 ev5832 lv5832 uv5832 => ?_)
        refine ev_lstore_n (L' := [(2, 1), (0, a1), (0, x2), (1, v5832), (9, 0), j5, j6, j7]) (Nat.le_of_ble_eq_true rfl) rfl ?_
        refine ev_aload_n rfl ?_
        refine g_getp (r := 1) (c := 3) g1 ad1 (by decide) (by decide) rf1_4 ft10_4 ?_
        refine ev_iload_n rfl ?_
        refine g_iald g1 ad3 rt3 (by omega) (by omega) (fun v5833 ev5833 lv5833 uv5833 => ?_)
        refine ev_ifge f155_31 (fun c5834 => ?_) (fun c5834 => ?_)
        · refine ev_iload_n rfl ?_
          refine ev_iconst ?_
          refine ev_aload_n rfl ?_
          refine g_getp (r := 1) (c := 3) g1 ad1 (by decide) (by decide) rf1_4 ft10_4 ?_
          refine ev_iload_n rfl ?_
          refine g_ialdv (v := v5833) g1 ad3 (by omega) (by omega) (ev5833) ?_
          refine ev_imul (r := (2 * v5833)) (by unfold w32; omega) ?_
          refine g_ishrB (a := 63) (by omega) (by omega) (by decide) (fun v5835 ev5835 lv5835 uv5835 => ?_)
          refine ev_iconst ?_
          refine g_iandB (b := 3) (by omega) (by omega) (by decide) (fun v5836 ev5836 lv5836 uv5836 => ?_)
          refine ev_iconst ?_
          refine ev_isub (r := (v5836 - 1)) (by unfold w32; omega) ?_
          refine ev_istore (L' := [(2, 1), (0, a1), (0, x2), (1, v5832), (9, 0), (0, (v5836 - 1)), j6, j7]) (Nat.le_of_ble_eq_true rfl) rfl ?_
          refine ev_iconst ?_
          refine ev_istore (L' := [(2, 1), (0, a1), (0, x2), (1, v5832), (9, 0), (0, (v5836 - 1)), (0, 0), j7]) (Nat.le_of_ble_eq_true rfl) rfl ?_
          exact ih.2 _ _ _ _ _ _ g1 k1 (by omega) (by omega) (by omega) (by omega) (by omega) (by omega) (by omega) (by omega) (by omega) (by omega) (by omega)
        · refine ev_iconst ?_
          refine ev_goto f155_45 ?_
          refine ev_istore (L' := [(2, 1), (0, a1), (0, x2), (1, v5832), (9, 0), (0, 0), j6, j7]) (Nat.le_of_ble_eq_true rfl) rfl ?_
          refine ev_iconst ?_
          refine ev_istore (L' := [(2, 1), (0, a1), (0, x2), (1, v5832), (9, 0), (0, 0), (0, 0), j7]) (Nat.le_of_ble_eq_true rfl) rfl ?_
          exact ih.2 _ _ _ _ _ _ g1 k1 (by omega) (by omega) (by omega) (by omega) (by omega) (by omega) (by omega) (by omega) (by omega) (by omega) (by omega)
    · intro h1 x2 x3 x5 x6 j7 g1 k1 b0 b1 b2 b3 b4 b5 b6 b7 b8 b9 hm
      refine ev_iload rfl ?_
      refine ev_iconst ?_
      refine ev_icmpge f155_143 (fun c5837 => ?_) (fun c5837 => ?_)
      · refine ev_aload_n rfl ?_
        refine g_getp (r := 1) (c := 6) g1 ad1 (by decide) (by decide) rf1_7 ft10_7 ?_
        refine ev_iload_n rfl ?_
        refine ev_lconst ?_
        refine g_last g1 ad6 rt6 (fun _ => rfl) (by omega) (by omega) (by omega) (by omega) (fun h5838 e5838 g5838 => ?_)
        have k5838 := k1.wr e5838 rfl
        refine ev_iinc (w := (x2 + 1)) (L' := [(2, 1), (0, a1), (0, (x2 + 1)), (1, x3), (9, 0), (0, x5), (0, x6), j7]) rfl (by unfold w32; omega) rfl ?_
        refine ev_goto f155_2 ?_
        exact ih.1 _ _ _ _ _ _ g5838 k5838 (by omega) (by omega) (by omega) (by omega) (by omega)
      · refine ev_lload_n rfl ?_
        refine ev_lconst ?_
        refine ev_lcmp ?_
        refine ev_ifle f155_82 (fun c5839 => ?_) (fun c5839 => ?_)
        · have c5839b := jcmpL_le c5839
          refine ev_iconst ?_
          refine ev_istore (L' := [(2, 1), (0, a1), (0, x2), (1, x3), (9, 0), (0, x5), (0, x6), (0, 0)]) (Nat.le_of_ble_eq_true rfl) rfl ?_
          refine ev_aload_n rfl ?_
          refine g_getp (r := 1) (c := 6) g1 ad1 (by decide) (by decide) rf1_7 ft10_7 ?_
          refine ev_iload_n rfl ?_
          refine ev_iload rfl ?_
          refine ev_iconst ?_
          refine ev_iadd (r := (x6 + 1)) (by unfold w32; omega) ?_
          refine ev_iconst ?_
          refine ev_iload_n rfl ?_
          refine ev_imul (r := (2 * a1)) (by unfold w32; omega) ?_
          refine g_ishlB (a' := 1) (a := 3) (b := 6) (hi := 192) (by omega) (by omega) (by omega) (by omega) (by decide) (by decide) (fun v5840 ev5840 lv5840 uv5840 => ?_)
          refine g_iorB (k := 8) (hi := 255) (by decide) (by decide) (by omega) (by omega) (by omega) (by omega) (fun v5841 ev5841 lv5841 uv5841 => ?_)
          refine ev_iload rfl ?_
          refine ev_ifeq f155_135 (fun c5842 => ?_) (fun c5842 => absurd c5842 (by omega))
          refine ev_lconst ?_
          refine g_last g1 ad6 rt6 (fun _ => rfl) (by omega) (by omega) (by omega) (by omega) (fun h5843 e5843 g5843 => ?_)
          have k5843 := k1.wr e5843 rfl
          refine ev_iinc (w := (x6 + 1)) (L' := [(2, 1), (0, a1), (0, x2), (1, x3), (9, 0), (0, x5), (0, (x6 + 1)), (0, 0)]) rfl (by unfold w32; omega) rfl ?_
          refine ev_goto f155_50 ?_
          exact ih.2 _ _ _ _ _ _ g5843 k5843 (by omega) (by omega) (by omega) (by omega) (by omega) (by omega) (by omega) (by omega) (by omega) (by omega) (by omega)
        · have c5839b := jcmpL_leN c5839
          refine ev_iload rfl ?_
          refine ev_iflt f155_82 (fun c5844 => ?_) (fun c5844 => ?_)
          · refine ev_iconst ?_
            refine ev_istore (L' := [(2, 1), (0, a1), (0, x2), (1, x3), (9, 0), (0, x5), (0, x6), (0, 0)]) (Nat.le_of_ble_eq_true rfl) rfl ?_
            refine ev_aload_n rfl ?_
            refine g_getp (r := 1) (c := 6) g1 ad1 (by decide) (by decide) rf1_7 ft10_7 ?_
            refine ev_iload_n rfl ?_
            refine ev_iload rfl ?_
            refine ev_iconst ?_
            refine ev_iadd (r := (x6 + 1)) (by unfold w32; omega) ?_
            refine ev_iconst ?_
            refine ev_iload_n rfl ?_
            refine ev_imul (r := (2 * a1)) (by unfold w32; omega) ?_
            refine g_ishlB (a' := 1) (a := 3) (b := 6) (hi := 192) (by omega) (by omega) (by omega) (by omega) (by decide) (by decide) (fun v5845 ev5845 lv5845 uv5845 => ?_)
            refine g_iorB (k := 8) (hi := 255) (by decide) (by decide) (by omega) (by omega) (by omega) (by omega) (fun v5846 ev5846 lv5846 uv5846 => ?_)
            refine ev_iload rfl ?_
            refine ev_ifeq f155_135 (fun c5847 => ?_) (fun c5847 => absurd c5847 (by omega))
            refine ev_lconst ?_
            refine g_last g1 ad6 rt6 (fun _ => rfl) (by omega) (by omega) (by omega) (by omega) (fun h5848 e5848 g5848 => ?_)
            have k5848 := k1.wr e5848 rfl
            refine ev_iinc (w := (x6 + 1)) (L' := [(2, 1), (0, a1), (0, x2), (1, x3), (9, 0), (0, x5), (0, (x6 + 1)), (0, 0)]) rfl (by unfold w32; omega) rfl ?_
            refine ev_goto f155_50 ?_
            exact ih.2 _ _ _ _ _ _ g5848 k5848 (by omega) (by omega) (by omega) (by omega) (by omega) (by omega) (by omega) (by omega) (by omega) (by omega) (by omega)
          · refine ev_iload rfl ?_
            refine ev_aload_n rfl ?_
            refine g_getp (r := 1) (c := 2) g1 ad1 (by decide) (by decide) rf1_3 ft10_3 ?_
            refine ev_iload_n rfl ?_
            refine g_iald g1 ad2 rt2 (by omega) (by omega) (fun v5849 ev5849 lv5849 uv5849 => ?_)
            refine ev_icmpge f155_82 (fun c5850 => ?_) (fun c5850 => ?_)
            · refine ev_iconst ?_
              refine ev_istore (L' := [(2, 1), (0, a1), (0, x2), (1, x3), (9, 0), (0, x5), (0, x6), (0, 0)]) (Nat.le_of_ble_eq_true rfl) rfl ?_
              refine ev_aload_n rfl ?_
              refine g_getp (r := 1) (c := 6) g1 ad1 (by decide) (by decide) rf1_7 ft10_7 ?_
              refine ev_iload_n rfl ?_
              refine ev_iload rfl ?_
              refine ev_iconst ?_
              refine ev_iadd (r := (x6 + 1)) (by unfold w32; omega) ?_
              refine ev_iconst ?_
              refine ev_iload_n rfl ?_
              refine ev_imul (r := (2 * a1)) (by unfold w32; omega) ?_
              refine g_ishlB (a' := 1) (a := 3) (b := 6) (hi := 192) (by omega) (by omega) (by omega) (by omega) (by decide) (by decide) (fun v5851 ev5851 lv5851 uv5851 => ?_)
              refine g_iorB (k := 8) (hi := 255) (by decide) (by decide) (by omega) (by omega) (by omega) (by omega) (fun v5852 ev5852 lv5852 uv5852 => ?_)
              refine ev_iload rfl ?_
              refine ev_ifeq f155_135 (fun c5853 => ?_) (fun c5853 => absurd c5853 (by omega))
              refine ev_lconst ?_
              refine g_last g1 ad6 rt6 (fun _ => rfl) (by omega) (by omega) (by omega) (by omega) (fun h5854 e5854 g5854 => ?_)
              have k5854 := k1.wr e5854 rfl
              refine ev_iinc (w := (x6 + 1)) (L' := [(2, 1), (0, a1), (0, x2), (1, x3), (9, 0), (0, x5), (0, (x6 + 1)), (0, 0)]) rfl (by unfold w32; omega) rfl ?_
              refine ev_goto f155_50 ?_
              exact ih.2 _ _ _ _ _ _ g5854 k5854 (by omega) (by omega) (by omega) (by omega) (by omega) (by omega) (by omega) (by omega) (by omega) (by omega) (by omega)
            · refine ev_iconst ?_
              refine ev_goto f155_83 ?_
              refine ev_istore (L' := [(2, 1), (0, a1), (0, x2), (1, x3), (9, 0), (0, x5), (0, x6), (0, 1)]) (Nat.le_of_ble_eq_true rfl) rfl ?_
              refine ev_aload_n rfl ?_
              refine g_getp (r := 1) (c := 6) g1 ad1 (by decide) (by decide) rf1_7 ft10_7 ?_
              refine ev_iload_n rfl ?_
              refine ev_iload rfl ?_
              refine ev_iconst ?_
              refine ev_iadd (r := (x6 + 1)) (by unfold w32; omega) ?_
              refine ev_iconst ?_
              refine ev_iload_n rfl ?_
              refine ev_imul (r := (2 * a1)) (by unfold w32; omega) ?_
              refine g_ishlB (a' := 1) (a := 3) (b := 6) (hi := 192) (by omega) (by omega) (by omega) (by omega) (by decide) (by decide) (fun v5855 ev5855 lv5855 uv5855 => ?_)
              refine g_iorB (k := 8) (hi := 255) (by decide) (by decide) (by omega) (by omega) (by omega) (by omega) (fun v5856 ev5856 lv5856 uv5856 => ?_)
              refine ev_iload rfl ?_
              refine ev_ifeq f155_135 (fun c5857 => absurd c5857 (by omega)) (fun c5857 => ?_)
              refine ev_lload_n rfl ?_
              refine ev_aload_n rfl ?_
              refine g_getp (r := 1) (c := 4) g1 ad1 (by decide) (by decide) rf1_5 ft10_5 ?_
              refine ev_iload_n rfl ?_
              refine ev_iload rfl ?_
              refine ev_iload rfl ?_
              refine ev_in (d := 0) (a := 0) (b := 0) (cd' := c147_0) (m := 3) (L0 := [(0, a1), (0, x5), (0, x6)]) (jcall_s (A := [(0, x6), (0, x5), (0, a1)]) (S' := [(2, 4), (1, x3), (0, v5856), (2, 6)]) (by decide) rfl (Nat.le_of_ble_eq_true rfl)) (by decide) ml147 pp147 (Nat.le_of_ble_eq_true rfl) rfl (by decide) (by decide) ?_
              refine ev_bipush ?_
              refine ev_iload_n rfl ?_
              refine ev_imul (r := (9 * a1)) (by unfold w32; omega) ?_
              refine ev_iconst ?_
              refine ev_iload_n rfl ?_
              refine ev_imul (r := (3 * x5)) (by unfold w32; omega) ?_
              refine ev_iadd (r := (9 * a1 + 3 * x5)) (by unfold w32; omega) ?_
              refine ev_iload_n rfl ?_
              refine ev_iadd (r := (9 * a1 + 3 * x5 + x6)) (by unfold w32; omega) ?_
              refine ev_ret rfl (by decide) (by decide) ?_
              show jEv _ _ _ _ _ _ _ (_, [(2, 1), (0, a1), (0, x2), (1, x3), (9, 0), (0, x5), (0, x6), (0, 1)], [(0, (9 * a1 + 3 * x5 + x6)), (2, 4), (1, x3), (0, v5856), (2, 6)], _, _, _)
              refine g_iald g1 ad4 rt4 (by omega) (by omega) (fun v5858 ev5858 lv5858 uv5858 => ?_)
              refine ev_i2l ?_
              refine g_lmulG (fun v5859 ev5859 lv5859 uv5859 => ?_)
              refine ev_aload_n rfl ?_
              refine g_getp (r := 1) (c := 5) g1 ad1 (by decide) (by decide) rf1_6 ft10_6 ?_
              refine ev_iconst ?_
              refine ev_iload_n rfl ?_
              refine ev_imul (r := (3 * a1)) (by unfold w32; omega) ?_
              refine ev_iload rfl ?_
              refine ev_iadd (r := (3 * a1 + x5)) (by unfold w32; omega) ?_
              refine g_lald g1 ad5 rt5 (by omega) (by omega) (fun v5860 ev5860 lv5860 uv5860 => ?_)
              refine g_lmulG (fun v5861 ev5861 lv5861 uv5861 => ?_)
              refine ev_goto f155_136 ?_
              refine g_last g1 ad6 rt6 (fun _ => rfl) (by omega) (by omega) (by omega) (by omega) (fun h5862 e5862 g5862 => ?_)
              have k5862 := k1.wr e5862 rfl
              refine ev_iinc (w := (x6 + 1)) (L' := [(2, 1), (0, a1), (0, x2), (1, x3), (9, 0), (0, x5), (0, (x6 + 1)), (0, 1)]) rfl (by unfold w32; omega) rfl ?_
              refine ev_goto f155_50 ?_
              exact ih.2 _ _ _ _ _ _ g5862 k5862 (by omega) (by omega) (by omega) (by omega) (by omega) (by omega) (by omega) (by omega) (by omega) (by omega) (by omega)
set_option maxHeartbeats 4000000 in
theorem s155 {G : GH} {h : JH} (g : Gd G h) {a1 : Int} (la1 : 0 ≤ a1) (ua1 : a1 ≤ 3) : jOk 2 0 0 155 [(2, 1), (0, a1)] h (PV G [(6, 0)] h) := by
  refine ⟨by decide, by rw [ml155]; exact Nat.le_of_ble_eq_true rfl, ?_⟩
  rw [ml155, pp155]
  show jEv _ none _ c155_0 0 0 _ (c155_0, [(2, 1), (0, a1), (9, 0), (9, 0), (9, 0), (9, 0), (9, 0), (9, 0)], [], h, 0, 0)
  have k0 := Kp.rf [(6, 0)] h
  refine ev_iconst ?_
  refine ev_istore_n (L' := [(2, 1), (0, a1), (0, 0), (9, 0), (9, 0), (9, 0), (9, 0), (9, 0)]) (Nat.le_of_ble_eq_true rfl) rfl ?_
  exact (s155_l la1 ua1 1040).1 _ _ _ _ _ _ g k0 (by omega) (by omega) (by omega) (by omega) (by omega)
/-! 158 isTold -/
set_option maxHeartbeats 4000000 in
theorem s158_l {G : GH} {h : JH} {a1 : Int} (la1 : (-2147483648) ≤ a1) (ua1 : a1 ≤ 2147483647) : ∀ N : Nat, (∀ (h1 : JH) (x2 : Int), Gd G h1 → Kp [] h h1 → 0 ≤ a1 → a1 ≤ 255 → 0 ≤ x2 → x2 ≤ 4 → ((-x2) + 4) < N → jEv (jOk 1) none (fun _ => 0) c158_0 0 0 (PI G [] h 0 0 1) (c158_16, [(2, 1), (0, a1), (0, x2)], [], h1, 0, 0)) := by
  intro N
  induction N with
  | zero => exact fun h1 x2 g1 k1 b0 b1 b2 b3 hm => absurd hm (by omega)
  | succ N ih =>
    show _
    intro h1 x2 g1 k1 b0 b1 b2 b3 hm
    refine ev_iload_n rfl ?_
    refine ev_aload_n rfl ?_
    obtain ⟨v5907, ev5907, lv5907, uv5907⟩ := g1.rd ad1 (show 0 < 8 by decide) rf1_0
    refine g_getv (r := 1) (v := v5907) g1 ad1 (by decide) ft10_0 ev5907 ?_
    refine ev_icmpge f158_48 (fun c5908 => ?_) (fun c5908 => ?_)
    · refine ev_iconst ?_
      exact ev_ret rfl (by decide) (by decide) ⟨_, rfl, by omega, by omega, g1, k1⟩
    · refine ev_iload_n rfl ?_
      refine ev_iconst ?_
      refine ev_iload_n rfl ?_
      refine ev_imul (r := (2 * x2)) (by unfold w32; omega) ?_
      refine g_ishrB (a := 255) (by omega) (by omega) (by decide) (fun v5909 ev5909 lv5909 uv5909 => ?_)
      refine ev_iconst ?_
      refine g_iandB (b := 3) (by omega) (by omega) (by decide) (fun v5910 ev5910 lv5910 uv5910 => ?_)
      refine ev_aload_n rfl ?_
      refine g_getp (r := 1) (c := 2) g1 ad1 (by decide) (by decide) rf1_3 ft10_3 ?_
      refine ev_iload_n rfl ?_
      refine g_iald g1 ad2 rt2 (by omega) (by omega) (fun v5911 ev5911 lv5911 uv5911 => ?_)
      refine ev_icmple f158_42 (fun c5912 => ?_) (fun c5912 => ?_)
      · refine ev_iinc (w := (x2 + 1)) (L' := [(2, 1), (0, a1), (0, (x2 + 1))]) rfl (by unfold w32; omega) rfl ?_
        refine ev_goto f158_16 ?_
        exact ih _ _ g1 k1 (by omega) (by omega) (by omega) (by omega) (by omega)
      · refine ev_iconst ?_
        exact ev_ret rfl (by decide) (by decide) ⟨_, rfl, by omega, by omega, g1, k1⟩
set_option maxHeartbeats 4000000 in
theorem s158 {G : GH} {h : JH} (g : Gd G h) {a1 : Int} (la1 : (-2147483648) ≤ a1) (ua1 : a1 ≤ 2147483647) : jOk 2 0 0 158 [(2, 1), (0, a1)] h (PI G [] h 0 0 1) := by
  refine ⟨by decide, by rw [ml158]; exact Nat.le_of_ble_eq_true rfl, ?_⟩
  rw [ml158, pp158]
  show jEv _ none _ c158_0 0 0 _ (c158_0, [(2, 1), (0, a1), (9, 0)], [], h, 0, 0)
  have k0 := Kp.rf [] h
  refine ev_iload_n rfl ?_
  refine ev_iflt f158_12 (fun c5913 => ?_) (fun c5913 => ?_)
  · refine ev_iconst ?_
    exact ev_ret rfl (by decide) (by decide) ⟨_, rfl, by omega, by omega, g, k0⟩
  · refine ev_iload_n rfl ?_
    refine ev_aload_n rfl ?_
    refine ev_in (d := 0) (a := 0) (b := 0) (cd' := c157_0) (m := 1) (L0 := [(2, 1)]) (jcall_v (A := []) (S' := [(0, a1)]) (r := 1) rfl (g.lt ad1) (g.tg ad1) (Nat.le_of_ble_eq_true rfl)) (by decide) ml157 pp157 (Nat.le_of_ble_eq_true rfl) rfl (by decide) (by decide) ?_
    refine ev_iconst ?_
    refine ev_iconst ?_
    refine ev_aload_n rfl ?_
    obtain ⟨v5914, ev5914, lv5914, uv5914⟩ := g.rd ad1 (show 0 < 8 by decide) rf1_0
    refine g_getv (r := 1) (v := v5914) g ad1 (by decide) ft10_0 ev5914 ?_
    refine ev_imul (r := (2 * v5914)) (by unfold w32; omega) ?_
    refine g_ishlB (a' := 1) (a := 1) (b := 8) (hi := 256) (by omega) (by omega) (by omega) (by omega) (by decide) (by decide) (fun v5915 ev5915 lv5915 uv5915 => ?_)
    refine ev_ret rfl (by decide) (by decide) ?_
    show jEv _ _ _ _ _ _ _ (_, [(2, 1), (0, a1), (9, 0)], [(0, v5915), (0, a1)], _, _, _)
    refine ev_icmplt f158_14 (fun c5916 => ?_) (fun c5916 => ?_)
    · refine ev_iconst ?_
      refine ev_istore_n (L' := [(2, 1), (0, a1), (0, 0)]) (Nat.le_of_ble_eq_true rfl) rfl ?_
      exact (s158_l la1 ua1 10) _ _ g k0 (by omega) (by omega) (by omega) (by omega) (by omega)
    · refine ev_iconst ?_
      exact ev_ret rfl (by decide) (by decide) ⟨_, rfl, by omega, by omega, g, k0⟩
/-! 159 isState -/
set_option maxHeartbeats 4000000 in
theorem s159_l {G : GH} {h : JH} {a1 : Int} (la1 : (-2147483648) ≤ a1) (ua1 : a1 ≤ 2147483647) : ∀ N : Nat, (∀ (h1 : JH) (x2 : Int), Gd G h1 → Kp [] h h1 → 0 ≤ a1 → a1 ≤ 255 → 0 ≤ x2 → x2 ≤ 4 → ((-x2) + 4) < N → jEv (jOk 1) none (fun _ => 0) c159_0 0 0 (PI G [] h 0 0 1) (c159_16, [(2, 1), (0, a1), (0, x2)], [], h1, 0, 0)) := by
  intro N
  induction N with
  | zero => exact fun h1 x2 g1 k1 b0 b1 b2 b3 hm => absurd hm (by omega)
  | succ N ih =>
    show _
    intro h1 x2 g1 k1 b0 b1 b2 b3 hm
    refine ev_iload_n rfl ?_
    refine ev_aload_n rfl ?_
    obtain ⟨v5961, ev5961, lv5961, uv5961⟩ := g1.rd ad1 (show 0 < 8 by decide) rf1_0
    refine g_getv (r := 1) (v := v5961) g1 ad1 (by decide) ft10_0 ev5961 ?_
    refine ev_icmpge f159_48 (fun c5962 => ?_) (fun c5962 => ?_)
    · refine ev_iconst ?_
      exact ev_ret rfl (by decide) (by decide) ⟨_, rfl, by omega, by omega, g1, k1⟩
    · refine ev_iload_n rfl ?_
      refine ev_iconst ?_
      refine ev_iload_n rfl ?_
      refine ev_imul (r := (2 * x2)) (by unfold w32; omega) ?_
      refine g_ishrB (a := 255) (by omega) (by omega) (by decide) (fun v5963 ev5963 lv5963 uv5963 => ?_)
      refine ev_iconst ?_
      refine g_iandB (b := 3) (by omega) (by omega) (by decide) (fun v5964 ev5964 lv5964 uv5964 => ?_)
      refine ev_aload_n rfl ?_
      refine g_getp (r := 1) (c := 2) g1 ad1 (by decide) (by decide) rf1_3 ft10_3 ?_
      refine ev_iload_n rfl ?_
      refine g_iald g1 ad2 rt2 (by omega) (by omega) (fun v5965 ev5965 lv5965 uv5965 => ?_)
      refine ev_icmplt f159_42 (fun c5966 => ?_) (fun c5966 => ?_)
      · refine ev_iinc (w := (x2 + 1)) (L' := [(2, 1), (0, a1), (0, (x2 + 1))]) rfl (by unfold w32; omega) rfl ?_
        refine ev_goto f159_16 ?_
        exact ih _ _ g1 k1 (by omega) (by omega) (by omega) (by omega) (by omega)
      · refine ev_iconst ?_
        exact ev_ret rfl (by decide) (by decide) ⟨_, rfl, by omega, by omega, g1, k1⟩
set_option maxHeartbeats 4000000 in
theorem s159 {G : GH} {h : JH} (g : Gd G h) {a1 : Int} (la1 : (-2147483648) ≤ a1) (ua1 : a1 ≤ 2147483647) : jOk 2 0 0 159 [(2, 1), (0, a1)] h (PI G [] h 0 0 1) := by
  refine ⟨by decide, by rw [ml159]; exact Nat.le_of_ble_eq_true rfl, ?_⟩
  rw [ml159, pp159]
  show jEv _ none _ c159_0 0 0 _ (c159_0, [(2, 1), (0, a1), (9, 0)], [], h, 0, 0)
  have k0 := Kp.rf [] h
  refine ev_iload_n rfl ?_
  refine ev_iflt f159_12 (fun c5967 => ?_) (fun c5967 => ?_)
  · refine ev_iconst ?_
    exact ev_ret rfl (by decide) (by decide) ⟨_, rfl, by omega, by omega, g, k0⟩
  · refine ev_iload_n rfl ?_
    refine ev_aload_n rfl ?_
    refine ev_in (d := 0) (a := 0) (b := 0) (cd' := c157_0) (m := 1) (L0 := [(2, 1)]) (jcall_v (A := []) (S' := [(0, a1)]) (r := 1) rfl (g.lt ad1) (g.tg ad1) (Nat.le_of_ble_eq_true rfl)) (by decide) ml157 pp157 (Nat.le_of_ble_eq_true rfl) rfl (by decide) (by decide) ?_
    refine ev_iconst ?_
    refine ev_iconst ?_
    refine ev_aload_n rfl ?_
    obtain ⟨v5968, ev5968, lv5968, uv5968⟩ := g.rd ad1 (show 0 < 8 by decide) rf1_0
    refine g_getv (r := 1) (v := v5968) g ad1 (by decide) ft10_0 ev5968 ?_
    refine ev_imul (r := (2 * v5968)) (by unfold w32; omega) ?_
    refine g_ishlB (a' := 1) (a := 1) (b := 8) (hi := 256) (by omega) (by omega) (by omega) (by omega) (by decide) (by decide) (fun v5969 ev5969 lv5969 uv5969 => ?_)
    refine ev_ret rfl (by decide) (by decide) ?_
    show jEv _ _ _ _ _ _ _ (_, [(2, 1), (0, a1), (9, 0)], [(0, v5969), (0, a1)], _, _, _)
    refine ev_icmplt f159_14 (fun c5970 => ?_) (fun c5970 => ?_)
    · refine ev_iconst ?_
      refine ev_istore_n (L' := [(2, 1), (0, a1), (0, 0)]) (Nat.le_of_ble_eq_true rfl) rfl ?_
      exact (s159_l la1 ua1 10) _ _ g k0 (by omega) (by omega) (by omega) (by omega) (by omega)
    · refine ev_iconst ?_
      exact ev_ret rfl (by decide) (by decide) ⟨_, rfl, by omega, by omega, g, k0⟩
/-! 139 addThing -/
set_option maxHeartbeats 4000000 in
theorem s139 {G : GH} {h : JH} (g : Gd G h) {a1 : Int} (la1 : 2 ≤ a1) (ua1 : a1 ≤ 3) : jOk 3 0 0 139 [(2, 1), (0, a1)] h (PI G [(1, 1), (1, 3), (2, 0), (3, 0), (4, 0)] h 0 (-3) 3) := by
  refine ⟨by decide, by rw [ml139]; exact Nat.le_of_ble_eq_true rfl, ?_⟩
  rw [ml139, pp139]
  show jEv _ none _ c139_0 0 0 _ (c139_0, [(2, 1), (0, a1)], [], h, 0, 0)
  have k0 := Kp.rf [(1, 1), (1, 3), (2, 0), (3, 0), (4, 0)] h
  refine ev_aload_n rfl ?_
  obtain ⟨v5989, ev5989, lv5989, uv5989⟩ := g.rd ad1 (show 0 < 8 by decide) rf1_0
  refine g_getv (r := 1) (v := v5989) g ad1 (by decide) ft10_0 ev5989 ?_
  refine ev_iconst ?_
  refine ev_icmplt f139_11 (fun c5990 => ?_) (fun c5990 => ?_)
  · refine ev_aload_n rfl ?_
    refine g_getp (r := 1) (c := 2) g ad1 (by decide) (by decide) rf1_3 ft10_3 ?_
    refine ev_aload_n rfl ?_
    refine g_getv (r := 1) (v := v5989) g ad1 (by decide) ft10_0 (ev5989) ?_
    refine ev_iload_n rfl ?_
    refine g_iast g ad2 rt2 (fun _ => rfl) (by omega) (by omega) (by omega) (by omega) (fun h5991 e5991 g5991 => ?_)
    have k5991 := k0.wr e5991 rfl
    refine ev_aload_n rfl ?_
    refine g_getp (r := 1) (c := 3) g5991 ad1 (by decide) (by decide) rf1_4 ft10_4 ?_
    refine ev_aload_n rfl ?_
    refine g_getv (r := 1) (v := v5989) g5991 ad1 (by decide) ft10_0 (((jw_ne e5991 (Or.inl (by decide))).trans ev5989)) ?_
    refine ev_iconst ?_
    refine g_iast g5991 ad3 rt3 (fun _ => rfl) (by omega) (by omega) (by omega) (by omega) (fun h5992 e5992 g5992 => ?_)
    have k5992 := k5991.wr e5992 rfl
    refine ev_aload_n rfl ?_
    refine ev_aload_n rfl ?_
    refine g_getv (r := 1) (v := v5989) g5992 ad1 (by decide) ft10_0 (((jw_ne e5992 (Or.inl (by decide))).trans ((jw_ne e5991 (Or.inl (by decide))).trans ev5989))) ?_
    refine ev_call (jcall_v (A := [(0, v5989)]) (S' := []) (r := 1) rfl (g5992.lt ad1) (g5992.tg ad1) (Nat.le_of_ble_eq_true rfl)) (jOk_le (by decide) (s144 g5992 (by omega) (by omega))) (by decide) (by decide) (fun w5993 h5993 q5993 => ?_)
    obtain ⟨rfl, g5993, kk5993⟩ := q5993
    have k5993 := k5992.tr kk5993 (by decide)
    show jEv _ _ _ _ _ _ _ (_, [(2, 1), (0, a1)], [], _, _, _)
    refine ev_aload_n rfl ?_
    refine ev_dup (by decide) ?_
    refine g_getv (r := 1) (v := v5989) g5993 ad1 (by decide) ft10_0 (((kk5993.v (by decide)).trans ((jw_ne e5992 (Or.inl (by decide))).trans ((jw_ne e5991 (Or.inl (by decide))).trans ev5989)))) ?_
    refine ev_iconst ?_
    refine ev_iadd (r := (v5989 + 1)) (by unfold w32; omega) ?_
    refine g_putf (r := 1) g5993 ad1 (by decide) ft10_0 (by decide) (fun e => absurd e nz10_0) rf1_0 (by decide) (by omega) (by omega) (fun h5994 e5994 g5994 => ?_)
    have k5994 := k5993.wr e5994 rfl
    refine ev_aload_n rfl ?_
    refine ev_iconst ?_
    refine g_putf (r := 1) g5994 ad1 (by decide) ft10_2 (by decide) (fun _ => by omega) rf1_2 (by decide) (by omega) (by omega) (fun h5995 e5995 g5995 => ?_)
    have k5995 := k5994.wr e5995 rfl
    refine ev_aload_n rfl ?_
    refine g_getv (r := 1) (v := (v5989 + 1)) g5995 ad1 (by decide) ft10_0 (((jw_ne e5995 (Or.inr (by decide))).trans (jw_eq e5994))) ?_
    refine ev_iconst ?_
    refine ev_isub (r := v5989) (by unfold w32; omega) ?_
    exact ev_ret rfl (by decide) (by decide) ⟨_, rfl, by omega, by omega, g5995, k5995⟩
  · refine ev_bipush ?_
    exact ev_ret rfl (by decide) (by decide) ⟨_, rfl, by omega, by omega, g, k0⟩
/-! 143 hangOn -/
set_option maxHeartbeats 4000000 in
theorem s143 {G : GH} {h : JH} (g : Gd G h) {a1 : Int} (la1 : (-2147483648) ≤ a1) (ua1 : a1 ≤ 2147483647) {a2 : Int} (la2 : (-2147483648) ≤ a2) (ua2 : a2 ≤ 2147483647) : jOk 3 0 0 143 [(2, 1), (0, a1), (0, a2)] h (PV G [(1, 3), (3, 0), (4, 0)] h) := by
  refine ⟨by decide, by rw [ml143]; exact Nat.le_of_ble_eq_true rfl, ?_⟩
  rw [ml143, pp143]
  show jEv _ none _ c143_0 0 0 _ (c143_0, [(2, 1), (0, a1), (0, a2)], [], h, 0, 0)
  have k0 := Kp.rf [(1, 3), (3, 0), (4, 0)] h
  refine ev_aload_n rfl ?_
  refine ev_iload_n rfl ?_
  refine ev_in (d := 1) (a := 0) (b := 0) (cd' := c140_0) (m := 2) (L0 := [(2, 1), (0, a1)]) (jcall_v (A := [(0, a1)]) (S' := []) (r := 1) rfl (g.lt ad1) (g.tg ad1) (Nat.le_of_ble_eq_true rfl)) (by decide) ml140 pp140 (Nat.le_of_ble_eq_true rfl) rfl (by decide) (by decide) ?_
  refine ev_iload_n rfl ?_
  refine ev_iflt f140_16 (fun c6024 => ?_) (fun c6024 => ?_)
  · refine ev_iconst ?_
    refine ev_ret rfl (by decide) (by decide) ?_
    show jEv _ _ _ _ _ _ _ (_, [(2, 1), (0, a1), (0, a2)], [(0, 0)], _, _, _)
    refine ev_ifeq f143_33 (fun c6025 => ?_) (fun c6025 => absurd c6025 (by omega))
    exact ev_ret rfl (by decide) (by decide) ⟨rfl, g, k0⟩
  · refine ev_iload_n rfl ?_
    refine ev_aload_n rfl ?_
    obtain ⟨v6026, ev6026, lv6026, uv6026⟩ := g.rd ad1 (show 0 < 8 by decide) rf1_0
    refine g_getv (r := 1) (v := v6026) g ad1 (by decide) ft10_0 ev6026 ?_
    refine ev_icmpge f140_16 (fun c6027 => ?_) (fun c6027 => ?_)
    · refine ev_iconst ?_
      refine ev_ret rfl (by decide) (by decide) ?_
      show jEv _ _ _ _ _ _ _ (_, [(2, 1), (0, a1), (0, a2)], [(0, 0)], _, _, _)
      refine ev_ifeq f143_33 (fun c6028 => ?_) (fun c6028 => absurd c6028 (by omega))
      exact ev_ret rfl (by decide) (by decide) ⟨rfl, g, k0⟩
    · refine ev_iconst ?_
      refine ev_goto f140_17 ?_
      refine ev_ret rfl (by decide) (by decide) ?_
      show jEv _ _ _ _ _ _ _ (_, [(2, 1), (0, a1), (0, a2)], [(0, 1)], _, _, _)
      refine ev_ifeq f143_33 (fun c6029 => absurd c6029 (by omega)) (fun c6029 => ?_)
      refine ev_aload_n rfl ?_
      refine ev_iload_n rfl ?_
      refine ev_in (d := 1) (a := 0) (b := 0) (cd' := c140_0) (m := 2) (L0 := [(2, 1), (0, a2)]) (jcall_v (A := [(0, a2)]) (S' := []) (r := 1) rfl (g.lt ad1) (g.tg ad1) (Nat.le_of_ble_eq_true rfl)) (by decide) ml140 pp140 (Nat.le_of_ble_eq_true rfl) rfl (by decide) (by decide) ?_
      refine ev_iload_n rfl ?_
      refine ev_iflt f140_16 (fun c6030 => ?_) (fun c6030 => ?_)
      · refine ev_iconst ?_
        refine ev_ret rfl (by decide) (by decide) ?_
        show jEv _ _ _ _ _ _ _ (_, [(2, 1), (0, a1), (0, a2)], [(0, 0)], _, _, _)
        refine ev_ifeq f143_33 (fun c6031 => ?_) (fun c6031 => absurd c6031 (by omega))
        exact ev_ret rfl (by decide) (by decide) ⟨rfl, g, k0⟩
      · refine ev_iload_n rfl ?_
        refine ev_aload_n rfl ?_
        refine g_getv (r := 1) (v := v6026) g ad1 (by decide) ft10_0 (ev6026) ?_
        refine ev_icmpge f140_16 (fun c6032 => ?_) (fun c6032 => ?_)
        · refine ev_iconst ?_
          refine ev_ret rfl (by decide) (by decide) ?_
          show jEv _ _ _ _ _ _ _ (_, [(2, 1), (0, a1), (0, a2)], [(0, 0)], _, _, _)
          refine ev_ifeq f143_33 (fun c6033 => ?_) (fun c6033 => absurd c6033 (by omega))
          exact ev_ret rfl (by decide) (by decide) ⟨rfl, g, k0⟩
        · refine ev_iconst ?_
          refine ev_goto f140_17 ?_
          refine ev_ret rfl (by decide) (by decide) ?_
          show jEv _ _ _ _ _ _ _ (_, [(2, 1), (0, a1), (0, a2)], [(0, 1)], _, _, _)
          refine ev_ifeq f143_33 (fun c6034 => absurd c6034 (by omega)) (fun c6034 => ?_)
          refine ev_aload_n rfl ?_
          refine g_getp (r := 1) (c := 3) g ad1 (by decide) (by decide) rf1_4 ft10_4 ?_
          refine ev_iload_n rfl ?_
          refine ev_iload_n rfl ?_
          refine g_iast g ad3 rt3 (fun _ => rfl) (by omega) (by omega) (by omega) (by omega) (fun h6035 e6035 g6035 => ?_)
          have k6035 := k0.wr e6035 rfl
          refine ev_aload_n rfl ?_
          refine ev_iload_n rfl ?_
          refine ev_call (jcall_v (A := [(0, a1)]) (S' := []) (r := 1) rfl (g6035.lt ad1) (g6035.tg ad1) (Nat.le_of_ble_eq_true rfl)) (jOk_le (by decide) (s144 g6035 (by omega) (by omega))) (by decide) (by decide) (fun w6036 h6036 q6036 => ?_)
          obtain ⟨rfl, g6036, kk6036⟩ := q6036
          have k6036 := k6035.tr kk6036 (by decide)
          show jEv _ _ _ _ _ _ _ (_, [(2, 1), (0, a1), (0, a2)], [], _, _, _)
          refine ev_aload_n rfl ?_
          refine ev_iconst ?_
          refine g_putf (r := 1) g6036 ad1 (by decide) ft10_2 (by decide) (fun _ => by omega) rf1_2 (by decide) (by omega) (by omega) (fun h6037 e6037 g6037 => ?_)
          have k6037 := k6036.wr e6037 rfl
          exact ev_ret rfl (by decide) (by decide) ⟨rfl, g6037, k6037⟩
