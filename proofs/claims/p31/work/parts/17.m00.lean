/-! 378 floorDiv -/
set_option maxHeartbeats 4000000 in
theorem s378 {G : GH} {h : JH} (g : Gd G h) {a0 : Int} (la0 : (-9223372036854775808) ≤ a0) (ua0 : a0 ≤ 9223372036854775807) {a1 : Int} (la1 : 1 ≤ a1) (ua1 : a1 ≤ 9223372036854775807) : jOk 1 0 0 378 [(1, a0), (1, a1)] h (PI G [] h 1 (-9223372036854775808) 9223372036854775807) := by
  refine ⟨by decide, by rw [ml378]; exact Nat.le_of_ble_eq_true rfl, ?_⟩
  rw [ml378, pp378]
  show jEv _ none _ c378_0 0 0 _ (c378_0, [(1, a0), (9, 0), (1, a1), (9, 0), (9, 0), (9, 0)], [], h, 0, 0)
  have k0 := Kp.rf [] h
  refine ev_lload_n rfl ?_
  refine ev_lload_n rfl ?_
  refine g_ldivG (by omega) (fun v13 ev13 lv13 uv13 => ?_)
  refine ev_lstore (L' := [(1, a0), (9, 0), (1, a1), (9, 0), (1, v13), (9, 0)]) (Nat.le_of_ble_eq_true rfl) rfl ?_
  refine ev_lload_n rfl ?_
  refine ev_lload_n rfl ?_
  refine g_lxorG (fun v14 ev14 lv14 uv14 => ?_)
  refine ev_lconst ?_
  refine ev_lcmp ?_
  refine ev_ifge f378_27 (fun c15 => ?_) (fun c15 => ?_)
  · have c15b := jcmpL_ge c15
    refine ev_lload rfl ?_
    exact ev_ret rfl (by decide) (by decide) ⟨_, rfl, by omega, by omega, g, k0⟩
  · have c15b := jcmpL_geN c15
    refine ev_lload rfl ?_
    refine ev_lload_n rfl ?_
    refine g_lmulG (fun v16 ev16 lv16 uv16 => ?_)
    refine ev_lload_n rfl ?_
    refine ev_lcmp ?_
    refine ev_ifeq f378_27 (fun c17 => ?_) (fun c17 => ?_)
    · have c17b := jcmpL_eq c17
      refine ev_lload rfl ?_
      exact ev_ret rfl (by decide) (by decide) ⟨_, rfl, by omega, by omega, g, k0⟩
    · have c17b := jcmpL_eqN c17
      refine ev_lload rfl ?_
      refine ev_lconst ?_
      refine g_lsubG (fun v18 ev18 lv18 uv18 => ?_)
      exact ev_ret rfl (by decide) (by decide) ⟨_, rfl, by omega, by omega, g, k0⟩
/-! 108 isSure -/
set_option maxHeartbeats 4000000 in
theorem s108_l {G : GH} {h : JH} {a1 : Int} (la1 : 0 ≤ a1) (ua1 : a1 ≤ 3) {a2 : Int} (la2 : 0 ≤ a2) (ua2 : a2 ≤ 3) : ∀ N : Nat, (∀ (h1 : JH) (x3 x4 : Int), Gd G h1 → Kp [] h h1 → 0 ≤ a1 → a1 ≤ 3 → 0 ≤ a2 → a2 ≤ 3 → 0 ≤ x3 → x3 ≤ 1 → 0 ≤ x4 → x4 ≤ 4 → ((-x4) + 9) < N → jEv (jOk 1) none (fun _ => 0) c108_0 0 0 (PI G [] h 0 0 1) (c108_5, [(2, 26), (0, a1), (0, a2), (0, x3), (0, x4)], [], h1, 0, 0)) ∧ (∀ (h1 : JH) (x3 x4 : Int), Gd G h1 → Kp [] h h1 → 0 ≤ a1 → a1 ≤ 3 → 0 ≤ a2 → a2 ≤ 3 → 0 ≤ x3 → x3 ≤ 1 → 0 ≤ x4 → x4 ≤ 4 → ((-x4) + 4) < N → jEv (jOk 1) none (fun _ => 0) c108_0 0 0 (PI G [] h 0 0 1) (c108_49, [(2, 26), (0, a1), (0, a2), (0, x3), (0, x4)], [], h1, 0, 0)) := by
  intro N
  induction N with
  | zero => exact ⟨fun h1 x3 x4 g1 k1 b0 b1 b2 b3 b4 b5 b6 b7 hm => absurd hm (by omega), fun h1 x3 x4 g1 k1 b0 b1 b2 b3 b4 b5 b6 b7 hm => absurd hm (by omega)⟩
  | succ N ih =>
    refine ⟨?_, ?_⟩
    · intro h1 x3 x4 g1 k1 b0 b1 b2 b3 b4 b5 b6 b7 hm
      refine ev_iload rfl ?_
      refine ev_aload_n rfl ?_
      obtain ⟨v103, ev103, lv103, uv103⟩ := g1.rd ad26 (show 0 < 15 by decide) rf26_0
      refine g_getv (r := 26) (v := v103) g1 ad26 (by decide) ft9_0 ev103 ?_
      refine ev_icmpge f108_46 (fun c104 => ?_) (fun c104 => ?_)
      · refine ev_iconst ?_
        refine ev_istore (L' := [(2, 26), (0, a1), (0, a2), (0, x3), (0, 0)]) (Nat.le_of_ble_eq_true rfl) rfl ?_
        exact ih.2 _ _ _ g1 k1 (by omega) (by omega) (by omega) (by omega) (by omega) (by omega) (by omega) (by omega) (by omega)
      · refine ev_iload_n rfl ?_
        refine ev_aload_n rfl ?_
        refine ev_iload rfl ?_
        refine ev_iload_n rfl ?_
        refine ev_iconst ?_
        refine ev_in (d := 0) (a := 0) (b := 0) (cd' := c106_0) (m := 4) (L0 := [(2, 26), (0, x4), (0, a2), (0, 0)]) (jcall_v (A := [(0, 0), (0, a2), (0, x4)]) (S' := [(0, x3)]) (r := 26) rfl (g1.lt ad26) (g1.tg ad26) (Nat.le_of_ble_eq_true rfl)) (by decide) ml106 pp106 (Nat.le_of_ble_eq_true rfl) rfl (by decide) (by decide) ?_
        refine ev_aload_n rfl ?_
        refine g_getp (r := 26) (c := 27) g1 ad26 (by decide) (by decide) rf26_2 ft9_2 ?_
        refine ev_bipush ?_
        refine ev_iload_n rfl ?_
        refine ev_imul (r := (8 * x4)) (by unfold w32; omega) ?_
        refine ev_iconst ?_
        refine ev_iload_n rfl ?_
        refine ev_imul (r := (2 * a2)) (by unfold w32; omega) ?_
        refine ev_iadd (r := (2 * a2 + 8 * x4)) (by unfold w32; omega) ?_
        refine ev_iload_n rfl ?_
        refine ev_iadd (r := (2 * a2 + 8 * x4)) (by unfold w32; omega) ?_
        refine g_iald g1 ad27 rt27 (by omega) (by omega) (fun v105 ev105 lv105 uv105 => ?_)
        refine ev_ret rfl (by decide) (by decide) ?_
        show jEv _ _ _ _ _ _ _ (_, [(2, 26), (0, a1), (0, a2), (0, x3), (0, x4)], [(0, v105), (0, x3)], _, _, _)
        refine ev_aload_n rfl ?_
        refine ev_iload_n rfl ?_
        refine ev_iload_n rfl ?_
        refine ev_iconst ?_
        refine ev_in (d := 0) (a := 0) (b := 0) (cd' := c106_0) (m := 4) (L0 := [(2, 26), (0, a1), (0, a2), (0, 0)]) (jcall_v (A := [(0, 0), (0, a2), (0, a1)]) (S' := [(0, v105), (0, x3)]) (r := 26) rfl (g1.lt ad26) (g1.tg ad26) (Nat.le_of_ble_eq_true rfl)) (by decide) ml106 pp106 (Nat.le_of_ble_eq_true rfl) rfl (by decide) (by decide) ?_
        refine ev_aload_n rfl ?_
        refine g_getp (r := 26) (c := 27) g1 ad26 (by decide) (by decide) rf26_2 ft9_2 ?_
        refine ev_bipush ?_
        refine ev_iload_n rfl ?_
        refine ev_imul (r := (8 * a1)) (by unfold w32; omega) ?_
        refine ev_iconst ?_
        refine ev_iload_n rfl ?_
        refine ev_imul (r := (2 * a2)) (by unfold w32; omega) ?_
        refine ev_iadd (r := (8 * a1 + 2 * a2)) (by unfold w32; omega) ?_
        refine ev_iload_n rfl ?_
        refine ev_iadd (r := (8 * a1 + 2 * a2)) (by unfold w32; omega) ?_
        refine g_iald g1 ad27 rt27 (by omega) (by omega) (fun v106 ev106 lv106 uv106 => ?_)
        refine ev_ret rfl (by decide) (by decide) ?_
        show jEv _ _ _ _ _ _ _ (_, [(2, 26), (0, a1), (0, a2), (0, x3), (0, x4)], [(0, v106), (0, v105), (0, x3)], _, _, _)
        refine ev_icmpgt f108_37 (fun c107 => ?_) (fun c107 => ?_)
        · refine ev_iconst ?_
          refine g_iandB (b := 0) (by omega) (by omega) (by decide) (fun v108 ev108 lv108 uv108 => ?_)
          refine ev_istore_n (L' := [(2, 26), (0, a1), (0, a2), (0, v108), (0, x4)]) (Nat.le_of_ble_eq_true rfl) rfl ?_
          refine ev_iinc (w := (x4 + 1)) (L' := [(2, 26), (0, a1), (0, a2), (0, v108), (0, (x4 + 1))]) rfl (by unfold w32; omega) rfl ?_
          refine ev_goto f108_5 ?_
          exact ih.1 _ _ _ g1 k1 (by omega) (by omega) (by omega) (by omega) (by omega) (by omega) (by omega) (by omega) (by omega)
        · refine ev_iconst ?_
          refine ev_goto f108_38 ?_
          refine g_iandB (b := 1) (by omega) (by omega) (by decide) (fun v109 ev109 lv109 uv109 => ?_)
          refine ev_istore_n (L' := [(2, 26), (0, a1), (0, a2), (0, v109), (0, x4)]) (Nat.le_of_ble_eq_true rfl) rfl ?_
          refine ev_iinc (w := (x4 + 1)) (L' := [(2, 26), (0, a1), (0, a2), (0, v109), (0, (x4 + 1))]) rfl (by unfold w32; omega) rfl ?_
          refine ev_goto f108_5 ?_
          exact ih.1 _ _ _ g1 k1 (by omega) (by omega) (by omega) (by omega) (by omega) (by omega) (by omega) (by omega) (by omega)
    · intro h1 x3 x4 g1 k1 b0 b1 b2 b3 b4 b5 b6 b7 hm
      refine ev_iload rfl ?_
      refine ev_aload_n rfl ?_
      obtain ⟨v110, ev110, lv110, uv110⟩ := g1.rd ad26 (show 1 < 15 by decide) rf26_1
      refine g_getv (r := 26) (v := v110) g1 ad26 (by decide) ft9_1 ev110 ?_
      refine ev_icmpge f108_90 (fun c111 => ?_) (fun c111 => ?_)
      · refine ev_iload_n rfl ?_
        exact ev_ret (jret_b (by omega)) (by decide) (by decide) ⟨_, rfl, by omega, by omega, g1, k1⟩
      · refine ev_iload_n rfl ?_
        refine ev_aload_n rfl ?_
        refine ev_iload_n rfl ?_
        refine ev_iload rfl ?_
        refine ev_iconst ?_
        refine ev_in (d := 0) (a := 0) (b := 0) (cd' := c106_0) (m := 4) (L0 := [(2, 26), (0, a1), (0, x4), (0, 1)]) (jcall_v (A := [(0, 1), (0, x4), (0, a1)]) (S' := [(0, x3)]) (r := 26) rfl (g1.lt ad26) (g1.tg ad26) (Nat.le_of_ble_eq_true rfl)) (by decide) ml106 pp106 (Nat.le_of_ble_eq_true rfl) rfl (by decide) (by decide) ?_
        refine ev_aload_n rfl ?_
        refine g_getp (r := 26) (c := 27) g1 ad26 (by decide) (by decide) rf26_2 ft9_2 ?_
        refine ev_bipush ?_
        refine ev_iload_n rfl ?_
        refine ev_imul (r := (8 * a1)) (by unfold w32; omega) ?_
        refine ev_iconst ?_
        refine ev_iload_n rfl ?_
        refine ev_imul (r := (2 * x4)) (by unfold w32; omega) ?_
        refine ev_iadd (r := (8 * a1 + 2 * x4)) (by unfold w32; omega) ?_
        refine ev_iload_n rfl ?_
        refine ev_iadd (r := (8 * a1 + 2 * x4 + 1)) (by unfold w32; omega) ?_
        refine g_iald g1 ad27 rt27 (by omega) (by omega) (fun v112 ev112 lv112 uv112 => ?_)
        refine ev_ret rfl (by decide) (by decide) ?_
        show jEv _ _ _ _ _ _ _ (_, [(2, 26), (0, a1), (0, a2), (0, x3), (0, x4)], [(0, v112), (0, x3)], _, _, _)
        refine ev_aload_n rfl ?_
        refine ev_iload_n rfl ?_
        refine ev_iload_n rfl ?_
        refine ev_iconst ?_
        refine ev_in (d := 0) (a := 0) (b := 0) (cd' := c106_0) (m := 4) (L0 := [(2, 26), (0, a1), (0, a2), (0, 1)]) (jcall_v (A := [(0, 1), (0, a2), (0, a1)]) (S' := [(0, v112), (0, x3)]) (r := 26) rfl (g1.lt ad26) (g1.tg ad26) (Nat.le_of_ble_eq_true rfl)) (by decide) ml106 pp106 (Nat.le_of_ble_eq_true rfl) rfl (by decide) (by decide) ?_
        refine ev_aload_n rfl ?_
        refine g_getp (r := 26) (c := 27) g1 ad26 (by decide) (by decide) rf26_2 ft9_2 ?_
        refine ev_bipush ?_
        refine ev_iload_n rfl ?_
        refine ev_imul (r := (8 * a1)) (by unfold w32; omega) ?_
        refine ev_iconst ?_
        refine ev_iload_n rfl ?_
        refine ev_imul (r := (2 * a2)) (by unfold w32; omega) ?_
        refine ev_iadd (r := (8 * a1 + 2 * a2)) (by unfold w32; omega) ?_
        refine ev_iload_n rfl ?_
        refine ev_iadd (r := (8 * a1 + 2 * a2 + 1)) (by unfold w32; omega) ?_
        refine g_iald g1 ad27 rt27 (by omega) (by omega) (fun v113 ev113 lv113 uv113 => ?_)
        refine ev_ret rfl (by decide) (by decide) ?_
        show jEv _ _ _ _ _ _ _ (_, [(2, 26), (0, a1), (0, a2), (0, x3), (0, x4)], [(0, v113), (0, v112), (0, x3)], _, _, _)
        refine ev_icmpgt f108_81 (fun c114 => ?_) (fun c114 => ?_)
        · refine ev_iconst ?_
          refine g_iandB (b := 0) (by omega) (by omega) (by decide) (fun v115 ev115 lv115 uv115 => ?_)
          refine ev_istore_n (L' := [(2, 26), (0, a1), (0, a2), (0, v115), (0, x4)]) (Nat.le_of_ble_eq_true rfl) rfl ?_
          refine ev_iinc (w := (x4 + 1)) (L' := [(2, 26), (0, a1), (0, a2), (0, v115), (0, (x4 + 1))]) rfl (by unfold w32; omega) rfl ?_
          refine ev_goto f108_49 ?_
          exact ih.2 _ _ _ g1 k1 (by omega) (by omega) (by omega) (by omega) (by omega) (by omega) (by omega) (by omega) (by omega)
        · refine ev_iconst ?_
          refine ev_goto f108_82 ?_
          refine g_iandB (b := 1) (by omega) (by omega) (by decide) (fun v116 ev116 lv116 uv116 => ?_)
          refine ev_istore_n (L' := [(2, 26), (0, a1), (0, a2), (0, v116), (0, x4)]) (Nat.le_of_ble_eq_true rfl) rfl ?_
          refine ev_iinc (w := (x4 + 1)) (L' := [(2, 26), (0, a1), (0, a2), (0, v116), (0, (x4 + 1))]) rfl (by unfold w32; omega) rfl ?_
          refine ev_goto f108_49 ?_
          exact ih.2 _ _ _ g1 k1 (by omega) (by omega) (by omega) (by omega) (by omega) (by omega) (by omega) (by omega) (by omega)
set_option maxHeartbeats 4000000 in
theorem s108 {G : GH} {h : JH} (g : Gd G h) {a1 : Int} (la1 : 0 ≤ a1) (ua1 : a1 ≤ 3) {a2 : Int} (la2 : 0 ≤ a2) (ua2 : a2 ≤ 3) : jOk 2 0 0 108 [(2, 26), (0, a1), (0, a2)] h (PI G [] h 0 0 1) := by
  refine ⟨by decide, by rw [ml108]; exact Nat.le_of_ble_eq_true rfl, ?_⟩
  rw [ml108, pp108]
  show jEv _ none _ c108_0 0 0 _ (c108_0, [(2, 26), (0, a1), (0, a2), (9, 0), (9, 0)], [], h, 0, 0)
  have k0 := Kp.rf [] h
  refine ev_iconst ?_
  refine ev_istore_n (L' := [(2, 26), (0, a1), (0, a2), (0, 1), (9, 0)]) (Nat.le_of_ble_eq_true rfl) rfl ?_
  refine ev_iconst ?_
  refine ev_istore (L' := [(2, 26), (0, a1), (0, a2), (0, 1), (0, 0)]) (Nat.le_of_ble_eq_true rfl) rfl ?_
  exact (s108_l la1 ua1 la2 ua2 15).1 _ _ _ g k0 (by omega) (by omega) (by omega) (by omega) (by omega) (by omega) (by omega) (by omega) (by omega)
/-! 109 surePair -/
set_option maxHeartbeats 4000000 in
theorem s109_l {G : GH} {h : JH} {a1 : Int} (la1 : (-2147483648) ≤ a1) (ua1 : a1 ≤ 2147483647) : ∀ N : Nat, (∀ (h1 : JH) (x2 x3 : Int) (j4 : AV), Gd G h1 → Kp [] h h1 → (-2147483648) ≤ a1 → a1 ≤ 2147483647 → (-2147483648) ≤ x2 → x2 ≤ 2147483647 → 0 ≤ x3 → x3 ≤ 4 → ((-10) * x3 + 45) < N → jEv (jOk 2) none (fun _ => 0) c109_0 0 0 (PI G [] h 0 (-2147483648) 2147483647) (c109_4, [(2, 26), (0, a1), (0, x2), (0, x3), j4], [], h1, 0, 0)) ∧ (∀ (h1 : JH) (x2 x3 x4 : Int), Gd G h1 → Kp [] h h1 → (-2147483648) ≤ a1 → a1 ≤ 2147483647 → (-2147483648) ≤ x2 → x2 ≤ 2147483647 → 0 ≤ x3 → x3 ≤ 3 → 0 ≤ x4 → x4 ≤ 4 → ((-10) * x3 + (-x4) + 44) < N → jEv (jOk 2) none (fun _ => 0) c109_0 0 0 (PI G [] h 0 (-2147483648) 2147483647) (c109_15, [(2, 26), (0, a1), (0, x2), (0, x3), (0, x4)], [], h1, 0, 0)) := by
  intro N
  induction N with
  | zero => exact ⟨fun h1 x2 x3 j4 g1 k1 b0 b1 b2 b3 b4 b5 hm => absurd hm (by omega), fun h1 x2 x3 x4 g1 k1 b0 b1 b2 b3 b4 b5 b6 b7 hm => absurd hm (by omega)⟩
  | succ N ih =>
    refine ⟨?_, ?_⟩
    · intro h1 x2 x3 j4 g1 k1 b0 b1 b2 b3 b4 b5 hm
      refine ev_iload_n rfl ?_
      refine ev_aload_n rfl ?_
      obtain ⟨v798, ev798, lv798, uv798⟩ := g1.rd ad26 (show 0 < 15 by decide) rf26_0
      refine g_getv (r := 26) (v := v798) g1 ad26 (by decide) ft9_0 ev798 ?_
      refine ev_icmpge f109_62 (fun c799 => ?_) (fun c799 => ?_)
      · refine ev_iload_n rfl ?_
        refine ev_iconst ?_
        refine ev_icmpne f109_71 (fun c800 => ?_) (fun c800 => ?_)
        · refine ev_iconst ?_
          exact ev_ret rfl (by decide) (by decide) ⟨_, rfl, by omega, by omega, g1, k1⟩
        · refine ev_iload_n rfl ?_
          refine ev_goto f109_72 ?_
          exact ev_ret rfl (by decide) (by decide) ⟨_, rfl, by omega, by omega, g1, k1⟩
      · refine ev_iconst ?_
        refine ev_istore (L' := [(2, 26), (0, a1), (0, x2), (0, x3), (0, 0)]) (Nat.le_of_ble_eq_true rfl) rfl ?_
        exact ih.2 _ _ _ _ g1 k1 (by omega) (by omega) (by omega) (by omega) (by omega) (by omega) (by omega) (by omega) (by omega)
    · intro h1 x2 x3 x4 g1 k1 b0 b1 b2 b3 b4 b5 b6 b7 hm
      refine ev_iload rfl ?_
      refine ev_aload_n rfl ?_
      obtain ⟨v801, ev801, lv801, uv801⟩ := g1.rd ad26 (show 1 < 15 by decide) rf26_1
      refine g_getv (r := 26) (v := v801) g1 ad26 (by decide) ft9_1 ev801 ?_
      refine ev_icmpge f109_56 (fun c802 => ?_) (fun c802 => ?_)
      · refine ev_iinc (w := (x3 + 1)) (L' := [(2, 26), (0, a1), (0, x2), (0, (x3 + 1)), (0, x4)]) rfl (by unfold w32; omega) rfl ?_
        refine ev_goto f109_4 ?_
        exact ih.1 _ _ _ _ g1 k1 (by omega) (by omega) (by omega) (by omega) (by omega) (by omega) (by omega)
      · refine ev_aload_n rfl ?_
        refine ev_iload_n rfl ?_
        refine ev_iload rfl ?_
        refine ev_call (jcall_v (A := [(0, x4), (0, x3)]) (S' := []) (r := 26) rfl (g1.lt ad26) (g1.tg ad26) (Nat.le_of_ble_eq_true rfl)) (jOk_le (by decide) (s108 g1 (by omega) (by omega) (by omega) (by omega))) (by decide) (by decide) (fun w803 h803 q803 => ?_)
        obtain ⟨v804, rfl, lv804, uv804, g803, kk803⟩ := q803
        have k803 := k1.tr kk803 (by decide)
        show jEv _ _ _ _ _ _ _ (_, [(2, 26), (0, a1), (0, x2), (0, x3), (0, x4)], [(0, v804)], _, _, _)
        refine ev_ifeq f109_50 (fun c805 => ?_) (fun c805 => ?_)
        · refine ev_iinc (w := (x4 + 1)) (L' := [(2, 26), (0, a1), (0, x2), (0, x3), (0, (x4 + 1))]) rfl (by unfold w32; omega) rfl ?_
          refine ev_goto f109_15 ?_
          exact ih.2 _ _ _ _ g803 k803 (by omega) (by omega) (by omega) (by omega) (by omega) (by omega) (by omega) (by omega) (by omega)
        · refine ev_iload_n rfl ?_
          refine ev_iload_n rfl ?_
          refine ev_icmpne f109_47 (fun c806 => ?_) (fun c806 => ?_)
          · refine g_iincG (f := fun w => [(2, 26), (0, a1), (0, w), (0, x3), (0, x4)]) rfl (fun _ => rfl) (fun v807 ev807 lv807 uv807 => ?_)
            refine ev_iinc (w := (x4 + 1)) (L' := [(2, 26), (0, a1), (0, v807), (0, x3), (0, (x4 + 1))]) rfl (by unfold w32; omega) rfl ?_
            refine ev_goto f109_15 ?_
            exact ih.2 _ _ _ _ g803 k803 (by omega) (by omega) (by omega) (by omega) (by omega) (by omega) (by omega) (by omega) (by omega)
          · refine ev_bipush ?_
            refine ev_iload_n rfl ?_
            refine ev_imul (r := (10 * x3)) (by unfold w32; omega) ?_
            refine ev_iload rfl ?_
            refine ev_iadd (r := (10 * x3 + x4)) (by unfold w32; omega) ?_
            exact ev_ret rfl (by decide) (by decide) ⟨_, rfl, by omega, by omega, g803, k803⟩
set_option maxHeartbeats 4000000 in
theorem s109 {G : GH} {h : JH} (g : Gd G h) {a1 : Int} (la1 : (-2147483648) ≤ a1) (ua1 : a1 ≤ 2147483647) : jOk 3 0 0 109 [(2, 26), (0, a1)] h (PI G [] h 0 (-2147483648) 2147483647) := by
  refine ⟨by decide, by rw [ml109]; exact Nat.le_of_ble_eq_true rfl, ?_⟩
  rw [ml109, pp109]
  show jEv _ none _ c109_0 0 0 _ (c109_0, [(2, 26), (0, a1), (9, 0), (9, 0), (9, 0)], [], h, 0, 0)
  have k0 := Kp.rf [] h
  refine ev_iconst ?_
  refine ev_istore_n (L' := [(2, 26), (0, a1), (0, 0), (9, 0), (9, 0)]) (Nat.le_of_ble_eq_true rfl) rfl ?_
  refine ev_iconst ?_
  refine ev_istore_n (L' := [(2, 26), (0, a1), (0, 0), (0, 0), (9, 0)]) (Nat.le_of_ble_eq_true rfl) rfl ?_
  exact (s109_l la1 ua1 100).1 _ _ _ _ g k0 (by omega) (by omega) (by omega) (by omega) (by omega) (by omega) (by omega)
/-! 110 isDuel -/
set_option maxHeartbeats 4000000 in
theorem s110_l {G : GH} {h : JH}  : ∀ N : Nat, (∀ (h1 : JH) (x1 x2 : Int), Gd G h1 → Kp [] h h1 → 0 ≤ x1 → x1 ≤ 1 → 0 ≤ x2 → x2 ≤ 4 → ((-x2) + 4) < N → jEv (jOk 1) none (fun _ => 0) c110_0 0 0 (PI G [] h 0 0 1) (c110_24, [(2, 26), (0, x1), (0, x2)], [], h1, 0, 0)) := by
  intro N
  induction N with
  | zero => exact fun h1 x1 x2 g1 k1 b0 b1 b2 b3 hm => absurd hm (by omega)
  | succ N ih =>
    show _
    intro h1 x1 x2 g1 k1 b0 b1 b2 b3 hm
    refine ev_iload_n rfl ?_
    refine ev_iconst ?_
    refine ev_icmpge f110_71 (fun c870 => ?_) (fun c870 => ?_)
    · refine ev_iload_n rfl ?_
      exact ev_ret (jret_b (by omega)) (by decide) (by decide) ⟨_, rfl, by omega, by omega, g1, k1⟩
    · refine ev_iload_n rfl ?_
      refine ev_ifeq f110_71 (fun c871 => ?_) (fun c871 => ?_)
      · refine ev_iload_n rfl ?_
        exact ev_ret (jret_b (by omega)) (by decide) (by decide) ⟨_, rfl, by omega, by omega, g1, k1⟩
      · refine ev_aload_n rfl ?_
        refine ev_iload_n rfl ?_
        refine ev_iconst ?_
        refine g_idivP (c := 2) rfl (by decide) (by omega) (by omega) (fun v872 ev872 lv872 uv872 => ?_)
        refine ev_iload_n rfl ?_
        refine ev_iconst ?_
        refine g_iremP (c := 2) rfl (by decide) (by omega) (fun v873 ev873 lv873 uv873 wv873 => ?_)
        refine ev_iconst ?_
        refine ev_in (d := 0) (a := 0) (b := 0) (cd' := c106_0) (m := 4) (L0 := [(2, 26), (0, v872), (0, v873), (0, 0)]) (jcall_v (A := [(0, 0), (0, v873), (0, v872)]) (S' := []) (r := 26) rfl (g1.lt ad26) (g1.tg ad26) (Nat.le_of_ble_eq_true rfl)) (by decide) ml106 pp106 (Nat.le_of_ble_eq_true rfl) rfl (by decide) (by decide) ?_
        refine ev_aload_n rfl ?_
        refine g_getp (r := 26) (c := 27) g1 ad26 (by decide) (by decide) rf26_2 ft9_2 ?_
        refine ev_bipush ?_
        refine ev_iload_n rfl ?_
        refine ev_imul (r := (8 * v872)) (by unfold w32; omega) ?_
        refine ev_iconst ?_
        refine ev_iload_n rfl ?_
        refine ev_imul (r := (2 * v873)) (by unfold w32; omega) ?_
        refine ev_iadd (r := (8 * v872 + 2 * v873)) (by unfold w32; omega) ?_
        refine ev_iload_n rfl ?_
        refine ev_iadd (r := (8 * v872 + 2 * v873)) (by unfold w32; omega) ?_
        refine g_iald g1 ad27 rt27 (by omega) (by omega) (fun v874 ev874 lv874 uv874 => ?_)
        refine ev_ret rfl (by decide) (by decide) ?_
        show jEv _ _ _ _ _ _ _ (_, [(2, 26), (0, x1), (0, x2)], [(0, v874)], _, _, _)
        refine ev_aload_n rfl ?_
        refine ev_iload_n rfl ?_
        refine ev_iconst ?_
        refine g_idivP (c := 2) rfl (by decide) (by omega) (by omega) (fun v875 ev875 lv875 uv875 => ?_)
        refine ev_iload_n rfl ?_
        refine ev_iconst ?_
        refine g_iremP (c := 2) rfl (by decide) (by omega) (fun v876 ev876 lv876 uv876 wv876 => ?_)
        refine ev_iconst ?_
        refine ev_in (d := 0) (a := 0) (b := 0) (cd' := c106_0) (m := 4) (L0 := [(2, 26), (0, v875), (0, v876), (0, 1)]) (jcall_v (A := [(0, 1), (0, v876), (0, v875)]) (S' := [(0, v874)]) (r := 26) rfl (g1.lt ad26) (g1.tg ad26) (Nat.le_of_ble_eq_true rfl)) (by decide) ml106 pp106 (Nat.le_of_ble_eq_true rfl) rfl (by decide) (by decide) ?_
        refine ev_aload_n rfl ?_
        refine g_getp (r := 26) (c := 27) g1 ad26 (by decide) (by decide) rf26_2 ft9_2 ?_
        refine ev_bipush ?_
        refine ev_iload_n rfl ?_
        refine ev_imul (r := (8 * v875)) (by unfold w32; omega) ?_
        refine ev_iconst ?_
        refine ev_iload_n rfl ?_
        refine ev_imul (r := (2 * v876)) (by unfold w32; omega) ?_
        refine ev_iadd (r := (8 * v875 + 2 * v876)) (by unfold w32; omega) ?_
        refine ev_iload_n rfl ?_
        refine ev_iadd (r := (8 * v875 + 2 * v876 + 1)) (by unfold w32; omega) ?_
        refine g_iald g1 ad27 rt27 (by omega) (by omega) (fun v877 ev877 lv877 uv877 => ?_)
        refine ev_ret rfl (by decide) (by decide) ?_
        show jEv _ _ _ _ _ _ _ (_, [(2, 26), (0, x1), (0, x2)], [(0, v877), (0, v874)], _, _, _)
        refine ev_ineg (r := ((-v877))) (by unfold w32; omega) ?_
        refine ev_icmpne f110_63 (fun c878 => ?_) (fun c878 => ?_)
        · refine ev_iconst ?_
          refine ev_istore_n (L' := [(2, 26), (0, 0), (0, x2)]) (Nat.le_of_ble_eq_true rfl) rfl ?_
          refine ev_iinc (w := (x2 + 1)) (L' := [(2, 26), (0, 0), (0, (x2 + 1))]) rfl (by unfold w32; omega) rfl ?_
          refine ev_goto f110_24 ?_
          exact ih _ _ _ g1 k1 (by omega) (by omega) (by omega) (by omega) (by omega)
        · refine ev_iconst ?_
          refine ev_goto f110_64 ?_
          refine ev_istore_n (L' := [(2, 26), (0, 1), (0, x2)]) (Nat.le_of_ble_eq_true rfl) rfl ?_
          refine ev_iinc (w := (x2 + 1)) (L' := [(2, 26), (0, 1), (0, (x2 + 1))]) rfl (by unfold w32; omega) rfl ?_
          refine ev_goto f110_24 ?_
          exact ih _ _ _ g1 k1 (by omega) (by omega) (by omega) (by omega) (by omega)
set_option maxHeartbeats 4000000 in
theorem s110 {G : GH} {h : JH} (g : Gd G h)  : jOk 2 0 0 110 [(2, 26)] h (PI G [] h 0 0 1) := by
  refine ⟨by decide, by rw [ml110]; exact Nat.le_of_ble_eq_true rfl, ?_⟩
  rw [ml110, pp110]
  show jEv _ none _ c110_0 0 0 _ (c110_0, [(2, 26), (9, 0), (9, 0)], [], h, 0, 0)
  have k0 := Kp.rf [] h
  refine ev_aload_n rfl ?_
  obtain ⟨v879, ev879, lv879, uv879⟩ := g.rd ad26 (show 0 < 15 by decide) rf26_0
  refine g_getv (r := 26) (v := v879) g ad26 (by decide) ft9_0 ev879 ?_
  refine ev_iconst ?_
  refine ev_icmpne f110_20 (fun c880 => ?_) (fun c880 => ?_)
  · refine ev_iconst ?_
    refine ev_istore_n (L' := [(2, 26), (0, 0), (9, 0)]) (Nat.le_of_ble_eq_true rfl) rfl ?_
    refine ev_iconst ?_
    refine ev_istore_n (L' := [(2, 26), (0, 0), (0, 0)]) (Nat.le_of_ble_eq_true rfl) rfl ?_
    exact (s110_l  10) _ _ _ g k0 (by omega) (by omega) (by omega) (by omega) (by omega)
  · refine ev_aload_n rfl ?_
    obtain ⟨v881, ev881, lv881, uv881⟩ := g.rd ad26 (show 1 < 15 by decide) rf26_1
    refine g_getv (r := 26) (v := v881) g ad26 (by decide) ft9_1 ev881 ?_
    refine ev_iconst ?_
    refine ev_icmpne f110_20 (fun c882 => ?_) (fun c882 => ?_)
    · refine ev_iconst ?_
      refine ev_istore_n (L' := [(2, 26), (0, 0), (9, 0)]) (Nat.le_of_ble_eq_true rfl) rfl ?_
      refine ev_iconst ?_
      refine ev_istore_n (L' := [(2, 26), (0, 0), (0, 0)]) (Nat.le_of_ble_eq_true rfl) rfl ?_
      exact (s110_l  10) _ _ _ g k0 (by omega) (by omega) (by omega) (by omega) (by omega)
    · refine ev_iconst ?_
      refine ev_goto f110_21 ?_
      refine ev_istore_n (L' := [(2, 26), (0, 1), (9, 0)]) (Nat.le_of_ble_eq_true rfl) rfl ?_
      refine ev_iconst ?_
      refine ev_istore_n (L' := [(2, 26), (0, 1), (0, 0)]) (Nat.le_of_ble_eq_true rfl) rfl ?_
      exact (s110_l  10) _ _ _ g k0 (by omega) (by omega) (by omega) (by omega) (by omega)
/-! 118 beats -/
set_option maxHeartbeats 4000000 in
theorem s118_l {G : GH} {h : JH} {a1 : Int} (la1 : 0 ≤ a1) (ua1 : a1 ≤ 3) {a2 : Int} (la2 : 0 ≤ a2) (ua2 : a2 ≤ 3) {a3 : Int} (la3 : (-2147483648) ≤ a3) (ua3 : a3 ≤ 2147483647) {a4 : Int} (la4 : 0 ≤ a4) (ua4 : a4 ≤ 1) : ∀ N : Nat, (∀ (h1 : JH) (x5 : Int) (j6 j7 : AV), Gd G h1 → Kp [] h h1 → 0 ≤ a1 → a1 ≤ 3 → 0 ≤ a2 → a2 ≤ 3 → (-2147483648) ≤ a3 → a3 ≤ 2147483647 → 0 ≤ a4 → a4 ≤ 1 → 0 ≤ x5 → x5 ≤ 4 → ((-x5) + 4) < N → jEv (jOk 1) none (fun _ => 0) c118_0 0 0 (PI G [] h 0 0 1) (c118_3, [(2, 26), (0, a1), (0, a2), (0, a3), (0, a4), (0, x5), j6, j7], [], h1, 0, 0)) := by
  intro N
  induction N with
  | zero => exact fun h1 x5 j6 j7 g1 k1 b0 b1 b2 b3 b4 b5 b6 b7 b8 b9 hm => absurd hm (by omega)
  | succ N ih =>
    show _
    intro h1 x5 j6 j7 g1 k1 b0 b1 b2 b3 b4 b5 b6 b7 b8 b9 hm
    refine ev_iload rfl ?_
    refine ev_iconst ?_
    refine ev_icmpge f118_86 (fun c961 => ?_) (fun c961 => ?_)
    · refine ev_iconst ?_
      exact ev_ret rfl (by decide) (by decide) ⟨_, rfl, by omega, by omega, g1, k1⟩
    · refine ev_iload_n rfl ?_
      refine ev_iload rfl ?_
      refine g_ishrG (fun v962 ev962 lv962 uv962 => ?_)
      refine ev_iconst ?_
      refine g_iandB (b := 1) (by omega) (by omega) (by decide) (fun v963 ev963 lv963 uv963 => ?_)
      refine ev_iconst ?_
      refine ev_icmpne f118_80 (fun c964 => ?_) (fun c964 => ?_)
      · refine ev_iinc (w := (x5 + 1)) (L' := [(2, 26), (0, a1), (0, a2), (0, a3), (0, a4), (0, (x5 + 1)), j6, j7]) rfl (by unfold w32; omega) rfl ?_
        refine ev_goto f118_3 ?_
        exact ih _ _ _ _ g1 k1 (by omega) (by omega) (by omega) (by omega) (by omega) (by omega) (by omega) (by omega) (by omega) (by omega) (by omega)
      · refine ev_iload rfl ?_
        refine ev_ifne f118_35 (fun c965 => ?_) (fun c965 => ?_)
        · refine ev_aload_n rfl ?_
          refine ev_iload rfl ?_
          refine ev_iload_n rfl ?_
          refine ev_iconst ?_
          refine ev_in (d := 0) (a := 0) (b := 0) (cd' := c106_0) (m := 4) (L0 := [(2, 26), (0, x5), (0, a1), (0, 1)]) (jcall_v (A := [(0, 1), (0, a1), (0, x5)]) (S' := []) (r := 26) rfl (g1.lt ad26) (g1.tg ad26) (Nat.le_of_ble_eq_true rfl)) (by decide) ml106 pp106 (Nat.le_of_ble_eq_true rfl) rfl (by decide) (by decide) ?_
          refine ev_aload_n rfl ?_
          refine g_getp (r := 26) (c := 27) g1 ad26 (by decide) (by decide) rf26_2 ft9_2 ?_
          refine ev_bipush ?_
          refine ev_iload_n rfl ?_
          refine ev_imul (r := (8 * x5)) (by unfold w32; omega) ?_
          refine ev_iconst ?_
          refine ev_iload_n rfl ?_
          refine ev_imul (r := (2 * a1)) (by unfold w32; omega) ?_
          refine ev_iadd (r := (2 * a1 + 8 * x5)) (by unfold w32; omega) ?_
          refine ev_iload_n rfl ?_
          refine ev_iadd (r := (2 * a1 + 8 * x5 + 1)) (by unfold w32; omega) ?_
          refine g_iald g1 ad27 rt27 (by omega) (by omega) (fun v966 ev966 lv966 uv966 => ?_)
          refine ev_ret rfl (by decide) (by decide) ?_
          show jEv _ _ _ _ _ _ _ (_, [(2, 26), (0, a1), (0, a2), (0, a3), (0, a4), (0, x5), j6, j7], [(0, v966)], _, _, _)
          refine ev_istore (L' := [(2, 26), (0, a1), (0, a2), (0, a3), (0, a4), (0, x5), (0, v966), j7]) (Nat.le_of_ble_eq_true rfl) rfl ?_
          refine ev_iload rfl ?_
          refine ev_ifne f118_61 (fun c967 => ?_) (fun c967 => absurd c967 (by omega))
          refine ev_aload_n rfl ?_
          refine ev_iload rfl ?_
          refine ev_iload_n rfl ?_
          refine ev_iconst ?_
          refine ev_in (d := 0) (a := 0) (b := 0) (cd' := c106_0) (m := 4) (L0 := [(2, 26), (0, x5), (0, a2), (0, 1)]) (jcall_v (A := [(0, 1), (0, a2), (0, x5)]) (S' := []) (r := 26) rfl (g1.lt ad26) (g1.tg ad26) (Nat.le_of_ble_eq_true rfl)) (by decide) ml106 pp106 (Nat.le_of_ble_eq_true rfl) rfl (by decide) (by decide) ?_
          refine ev_aload_n rfl ?_
          refine g_getp (r := 26) (c := 27) g1 ad26 (by decide) (by decide) rf26_2 ft9_2 ?_
          refine ev_bipush ?_
          refine ev_iload_n rfl ?_
          refine ev_imul (r := (8 * x5)) (by unfold w32; omega) ?_
          refine ev_iconst ?_
          refine ev_iload_n rfl ?_
          refine ev_imul (r := (2 * a2)) (by unfold w32; omega) ?_
          refine ev_iadd (r := (2 * a2 + 8 * x5)) (by unfold w32; omega) ?_
          refine ev_iload_n rfl ?_
          refine ev_iadd (r := (2 * a2 + 8 * x5 + 1)) (by unfold w32; omega) ?_
          refine g_iald g1 ad27 rt27 (by omega) (by omega) (fun v968 ev968 lv968 uv968 => ?_)
          refine ev_ret rfl (by decide) (by decide) ?_
          show jEv _ _ _ _ _ _ _ (_, [(2, 26), (0, a1), (0, a2), (0, a3), (0, a4), (0, x5), (0, v966), j7], [(0, v968)], _, _, _)
          refine ev_istore (L' := [(2, 26), (0, a1), (0, a2), (0, a3), (0, a4), (0, x5), (0, v966), (0, v968)]) (Nat.le_of_ble_eq_true rfl) rfl ?_
          refine ev_iload rfl ?_
          refine ev_iload rfl ?_
          refine ev_icmpgt f118_80 (fun c969 => ?_) (fun c969 => ?_)
          · refine ev_iinc (w := (x5 + 1)) (L' := [(2, 26), (0, a1), (0, a2), (0, a3), (0, a4), (0, (x5 + 1)), (0, v966), (0, v968)]) rfl (by unfold w32; omega) rfl ?_
            refine ev_goto f118_3 ?_
            exact ih _ _ _ _ g1 k1 (by omega) (by omega) (by omega) (by omega) (by omega) (by omega) (by omega) (by omega) (by omega) (by omega) (by omega)
          · refine ev_iconst ?_
            exact ev_ret rfl (by decide) (by decide) ⟨_, rfl, by omega, by omega, g1, k1⟩
        · refine ev_aload_n rfl ?_
          refine ev_iload_n rfl ?_
          refine ev_iload rfl ?_
          refine ev_iconst ?_
          refine ev_in (d := 0) (a := 0) (b := 0) (cd' := c106_0) (m := 4) (L0 := [(2, 26), (0, a1), (0, x5), (0, 0)]) (jcall_v (A := [(0, 0), (0, x5), (0, a1)]) (S' := []) (r := 26) rfl (g1.lt ad26) (g1.tg ad26) (Nat.le_of_ble_eq_true rfl)) (by decide) ml106 pp106 (Nat.le_of_ble_eq_true rfl) rfl (by decide) (by decide) ?_
          refine ev_aload_n rfl ?_
          refine g_getp (r := 26) (c := 27) g1 ad26 (by decide) (by decide) rf26_2 ft9_2 ?_
          refine ev_bipush ?_
          refine ev_iload_n rfl ?_
          refine ev_imul (r := (8 * a1)) (by unfold w32; omega) ?_
          refine ev_iconst ?_
          refine ev_iload_n rfl ?_
          refine ev_imul (r := (2 * x5)) (by unfold w32; omega) ?_
          refine ev_iadd (r := (8 * a1 + 2 * x5)) (by unfold w32; omega) ?_
          refine ev_iload_n rfl ?_
          refine ev_iadd (r := (8 * a1 + 2 * x5)) (by unfold w32; omega) ?_
          refine g_iald g1 ad27 rt27 (by omega) (by omega) (fun v970 ev970 lv970 uv970 => ?_)
          refine ev_ret rfl (by decide) (by decide) ?_
          show jEv _ _ _ _ _ _ _ (_, [(2, 26), (0, a1), (0, a2), (0, a3), (0, a4), (0, x5), j6, j7], [(0, v970)], _, _, _)
          refine ev_goto f118_43 ?_
          refine ev_istore (L' := [(2, 26), (0, a1), (0, a2), (0, a3), (0, a4), (0, x5), (0, v970), j7]) (Nat.le_of_ble_eq_true rfl) rfl ?_
          refine ev_iload rfl ?_
          refine ev_ifne f118_61 (fun c971 => absurd c971 (by omega)) (fun c971 => ?_)
          refine ev_aload_n rfl ?_
          refine ev_iload_n rfl ?_
          refine ev_iload rfl ?_
          refine ev_iconst ?_
          refine ev_in (d := 0) (a := 0) (b := 0) (cd' := c106_0) (m := 4) (L0 := [(2, 26), (0, a2), (0, x5), (0, 0)]) (jcall_v (A := [(0, 0), (0, x5), (0, a2)]) (S' := []) (r := 26) rfl (g1.lt ad26) (g1.tg ad26) (Nat.le_of_ble_eq_true rfl)) (by decide) ml106 pp106 (Nat.le_of_ble_eq_true rfl) rfl (by decide) (by decide) ?_
          refine ev_aload_n rfl ?_
          refine g_getp (r := 26) (c := 27) g1 ad26 (by decide) (by decide) rf26_2 ft9_2 ?_
          refine ev_bipush ?_
          refine ev_iload_n rfl ?_
          refine ev_imul (r := (8 * a2)) (by unfold w32; omega) ?_
          refine ev_iconst ?_
          refine ev_iload_n rfl ?_
          refine ev_imul (r := (2 * x5)) (by unfold w32; omega) ?_
          refine ev_iadd (r := (8 * a2 + 2 * x5)) (by unfold w32; omega) ?_
          refine ev_iload_n rfl ?_
          refine ev_iadd (r := (8 * a2 + 2 * x5)) (by unfold w32; omega) ?_
          refine g_iald g1 ad27 rt27 (by omega) (by omega) (fun v972 ev972 lv972 uv972 => ?_)
          refine ev_ret rfl (by decide) (by decide) ?_
          show jEv _ _ _ _ _ _ _ (_, [(2, 26), (0, a1), (0, a2), (0, a3), (0, a4), (0, x5), (0, v970), j7], [(0, v972)], _, _, _)
          refine ev_goto f118_69 ?_
          refine ev_istore (L' := [(2, 26), (0, a1), (0, a2), (0, a3), (0, a4), (0, x5), (0, v970), (0, v972)]) (Nat.le_of_ble_eq_true rfl) rfl ?_
          refine ev_iload rfl ?_
          refine ev_iload rfl ?_
          refine ev_icmpgt f118_80 (fun c973 => ?_) (fun c973 => ?_)
          · refine ev_iinc (w := (x5 + 1)) (L' := [(2, 26), (0, a1), (0, a2), (0, a3), (0, a4), (0, (x5 + 1)), (0, v970), (0, v972)]) rfl (by unfold w32; omega) rfl ?_
            refine ev_goto f118_3 ?_
            exact ih _ _ _ _ g1 k1 (by omega) (by omega) (by omega) (by omega) (by omega) (by omega) (by omega) (by omega) (by omega) (by omega) (by omega)
          · refine ev_iconst ?_
            exact ev_ret rfl (by decide) (by decide) ⟨_, rfl, by omega, by omega, g1, k1⟩
set_option maxHeartbeats 4000000 in
theorem s118 {G : GH} {h : JH} (g : Gd G h) {a1 : Int} (la1 : 0 ≤ a1) (ua1 : a1 ≤ 3) {a2 : Int} (la2 : 0 ≤ a2) (ua2 : a2 ≤ 3) {a3 : Int} (la3 : (-2147483648) ≤ a3) (ua3 : a3 ≤ 2147483647) {a4 : Int} (la4 : 0 ≤ a4) (ua4 : a4 ≤ 1) : jOk 2 0 0 118 [(2, 26), (0, a1), (0, a2), (0, a3), (0, a4)] h (PI G [] h 0 0 1) := by
  refine ⟨by decide, by rw [ml118]; exact Nat.le_of_ble_eq_true rfl, ?_⟩
  rw [ml118, pp118]
  show jEv _ none _ c118_0 0 0 _ (c118_0, [(2, 26), (0, a1), (0, a2), (0, a3), (0, a4), (9, 0), (9, 0), (9, 0)], [], h, 0, 0)
  have k0 := Kp.rf [] h
  refine ev_iconst ?_
  refine ev_istore (L' := [(2, 26), (0, a1), (0, a2), (0, a3), (0, a4), (0, 0), (9, 0), (9, 0)]) (Nat.le_of_ble_eq_true rfl) rfl ?_
  exact (s118_l la1 ua1 la2 ua2 la3 ua3 la4 ua4 10) _ _ _ _ g k0 (by omega) (by omega) (by omega) (by omega) (by omega) (by omega) (by omega) (by omega) (by omega) (by omega) (by omega)
/-! 117 lineToStrike -/
set_option maxHeartbeats 4000000 in
theorem s117_l {G : GH} {h : JH} {a1 : Int} (la1 : (-2147483648) ≤ a1) (ua1 : a1 ≤ 2147483647) {a2 : Int} (la2 : (-2147483648) ≤ a2) (ua2 : a2 ≤ 2147483647) {a3 : Int} (la3 : 0 ≤ a3) (ua3 : a3 ≤ 1) : ∀ N : Nat, (∀ (h1 : JH) (x4 : Int) (j5 : AV), Gd G h1 → Kp [] h h1 → (-2147483648) ≤ a1 → a1 ≤ 2147483647 → (-2147483648) ≤ a2 → a2 ≤ 2147483647 → 0 ≤ a3 → a3 ≤ 1 → 0 ≤ x4 → x4 ≤ 4 → ((-10) * x4 + 45) < N → jEv (jOk 2) none (fun _ => 0) c117_0 0 0 (PI G [] h 0 (-1) 3) (c117_3, [(2, 26), (0, a1), (0, a2), (0, a3), (0, x4), j5], [], h1, 0, 0)) ∧ (∀ (h1 : JH) (x4 x5 : Int), Gd G h1 → Kp [] h h1 → (-2147483648) ≤ a1 → a1 ≤ 2147483647 → (-2147483648) ≤ a2 → a2 ≤ 2147483647 → 0 ≤ a3 → a3 ≤ 1 → 0 ≤ x4 → x4 ≤ 3 → 0 ≤ x5 → x5 ≤ 4 → ((-10) * x4 + (-x5) + 44) < N → jEv (jOk 2) none (fun _ => 0) c117_0 0 0 (PI G [] h 0 (-1) 3) (c117_12, [(2, 26), (0, a1), (0, a2), (0, a3), (0, x4), (0, x5)], [], h1, 0, 0)) := by
  intro N
  induction N with
  | zero => exact ⟨fun h1 x4 j5 g1 k1 b0 b1 b2 b3 b4 b5 b6 b7 hm => absurd hm (by omega), fun h1 x4 x5 g1 k1 b0 b1 b2 b3 b4 b5 b6 b7 b8 b9 hm => absurd hm (by omega)⟩
  | succ N ih =>
    refine ⟨?_, ?_⟩
    · intro h1 x4 j5 g1 k1 b0 b1 b2 b3 b4 b5 b6 b7 hm
      refine ev_iload rfl ?_
      refine ev_iconst ?_
      refine ev_icmpge f117_73 (fun c1040 => ?_) (fun c1040 => ?_)
      · refine ev_iconst ?_
        exact ev_ret rfl (by decide) (by decide) ⟨_, rfl, by omega, by omega, g1, k1⟩
      · refine ev_iconst ?_
        refine ev_istore (L' := [(2, 26), (0, a1), (0, a2), (0, a3), (0, x4), (0, 0)]) (Nat.le_of_ble_eq_true rfl) rfl ?_
        exact ih.2 _ _ _ g1 k1 (by omega) (by omega) (by omega) (by omega) (by omega) (by omega) (by omega) (by omega) (by omega) (by omega) (by omega)
    · intro h1 x4 x5 g1 k1 b0 b1 b2 b3 b4 b5 b6 b7 b8 b9 hm
      refine ev_iload rfl ?_
      refine ev_iconst ?_
      refine ev_icmpge f117_67 (fun c1041 => ?_) (fun c1041 => ?_)
      · refine ev_iinc (w := (x4 + 1)) (L' := [(2, 26), (0, a1), (0, a2), (0, a3), (0, (x4 + 1)), (0, x5)]) rfl (by unfold w32; omega) rfl ?_
        refine ev_goto f117_3 ?_
        exact ih.1 _ _ _ g1 k1 (by omega) (by omega) (by omega) (by omega) (by omega) (by omega) (by omega) (by omega) (by omega)
      · refine ev_iload_n rfl ?_
        refine ev_iload rfl ?_
        refine g_ishrG (fun v1042 ev1042 lv1042 uv1042 => ?_)
        refine ev_iconst ?_
        refine g_iandB (b := 1) (by omega) (by omega) (by decide) (fun v1043 ev1043 lv1043 uv1043 => ?_)
        refine ev_iconst ?_
        refine ev_icmpne f117_67 (fun c1044 => ?_) (fun c1044 => ?_)
        · refine ev_iinc (w := (x4 + 1)) (L' := [(2, 26), (0, a1), (0, a2), (0, a3), (0, (x4 + 1)), (0, x5)]) rfl (by unfold w32; omega) rfl ?_
          refine ev_goto f117_3 ?_
          exact ih.1 _ _ _ g1 k1 (by omega) (by omega) (by omega) (by omega) (by omega) (by omega) (by omega) (by omega) (by omega)
        · refine ev_iload rfl ?_
          refine ev_iload rfl ?_
          refine ev_icmpeq f117_61 (fun c1045 => ?_) (fun c1045 => ?_)
          · refine ev_iinc (w := (x5 + 1)) (L' := [(2, 26), (0, a1), (0, a2), (0, a3), (0, x4), (0, (x5 + 1))]) rfl (by unfold w32; omega) rfl ?_
            refine ev_goto f117_12 ?_
            exact ih.2 _ _ _ g1 k1 (by omega) (by omega) (by omega) (by omega) (by omega) (by omega) (by omega) (by omega) (by omega) (by omega) (by omega)
          · refine ev_iload_n rfl ?_
            refine ev_iload rfl ?_
            refine g_ishrG (fun v1046 ev1046 lv1046 uv1046 => ?_)
            refine ev_iconst ?_
            refine g_iandB (b := 1) (by omega) (by omega) (by decide) (fun v1047 ev1047 lv1047 uv1047 => ?_)
            refine ev_iconst ?_
            refine ev_icmpne f117_61 (fun c1048 => ?_) (fun c1048 => ?_)
            · refine ev_iinc (w := (x5 + 1)) (L' := [(2, 26), (0, a1), (0, a2), (0, a3), (0, x4), (0, (x5 + 1))]) rfl (by unfold w32; omega) rfl ?_
              refine ev_goto f117_12 ?_
              exact ih.2 _ _ _ g1 k1 (by omega) (by omega) (by omega) (by omega) (by omega) (by omega) (by omega) (by omega) (by omega) (by omega) (by omega)
            · refine ev_aload_n rfl ?_
              refine ev_iload rfl ?_
              refine ev_iload rfl ?_
              refine ev_iload_n rfl ?_
              refine ev_iload_n rfl ?_
              refine ev_call (jcall_v (A := [(0, a3), (0, a2), (0, x4), (0, x5)]) (S' := []) (r := 26) rfl (g1.lt ad26) (g1.tg ad26) (Nat.le_of_ble_eq_true rfl)) (jOk_le (by decide) (s118 g1 (by omega) (by omega) (by omega) (by omega) (by omega) (by omega) (by omega) (by omega))) (by decide) (by decide) (fun w1049 h1049 q1049 => ?_)
              obtain ⟨v1050, rfl, lv1050, uv1050, g1049, kk1049⟩ := q1049
              have k1049 := k1.tr kk1049 (by decide)
              show jEv _ _ _ _ _ _ _ (_, [(2, 26), (0, a1), (0, a2), (0, a3), (0, x4), (0, x5)], [(0, v1050)], _, _, _)
              refine ev_ifeq f117_61 (fun c1051 => ?_) (fun c1051 => ?_)
              · refine ev_iinc (w := (x5 + 1)) (L' := [(2, 26), (0, a1), (0, a2), (0, a3), (0, x4), (0, (x5 + 1))]) rfl (by unfold w32; omega) rfl ?_
                refine ev_goto f117_12 ?_
                exact ih.2 _ _ _ g1049 k1049 (by omega) (by omega) (by omega) (by omega) (by omega) (by omega) (by omega) (by omega) (by omega) (by omega) (by omega)
              · refine ev_iload rfl ?_
                exact ev_ret rfl (by decide) (by decide) ⟨_, rfl, by omega, by omega, g1049, k1049⟩
set_option maxHeartbeats 4000000 in
theorem s117 {G : GH} {h : JH} (g : Gd G h) {a1 : Int} (la1 : (-2147483648) ≤ a1) (ua1 : a1 ≤ 2147483647) {a2 : Int} (la2 : (-2147483648) ≤ a2) (ua2 : a2 ≤ 2147483647) {a3 : Int} (la3 : 0 ≤ a3) (ua3 : a3 ≤ 1) : jOk 3 0 0 117 [(2, 26), (0, a1), (0, a2), (0, a3)] h (PI G [] h 0 (-1) 3) := by
  refine ⟨by decide, by rw [ml117]; exact Nat.le_of_ble_eq_true rfl, ?_⟩
  rw [ml117, pp117]
  show jEv _ none _ c117_0 0 0 _ (c117_0, [(2, 26), (0, a1), (0, a2), (0, a3), (9, 0), (9, 0)], [], h, 0, 0)
  have k0 := Kp.rf [] h
  refine ev_iconst ?_
  refine ev_istore (L' := [(2, 26), (0, a1), (0, a2), (0, a3), (0, 0), (9, 0)]) (Nat.le_of_ble_eq_true rfl) rfl ?_
  exact (s117_l la1 ua1 la2 ua2 la3 ua3 100).1 _ _ _ g k0 (by omega) (by omega) (by omega) (by omega) (by omega) (by omega) (by omega) (by omega) (by omega)
/-! 116 leftUnstruck -/
set_option maxHeartbeats 4000000 in
theorem s116_l {G : GH} {h : JH} {a1 : Int} (la1 : (-2147483648) ≤ a1) (ua1 : a1 ≤ 2147483647) : ∀ N : Nat, (∀ (h1 : JH) (x2 x3 x4 : Int) (j5 j6 : AV), Gd G h1 → Kp [] h h1 → (-2147483648) ≤ a1 → a1 ≤ 2147483647 → 0 ≤ x2 → x2 ≤ 15 → 0 ≤ x3 → x3 ≤ 15 → 0 ≤ x4 → x4 ≤ 8 → ((-x4) + 8) < N → jEv (jOk 3) none (fun _ => 0) c116_0 0 0 (PI G [] h 0 0 15) (c116_21, [(2, 26), (0, a1), (0, x2), (0, x3), (0, x4), j5, j6], [], h1, 0, 0)) := by
  intro N
  induction N with
  | zero => exact fun h1 x2 x3 x4 j5 j6 g1 k1 b0 b1 b2 b3 b4 b5 b6 b7 hm => absurd hm (by omega)
  | succ N ih =>
    show _
    intro h1 x2 x3 x4 j5 j6 g1 k1 b0 b1 b2 b3 b4 b5 b6 b7 hm
    refine ev_iload rfl ?_
    refine ev_bipush ?_
    refine ev_icmpge f116_87 (fun c1202 => ?_) (fun c1202 => ?_)
    · refine ev_iload_n rfl ?_
      refine ev_ifne f116_95 (fun c1203 => ?_) (fun c1203 => ?_)
      · refine ev_iload_n rfl ?_
        exact ev_ret rfl (by decide) (by decide) ⟨_, rfl, by omega, by omega, g1, k1⟩
      · refine ev_iload_n rfl ?_
        refine ev_goto f116_96 ?_
        exact ev_ret rfl (by decide) (by decide) ⟨_, rfl, by omega, by omega, g1, k1⟩
    · refine ev_aload_n rfl ?_
      refine ev_iload_n rfl ?_
      refine ev_iload_n rfl ?_
      refine ev_iconst ?_
      refine ev_call (jcall_v (A := [(0, 0), (0, x3), (0, x2)]) (S' := []) (r := 26) rfl (g1.lt ad26) (g1.tg ad26) (Nat.le_of_ble_eq_true rfl)) (jOk_le (by decide) (s117 g1 (by omega) (by omega) (by omega) (by omega) (by omega) (by omega))) (by decide) (by decide) (fun w1204 h1204 q1204 => ?_)
      obtain ⟨v1205, rfl, lv1205, uv1205, g1204, kk1204⟩ := q1204
      have k1204 := k1.tr kk1204 (by decide)
      show jEv _ _ _ _ _ _ _ (_, [(2, 26), (0, a1), (0, x2), (0, x3), (0, x4), j5, j6], [(0, v1205)], _, _, _)
      refine ev_istore (L' := [(2, 26), (0, a1), (0, x2), (0, x3), (0, x4), (0, v1205), j6]) (Nat.le_of_ble_eq_true rfl) rfl ?_
      refine ev_iload rfl ?_
      refine ev_iflt f116_54 (fun c1206 => ?_) (fun c1206 => ?_)
      · refine ev_aload_n rfl ?_
        refine ev_iload_n rfl ?_
        refine ev_iload_n rfl ?_
        refine ev_iconst ?_
        refine ev_call (jcall_v (A := [(0, 1), (0, x2), (0, x3)]) (S' := []) (r := 26) rfl (g1204.lt ad26) (g1204.tg ad26) (Nat.le_of_ble_eq_true rfl)) (jOk_le (by decide) (s117 g1204 (by omega) (by omega) (by omega) (by omega) (by omega) (by omega))) (by decide) (by decide) (fun w1207 h1207 q1207 => ?_)
        obtain ⟨v1208, rfl, lv1208, uv1208, g1207, kk1207⟩ := q1207
        have k1207 := k1204.tr kk1207 (by decide)
        show jEv _ _ _ _ _ _ _ (_, [(2, 26), (0, a1), (0, x2), (0, x3), (0, x4), (0, v1205), j6], [(0, v1208)], _, _, _)
        refine ev_istore (L' := [(2, 26), (0, a1), (0, x2), (0, x3), (0, x4), (0, v1205), (0, v1208)]) (Nat.le_of_ble_eq_true rfl) rfl ?_
        refine ev_iload_n rfl ?_
        refine ev_iload rfl ?_
        refine ev_ifge f116_73 (fun c1209 => ?_) (fun c1209 => ?_)
        · refine ev_iconst ?_
          refine ev_iload rfl ?_
          refine g_ishlB (a' := 1) (a := 1) (b := 3) (hi := 8) (by omega) (by omega) (by omega) (by omega) (by decide) (by decide) (fun v1210 ev1210 lv1210 uv1210 => ?_)
          refine ev_iconst ?_
          refine g_ixorG (fun v1211 ev1211 lv1211 uv1211 => ?_)
          refine g_iandA (b := 15) (by omega) (by omega) (by decide) (fun v1212 ev1212 lv1212 uv1212 => ?_)
          refine ev_istore_n (L' := [(2, 26), (0, a1), (0, x2), (0, v1212), (0, x4), (0, v1205), (0, v1208)]) (Nat.le_of_ble_eq_true rfl) rfl ?_
          refine ev_iinc (w := (x4 + 1)) (L' := [(2, 26), (0, a1), (0, x2), (0, v1212), (0, (x4 + 1)), (0, v1205), (0, v1208)]) rfl (by unfold w32; omega) rfl ?_
          refine ev_goto f116_21 ?_
          exact ih _ _ _ _ _ _ g1207 k1207 (by omega) (by omega) (by omega) (by omega) (by omega) (by omega) (by omega) (by omega) (by omega)
        · refine ev_iconst ?_
          refine ev_goto f116_79 ?_
          refine g_iandA (b := 15) (by omega) (by omega) (by decide) (fun v1213 ev1213 lv1213 uv1213 => ?_)
          refine ev_istore_n (L' := [(2, 26), (0, a1), (0, x2), (0, v1213), (0, x4), (0, v1205), (0, v1208)]) (Nat.le_of_ble_eq_true rfl) rfl ?_
          refine ev_iinc (w := (x4 + 1)) (L' := [(2, 26), (0, a1), (0, x2), (0, v1213), (0, (x4 + 1)), (0, v1205), (0, v1208)]) rfl (by unfold w32; omega) rfl ?_
          refine ev_goto f116_21 ?_
          exact ih _ _ _ _ _ _ g1207 k1207 (by omega) (by omega) (by omega) (by omega) (by omega) (by omega) (by omega) (by omega) (by omega)
      · refine ev_iload_n rfl ?_
        refine ev_iconst ?_
        refine ev_iload rfl ?_
        refine g_ishlB (a' := 1) (a := 1) (b := 3) (hi := 8) (by omega) (by omega) (by omega) (by omega) (by decide) (by decide) (fun v1214 ev1214 lv1214 uv1214 => ?_)
        refine ev_iconst ?_
        refine g_ixorG (fun v1215 ev1215 lv1215 uv1215 => ?_)
        refine g_iandA (b := 15) (by omega) (by omega) (by decide) (fun v1216 ev1216 lv1216 uv1216 => ?_)
        refine ev_istore_n (L' := [(2, 26), (0, a1), (0, v1216), (0, x3), (0, x4), (0, v1205), j6]) (Nat.le_of_ble_eq_true rfl) rfl ?_
        refine ev_goto f116_81 ?_
        refine ev_iinc (w := (x4 + 1)) (L' := [(2, 26), (0, a1), (0, v1216), (0, x3), (0, (x4 + 1)), (0, v1205), j6]) rfl (by unfold w32; omega) rfl ?_
        refine ev_goto f116_21 ?_
        exact ih _ _ _ _ _ _ g1204 k1204 (by omega) (by omega) (by omega) (by omega) (by omega) (by omega) (by omega) (by omega) (by omega)
set_option maxHeartbeats 4000000 in
theorem s116 {G : GH} {h : JH} (g : Gd G h) {a1 : Int} (la1 : (-2147483648) ≤ a1) (ua1 : a1 ≤ 2147483647) : jOk 4 0 0 116 [(2, 26), (0, a1)] h (PI G [] h 0 0 15) := by
  refine ⟨by decide, by rw [ml116]; exact Nat.le_of_ble_eq_true rfl, ?_⟩
  rw [ml116, pp116]
  show jEv _ none _ c116_0 0 0 _ (c116_0, [(2, 26), (0, a1), (9, 0), (9, 0), (9, 0), (9, 0), (9, 0)], [], h, 0, 0)
  have k0 := Kp.rf [] h
  refine ev_iconst ?_
  refine ev_aload_n rfl ?_
  obtain ⟨v1217, ev1217, lv1217, uv1217⟩ := g.rd ad26 (show 0 < 15 by decide) rf26_0
  refine g_getv (r := 26) (v := v1217) g ad26 (by decide) ft9_0 ev1217 ?_
  refine g_ishlB (a' := 1) (a := 1) (b := 4) (hi := 16) (by omega) (by omega) (by omega) (by omega) (by decide) (by decide) (fun v1218 ev1218 lv1218 uv1218 => ?_)
  refine ev_iconst ?_
  refine ev_isub (r := (v1218 - 1)) (by unfold w32; omega) ?_
  refine ev_istore_n (L' := [(2, 26), (0, a1), (0, (v1218 - 1)), (9, 0), (9, 0), (9, 0), (9, 0)]) (Nat.le_of_ble_eq_true rfl) rfl ?_
  refine ev_iconst ?_
  refine ev_aload_n rfl ?_
  obtain ⟨v1219, ev1219, lv1219, uv1219⟩ := g.rd ad26 (show 1 < 15 by decide) rf26_1
  refine g_getv (r := 26) (v := v1219) g ad26 (by decide) ft9_1 ev1219 ?_
  refine g_ishlB (a' := 1) (a := 1) (b := 4) (hi := 16) (by omega) (by omega) (by omega) (by omega) (by decide) (by decide) (fun v1220 ev1220 lv1220 uv1220 => ?_)
  refine ev_iconst ?_
  refine ev_isub (r := (v1220 - 1)) (by unfold w32; omega) ?_
  refine ev_istore_n (L' := [(2, 26), (0, a1), (0, (v1218 - 1)), (0, (v1220 - 1)), (9, 0), (9, 0), (9, 0)]) (Nat.le_of_ble_eq_true rfl) rfl ?_
  refine ev_iconst ?_
  refine ev_istore (L' := [(2, 26), (0, a1), (0, (v1218 - 1)), (0, (v1220 - 1)), (0, 0), (9, 0), (9, 0)]) (Nat.le_of_ble_eq_true rfl) rfl ?_
  exact (s116_l la1 ua1 18) _ _ _ _ _ _ g k0 (by omega) (by omega) (by omega) (by omega) (by omega) (by omega) (by omega) (by omega) (by omega)
/-! 119 addSort -/
set_option maxHeartbeats 4000000 in
theorem s119 {G : GH} {h : JH} (g : Gd G h) {a1 : Int} (la1 : 1 ≤ a1) (ua1 : a1 ≤ 9) {a2 : Int} (la2 : 0 ≤ a2) (ua2 : a2 ≤ 99) {a3 : Int} (la3 : 0 ≤ a3) (ua3 : a3 ≤ 99) : jOk 1 0 0 119 [(2, 26), (0, a1), (0, a2), (0, a3)] h (PI G [(26, 4), (28, 0), (29, 0), (30, 0)] h 0 (-3) 3) := by
  refine ⟨by decide, by rw [ml119]; exact Nat.le_of_ble_eq_true rfl, ?_⟩
  rw [ml119, pp119]
  show jEv _ none _ c119_0 0 0 _ (c119_0, [(2, 26), (0, a1), (0, a2), (0, a3)], [], h, 0, 0)
  have k0 := Kp.rf [(26, 4), (28, 0), (29, 0), (30, 0)] h
  refine ev_aload_n rfl ?_
  obtain ⟨v1233, ev1233, lv1233, uv1233⟩ := g.rd ad26 (show 3 < 15 by decide) rf26_3
  refine g_getv (r := 26) (v := v1233) g ad26 (by decide) ft9_3 ev1233 ?_
  refine ev_iconst ?_
  refine ev_icmplt f119_11 (fun c1234 => ?_) (fun c1234 => ?_)
  · refine ev_aload_n rfl ?_
    refine g_getp (r := 26) (c := 28) g ad26 (by decide) (by decide) rf26_4 ft9_4 ?_
    refine ev_aload_n rfl ?_
    refine g_getv (r := 26) (v := v1233) g ad26 (by decide) ft9_3 (ev1233) ?_
    refine ev_iload_n rfl ?_
    refine g_iast g ad28 rt28 (fun _ => rfl) (by omega) (by omega) (by omega) (by omega) (fun h1235 e1235 g1235 => ?_)
    have k1235 := k0.wr e1235 rfl
    refine ev_aload_n rfl ?_
    refine g_getp (r := 26) (c := 29) g1235 ad26 (by decide) (by decide) rf26_5 ft9_5 ?_
    refine ev_aload_n rfl ?_
    refine g_getv (r := 26) (v := v1233) g1235 ad26 (by decide) ft9_3 (((jw_ne e1235 (Or.inl (by decide))).trans ev1233)) ?_
    refine ev_iload_n rfl ?_
    refine g_iast g1235 ad29 rt29 (fun _ => rfl) (by omega) (by omega) (by omega) (by omega) (fun h1236 e1236 g1236 => ?_)
    have k1236 := k1235.wr e1236 rfl
    refine ev_aload_n rfl ?_
    refine g_getp (r := 26) (c := 30) g1236 ad26 (by decide) (by decide) rf26_6 ft9_6 ?_
    refine ev_aload_n rfl ?_
    refine g_getv (r := 26) (v := v1233) g1236 ad26 (by decide) ft9_3 (((jw_ne e1236 (Or.inl (by decide))).trans ((jw_ne e1235 (Or.inl (by decide))).trans ev1233))) ?_
    refine ev_iload_n rfl ?_
    refine g_iast g1236 ad30 rt30 (fun _ => rfl) (by omega) (by omega) (by omega) (by omega) (fun h1237 e1237 g1237 => ?_)
    have k1237 := k1236.wr e1237 rfl
    refine ev_aload_n rfl ?_
    refine ev_dup (by decide) ?_
    refine g_getv (r := 26) (v := v1233) g1237 ad26 (by decide) ft9_3 (((jw_ne e1237 (Or.inl (by decide))).trans ((jw_ne e1236 (Or.inl (by decide))).trans ((jw_ne e1235 (Or.inl (by decide))).trans ev1233)))) ?_
    refine ev_iconst ?_
    refine ev_iadd (r := (v1233 + 1)) (by unfold w32; omega) ?_
    refine g_putf (r := 26) g1237 ad26 (by decide) ft9_3 (by decide) (fun e => absurd e nz9_3) rf26_3 (by decide) (by omega) (by omega) (fun h1238 e1238 g1238 => ?_)
    have k1238 := k1237.wr e1238 rfl
    refine ev_aload_n rfl ?_
    refine g_getv (r := 26) (v := (v1233 + 1)) g1238 ad26 (by decide) ft9_3 ((jw_eq e1238)) ?_
    exact ev_ret rfl (by decide) (by decide) ⟨_, rfl, by omega, by omega, g1238, k1238⟩
  · refine ev_bipush ?_
    exact ev_ret rfl (by decide) (by decide) ⟨_, rfl, by omega, by omega, g, k0⟩
/-! 120 addOffer -/
set_option maxHeartbeats 4000000 in
theorem s120_l {G : GH} {h : JH} {a1 : Int} (la1 : 0 ≤ a1) (ua1 : a1 ≤ 99) : ∀ N : Nat, (∀ (h1 : JH) (x2 : Int), Gd G h1 → Kp [(26, 8), (31, 0)] h h1 → 0 ≤ a1 → a1 ≤ 99 → 0 ≤ x2 → x2 ≤ 4 → ((-x2) + 4) < N → jEv (jOk 0) none (fun _ => 0) c120_0 0 0 (PI G [(26, 8), (31, 0)] h 0 (-3) 4) (c120_2, [(2, 26), (0, a1), (0, x2)], [], h1, 0, 0)) := by
  intro N
  induction N with
  | zero => exact fun h1 x2 g1 k1 b0 b1 b2 b3 hm => absurd hm (by omega)
  | succ N ih =>
    show _
    intro h1 x2 g1 k1 b0 b1 b2 b3 hm
    refine ev_iload_n rfl ?_
    refine ev_aload_n rfl ?_
    obtain ⟨v1281, ev1281, lv1281, uv1281⟩ := g1.rd ad26 (show 7 < 15 by decide) rf26_7
    refine g_getv (r := 26) (v := v1281) g1 ad26 (by decide) ft9_7 ev1281 ?_
    refine ev_icmpge f120_28 (fun c1282 => ?_) (fun c1282 => ?_)
    · refine ev_aload_n rfl ?_
      refine g_getv (r := 26) (v := v1281) g1 ad26 (by decide) ft9_7 (ev1281) ?_
      refine ev_iconst ?_
      refine ev_icmplt f120_39 (fun c1283 => ?_) (fun c1283 => ?_)
      · refine ev_aload_n rfl ?_
        refine g_getp (r := 26) (c := 31) g1 ad26 (by decide) (by decide) rf26_8 ft9_8 ?_
        refine ev_aload_n rfl ?_
        refine g_getv (r := 26) (v := v1281) g1 ad26 (by decide) ft9_7 (ev1281) ?_
        refine ev_iload_n rfl ?_
        refine g_iast g1 ad31 rt31 (fun _ => rfl) (by omega) (by omega) (by omega) (by omega) (fun h1284 e1284 g1284 => ?_)
        have k1284 := k1.wr e1284 rfl
        refine ev_aload_n rfl ?_
        refine ev_dup (by decide) ?_
        refine g_getv (r := 26) (v := v1281) g1284 ad26 (by decide) ft9_7 (((jw_ne e1284 (Or.inl (by decide))).trans ev1281)) ?_
        refine ev_iconst ?_
        refine ev_iadd (r := (v1281 + 1)) (by unfold w32; omega) ?_
        refine g_putf (r := 26) g1284 ad26 (by decide) ft9_7 (by decide) (fun e => absurd e nz9_7) rf26_7 (by decide) (by omega) (by omega) (fun h1285 e1285 g1285 => ?_)
        have k1285 := k1284.wr e1285 rfl
        refine ev_aload_n rfl ?_
        refine g_getv (r := 26) (v := (v1281 + 1)) g1285 ad26 (by decide) ft9_7 ((jw_eq e1285)) ?_
        exact ev_ret rfl (by decide) (by decide) ⟨_, rfl, by omega, by omega, g1285, k1285⟩
      · refine ev_bipush ?_
        exact ev_ret rfl (by decide) (by decide) ⟨_, rfl, by omega, by omega, g1, k1⟩
    · refine ev_aload_n rfl ?_
      refine g_getp (r := 26) (c := 31) g1 ad26 (by decide) (by decide) rf26_8 ft9_8 ?_
      refine ev_iload_n rfl ?_
      refine g_iald g1 ad31 rt31 (by omega) (by omega) (fun v1286 ev1286 lv1286 uv1286 => ?_)
      refine ev_iload_n rfl ?_
      refine ev_icmpne f120_22 (fun c1287 => ?_) (fun c1287 => ?_)
      · refine ev_iinc (w := (x2 + 1)) (L' := [(2, 26), (0, a1), (0, (x2 + 1))]) rfl (by unfold w32; omega) rfl ?_
        refine ev_goto f120_2 ?_
        exact ih _ _ g1 k1 (by omega) (by omega) (by omega) (by omega) (by omega)
      · refine ev_iconst ?_
        exact ev_ret rfl (by decide) (by decide) ⟨_, rfl, by omega, by omega, g1, k1⟩
set_option maxHeartbeats 4000000 in
theorem s120 {G : GH} {h : JH} (g : Gd G h) {a1 : Int} (la1 : 0 ≤ a1) (ua1 : a1 ≤ 99) : jOk 1 0 0 120 [(2, 26), (0, a1)] h (PI G [(26, 8), (31, 0)] h 0 (-3) 4) := by
  refine ⟨by decide, by rw [ml120]; exact Nat.le_of_ble_eq_true rfl, ?_⟩
  rw [ml120, pp120]
  show jEv _ none _ c120_0 0 0 _ (c120_0, [(2, 26), (0, a1), (9, 0)], [], h, 0, 0)
  have k0 := Kp.rf [(26, 8), (31, 0)] h
  refine ev_iconst ?_
  refine ev_istore_n (L' := [(2, 26), (0, a1), (0, 0)]) (Nat.le_of_ble_eq_true rfl) rfl ?_
  exact (s120_l la1 ua1 10) _ _ g k0 (by omega) (by omega) (by omega) (by omega) (by omega)
/-! 124 isMade -/
set_option maxHeartbeats 4000000 in
theorem s124_l {G : GH} {h : JH} {a1 : Int} (la1 : 0 ≤ a1) (ua1 : a1 ≤ 63) : ∀ N : Nat, (∀ (h1 : JH) (x2 : Int), Gd G h1 → Kp [] h h1 → 0 ≤ a1 → a1 ≤ 63 → 0 ≤ x2 → x2 ≤ 3 → ((-x2) + 3) < N → jEv (jOk 1) none (fun _ => 0) c124_0 0 0 (PI G [] h 0 0 1) (c124_2, [(2, 26), (0, a1), (0, x2)], [], h1, 0, 0)) := by
  intro N
  induction N with
  | zero => exact fun h1 x2 g1 k1 b0 b1 b2 b3 hm => absurd hm (by omega)
  | succ N ih =>
    show _
    intro h1 x2 g1 k1 b0 b1 b2 b3 hm
    refine ev_iload_n rfl ?_
    refine ev_aload_n rfl ?_
    obtain ⟨v1318, ev1318, lv1318, uv1318⟩ := g1.rd ad26 (show 3 < 15 by decide) rf26_3
    refine g_getv (r := 26) (v := v1318) g1 ad26 (by decide) ft9_3 ev1318 ?_
    refine ev_icmpge f124_31 (fun c1319 => ?_) (fun c1319 => ?_)
    · refine ev_iconst ?_
      exact ev_ret rfl (by decide) (by decide) ⟨_, rfl, by omega, by omega, g1, k1⟩
    · refine ev_aload_n rfl ?_
      refine ev_iload_n rfl ?_
      refine ev_iload_n rfl ?_
      refine ev_in (d := 0) (a := 0) (b := 0) (cd' := c123_0) (m := 3) (L0 := [(2, 26), (0, a1), (0, x2)]) (jcall_v (A := [(0, x2), (0, a1)]) (S' := []) (r := 26) rfl (g1.lt ad26) (g1.tg ad26) (Nat.le_of_ble_eq_true rfl)) (by decide) ml123 pp123 (Nat.le_of_ble_eq_true rfl) rfl (by decide) (by decide) ?_
      refine ev_iload_n rfl ?_
      refine ev_iconst ?_
      refine ev_aload_n rfl ?_
      refine g_getv (r := 26) (v := v1318) g1 ad26 (by decide) ft9_3 (ev1318) ?_
      refine ev_iconst ?_
      refine ev_isub (r := (v1318 - 1)) (by unfold w32; omega) ?_
      refine ev_iload_n rfl ?_
      refine ev_isub (r := (v1318 + (-x2) - 1)) (by unfold w32; omega) ?_
      refine ev_imul (r := (2 * v1318 + (-2) * x2 - 2)) (by unfold w32; omega) ?_
      refine g_ishrB (a := 63) (by omega) (by omega) (by decide) (fun v1320 ev1320 lv1320 uv1320 => ?_)
      refine ev_iconst ?_
      refine g_iandB (b := 3) (by omega) (by omega) (by decide) (fun v1321 ev1321 lv1321 uv1321 => ?_)
      refine ev_ret rfl (by decide) (by decide) ?_
      show jEv _ _ _ _ _ _ _ (_, [(2, 26), (0, a1), (0, x2)], [(0, v1321)], _, _, _)
      refine ev_aload_n rfl ?_
      obtain ⟨v1322, ev1322, lv1322, uv1322⟩ := g1.rd ad26 (show 7 < 15 by decide) rf26_7
      refine g_getv (r := 26) (v := v1322) g1 ad26 (by decide) ft9_7 ev1322 ?_
      refine ev_icmplt f124_25 (fun c1323 => ?_) (fun c1323 => ?_)
      · refine ev_iinc (w := (x2 + 1)) (L' := [(2, 26), (0, a1), (0, (x2 + 1))]) rfl (by unfold w32; omega) rfl ?_
        refine ev_goto f124_2 ?_
        exact ih _ _ g1 k1 (by omega) (by omega) (by omega) (by omega) (by omega)
      · refine ev_iconst ?_
        exact ev_ret rfl (by decide) (by decide) ⟨_, rfl, by omega, by omega, g1, k1⟩
set_option maxHeartbeats 4000000 in
theorem s124 {G : GH} {h : JH} (g : Gd G h) {a1 : Int} (la1 : 0 ≤ a1) (ua1 : a1 ≤ 63) : jOk 2 0 0 124 [(2, 26), (0, a1)] h (PI G [] h 0 0 1) := by
  refine ⟨by decide, by rw [ml124]; exact Nat.le_of_ble_eq_true rfl, ?_⟩
  rw [ml124, pp124]
  show jEv _ none _ c124_0 0 0 _ (c124_0, [(2, 26), (0, a1), (9, 0)], [], h, 0, 0)
  have k0 := Kp.rf [] h
  refine ev_iconst ?_
  refine ev_istore_n (L' := [(2, 26), (0, a1), (0, 0)]) (Nat.le_of_ble_eq_true rfl) rfl ?_
  exact (s124_l la1 ua1 8) _ _ g k0 (by omega) (by omega) (by omega) (by omega) (by omega)
/-! 126 leastWin -/
set_option maxHeartbeats 4000000 in
theorem s126_l {G : GH} {h : JH}  : ∀ N : Nat, (∀ (h1 : JH) (x1 x2 : Int), Gd G h1 → Kp [] h h1 → 0 ≤ x1 → x1 ≤ 99 → 1 ≤ x2 → x2 ≤ 3 → ((-x2) + 3) < N → jEv (jOk 1) none (fun _ => 0) c126_0 0 0 (PI G [] h 0 0 99) (c126_9, [(2, 26), (0, x1), (0, x2)], [], h1, 0, 0)) := by
  intro N
  induction N with
  | zero => exact fun h1 x1 x2 g1 k1 b0 b1 b2 b3 hm => absurd hm (by omega)
  | succ N ih =>
    show _
    intro h1 x1 x2 g1 k1 b0 b1 b2 b3 hm
    refine ev_iload_n rfl ?_
    refine ev_aload_n rfl ?_
    obtain ⟨v1342, ev1342, lv1342, uv1342⟩ := g1.rd ad26 (show 3 < 15 by decide) rf26_3
    refine g_getv (r := 26) (v := v1342) g1 ad26 (by decide) ft9_3 ev1342 ?_
    refine ev_icmpge f126_34 (fun c1343 => ?_) (fun c1343 => ?_)
    · refine ev_iload_n rfl ?_
      exact ev_ret rfl (by decide) (by decide) ⟨_, rfl, by omega, by omega, g1, k1⟩
    · refine ev_iload_n rfl ?_
      refine ev_aload_n rfl ?_
      refine g_getp (r := 26) (c := 29) g1 ad26 (by decide) (by decide) rf26_5 ft9_5 ?_
      refine ev_iload_n rfl ?_
      refine g_iald g1 ad29 rt29 (by omega) (by omega) (fun v1344 ev1344 lv1344 uv1344 => ?_)
      refine ev_in (d := 0) (a := 0) (b := 0) (cd' := c381_0) (m := 2) (L0 := [(0, x1), (0, v1344)]) (jcall_s (A := [(0, v1344), (0, x1)]) (S' := []) (by decide) rfl (Nat.le_of_ble_eq_true rfl)) (by decide) ml381 pp381 (Nat.le_of_ble_eq_true rfl) rfl (by decide) (by decide) ?_
      refine ev_iload_n rfl ?_
      refine ev_iload_n rfl ?_
      refine ev_icmpgt f381_9 (fun c1345 => ?_) (fun c1345 => ?_)
      · refine ev_iload_n rfl ?_
        refine ev_ret rfl (by decide) (by decide) ?_
        show jEv _ _ _ _ _ _ _ (_, [(2, 26), (0, x1), (0, x2)], [(0, v1344)], _, _, _)
        refine ev_istore_n (L' := [(2, 26), (0, v1344), (0, x2)]) (Nat.le_of_ble_eq_true rfl) rfl ?_
        refine ev_iinc (w := (x2 + 1)) (L' := [(2, 26), (0, v1344), (0, (x2 + 1))]) rfl (by unfold w32; omega) rfl ?_
        refine ev_goto f126_9 ?_
        exact ih _ _ _ g1 k1 (by omega) (by omega) (by omega) (by omega) (by omega)
      · refine ev_iload_n rfl ?_
        refine ev_goto f381_10 ?_
        refine ev_ret rfl (by decide) (by decide) ?_
        show jEv _ _ _ _ _ _ _ (_, [(2, 26), (0, x1), (0, x2)], [(0, x1)], _, _, _)
        refine ev_istore_n (L' := [(2, 26), (0, x1), (0, x2)]) (Nat.le_of_ble_eq_true rfl) rfl ?_
        refine ev_iinc (w := (x2 + 1)) (L' := [(2, 26), (0, x1), (0, (x2 + 1))]) rfl (by unfold w32; omega) rfl ?_
        refine ev_goto f126_9 ?_
        exact ih _ _ _ g1 k1 (by omega) (by omega) (by omega) (by omega) (by omega)
set_option maxHeartbeats 4000000 in
theorem s126 {G : GH} {h : JH} (g : Gd G h)  : jOk 2 0 0 126 [(2, 26)] h (PI G [] h 0 0 99) := by
  refine ⟨by decide, by rw [ml126]; exact Nat.le_of_ble_eq_true rfl, ?_⟩
  rw [ml126, pp126]
  show jEv _ none _ c126_0 0 0 _ (c126_0, [(2, 26), (9, 0), (9, 0)], [], h, 0, 0)
  have k0 := Kp.rf [] h
  refine ev_aload_n rfl ?_
  refine g_getp (r := 26) (c := 29) g ad26 (by decide) (by decide) rf26_5 ft9_5 ?_
  refine ev_iconst ?_
  refine g_iald g ad29 rt29 (by omega) (by omega) (fun v1346 ev1346 lv1346 uv1346 => ?_)
  refine ev_istore_n (L' := [(2, 26), (0, v1346), (9, 0)]) (Nat.le_of_ble_eq_true rfl) rfl ?_
  refine ev_iconst ?_
  refine ev_istore_n (L' := [(2, 26), (0, v1346), (0, 1)]) (Nat.le_of_ble_eq_true rfl) rfl ?_
  exact (s126_l  6) _ _ _ g k0 (by omega) (by omega) (by omega) (by omega) (by omega)
/-! 125 takenOf -/
set_option maxHeartbeats 4000000 in
theorem s125_l {G : GH} {h : JH} {a1 : Int} (la1 : 0 ≤ a1) (ua1 : a1 ≤ 63) {a2 : Int} (la2 : 0 ≤ a2) (ua2 : a2 ≤ 99) : ∀ N : Nat, (∀ (h1 : JH) (x3 x4 : Int) (j5 j6 j7 : AV), Gd G h1 → Kp [] h h1 → 0 ≤ a1 → a1 ≤ 63 → 0 ≤ a2 → a2 ≤ 99 → 0 ≤ x3 → x3 ≤ 15 → 0 ≤ x4 → x4 ≤ 4 → ((-8) * x4 + 36) < N → jEv (jOk 2) none (fun _ => 0) c125_0 0 0 (PI G [] h 0 0 15) (c125_5, [(2, 26), (0, a1), (0, a2), (0, x3), (0, x4), j5, j6, j7], [], h1, 0, 0)) ∧ (∀ (h1 : JH) (x3 x4 x5 x6 x7 : Int), Gd G h1 → Kp [] h h1 → 0 ≤ a1 → a1 ≤ 63 → 0 ≤ a2 → a2 ≤ 99 → 0 ≤ x3 → x3 ≤ 15 → 0 ≤ x4 → x4 ≤ 3 → (-2147483648) ≤ x5 → x5 ≤ 2147483647 → (-2147483648) ≤ x6 → x6 ≤ 2147483647 → 0 ≤ x7 → x7 ≤ 3 → ((-8) * x4 + (-x7) + 35) < N → jEv (jOk 2) none (fun _ => 0) c125_0 0 0 (PI G [] h 0 0 15) (c125_23, [(2, 26), (0, a1), (0, a2), (0, x3), (0, x4), (0, x5), (0, x6), (0, x7)], [], h1, 0, 0)) := by
  intro N
  induction N with
  | zero => exact ⟨fun h1 x3 x4 j5 j6 j7 g1 k1 b0 b1 b2 b3 b4 b5 b6 b7 hm => absurd hm (by omega), fun h1 x3 x4 x5 x6 x7 g1 k1 b0 b1 b2 b3 b4 b5 b6 b7 b8 b9 b10 b11 b12 b13 hm => absurd hm (by omega)⟩
  | succ N ih =>
    refine ⟨?_, ?_⟩
    · intro h1 x3 x4 j5 j6 j7 g1 k1 b0 b1 b2 b3 b4 b5 b6 b7 hm
      refine ev_iload rfl ?_
      refine ev_aload_n rfl ?_
      obtain ⟨v2157, ev2157, lv2157, uv2157⟩ := g1.rd ad26 (show 7 < 15 by decide) rf26_7
      refine g_getv (r := 26) (v := v2157) g1 ad26 (by decide) ft9_7 ev2157 ?_
      refine ev_icmpge f125_157 (fun c2158 => ?_) (fun c2158 => ?_)
      · refine ev_iload_n rfl ?_
        exact ev_ret rfl (by decide) (by decide) ⟨_, rfl, by omega, by omega, g1, k1⟩
      · refine ev_iconst ?_
        refine ev_istore (L' := [(2, 26), (0, a1), (0, a2), (0, x3), (0, x4), (0, 0), j6, j7]) (Nat.le_of_ble_eq_true rfl) rfl ?_
        refine ev_iconst ?_
        refine ev_istore (L' := [(2, 26), (0, a1), (0, a2), (0, x3), (0, x4), (0, 0), (0, 0), j7]) (Nat.le_of_ble_eq_true rfl) rfl ?_
        refine ev_iconst ?_
        refine ev_istore (L' := [(2, 26), (0, a1), (0, a2), (0, x3), (0, x4), (0, 0), (0, 0), (0, 0)]) (Nat.le_of_ble_eq_true rfl) rfl ?_
        exact ih.2 _ _ _ _ _ _ g1 k1 (by omega) (by omega) (by omega) (by omega) (by omega) (by omega) (by omega) (by omega) (by omega) (by omega) (by omega) (by omega) (by omega) (by omega) (by omega)
    · intro h1 x3 x4 x5 x6 x7 g1 k1 b0 b1 b2 b3 b4 b5 b6 b7 b8 b9 b10 b11 b12 b13 hm
      refine ev_iload rfl ?_
      refine ev_aload_n rfl ?_
      obtain ⟨v2159, ev2159, lv2159, uv2159⟩ := g1.rd ad26 (show 3 < 15 by decide) rf26_3
      refine g_getv (r := 26) (v := v2159) g1 ad26 (by decide) ft9_3 ev2159 ?_
      refine ev_icmpge f125_82 (fun c2160 => ?_) (fun c2160 => ?_)
      · refine ev_iload rfl ?_
        refine ev_ifne f125_111 (fun c2161 => ?_) (fun c2161 => ?_)
        · refine ev_aload_n rfl ?_
          refine g_getp (r := 26) (c := 31) g1 ad26 (by decide) (by decide) rf26_8 ft9_8 ?_
          refine ev_iload rfl ?_
          refine g_iald g1 ad31 rt31 (by omega) (by omega) (fun v2162 ev2162 lv2162 uv2162 => ?_)
          refine ev_iload_n rfl ?_
          refine ev_isub (r := ((-a2) + v2162)) (by unfold w32; omega) ?_
          refine ev_iload rfl ?_
          refine g_imulG (fun v2163 ev2163 lv2163 uv2163 => ?_)
          refine ev_iload rfl ?_
          refine ev_icmpgt f125_132 (fun c2164 => ?_) (fun c2164 => ?_)
          · refine ev_iconst ?_
            refine ev_istore (L' := [(2, 26), (0, a1), (0, a2), (0, x3), (0, x4), (0, x5), (0, x6), (0, 0)]) (Nat.le_of_ble_eq_true rfl) rfl ?_
            refine ev_iload_n rfl ?_
            refine ev_iload rfl ?_
            refine ev_ifeq f125_148 (fun c2165 => ?_) (fun c2165 => absurd c2165 (by omega))
            refine ev_iconst ?_
            refine g_iorB (k := 4) (hi := 15) (by decide) (by decide) (by omega) (by omega) (by omega) (by omega) (fun v2166 ev2166 lv2166 uv2166 => ?_)
            refine ev_istore_n (L' := [(2, 26), (0, a1), (0, a2), (0, v2166), (0, x4), (0, x5), (0, x6), (0, 0)]) (Nat.le_of_ble_eq_true rfl) rfl ?_
            refine ev_iinc (w := (x4 + 1)) (L' := [(2, 26), (0, a1), (0, a2), (0, v2166), (0, (x4 + 1)), (0, x5), (0, x6), (0, 0)]) rfl (by unfold w32; omega) rfl ?_
            refine ev_goto f125_5 ?_
            exact ih.1 _ _ _ _ _ _ g1 k1 (by omega) (by omega) (by omega) (by omega) (by omega) (by omega) (by omega) (by omega) (by omega)
          · refine ev_iconst ?_
            refine ev_goto f125_133 ?_
            refine ev_istore (L' := [(2, 26), (0, a1), (0, a2), (0, x3), (0, x4), (0, x5), (0, x6), (0, 1)]) (Nat.le_of_ble_eq_true rfl) rfl ?_
            refine ev_iload_n rfl ?_
            refine ev_iload rfl ?_
            refine ev_ifeq f125_148 (fun c2167 => absurd c2167 (by omega)) (fun c2167 => ?_)
            refine ev_iconst ?_
            refine ev_iload rfl ?_
            refine g_ishlB (a' := 1) (a := 1) (b := 3) (hi := 8) (by omega) (by omega) (by omega) (by omega) (by decide) (by decide) (fun v2168 ev2168 lv2168 uv2168 => ?_)
            refine ev_goto f125_149 ?_
            refine g_iorB (k := 4) (hi := 15) (by decide) (by decide) (by omega) (by omega) (by omega) (by omega) (fun v2169 ev2169 lv2169 uv2169 => ?_)
            refine ev_istore_n (L' := [(2, 26), (0, a1), (0, a2), (0, v2169), (0, x4), (0, x5), (0, x6), (0, 1)]) (Nat.le_of_ble_eq_true rfl) rfl ?_
            refine ev_iinc (w := (x4 + 1)) (L' := [(2, 26), (0, a1), (0, a2), (0, v2169), (0, (x4 + 1)), (0, x5), (0, x6), (0, 1)]) rfl (by unfold w32; omega) rfl ?_
            refine ev_goto f125_5 ?_
            exact ih.1 _ _ _ _ _ _ g1 k1 (by omega) (by omega) (by omega) (by omega) (by omega) (by omega) (by omega) (by omega) (by omega)
        · refine ev_aload_n rfl ?_
          refine g_getp (r := 26) (c := 31) g1 ad26 (by decide) (by decide) rf26_8 ft9_8 ?_
          refine ev_iload rfl ?_
          refine g_iald g1 ad31 rt31 (by omega) (by omega) (fun v2170 ev2170 lv2170 uv2170 => ?_)
          refine ev_aload_n rfl ?_
          refine ev_call (jcall_v (A := []) (S' := [(0, v2170)]) (r := 26) rfl (g1.lt ad26) (g1.tg ad26) (Nat.le_of_ble_eq_true rfl)) (jOk_le (by decide) (s126 g1 )) (by decide) (by decide) (fun w2171 h2171 q2171 => ?_)
          obtain ⟨v2172, rfl, lv2172, uv2172, g2171, kk2171⟩ := q2171
          have k2171 := k1.tr kk2171 (by decide)
          show jEv _ _ _ _ _ _ _ (_, [(2, 26), (0, a1), (0, a2), (0, x3), (0, x4), (0, x5), (0, x6), (0, x7)], [(0, v2172), (0, v2170)], _, _, _)
          refine ev_iload_n rfl ?_
          refine ev_iadd (r := (a2 + v2172)) (by unfold w32; omega) ?_
          refine ev_icmpgt f125_107 (fun c2173 => ?_) (fun c2173 => ?_)
          · refine ev_iconst ?_
            refine ev_goto f125_133 ?_
            refine ev_istore (L' := [(2, 26), (0, a1), (0, a2), (0, x3), (0, x4), (0, x5), (0, x6), (0, 0)]) (Nat.le_of_ble_eq_true rfl) rfl ?_
            refine ev_iload_n rfl ?_
            refine ev_iload rfl ?_
            refine ev_ifeq f125_148 (fun c2174 => ?_) (fun c2174 => absurd c2174 (by omega))
            refine ev_iconst ?_
            refine g_iorB (k := 4) (hi := 15) (by decide) (by decide) (by omega) (by omega) (by omega) (by omega) (fun v2175 ev2175 lv2175 uv2175 => ?_)
            refine ev_istore_n (L' := [(2, 26), (0, a1), (0, a2), (0, v2175), (0, x4), (0, x5), (0, x6), (0, 0)]) (Nat.le_of_ble_eq_true rfl) rfl ?_
            refine ev_iinc (w := (x4 + 1)) (L' := [(2, 26), (0, a1), (0, a2), (0, v2175), (0, (x4 + 1)), (0, x5), (0, x6), (0, 0)]) rfl (by unfold w32; omega) rfl ?_
            refine ev_goto f125_5 ?_
            exact ih.1 _ _ _ _ _ _ g2171 k2171 (by omega) (by omega) (by omega) (by omega) (by omega) (by omega) (by omega) (by omega) (by omega)
          · refine ev_iconst ?_
            refine ev_goto f125_133 ?_
            refine ev_istore (L' := [(2, 26), (0, a1), (0, a2), (0, x3), (0, x4), (0, x5), (0, x6), (0, 1)]) (Nat.le_of_ble_eq_true rfl) rfl ?_
            refine ev_iload_n rfl ?_
            refine ev_iload rfl ?_
            refine ev_ifeq f125_148 (fun c2176 => absurd c2176 (by omega)) (fun c2176 => ?_)
            refine ev_iconst ?_
            refine ev_iload rfl ?_
            refine g_ishlB (a' := 1) (a := 1) (b := 3) (hi := 8) (by omega) (by omega) (by omega) (by omega) (by decide) (by decide) (fun v2177 ev2177 lv2177 uv2177 => ?_)
            refine ev_goto f125_149 ?_
            refine g_iorB (k := 4) (hi := 15) (by decide) (by decide) (by omega) (by omega) (by omega) (by omega) (fun v2178 ev2178 lv2178 uv2178 => ?_)
            refine ev_istore_n (L' := [(2, 26), (0, a1), (0, a2), (0, v2178), (0, x4), (0, x5), (0, x6), (0, 1)]) (Nat.le_of_ble_eq_true rfl) rfl ?_
            refine ev_iinc (w := (x4 + 1)) (L' := [(2, 26), (0, a1), (0, a2), (0, v2178), (0, (x4 + 1)), (0, x5), (0, x6), (0, 1)]) rfl (by unfold w32; omega) rfl ?_
            refine ev_goto f125_5 ?_
            exact ih.1 _ _ _ _ _ _ g2171 k2171 (by omega) (by omega) (by omega) (by omega) (by omega) (by omega) (by omega) (by omega) (by omega)
      · refine ev_aload_n rfl ?_
        refine ev_iload_n rfl ?_
        refine ev_iload rfl ?_
        refine ev_in (d := 1) (a := 0) (b := 0) (cd' := c123_0) (m := 3) (L0 := [(2, 26), (0, a1), (0, x7)]) (jcall_v (A := [(0, x7), (0, a1)]) (S' := []) (r := 26) rfl (g1.lt ad26) (g1.tg ad26) (Nat.le_of_ble_eq_true rfl)) (by decide) ml123 pp123 (Nat.le_of_ble_eq_true rfl) rfl (by decide) (by decide) ?_
        refine ev_iload_n rfl ?_
        refine ev_iconst ?_
        refine ev_aload_n rfl ?_
        refine g_getv (r := 26) (v := v2159) g1 ad26 (by decide) ft9_3 (ev2159) ?_
        refine ev_iconst ?_
        refine ev_isub (r := (v2159 - 1)) (by unfold w32; omega) ?_
        refine ev_iload_n rfl ?_
        refine ev_isub (r := (v2159 + (-x7) - 1)) (by unfold w32; omega) ?_
        refine ev_imul (r := (2 * v2159 + (-2) * x7 - 2)) (by unfold w32; omega) ?_
        refine g_ishrB (a := 63) (by omega) (by omega) (by decide) (fun v2179 ev2179 lv2179 uv2179 => ?_)
        refine ev_iconst ?_
        refine g_iandB (b := 3) (by omega) (by omega) (by decide) (fun v2180 ev2180 lv2180 uv2180 => ?_)
        refine ev_ret rfl (by decide) (by decide) ?_
        show jEv _ _ _ _ _ _ _ (_, [(2, 26), (0, a1), (0, a2), (0, x3), (0, x4), (0, x5), (0, x6), (0, x7)], [(0, v2180)], _, _, _)
        refine ev_iload rfl ?_
        refine ev_icmpne f125_76 (fun c2181 => ?_) (fun c2181 => ?_)
        · refine ev_iinc (w := (x7 + 1)) (L' := [(2, 26), (0, a1), (0, a2), (0, x3), (0, x4), (0, x5), (0, x6), (0, (x7 + 1))]) rfl (by unfold w32; omega) rfl ?_
          refine ev_goto f125_23 ?_
          exact ih.2 _ _ _ _ _ _ g1 k1 (by omega) (by omega) (by omega) (by omega) (by omega) (by omega) (by omega) (by omega) (by omega) (by omega) (by omega) (by omega) (by omega) (by omega) (by omega)
        · refine ev_iload rfl ?_
          refine ev_aload_n rfl ?_
          refine g_getp (r := 26) (c := 28) g1 ad26 (by decide) (by decide) rf26_4 ft9_4 ?_
          refine ev_iload rfl ?_
          refine g_iald g1 ad28 rt28 (by omega) (by omega) (fun v2182 ev2182 lv2182 uv2182 => ?_)
          refine g_iaddG (fun v2183 ev2183 lv2183 uv2183 => ?_)
          refine ev_istore (L' := [(2, 26), (0, a1), (0, a2), (0, x3), (0, x4), (0, v2183), (0, x6), (0, x7)]) (Nat.le_of_ble_eq_true rfl) rfl ?_
          refine ev_iload rfl ?_
          refine ev_aload_n rfl ?_
          refine g_getp (r := 26) (c := 28) g1 ad26 (by decide) (by decide) rf26_4 ft9_4 ?_
          refine ev_iload rfl ?_
          refine g_ialdv (v := v2182) g1 ad28 (by omega) (by omega) (ev2182) ?_
          refine ev_aload_n rfl ?_
          refine g_getp (r := 26) (c := 29) g1 ad26 (by decide) (by decide) rf26_5 ft9_5 ?_
          refine ev_iload rfl ?_
          refine g_iald g1 ad29 rt29 (by omega) (by omega) (fun v2184 ev2184 lv2184 uv2184 => ?_)
          refine g_imulB (a := 9) (b := 99) (a' := 0) (b' := 0) (by omega) (by omega) (by omega) (by omega) (by decide) (lo := 0) (hi := 891) (by decide) (by decide) (fun v2185 ev2185 lv2185 uv2185 => ?_)
          refine g_iaddG (fun v2186 ev2186 lv2186 uv2186 => ?_)
          refine ev_istore (L' := [(2, 26), (0, a1), (0, a2), (0, x3), (0, x4), (0, v2183), (0, v2186), (0, x7)]) (Nat.le_of_ble_eq_true rfl) rfl ?_
          refine ev_iinc (w := (x7 + 1)) (L' := [(2, 26), (0, a1), (0, a2), (0, x3), (0, x4), (0, v2183), (0, v2186), (0, (x7 + 1))]) rfl (by unfold w32; omega) rfl ?_
          refine ev_goto f125_23 ?_
          exact ih.2 _ _ _ _ _ _ g1 k1 (by omega) (by omega) (by omega) (by omega) (by omega) (by omega) (by omega) (by omega) (by omega) (by omega) (by omega) (by omega) (by omega) (by omega) (by omega)
set_option maxHeartbeats 4000000 in
theorem s125 {G : GH} {h : JH} (g : Gd G h) {a1 : Int} (la1 : 0 ≤ a1) (ua1 : a1 ≤ 63) {a2 : Int} (la2 : 0 ≤ a2) (ua2 : a2 ≤ 99) : jOk 3 0 0 125 [(2, 26), (0, a1), (0, a2)] h (PI G [] h 0 0 15) := by
  refine ⟨by decide, by rw [ml125]; exact Nat.le_of_ble_eq_true rfl, ?_⟩
  rw [ml125, pp125]
  show jEv _ none _ c125_0 0 0 _ (c125_0, [(2, 26), (0, a1), (0, a2), (9, 0), (9, 0), (9, 0), (9, 0), (9, 0)], [], h, 0, 0)
  have k0 := Kp.rf [] h
  refine ev_iconst ?_
  refine ev_istore_n (L' := [(2, 26), (0, a1), (0, a2), (0, 0), (9, 0), (9, 0), (9, 0), (9, 0)]) (Nat.le_of_ble_eq_true rfl) rfl ?_
  refine ev_iconst ?_
  refine ev_istore (L' := [(2, 26), (0, a1), (0, a2), (0, 0), (0, 0), (9, 0), (9, 0), (9, 0)]) (Nat.le_of_ble_eq_true rfl) rfl ?_
  exact (s125_l la1 ua1 la2 ua2 80).1 _ _ _ _ _ _ g k0 (by omega) (by omega) (by omega) (by omega) (by omega) (by omega) (by omega) (by omega) (by omega)
/-! 128 doAllKeepTo -/
set_option maxHeartbeats 4000000 in
theorem s128_l {G : GH} {h : JH} {a1 : Int} (la1 : 0 ≤ a1) (ua1 : a1 ≤ 63) {a2 : Int} (la2 : 0 ≤ a2) (ua2 : a2 ≤ 15) : ∀ N : Nat, (∀ (h1 : JH) (x3 : Int) (j4 j5 : AV), Gd G h1 → Kp [] h h1 → 0 ≤ a1 → a1 ≤ 63 → 0 ≤ a2 → a2 ≤ 15 → 0 ≤ x3 → x3 ≤ 3 → ((-10) * x3 + 35) < N → jEv (jOk 1) none (fun _ => 0) c128_0 0 0 (PI G [] h 0 0 1) (c128_2, [(2, 26), (0, a1), (0, a2), (0, x3), j4, j5], [], h1, 0, 0)) ∧ (∀ (h1 : JH) (x3 x4 x5 : Int), Gd G h1 → Kp [] h h1 → 0 ≤ a1 → a1 ≤ 63 → 0 ≤ a2 → a2 ≤ 15 → 0 ≤ x3 → x3 ≤ 2 → (-99) ≤ x4 → x4 ≤ 99 → 0 ≤ x5 → x5 ≤ 4 → ((-10) * x3 + (-x5) + 34) < N → jEv (jOk 1) none (fun _ => 0) c128_0 0 0 (PI G [] h 0 0 1) (c128_27, [(2, 26), (0, a1), (0, a2), (0, x3), (0, x4), (0, x5)], [], h1, 0, 0)) := by
  intro N
  induction N with
  | zero => exact ⟨fun h1 x3 j4 j5 g1 k1 b0 b1 b2 b3 b4 b5 hm => absurd hm (by omega), fun h1 x3 x4 x5 g1 k1 b0 b1 b2 b3 b4 b5 b6 b7 b8 b9 hm => absurd hm (by omega)⟩
  | succ N ih =>
    refine ⟨?_, ?_⟩
    · intro h1 x3 j4 j5 g1 k1 b0 b1 b2 b3 b4 b5 hm
      refine ev_iload_n rfl ?_
      refine ev_aload_n rfl ?_
      obtain ⟨v2297, ev2297, lv2297, uv2297⟩ := g1.rd ad26 (show 3 < 15 by decide) rf26_3
      refine g_getv (r := 26) (v := v2297) g1 ad26 (by decide) ft9_3 ev2297 ?_
      refine ev_icmpge f128_63 (fun c2298 => ?_) (fun c2298 => ?_)
      · refine ev_iconst ?_
        exact ev_ret rfl (by decide) (by decide) ⟨_, rfl, by omega, by omega, g1, k1⟩
      · refine ev_aload_n rfl ?_
        refine ev_iload_n rfl ?_
        refine ev_aload_n rfl ?_
        refine ev_iload_n rfl ?_
        refine ev_iload_n rfl ?_
        refine ev_in (d := 0) (a := 0) (b := 0) (cd' := c123_0) (m := 3) (L0 := [(2, 26), (0, a1), (0, x3)]) (jcall_v (A := [(0, x3), (0, a1)]) (S' := [(0, x3), (2, 26)]) (r := 26) rfl (g1.lt ad26) (g1.tg ad26) (Nat.le_of_ble_eq_true rfl)) (by decide) ml123 pp123 (Nat.le_of_ble_eq_true rfl) rfl (by decide) (by decide) ?_
        refine ev_iload_n rfl ?_
        refine ev_iconst ?_
        refine ev_aload_n rfl ?_
        refine g_getv (r := 26) (v := v2297) g1 ad26 (by decide) ft9_3 (ev2297) ?_
        refine ev_iconst ?_
        refine ev_isub (r := (v2297 - 1)) (by unfold w32; omega) ?_
        refine ev_iload_n rfl ?_
        refine ev_isub (r := (v2297 + (-x3) - 1)) (by unfold w32; omega) ?_
        refine ev_imul (r := (2 * v2297 + (-2) * x3 - 2)) (by unfold w32; omega) ?_
        refine g_ishrB (a := 63) (by omega) (by omega) (by decide) (fun v2299 ev2299 lv2299 uv2299 => ?_)
        refine ev_iconst ?_
        refine g_iandB (b := 3) (by omega) (by omega) (by decide) (fun v2300 ev2300 lv2300 uv2300 => ?_)
        refine ev_ret rfl (by decide) (by decide) ?_
        show jEv _ _ _ _ _ _ _ (_, [(2, 26), (0, a1), (0, a2), (0, x3), j4, j5], [(0, v2300), (0, x3), (2, 26)], _, _, _)
        refine ev_iload_n rfl ?_
        refine ev_in (d := 0) (a := 0) (b := 0) (cd' := c127_0) (m := 4) (L0 := [(2, 26), (0, x3), (0, v2300), (0, a2)]) (jcall_v (A := [(0, a2), (0, v2300), (0, x3)]) (S' := []) (r := 26) rfl (g1.lt ad26) (g1.tg ad26) (Nat.le_of_ble_eq_true rfl)) (by decide) ml127 pp127 (Nat.le_of_ble_eq_true rfl) rfl (by decide) (by decide) ?_
        refine ev_iload_n rfl ?_
        refine ev_iload_n rfl ?_
        refine g_ishrB (a := 15) (by omega) (by omega) (by decide) (fun v2301 ev2301 lv2301 uv2301 => ?_)
        refine ev_iconst ?_
        refine g_iandB (b := 1) (by omega) (by omega) (by decide) (fun v2302 ev2302 lv2302 uv2302 => ?_)
        refine ev_iconst ?_
        refine ev_icmpne f127_18 (fun c2303 => ?_) (fun c2303 => ?_)
        · refine ev_aload_n rfl ?_
          refine g_getp (r := 26) (c := 29) g1 ad26 (by decide) (by decide) rf26_5 ft9_5 ?_
          refine ev_iload_n rfl ?_
          refine g_iald g1 ad29 rt29 (by omega) (by omega) (fun v2304 ev2304 lv2304 uv2304 => ?_)
          refine ev_aload_n rfl ?_
          refine g_getp (r := 26) (c := 30) g1 ad26 (by decide) (by decide) rf26_6 ft9_6 ?_
          refine ev_iload_n rfl ?_
          refine g_iald g1 ad30 rt30 (by omega) (by omega) (fun v2305 ev2305 lv2305 uv2305 => ?_)
          refine ev_isub (r := (v2304 + (-v2305))) (by unfold w32; omega) ?_
          refine ev_ret rfl (by decide) (by decide) ?_
          show jEv _ _ _ _ _ _ _ (_, [(2, 26), (0, a1), (0, a2), (0, x3), j4, j5], [(0, (v2304 + (-v2305)))], _, _, _)
          refine ev_istore (L' := [(2, 26), (0, a1), (0, a2), (0, x3), (0, (v2304 + (-v2305))), j5]) (Nat.le_of_ble_eq_true rfl) rfl ?_
          refine ev_iconst ?_
          refine ev_istore (L' := [(2, 26), (0, a1), (0, a2), (0, x3), (0, (v2304 + (-v2305))), (0, 0)]) (Nat.le_of_ble_eq_true rfl) rfl ?_
          exact ih.2 _ _ _ _ g1 k1 (by omega) (by omega) (by omega) (by omega) (by omega) (by omega) (by omega) (by omega) (by omega) (by omega) (by omega)
        · refine ev_aload_n rfl ?_
          refine g_getp (r := 26) (c := 31) g1 ad26 (by decide) (by decide) rf26_8 ft9_8 ?_
          refine ev_iload_n rfl ?_
          refine g_iald g1 ad31 rt31 (by omega) (by omega) (fun v2306 ev2306 lv2306 uv2306 => ?_)
          refine ev_goto f127_31 ?_
          refine ev_ret rfl (by decide) (by decide) ?_
          show jEv _ _ _ _ _ _ _ (_, [(2, 26), (0, a1), (0, a2), (0, x3), j4, j5], [(0, v2306)], _, _, _)
          refine ev_istore (L' := [(2, 26), (0, a1), (0, a2), (0, x3), (0, v2306), j5]) (Nat.le_of_ble_eq_true rfl) rfl ?_
          refine ev_iconst ?_
          refine ev_istore (L' := [(2, 26), (0, a1), (0, a2), (0, x3), (0, v2306), (0, 0)]) (Nat.le_of_ble_eq_true rfl) rfl ?_
          exact ih.2 _ _ _ _ g1 k1 (by omega) (by omega) (by omega) (by omega) (by omega) (by omega) (by omega) (by omega) (by omega) (by omega) (by omega)
    · intro h1 x3 x4 x5 g1 k1 b0 b1 b2 b3 b4 b5 b6 b7 b8 b9 hm
      refine ev_iload rfl ?_
      refine ev_aload_n rfl ?_
      obtain ⟨v2307, ev2307, lv2307, uv2307⟩ := g1.rd ad26 (show 7 < 15 by decide) rf26_7
      refine g_getv (r := 26) (v := v2307) g1 ad26 (by decide) ft9_7 ev2307 ?_
      refine ev_icmpge f128_57 (fun c2308 => ?_) (fun c2308 => ?_)
      · refine ev_iinc (w := (x3 + 1)) (L' := [(2, 26), (0, a1), (0, a2), (0, (x3 + 1)), (0, x4), (0, x5)]) rfl (by unfold w32; omega) rfl ?_
        refine ev_goto f128_2 ?_
        exact ih.1 _ _ _ _ g1 k1 (by omega) (by omega) (by omega) (by omega) (by omega) (by omega) (by omega)
      · refine ev_aload_n rfl ?_
        refine ev_iload_n rfl ?_
        refine ev_iload rfl ?_
        refine ev_iload_n rfl ?_
        refine ev_in (d := 0) (a := 0) (b := 0) (cd' := c127_0) (m := 4) (L0 := [(2, 26), (0, x3), (0, x5), (0, a2)]) (jcall_v (A := [(0, a2), (0, x5), (0, x3)]) (S' := []) (r := 26) rfl (g1.lt ad26) (g1.tg ad26) (Nat.le_of_ble_eq_true rfl)) (by decide) ml127 pp127 (Nat.le_of_ble_eq_true rfl) rfl (by decide) (by decide) ?_
        refine ev_iload_n rfl ?_
        refine ev_iload_n rfl ?_
        refine g_ishrB (a := 15) (by omega) (by omega) (by decide) (fun v2309 ev2309 lv2309 uv2309 => ?_)
        refine ev_iconst ?_
        refine g_iandB (b := 1) (by omega) (by omega) (by decide) (fun v2310 ev2310 lv2310 uv2310 => ?_)
        refine ev_iconst ?_
        refine ev_icmpne f127_18 (fun c2311 => ?_) (fun c2311 => ?_)
        · refine ev_aload_n rfl ?_
          refine g_getp (r := 26) (c := 29) g1 ad26 (by decide) (by decide) rf26_5 ft9_5 ?_
          refine ev_iload_n rfl ?_
          refine g_iald g1 ad29 rt29 (by omega) (by omega) (fun v2312 ev2312 lv2312 uv2312 => ?_)
          refine ev_aload_n rfl ?_
          refine g_getp (r := 26) (c := 30) g1 ad26 (by decide) (by decide) rf26_6 ft9_6 ?_
          refine ev_iload_n rfl ?_
          refine g_iald g1 ad30 rt30 (by omega) (by omega) (fun v2313 ev2313 lv2313 uv2313 => ?_)
          refine ev_isub (r := (v2312 + (-v2313))) (by unfold w32; omega) ?_
          refine ev_ret rfl (by decide) (by decide) ?_
          show jEv _ _ _ _ _ _ _ (_, [(2, 26), (0, a1), (0, a2), (0, x3), (0, x4), (0, x5)], [(0, (v2312 + (-v2313)))], _, _, _)
          refine ev_iload rfl ?_
          refine ev_icmple f128_51 (fun c2314 => ?_) (fun c2314 => ?_)
          · refine ev_iinc (w := (x5 + 1)) (L' := [(2, 26), (0, a1), (0, a2), (0, x3), (0, x4), (0, (x5 + 1))]) rfl (by unfold w32; omega) rfl ?_
            refine ev_goto f128_27 ?_
            exact ih.2 _ _ _ _ g1 k1 (by omega) (by omega) (by omega) (by omega) (by omega) (by omega) (by omega) (by omega) (by omega) (by omega) (by omega)
          · refine ev_iconst ?_
            exact ev_ret rfl (by decide) (by decide) ⟨_, rfl, by omega, by omega, g1, k1⟩
        · refine ev_aload_n rfl ?_
          refine g_getp (r := 26) (c := 31) g1 ad26 (by decide) (by decide) rf26_8 ft9_8 ?_
          refine ev_iload_n rfl ?_
          refine g_iald g1 ad31 rt31 (by omega) (by omega) (fun v2315 ev2315 lv2315 uv2315 => ?_)
          refine ev_goto f127_31 ?_
          refine ev_ret rfl (by decide) (by decide) ?_
          show jEv _ _ _ _ _ _ _ (_, [(2, 26), (0, a1), (0, a2), (0, x3), (0, x4), (0, x5)], [(0, v2315)], _, _, _)
          refine ev_iload rfl ?_
          refine ev_icmple f128_51 (fun c2316 => ?_) (fun c2316 => ?_)
          · refine ev_iinc (w := (x5 + 1)) (L' := [(2, 26), (0, a1), (0, a2), (0, x3), (0, x4), (0, (x5 + 1))]) rfl (by unfold w32; omega) rfl ?_
            refine ev_goto f128_27 ?_
            exact ih.2 _ _ _ _ g1 k1 (by omega) (by omega) (by omega) (by omega) (by omega) (by omega) (by omega) (by omega) (by omega) (by omega) (by omega)
          · refine ev_iconst ?_
            exact ev_ret rfl (by decide) (by decide) ⟨_, rfl, by omega, by omega, g1, k1⟩
set_option maxHeartbeats 4000000 in
theorem s128 {G : GH} {h : JH} (g : Gd G h) {a1 : Int} (la1 : 0 ≤ a1) (ua1 : a1 ≤ 63) {a2 : Int} (la2 : 0 ≤ a2) (ua2 : a2 ≤ 15) : jOk 2 0 0 128 [(2, 26), (0, a1), (0, a2)] h (PI G [] h 0 0 1) := by
  refine ⟨by decide, by rw [ml128]; exact Nat.le_of_ble_eq_true rfl, ?_⟩
  rw [ml128, pp128]
  show jEv _ none _ c128_0 0 0 _ (c128_0, [(2, 26), (0, a1), (0, a2), (9, 0), (9, 0), (9, 0)], [], h, 0, 0)
  have k0 := Kp.rf [] h
  refine ev_iconst ?_
  refine ev_istore_n (L' := [(2, 26), (0, a1), (0, a2), (0, 0), (9, 0), (9, 0)]) (Nat.le_of_ble_eq_true rfl) rfl ?_
  exact (s128_l la1 ua1 la2 ua2 80).1 _ _ _ _ g k0 (by omega) (by omega) (by omega) (by omega) (by omega) (by omega) (by omega)
/-! 122 profiles -/
set_option maxHeartbeats 4000000 in
theorem s122_l {G : GH} {h : JH} {a1 : Int} (la1 : 0 ≤ a1) (ua1 : a1 ≤ 99) {a2 : Int} (la2 : 0 ≤ a2) (ua2 : a2 ≤ 2) : ∀ N : Nat, (∀ (h1 : JH) (x3 x4 : Int) (j5 : AV), Gd G h1 → Kp [] h h1 → 0 ≤ a1 → a1 ≤ 99 → 0 ≤ a2 → a2 ≤ 2 → (-2147483648) ≤ x3 → x3 ≤ 2147483647 → 0 ≤ x4 → x4 ≤ 64 → ((-x4) + 64) < N → jEv (jOk 3) none (fun _ => 0) c122_0 0 0 (PI G [] h 0 (-2147483648) 2147483647) (c122_22, [(2, 26), (0, a1), (0, a2), (0, x3), (0, x4), j5], [], h1, 0, 0)) := by
  intro N
  induction N with
  | zero => exact fun h1 x3 x4 j5 g1 k1 b0 b1 b2 b3 b4 b5 b6 b7 hm => absurd hm (by omega)
  | succ N ih =>
    show _
    intro h1 x3 x4 j5 g1 k1 b0 b1 b2 b3 b4 b5 b6 b7 hm
    refine ev_iload rfl ?_
    refine ev_iconst ?_
    refine ev_iconst ?_
    refine ev_aload_n rfl ?_
    obtain ⟨v3377, ev3377, lv3377, uv3377⟩ := g1.rd ad26 (show 3 < 15 by decide) rf26_3
    refine g_getv (r := 26) (v := v3377) g1 ad26 (by decide) ft9_3 ev3377 ?_
    refine ev_imul (r := (2 * v3377)) (by unfold w32; omega) ?_
    refine g_ishlB (a' := 1) (a := 1) (b := 6) (hi := 64) (by omega) (by omega) (by omega) (by omega) (by decide) (by decide) (fun v3378 ev3378 lv3378 uv3378 => ?_)
    refine ev_icmpge f122_90 (fun c3379 => ?_) (fun c3379 => ?_)
    · refine ev_iload_n rfl ?_
      refine ev_ifne f122_98 (fun c3380 => ?_) (fun c3380 => ?_)
      · refine ev_bipush ?_
        exact ev_ret rfl (by decide) (by decide) ⟨_, rfl, by omega, by omega, g1, k1⟩
      · refine ev_iload_n rfl ?_
        refine ev_goto f122_100 ?_
        exact ev_ret rfl (by decide) (by decide) ⟨_, rfl, by omega, by omega, g1, k1⟩
    · refine ev_aload_n rfl ?_
      refine ev_iload rfl ?_
      refine ev_call (jcall_v (A := [(0, x4)]) (S' := []) (r := 26) rfl (g1.lt ad26) (g1.tg ad26) (Nat.le_of_ble_eq_true rfl)) (jOk_le (by decide) (s124 g1 (by omega) (by omega))) (by decide) (by decide) (fun w3381 h3381 q3381 => ?_)
      obtain ⟨v3382, rfl, lv3382, uv3382, g3381, kk3381⟩ := q3381
      have k3381 := k1.tr kk3381 (by decide)
      show jEv _ _ _ _ _ _ _ (_, [(2, 26), (0, a1), (0, a2), (0, x3), (0, x4), j5], [(0, v3382)], _, _, _)
      refine ev_ifeq f122_84 (fun c3383 => ?_) (fun c3383 => ?_)
      · refine ev_iinc (w := (x4 + 1)) (L' := [(2, 26), (0, a1), (0, a2), (0, x3), (0, (x4 + 1)), j5]) rfl (by unfold w32; omega) rfl ?_
        refine ev_goto f122_22 ?_
        exact ih _ _ _ _ g3381 k3381 (by omega) (by omega) (by omega) (by omega) (by omega) (by omega) (by omega) (by omega) (by omega)
      · refine ev_aload_n rfl ?_
        refine ev_iload rfl ?_
        refine ev_iload_n rfl ?_
        refine ev_call (jcall_v (A := [(0, a1), (0, x4)]) (S' := []) (r := 26) rfl (g3381.lt ad26) (g3381.tg ad26) (Nat.le_of_ble_eq_true rfl)) (jOk_le (by decide) (s125 g3381 (by omega) (by omega) (by omega) (by omega))) (by decide) (by decide) (fun w3384 h3384 q3384 => ?_)
        obtain ⟨v3385, rfl, lv3385, uv3385, g3384, kk3384⟩ := q3384
        have k3384 := k3381.tr kk3384 (by decide)
        show jEv _ _ _ _ _ _ _ (_, [(2, 26), (0, a1), (0, a2), (0, x3), (0, x4), j5], [(0, v3385)], _, _, _)
        refine ev_istore (L' := [(2, 26), (0, a1), (0, a2), (0, x3), (0, x4), (0, v3385)]) (Nat.le_of_ble_eq_true rfl) rfl ?_
        refine ev_aload_n rfl ?_
        refine ev_iload rfl ?_
        refine ev_iload rfl ?_
        refine ev_call (jcall_v (A := [(0, v3385), (0, x4)]) (S' := []) (r := 26) rfl (g3384.lt ad26) (g3384.tg ad26) (Nat.le_of_ble_eq_true rfl)) (jOk_le (by decide) (s128 g3384 (by omega) (by omega) (by omega) (by omega))) (by decide) (by decide) (fun w3386 h3386 q3386 => ?_)
        obtain ⟨v3387, rfl, lv3387, uv3387, g3386, kk3386⟩ := q3386
        have k3386 := k3384.tr kk3386 (by decide)
        show jEv _ _ _ _ _ _ _ (_, [(2, 26), (0, a1), (0, a2), (0, x3), (0, x4), (0, v3385)], [(0, v3387)], _, _, _)
        refine ev_ifeq f122_84 (fun c3388 => ?_) (fun c3388 => ?_)
        · refine ev_iinc (w := (x4 + 1)) (L' := [(2, 26), (0, a1), (0, a2), (0, x3), (0, (x4 + 1)), (0, v3385)]) rfl (by unfold w32; omega) rfl ?_
          refine ev_goto f122_22 ?_
          exact ih _ _ _ _ g3386 k3386 (by omega) (by omega) (by omega) (by omega) (by omega) (by omega) (by omega) (by omega) (by omega)
        · refine ev_iload_n rfl ?_
          refine ev_ifle f122_81 (fun c3389 => ?_) (fun c3389 => ?_)
          · refine g_iincG (f := fun w => [(2, 26), (0, a1), (0, a2), (0, w), (0, x4), (0, v3385)]) rfl (fun _ => rfl) (fun v3390 ev3390 lv3390 uv3390 => ?_)
            refine ev_iinc (w := (x4 + 1)) (L' := [(2, 26), (0, a1), (0, a2), (0, v3390), (0, (x4 + 1)), (0, v3385)]) rfl (by unfold w32; omega) rfl ?_
            refine ev_goto f122_22 ?_
            exact ih _ _ _ _ g3386 k3386 (by omega) (by omega) (by omega) (by omega) (by omega) (by omega) (by omega) (by omega) (by omega)
          · refine ev_iload_n rfl ?_
            refine ev_iconst ?_
            refine ev_icmpne f122_78 (fun c3391 => ?_) (fun c3391 => ?_)
            · refine ev_iload rfl ?_
              exact ev_ret rfl (by decide) (by decide) ⟨_, rfl, by omega, by omega, g3386, k3386⟩
            · refine ev_iload rfl ?_
              refine ev_goto f122_80 ?_
              exact ev_ret rfl (by decide) (by decide) ⟨_, rfl, by omega, by omega, g3386, k3386⟩
set_option maxHeartbeats 4000000 in
theorem s122 {G : GH} {h : JH} (g : Gd G h) {a1 : Int} (la1 : 0 ≤ a1) (ua1 : a1 ≤ 99) {a2 : Int} (la2 : 0 ≤ a2) (ua2 : a2 ≤ 2) : jOk 4 0 0 122 [(2, 26), (0, a1), (0, a2)] h (PI G [] h 0 (-2147483648) 2147483647) := by
  refine ⟨by decide, by rw [ml122]; exact Nat.le_of_ble_eq_true rfl, ?_⟩
  rw [ml122, pp122]
  show jEv _ none _ c122_0 0 0 _ (c122_0, [(2, 26), (0, a1), (0, a2), (9, 0), (9, 0), (9, 0)], [], h, 0, 0)
  have k0 := Kp.rf [] h
  refine ev_aload_n rfl ?_
  obtain ⟨v3392, ev3392, lv3392, uv3392⟩ := g.rd ad26 (show 3 < 15 by decide) rf26_3
  refine g_getv (r := 26) (v := v3392) g ad26 (by decide) ft9_3 ev3392 ?_
  refine ev_ifeq f122_14 (fun c3393 => ?_) (fun c3393 => ?_)
  · refine ev_bipush ?_
    exact ev_ret rfl (by decide) (by decide) ⟨_, rfl, by omega, by omega, g, k0⟩
  · refine ev_aload_n rfl ?_
    obtain ⟨v3394, ev3394, lv3394, uv3394⟩ := g.rd ad26 (show 7 < 15 by decide) rf26_7
    refine g_getv (r := 26) (v := v3394) g ad26 (by decide) ft9_7 ev3394 ?_
    refine ev_ifne f122_17 (fun c3395 => ?_) (fun c3395 => ?_)
    · refine ev_iconst ?_
      refine ev_istore_n (L' := [(2, 26), (0, a1), (0, a2), (0, 0), (9, 0), (9, 0)]) (Nat.le_of_ble_eq_true rfl) rfl ?_
      refine ev_iconst ?_
      refine ev_istore (L' := [(2, 26), (0, a1), (0, a2), (0, 0), (0, 0), (9, 0)]) (Nat.le_of_ble_eq_true rfl) rfl ?_
      exact (s122_l la1 ua1 la2 ua2 130) _ _ _ _ g k0 (by omega) (by omega) (by omega) (by omega) (by omega) (by omega) (by omega) (by omega) (by omega)
    · refine ev_bipush ?_
      exact ev_ret rfl (by decide) (by decide) ⟨_, rfl, by omega, by omega, g, k0⟩
/-! 131 effortFor -/
set_option maxHeartbeats 4000000 in
theorem s131_l {G : GH} {h : JH} {a1 : Int} (la1 : 0 ≤ a1) (ua1 : a1 ≤ 999) {a2 : Int} (la2 : 0 ≤ a2) (ua2 : a2 ≤ 100) : ∀ N : Nat, (∀ (h1 : JH) (x3 x4 x5 : Int) (j6 : AV), Gd G h1 → Kp [] h h1 → 0 ≤ a1 → a1 ≤ 999 → 0 ≤ a2 → a2 ≤ 100 → 0 ≤ x3 → x3 ≤ 3 → (-990000) ≤ x4 → x4 ≤ 9990000 → 0 ≤ x5 → x5 ≤ 4 → ((-x5) + 4) < N → jEv (jOk 0) none (fun _ => 0) c131_0 0 0 (PI G [] h 0 0 3) (c131_8, [(2, 26), (0, a1), (0, a2), (0, x3), (0, x4), (0, x5), j6], [], h1, 0, 0)) := by
  intro N
  induction N with
  | zero => exact fun h1 x3 x4 x5 j6 g1 k1 b0 b1 b2 b3 b4 b5 b6 b7 b8 b9 hm => absurd hm (by omega)
  | succ N ih =>
    show _
    intro h1 x3 x4 x5 j6 g1 k1 b0 b1 b2 b3 b4 b5 b6 b7 b8 b9 hm
    refine ev_iload rfl ?_
    refine ev_aload_n rfl ?_
    obtain ⟨v3443, ev3443, lv3443, uv3443⟩ := g1.rd ad26 (show 9 < 15 by decide) rf26_9
    refine g_getv (r := 26) (v := v3443) g1 ad26 (by decide) ft9_9 ev3443 ?_
    refine ev_icmpge f131_67 (fun c3444 => ?_) (fun c3444 => ?_)
    · refine ev_iload_n rfl ?_
      exact ev_ret rfl (by decide) (by decide) ⟨_, rfl, by omega, by omega, g1, k1⟩
    · refine ev_iload_n rfl ?_
      refine ev_iload_n rfl ?_
      refine g_imulB (a := 100) (b := 999) (a' := 0) (b' := 0) (by omega) (by omega) (by omega) (by omega) (by decide) (lo := 0) (hi := 99900) (by decide) (by decide) (fun v3445 ev3445 lv3445 uv3445 => ?_)
      refine ev_aload_n rfl ?_
      refine g_getp (r := 26) (c := 33) g1 ad26 (by decide) (by decide) rf26_11 ft9_11 ?_
      refine ev_iload rfl ?_
      refine g_iald g1 ad33 rt33 (by omega) (by omega) (fun v3446 ev3446 lv3446 uv3446 => ?_)
      refine g_imulB (a := 99900) (b := 100) (a' := 0) (b' := 0) (by omega) (by omega) (by omega) (by omega) (by decide) (lo := 0) (hi := 9990000) (by decide) (by decide) (fun v3447 ev3447 lv3447 uv3447 => ?_)
      refine ev_sipush ?_
      refine ev_aload_n rfl ?_
      refine g_getp (r := 26) (c := 32) g1 ad26 (by decide) (by decide) rf26_10 ft9_10 ?_
      refine ev_iload rfl ?_
      refine g_iald g1 ad32 rt32 (by omega) (by omega) (fun v3448 ev3448 lv3448 uv3448 => ?_)
      refine ev_imul (r := (10000 * v3448)) (by unfold w32; omega) ?_
      refine ev_isub (r := (v3447 + (-10000) * v3448)) (by unfold w32; omega) ?_
      refine ev_istore (L' := [(2, 26), (0, a1), (0, a2), (0, x3), (0, x4), (0, x5), (0, (v3447 + (-10000) * v3448))]) (Nat.le_of_ble_eq_true rfl) rfl ?_
      refine ev_iload rfl ?_
      refine ev_ifeq f131_54 (fun c3449 => ?_) (fun c3449 => ?_)
      · refine ev_iload rfl ?_
        refine ev_istore (L' := [(2, 26), (0, a1), (0, a2), (0, x3), (0, (v3447 + (-10000) * v3448)), (0, x5), (0, (v3447 + (-10000) * v3448))]) (Nat.le_of_ble_eq_true rfl) rfl ?_
        refine ev_iload rfl ?_
        refine ev_istore_n (L' := [(2, 26), (0, a1), (0, a2), (0, x5), (0, (v3447 + (-10000) * v3448)), (0, x5), (0, (v3447 + (-10000) * v3448))]) (Nat.le_of_ble_eq_true rfl) rfl ?_
        refine ev_iinc (w := (x5 + 1)) (L' := [(2, 26), (0, a1), (0, a2), (0, x5), (0, (v3447 + (-10000) * v3448)), (0, (x5 + 1)), (0, (v3447 + (-10000) * v3448))]) rfl (by unfold w32; omega) rfl ?_
        refine ev_goto f131_8 ?_
        exact ih _ _ _ _ _ g1 k1 (by omega) (by omega) (by omega) (by omega) (by omega) (by omega) (by omega) (by omega) (by omega) (by omega) (by omega)
      · refine ev_iload rfl ?_
        refine ev_iload rfl ?_
        refine ev_icmple f131_61 (fun c3450 => ?_) (fun c3450 => ?_)
        · refine ev_iinc (w := (x5 + 1)) (L' := [(2, 26), (0, a1), (0, a2), (0, x3), (0, x4), (0, (x5 + 1)), (0, (v3447 + (-10000) * v3448))]) rfl (by unfold w32; omega) rfl ?_
          refine ev_goto f131_8 ?_
          exact ih _ _ _ _ _ g1 k1 (by omega) (by omega) (by omega) (by omega) (by omega) (by omega) (by omega) (by omega) (by omega) (by omega) (by omega)
        · refine ev_iload rfl ?_
          refine ev_istore (L' := [(2, 26), (0, a1), (0, a2), (0, x3), (0, (v3447 + (-10000) * v3448)), (0, x5), (0, (v3447 + (-10000) * v3448))]) (Nat.le_of_ble_eq_true rfl) rfl ?_
          refine ev_iload rfl ?_
          refine ev_istore_n (L' := [(2, 26), (0, a1), (0, a2), (0, x5), (0, (v3447 + (-10000) * v3448)), (0, x5), (0, (v3447 + (-10000) * v3448))]) (Nat.le_of_ble_eq_true rfl) rfl ?_
          refine ev_iinc (w := (x5 + 1)) (L' := [(2, 26), (0, a1), (0, a2), (0, x5), (0, (v3447 + (-10000) * v3448)), (0, (x5 + 1)), (0, (v3447 + (-10000) * v3448))]) rfl (by unfold w32; omega) rfl ?_
          refine ev_goto f131_8 ?_
          exact ih _ _ _ _ _ g1 k1 (by omega) (by omega) (by omega) (by omega) (by omega) (by omega) (by omega) (by omega) (by omega) (by omega) (by omega)
set_option maxHeartbeats 4000000 in
theorem s131 {G : GH} {h : JH} (g : Gd G h) {a1 : Int} (la1 : 0 ≤ a1) (ua1 : a1 ≤ 999) {a2 : Int} (la2 : 0 ≤ a2) (ua2 : a2 ≤ 100) : jOk 1 0 0 131 [(2, 26), (0, a1), (0, a2)] h (PI G [] h 0 0 3) := by
  refine ⟨by decide, by rw [ml131]; exact Nat.le_of_ble_eq_true rfl, ?_⟩
  rw [ml131, pp131]
  show jEv _ none _ c131_0 0 0 _ (c131_0, [(2, 26), (0, a1), (0, a2), (9, 0), (9, 0), (9, 0), (9, 0)], [], h, 0, 0)
  have k0 := Kp.rf [] h
  refine ev_iconst ?_
  refine ev_istore_n (L' := [(2, 26), (0, a1), (0, a2), (0, 0), (9, 0), (9, 0), (9, 0)]) (Nat.le_of_ble_eq_true rfl) rfl ?_
  refine ev_iconst ?_
  refine ev_istore (L' := [(2, 26), (0, a1), (0, a2), (0, 0), (0, 0), (9, 0), (9, 0)]) (Nat.le_of_ble_eq_true rfl) rfl ?_
  refine ev_iconst ?_
  refine ev_istore (L' := [(2, 26), (0, a1), (0, a2), (0, 0), (0, 0), (0, 0), (9, 0)]) (Nat.le_of_ble_eq_true rfl) rfl ?_
  exact (s131_l la1 ua1 la2 ua2 10) _ _ _ _ _ g k0 (by omega) (by omega) (by omega) (by omega) (by omega) (by omega) (by omega) (by omega) (by omega) (by omega) (by omega)
/-! 132 leftOver -/
set_option maxHeartbeats 4000000 in
theorem s132 {G : GH} {h : JH} (g : Gd G h) {a1 : Int} (la1 : 0 ≤ a1) (ua1 : a1 ≤ 999) {a2 : Int} (la2 : 0 ≤ a2) (ua2 : a2 ≤ 100) : jOk 2 0 0 132 [(2, 26), (0, a1), (0, a2)] h (PI G [] h 0 0 9990000) := by
  refine ⟨by decide, by rw [ml132]; exact Nat.le_of_ble_eq_true rfl, ?_⟩
  rw [ml132, pp132]
  show jEv _ none _ c132_0 0 0 _ (c132_0, [(2, 26), (0, a1), (0, a2)], [], h, 0, 0)
  have k0 := Kp.rf [] h
  refine ev_bipush ?_
  refine ev_iload_n rfl ?_
  refine ev_isub (r := ((-a2) + 100)) (by unfold w32; omega) ?_
  refine ev_iload_n rfl ?_
  refine g_imulB (a := 100) (b := 999) (a' := 0) (b' := 0) (by omega) (by omega) (by omega) (by omega) (by decide) (lo := 0) (hi := 99900) (by decide) (by decide) (fun v3461 ev3461 lv3461 uv3461 => ?_)
  refine ev_aload_n rfl ?_
  refine g_getp (r := 26) (c := 33) g ad26 (by decide) (by decide) rf26_11 ft9_11 ?_
  refine ev_aload_n rfl ?_
  refine ev_iload_n rfl ?_
  refine ev_iload_n rfl ?_
  refine ev_call (jcall_v (A := [(0, a2), (0, a1)]) (S' := [(2, 33), (0, v3461)]) (r := 26) rfl (g.lt ad26) (g.tg ad26) (Nat.le_of_ble_eq_true rfl)) (jOk_le (by decide) (s131 g (by omega) (by omega) (by omega) (by omega))) (by decide) (by decide) (fun w3462 h3462 q3462 => ?_)
  obtain ⟨v3463, rfl, lv3463, uv3463, g3462, kk3462⟩ := q3462
  have k3462 := k0.tr kk3462 (by decide)
  show jEv _ _ _ _ _ _ _ (_, [(2, 26), (0, a1), (0, a2)], [(0, v3463), (2, 33), (0, v3461)], _, _, _)
  refine g_iald g3462 ad33 rt33 (by omega) (by omega) (fun v3464 ev3464 lv3464 uv3464 => ?_)
  refine g_imulB (a := 99900) (b := 100) (a' := 0) (b' := 0) (by omega) (by omega) (by omega) (by omega) (by decide) (lo := 0) (hi := 9990000) (by decide) (by decide) (fun v3465 ev3465 lv3465 uv3465 => ?_)
  exact ev_ret rfl (by decide) (by decide) ⟨_, rfl, by omega, by omega, g3462, k3462⟩
/-! 133 bestShare -/
set_option maxHeartbeats 4000000 in
theorem s133_l {G : GH} {h : JH} {a1 : Int} (la1 : 0 ≤ a1) (ua1 : a1 ≤ 999) : ∀ N : Nat, (∀ (h1 : JH) (x2 x3 : Int), Gd G h1 → Kp [] h h1 → 0 ≤ a1 → a1 ≤ 999 → 0 ≤ x2 → x2 ≤ 100 → 1 ≤ x3 → x3 ≤ 101 → ((-x3) + 101) < N → jEv (jOk 2) none (fun _ => 0) c133_0 0 0 (PI G [] h 0 0 100) (c133_4, [(2, 26), (0, a1), (0, x2), (0, x3)], [], h1, 0, 0)) := by
  intro N
  induction N with
  | zero => exact fun h1 x2 x3 g1 k1 b0 b1 b2 b3 b4 b5 hm => absurd hm (by omega)
  | succ N ih =>
    show _
    intro h1 x2 x3 g1 k1 b0 b1 b2 b3 b4 b5 hm
    refine ev_iload_n rfl ?_
    refine ev_bipush ?_
    refine ev_icmpgt f133_33 (fun c3700 => ?_) (fun c3700 => ?_)
    · refine ev_iload_n rfl ?_
      exact ev_ret rfl (by decide) (by decide) ⟨_, rfl, by omega, by omega, g1, k1⟩
    · refine ev_aload_n rfl ?_
      refine ev_iload_n rfl ?_
      refine ev_iload_n rfl ?_
      refine ev_call (jcall_v (A := [(0, x3), (0, a1)]) (S' := []) (r := 26) rfl (g1.lt ad26) (g1.tg ad26) (Nat.le_of_ble_eq_true rfl)) (jOk_le (by decide) (s132 g1 (by omega) (by omega) (by omega) (by omega))) (by decide) (by decide) (fun w3701 h3701 q3701 => ?_)
      obtain ⟨v3702, rfl, lv3702, uv3702, g3701, kk3701⟩ := q3701
      have k3701 := k1.tr kk3701 (by decide)
      show jEv _ _ _ _ _ _ _ (_, [(2, 26), (0, a1), (0, x2), (0, x3)], [(0, v3702)], _, _, _)
      refine ev_aload_n rfl ?_
      refine ev_iload_n rfl ?_
      refine ev_iload_n rfl ?_
      refine ev_call (jcall_v (A := [(0, x2), (0, a1)]) (S' := [(0, v3702)]) (r := 26) rfl (g3701.lt ad26) (g3701.tg ad26) (Nat.le_of_ble_eq_true rfl)) (jOk_le (by decide) (s132 g3701 (by omega) (by omega) (by omega) (by omega))) (by decide) (by decide) (fun w3703 h3703 q3703 => ?_)
      obtain ⟨v3704, rfl, lv3704, uv3704, g3703, kk3703⟩ := q3703
      have k3703 := k3701.tr kk3703 (by decide)
      show jEv _ _ _ _ _ _ _ (_, [(2, 26), (0, a1), (0, x2), (0, x3)], [(0, v3704), (0, v3702)], _, _, _)
      refine ev_icmple f133_27 (fun c3705 => ?_) (fun c3705 => ?_)
      · refine ev_iinc (w := (x3 + 1)) (L' := [(2, 26), (0, a1), (0, x2), (0, (x3 + 1))]) rfl (by unfold w32; omega) rfl ?_
        refine ev_goto f133_4 ?_
        exact ih _ _ _ g3703 k3703 (by omega) (by omega) (by omega) (by omega) (by omega) (by omega) (by omega)
      · refine ev_iload_n rfl ?_
        refine ev_istore_n (L' := [(2, 26), (0, a1), (0, x3), (0, x3)]) (Nat.le_of_ble_eq_true rfl) rfl ?_
        refine ev_iinc (w := (x3 + 1)) (L' := [(2, 26), (0, a1), (0, x3), (0, (x3 + 1))]) rfl (by unfold w32; omega) rfl ?_
        refine ev_goto f133_4 ?_
        exact ih _ _ _ g3703 k3703 (by omega) (by omega) (by omega) (by omega) (by omega) (by omega) (by omega)
set_option maxHeartbeats 4000000 in
theorem s133 {G : GH} {h : JH} (g : Gd G h) {a1 : Int} (la1 : 0 ≤ a1) (ua1 : a1 ≤ 999) : jOk 3 0 0 133 [(2, 26), (0, a1)] h (PI G [] h 0 0 100) := by
  refine ⟨by decide, by rw [ml133]; exact Nat.le_of_ble_eq_true rfl, ?_⟩
  rw [ml133, pp133]
  show jEv _ none _ c133_0 0 0 _ (c133_0, [(2, 26), (0, a1), (9, 0), (9, 0)], [], h, 0, 0)
  have k0 := Kp.rf [] h
  refine ev_iconst ?_
  refine ev_istore_n (L' := [(2, 26), (0, a1), (0, 0), (9, 0)]) (Nat.le_of_ble_eq_true rfl) rfl ?_
  refine ev_iconst ?_
  refine ev_istore_n (L' := [(2, 26), (0, a1), (0, 0), (0, 1)]) (Nat.le_of_ble_eq_true rfl) rfl ?_
  exact (s133_l la1 ua1 202) _ _ _ g k0 (by omega) (by omega) (by omega) (by omega) (by omega) (by omega) (by omega)
/-! 136 worthFrom -/
set_option maxHeartbeats 4000000 in
theorem s136_l {G : GH} {h : JH} {a1 : Int} (la1 : (-2147483648) ≤ a1) (ua1 : a1 ≤ 2147483647) {a2 : Int} (la2 : 1 ≤ a2) (ua2 : a2 ≤ 20) {a3 : Int} (la3 : (-999) ≤ a3) (ua3 : a3 ≤ 999) : ∀ N : Nat, (∀ (h1 : JH) (x4 x6 : Int) (j7 j9 : AV), Gd G h1 → Kp [] h h1 → (-2147483648) ≤ a1 → a1 ≤ 2147483647 → 1 ≤ a2 → a2 ≤ 20 → (-999) ≤ a3 → a3 ≤ 999 → (-9223372036854775808) ≤ x4 → x4 ≤ 9223372036854775807 → (-1) ≤ x6 → x6 ≤ 19 → (x6 + 1) < N → jEv (jOk 1) none (fun _ => 0) c136_0 0 0 (PI G [] h 1 (-9223372036854775808) 9223372036854775807) (c136_18, [(2, 26), (0, a1), (0, a2), (0, a3), (1, x4), (9, 0), (0, x6), j7, (9, 0), j9, (9, 0)], [], h1, 0, 0)) := by
  intro N
  induction N with
  | zero => exact fun h1 x4 x6 j7 j9 g1 k1 b0 b1 b2 b3 b4 b5 b6 b7 b8 b9 hm => absurd hm (by omega)
  | succ N ih =>
    show _
    intro h1 x4 x6 j7 j9 g1 k1 b0 b1 b2 b3 b4 b5 b6 b7 b8 b9 hm
    refine ev_iload rfl ?_
    refine ev_iflt f136_105 (fun c3760 => ?_) (fun c3760 => ?_)
    · refine ev_lload rfl ?_
      exact ev_ret rfl (by decide) (by decide) ⟨_, rfl, by omega, by omega, g1, k1⟩
    · refine ev_iload rfl ?_
      refine ev_iload_n rfl ?_
      refine ev_icmplt f136_105 (fun c3761 => ?_) (fun c3761 => ?_)
      · refine ev_lload rfl ?_
        exact ev_ret rfl (by decide) (by decide) ⟨_, rfl, by omega, by omega, g1, k1⟩
      · refine ev_lload rfl ?_
        refine ev_ldc2_w ?_
        refine ev_aload_n rfl ?_
        refine g_getp (r := 26) (c := 36) g1 ad26 (by decide) (by decide) rf26_14 ft9_14 ?_
        refine ev_iload rfl ?_
        refine g_iald g1 ad36 rt36 (by omega) (by omega) (fun v3762 ev3762 lv3762 uv3762 => ?_)
        refine ev_i2l ?_
        refine ev_lmul (r := (1000000 * v3762)) (by unfold w64; omega) ?_
        refine g_lsubG (fun v3763 ev3763 lv3763 uv3763 => ?_)
        refine ev_lstore (L' := [(2, 26), (0, a1), (0, a2), (0, a3), (1, x4), (9, 0), (0, x6), (1, v3763), (9, 0), j9, (9, 0)]) (Nat.le_of_ble_eq_true rfl) rfl ?_
        refine ev_ldc2_w ?_
        refine ev_aload_n rfl ?_
        refine g_getp (r := 26) (c := 34) g1 ad26 (by decide) (by decide) rf26_12 ft9_12 ?_
        refine ev_iload rfl ?_
        refine g_iald g1 ad34 rt34 (by omega) (by omega) (fun v3764 ev3764 lv3764 uv3764 => ?_)
        refine ev_i2l ?_
        refine ev_lmul (r := (1000000 * v3764)) (by unfold w64; omega) ?_
        refine ev_lload rfl ?_
        refine ev_in (d := 0) (a := 0) (b := 0) (cd' := c380_0) (m := 4) (L0 := [(1, (1000000 * v3764)), (9, 0), (1, v3763), (9, 0)]) (jcall_s (A := [(1, v3763), (1, (1000000 * v3764))]) (S' := []) (by decide) rfl (Nat.le_of_ble_eq_true rfl)) (by decide) ml380 pp380 (Nat.le_of_ble_eq_true rfl) rfl (by decide) (by decide) ?_
        refine ev_lload_n rfl ?_
        refine ev_lload_n rfl ?_
        refine ev_lcmp ?_
        refine ev_iflt f380_10 (fun c3765 => ?_) (fun c3765 => ?_)
        · have c3765b := jcmpL_lt c3765
          refine ev_lload_n rfl ?_
          refine ev_ret rfl (by decide) (by decide) ?_
          show jEv _ _ _ _ _ _ _ (_, [(2, 26), (0, a1), (0, a2), (0, a3), (1, x4), (9, 0), (0, x6), (1, v3763), (9, 0), j9, (9, 0)], [(1, v3763)], _, _, _)
          refine ev_lstore (L' := [(2, 26), (0, a1), (0, a2), (0, a3), (1, x4), (9, 0), (0, x6), (1, v3763), (9, 0), (1, v3763), (9, 0)]) (Nat.le_of_ble_eq_true rfl) rfl ?_
          refine ev_aload_n rfl ?_
          refine g_getp (r := 26) (c := 35) g1 ad26 (by decide) (by decide) rf26_13 ft9_13 ?_
          refine ev_iload rfl ?_
          refine g_iald g1 ad35 rt35 (by omega) (by omega) (fun v3766 ev3766 lv3766 uv3766 => ?_)
          refine ev_i2l ?_
          refine ev_lload rfl ?_
          refine g_lmulG (fun v3767 ev3767 lv3767 uv3767 => ?_)
          refine ev_bipush ?_
          refine ev_aload_n rfl ?_
          refine g_getp (r := 26) (c := 35) g1 ad26 (by decide) (by decide) rf26_13 ft9_13 ?_
          refine ev_iload rfl ?_
          refine g_ialdv (v := v3766) g1 ad35 (by omega) (by omega) (ev3766) ?_
          refine ev_isub (r := ((-v3766) + 100)) (by unfold w32; omega) ?_
          refine ev_i2l ?_
          refine ev_lload rfl ?_
          refine g_lmulG (fun v3768 ev3768 lv3768 uv3768 => ?_)
          refine g_laddG (fun v3769 ev3769 lv3769 uv3769 => ?_)
          refine ev_ldc2_w ?_
          refine ev_call (jcall_s (A := [(1, 100), (1, v3769)]) (S' := []) (by decide) rfl (Nat.le_of_ble_eq_true rfl)) (jOk_le (by decide) (s378 g1 (by omega) (by omega) (by omega) (by omega))) (by decide) (by decide) (fun w3770 h3770 q3770 => ?_)
          obtain ⟨v3771, rfl, lv3771, uv3771, g3770, kk3770⟩ := q3770
          have k3770 := k1.tr kk3770 (by decide)
          show jEv _ _ _ _ _ _ _ (_, [(2, 26), (0, a1), (0, a2), (0, a3), (1, x4), (9, 0), (0, x6), (1, v3763), (9, 0), (1, v3763), (9, 0)], [(1, v3771)], _, _, _)
          refine ev_lstore (L' := [(2, 26), (0, a1), (0, a2), (0, a3), (1, v3771), (9, 0), (0, x6), (1, v3763), (9, 0), (1, v3763), (9, 0)]) (Nat.le_of_ble_eq_true rfl) rfl ?_
          refine ev_iinc (w := (x6 - 1)) (L' := [(2, 26), (0, a1), (0, a2), (0, a3), (1, v3771), (9, 0), (0, (x6 - 1)), (1, v3763), (9, 0), (1, v3763), (9, 0)]) rfl (by unfold w32; omega) rfl ?_
          refine ev_goto f136_18 ?_
          exact ih _ _ _ _ _ g3770 k3770 (by omega) (by omega) (by omega) (by omega) (by omega) (by omega) (by omega) (by omega) (by omega) (by omega) (by omega)
        · have c3765b := jcmpL_ltN c3765
          refine ev_lload_n rfl ?_
          refine ev_goto f380_11 ?_
          refine ev_ret rfl (by decide) (by decide) ?_
          show jEv _ _ _ _ _ _ _ (_, [(2, 26), (0, a1), (0, a2), (0, a3), (1, x4), (9, 0), (0, x6), (1, v3763), (9, 0), j9, (9, 0)], [(1, (1000000 * v3764))], _, _, _)
          refine ev_lstore (L' := [(2, 26), (0, a1), (0, a2), (0, a3), (1, x4), (9, 0), (0, x6), (1, v3763), (9, 0), (1, (1000000 * v3764)), (9, 0)]) (Nat.le_of_ble_eq_true rfl) rfl ?_
          refine ev_aload_n rfl ?_
          refine g_getp (r := 26) (c := 35) g1 ad26 (by decide) (by decide) rf26_13 ft9_13 ?_
          refine ev_iload rfl ?_
          refine g_iald g1 ad35 rt35 (by omega) (by omega) (fun v3772 ev3772 lv3772 uv3772 => ?_)
          refine ev_i2l ?_
          refine ev_lload rfl ?_
          refine g_lmulB (a := 100) (b := 999000000) (a' := 0) (b' := 0) (by omega) (by omega) (by omega) (by omega) (by decide) (lo := 0) (hi := 99900000000) (by decide) (by decide) (fun v3773 ev3773 lv3773 uv3773 => ?_)
          refine ev_bipush ?_
          refine ev_aload_n rfl ?_
          refine g_getp (r := 26) (c := 35) g1 ad26 (by decide) (by decide) rf26_13 ft9_13 ?_
          refine ev_iload rfl ?_
          refine g_ialdv (v := v3772) g1 ad35 (by omega) (by omega) (ev3772) ?_
          refine ev_isub (r := ((-v3772) + 100)) (by unfold w32; omega) ?_
          refine ev_i2l ?_
          refine ev_lload rfl ?_
          refine g_lmulG (fun v3774 ev3774 lv3774 uv3774 => ?_)
          refine g_laddG (fun v3775 ev3775 lv3775 uv3775 => ?_)
          refine ev_ldc2_w ?_
          refine ev_call (jcall_s (A := [(1, 100), (1, v3775)]) (S' := []) (by decide) rfl (Nat.le_of_ble_eq_true rfl)) (jOk_le (by decide) (s378 g1 (by omega) (by omega) (by omega) (by omega))) (by decide) (by decide) (fun w3776 h3776 q3776 => ?_)
          obtain ⟨v3777, rfl, lv3777, uv3777, g3776, kk3776⟩ := q3776
          have k3776 := k1.tr kk3776 (by decide)
          show jEv _ _ _ _ _ _ _ (_, [(2, 26), (0, a1), (0, a2), (0, a3), (1, x4), (9, 0), (0, x6), (1, v3763), (9, 0), (1, (1000000 * v3764)), (9, 0)], [(1, v3777)], _, _, _)
          refine ev_lstore (L' := [(2, 26), (0, a1), (0, a2), (0, a3), (1, v3777), (9, 0), (0, x6), (1, v3763), (9, 0), (1, (1000000 * v3764)), (9, 0)]) (Nat.le_of_ble_eq_true rfl) rfl ?_
          refine ev_iinc (w := (x6 - 1)) (L' := [(2, 26), (0, a1), (0, a2), (0, a3), (1, v3777), (9, 0), (0, (x6 - 1)), (1, v3763), (9, 0), (1, (1000000 * v3764)), (9, 0)]) rfl (by unfold w32; omega) rfl ?_
          refine ev_goto f136_18 ?_
          exact ih _ _ _ _ _ g3776 k3776 (by omega) (by omega) (by omega) (by omega) (by omega) (by omega) (by omega) (by omega) (by omega) (by omega) (by omega)
set_option maxHeartbeats 4000000 in
theorem s136 {G : GH} {h : JH} (g : Gd G h) {a1 : Int} (la1 : (-2147483648) ≤ a1) (ua1 : a1 ≤ 2147483647) {a2 : Int} (la2 : 1 ≤ a2) (ua2 : a2 ≤ 20) {a3 : Int} (la3 : (-999) ≤ a3) (ua3 : a3 ≤ 999) : jOk 2 0 0 136 [(2, 26), (0, a1), (0, a2), (0, a3)] h (PI G [] h 1 (-9223372036854775808) 9223372036854775807) := by
  refine ⟨by decide, by rw [ml136]; exact Nat.le_of_ble_eq_true rfl, ?_⟩
  rw [ml136, pp136]
  show jEv _ none _ c136_0 0 0 _ (c136_0, [(2, 26), (0, a1), (0, a2), (0, a3), (9, 0), (9, 0), (9, 0), (9, 0), (9, 0), (9, 0), (9, 0)], [], h, 0, 0)
  have k0 := Kp.rf [] h
  refine ev_ldc2_w ?_
  refine ev_iload_n rfl ?_
  refine ev_i2l ?_
  refine ev_lmul (r := (1000000 * a3)) (by unfold w64; omega) ?_
  refine ev_lstore (L' := [(2, 26), (0, a1), (0, a2), (0, a3), (1, (1000000 * a3)), (9, 0), (9, 0), (9, 0), (9, 0), (9, 0), (9, 0)]) (Nat.le_of_ble_eq_true rfl) rfl ?_
  refine ev_iload_n rfl ?_
  refine ev_bipush ?_
  refine ev_in (d := 0) (a := 0) (b := 0) (cd' := c381_0) (m := 2) (L0 := [(0, a2), (0, 20)]) (jcall_s (A := [(0, 20), (0, a2)]) (S' := []) (by decide) rfl (Nat.le_of_ble_eq_true rfl)) (by decide) ml381 pp381 (Nat.le_of_ble_eq_true rfl) rfl (by decide) (by decide) ?_
  refine ev_iload_n rfl ?_
  refine ev_iload_n rfl ?_
  refine ev_icmpgt f381_9 (fun c3778 => absurd c3778 (by omega)) (fun c3778 => ?_)
  refine ev_iload_n rfl ?_
  refine ev_goto f381_10 ?_
  refine ev_ret rfl (by decide) (by decide) ?_
  show jEv _ _ _ _ _ _ _ (_, [(2, 26), (0, a1), (0, a2), (0, a3), (1, (1000000 * a3)), (9, 0), (9, 0), (9, 0), (9, 0), (9, 0), (9, 0)], [(0, a2)], _, _, _)
  refine ev_iconst ?_
  refine ev_isub (r := (a2 - 1)) (by unfold w32; omega) ?_
  refine ev_istore (L' := [(2, 26), (0, a1), (0, a2), (0, a3), (1, (1000000 * a3)), (9, 0), (0, (a2 - 1)), (9, 0), (9, 0), (9, 0), (9, 0)]) (Nat.le_of_ble_eq_true rfl) rfl ?_
  exact (s136_l la1 ua1 la2 ua2 la3 ua3 42) _ _ _ _ _ g k0 (by omega) (by omega) (by omega) (by omega) (by omega) (by omega) (by omega) (by omega) (by omega) (by omega) (by omega)
/-! 137 bar -/
set_option maxHeartbeats 4000000 in
theorem s137 {G : GH} {h : JH} (g : Gd G h) {a1 : Int} (la1 : (-2147483648) ≤ a1) (ua1 : a1 ≤ 2147483647) {a2 : Int} (la2 : 1 ≤ a2) (ua2 : a2 ≤ 20) {a3 : Int} (la3 : (-999) ≤ a3) (ua3 : a3 ≤ 999) : jOk 3 0 0 137 [(2, 26), (0, a1), (0, a2), (0, a3)] h (PI G [] h 1 (-9223372036854775808) 1000) := by
  refine ⟨by decide, by rw [ml137]; exact Nat.le_of_ble_eq_true rfl, ?_⟩
  rw [ml137, pp137]
  show jEv _ none _ c137_0 0 0 _ (c137_0, [(2, 26), (0, a1), (0, a2), (0, a3), (9, 0), (9, 0)], [], h, 0, 0)
  have k0 := Kp.rf [] h
  refine ev_iload_n rfl ?_
  refine ev_iflt f137_10 (fun c3805 => ?_) (fun c3805 => ?_)
  · refine ev_ldc2_w ?_
    exact ev_ret rfl (by decide) (by decide) ⟨_, rfl, by omega, by omega, g, k0⟩
  · refine ev_iload_n rfl ?_
    refine ev_bipush ?_
    refine ev_icmplt f137_14 (fun c3806 => ?_) (fun c3806 => ?_)
    · refine ev_aload_n rfl ?_
      refine ev_iload_n rfl ?_
      refine ev_iconst ?_
      refine ev_iadd (r := (a1 + 1)) (by unfold w32; omega) ?_
      refine ev_iload_n rfl ?_
      refine ev_iload_n rfl ?_
      refine ev_call (jcall_v (A := [(0, a3), (0, a2), (0, (a1 + 1))]) (S' := []) (r := 26) rfl (g.lt ad26) (g.tg ad26) (Nat.le_of_ble_eq_true rfl)) (jOk_le (by decide) (s136 g (by omega) (by omega) (by omega) (by omega) (by omega) (by omega))) (by decide) (by decide) (fun w3807 h3807 q3807 => ?_)
      obtain ⟨v3808, rfl, lv3808, uv3808, g3807, kk3807⟩ := q3807
      have k3807 := k0.tr kk3807 (by decide)
      show jEv _ _ _ _ _ _ _ (_, [(2, 26), (0, a1), (0, a2), (0, a3), (9, 0), (9, 0)], [(1, v3808)], _, _, _)
      refine ev_ldc2_w ?_
      refine ev_aload_n rfl ?_
      refine g_getp (r := 26) (c := 36) g3807 ad26 (by decide) (by decide) rf26_14 ft9_14 ?_
      refine ev_iload_n rfl ?_
      refine g_iald g3807 ad36 rt36 (by omega) (by omega) (fun v3809 ev3809 lv3809 uv3809 => ?_)
      refine ev_i2l ?_
      refine ev_lmul (r := (1000000 * v3809)) (by unfold w64; omega) ?_
      refine g_lsubG (fun v3810 ev3810 lv3810 uv3810 => ?_)
      refine ev_lstore (L' := [(2, 26), (0, a1), (0, a2), (0, a3), (1, v3810), (9, 0)]) (Nat.le_of_ble_eq_true rfl) rfl ?_
      refine ev_lconst ?_
      refine ev_ldc2_w ?_
      refine ev_lload rfl ?_
      refine g_lnegG (fun v3811 ev3811 lv3811 uv3811 => ?_)
      refine ev_ldc2_w ?_
      refine ev_call (jcall_s (A := [(1, 1000000), (1, v3811)]) (S' := [(1, 1000), (1, 0)]) (by decide) rfl (Nat.le_of_ble_eq_true rfl)) (jOk_le (by decide) (s378 g3807 (by omega) (by omega) (by omega) (by omega))) (by decide) (by decide) (fun w3812 h3812 q3812 => ?_)
      obtain ⟨v3813, rfl, lv3813, uv3813, g3812, kk3812⟩ := q3812
      have k3812 := k3807.tr kk3812 (by decide)
      show jEv _ _ _ _ _ _ _ (_, [(2, 26), (0, a1), (0, a2), (0, a3), (1, v3810), (9, 0)], [(1, v3813), (1, 1000), (1, 0)], _, _, _)
      refine g_lnegG (fun v3814 ev3814 lv3814 uv3814 => ?_)
      refine ev_in (d := 1) (a := 0) (b := 0) (cd' := c382_0) (m := 4) (L0 := [(1, 1000), (9, 0), (1, v3814), (9, 0)]) (jcall_s (A := [(1, v3814), (1, 1000)]) (S' := [(1, 0)]) (by decide) rfl (Nat.le_of_ble_eq_true rfl)) (by decide) ml382 pp382 (Nat.le_of_ble_eq_true rfl) rfl (by decide) (by decide) ?_
      refine ev_lload_n rfl ?_
      refine ev_lload_n rfl ?_
      refine ev_lcmp ?_
      refine ev_ifgt f382_10 (fun c3815 => ?_) (fun c3815 => ?_)
      · have c3815b := jcmpL_gt c3815
        refine ev_lload_n rfl ?_
        refine ev_ret rfl (by decide) (by decide) ?_
        show jEv _ _ _ _ _ _ _ (_, [(2, 26), (0, a1), (0, a2), (0, a3), (1, v3810), (9, 0)], [(1, v3814), (1, 0)], _, _, _)
        refine ev_in (d := 1) (a := 0) (b := 0) (cd' := c380_0) (m := 4) (L0 := [(1, 0), (9, 0), (1, v3814), (9, 0)]) (jcall_s (A := [(1, v3814), (1, 0)]) (S' := []) (by decide) rfl (Nat.le_of_ble_eq_true rfl)) (by decide) ml380 pp380 (Nat.le_of_ble_eq_true rfl) rfl (by decide) (by decide) ?_
        refine ev_lload_n rfl ?_
        refine ev_lload_n rfl ?_
        refine ev_lcmp ?_
        refine ev_iflt f380_10 (fun c3816 => ?_) (fun c3816 => ?_)
        · have c3816b := jcmpL_lt c3816
          refine ev_lload_n rfl ?_
          refine ev_ret rfl (by decide) (by decide) ?_
          show jEv _ _ _ _ _ _ _ (_, [(2, 26), (0, a1), (0, a2), (0, a3), (1, v3810), (9, 0)], [(1, v3814)], _, _, _)
          exact ev_ret rfl (by decide) (by decide) ⟨_, rfl, by omega, by omega, g3812, k3812⟩
        · have c3816b := jcmpL_ltN c3816
          refine ev_lload_n rfl ?_
          refine ev_goto f380_11 ?_
          refine ev_ret rfl (by decide) (by decide) ?_
          show jEv _ _ _ _ _ _ _ (_, [(2, 26), (0, a1), (0, a2), (0, a3), (1, v3810), (9, 0)], [(1, 0)], _, _, _)
          exact ev_ret rfl (by decide) (by decide) ⟨_, rfl, by omega, by omega, g3812, k3812⟩
      · have c3815b := jcmpL_gtN c3815
        refine ev_lload_n rfl ?_
        refine ev_goto f382_11 ?_
        refine ev_ret rfl (by decide) (by decide) ?_
        show jEv _ _ _ _ _ _ _ (_, [(2, 26), (0, a1), (0, a2), (0, a3), (1, v3810), (9, 0)], [(1, 1000), (1, 0)], _, _, _)
        refine ev_in (d := 1) (a := 0) (b := 0) (cd' := c380_0) (m := 4) (L0 := [(1, 0), (9, 0), (1, 1000), (9, 0)]) (jcall_s (A := [(1, 1000), (1, 0)]) (S' := []) (by decide) rfl (Nat.le_of_ble_eq_true rfl)) (by decide) ml380 pp380 (Nat.le_of_ble_eq_true rfl) rfl (by decide) (by decide) ?_
        refine ev_lload_n rfl ?_
        refine ev_lload_n rfl ?_
        refine ev_lcmp ?_
        refine ev_iflt f380_10 (fun c3817 => ?_) (fun c3817 => absurd (jcmpL_ltN c3817) (by omega))
        refine ev_lload_n rfl ?_
        refine ev_ret rfl (by decide) (by decide) ?_
        show jEv _ _ _ _ _ _ _ (_, [(2, 26), (0, a1), (0, a2), (0, a3), (1, v3810), (9, 0)], [(1, 1000)], _, _, _)
        exact ev_ret rfl (by decide) (by decide) ⟨_, rfl, by omega, by omega, g3812, k3812⟩
    · refine ev_ldc2_w ?_
      exact ev_ret rfl (by decide) (by decide) ⟨_, rfl, by omega, by omega, g, k0⟩
/-! 111 sureOfOne -/
set_option maxHeartbeats 4000000 in
theorem s111 {G : GH} {h : JH} (g : Gd G h)  : jOk 2 0 0 111 [(2, 26)] h (PI G [] h 0 (-99) 99) := by
  refine ⟨by decide, by rw [ml111]; exact Nat.le_of_ble_eq_true rfl, ?_⟩
  rw [ml111, pp111]
  show jEv _ none _ c111_0 0 0 _ (c111_0, [(2, 26)], [], h, 0, 0)
  have k0 := Kp.rf [] h
  refine ev_aload_n rfl ?_
  refine ev_iconst ?_
  refine ev_iconst ?_
  refine ev_iconst ?_
  refine ev_in (d := 0) (a := 0) (b := 0) (cd' := c106_0) (m := 4) (L0 := [(2, 26), (0, 0), (0, 0), (0, 0)]) (jcall_v (A := [(0, 0), (0, 0), (0, 0)]) (S' := []) (r := 26) rfl (g.lt ad26) (g.tg ad26) (Nat.le_of_ble_eq_true rfl)) (by decide) ml106 pp106 (Nat.le_of_ble_eq_true rfl) rfl (by decide) (by decide) ?_
  refine ev_aload_n rfl ?_
  refine g_getp (r := 26) (c := 27) g ad26 (by decide) (by decide) rf26_2 ft9_2 ?_
  refine ev_bipush ?_
  refine ev_iload_n rfl ?_
  refine ev_imul (r := 0) (by decide) ?_
  refine ev_iconst ?_
  refine ev_iload_n rfl ?_
  refine ev_imul (r := 0) (by decide) ?_
  refine ev_iadd (r := 0) (by decide) ?_
  refine ev_iload_n rfl ?_
  refine ev_iadd (r := 0) (by decide) ?_
  refine g_iald g ad27 rt27 (by omega) (by omega) (fun v3844 ev3844 lv3844 uv3844 => ?_)
  refine ev_ret rfl (by decide) (by decide) ?_
  show jEv _ _ _ _ _ _ _ (_, [(2, 26)], [(0, v3844)], _, _, _)
  refine ev_aload_n rfl ?_
  refine ev_iconst ?_
  refine ev_iconst ?_
  refine ev_iconst ?_
  refine ev_in (d := 0) (a := 0) (b := 0) (cd' := c106_0) (m := 4) (L0 := [(2, 26), (0, 0), (0, 1), (0, 0)]) (jcall_v (A := [(0, 0), (0, 1), (0, 0)]) (S' := [(0, v3844)]) (r := 26) rfl (g.lt ad26) (g.tg ad26) (Nat.le_of_ble_eq_true rfl)) (by decide) ml106 pp106 (Nat.le_of_ble_eq_true rfl) rfl (by decide) (by decide) ?_
  refine ev_aload_n rfl ?_
  refine g_getp (r := 26) (c := 27) g ad26 (by decide) (by decide) rf26_2 ft9_2 ?_
  refine ev_bipush ?_
  refine ev_iload_n rfl ?_
  refine ev_imul (r := 0) (by decide) ?_
  refine ev_iconst ?_
  refine ev_iload_n rfl ?_
  refine ev_imul (r := 2) (by decide) ?_
  refine ev_iadd (r := 2) (by decide) ?_
  refine ev_iload_n rfl ?_
  refine ev_iadd (r := 2) (by decide) ?_
  refine g_iald g ad27 rt27 (by omega) (by omega) (fun v3845 ev3845 lv3845 uv3845 => ?_)
  refine ev_ret rfl (by decide) (by decide) ?_
  show jEv _ _ _ _ _ _ _ (_, [(2, 26)], [(0, v3845), (0, v3844)], _, _, _)
  refine ev_in (d := 0) (a := 0) (b := 0) (cd' := c381_0) (m := 2) (L0 := [(0, v3844), (0, v3845)]) (jcall_s (A := [(0, v3845), (0, v3844)]) (S' := []) (by decide) rfl (Nat.le_of_ble_eq_true rfl)) (by decide) ml381 pp381 (Nat.le_of_ble_eq_true rfl) rfl (by decide) (by decide) ?_
  refine ev_iload_n rfl ?_
  refine ev_iload_n rfl ?_
  refine ev_icmpgt f381_9 (fun c3846 => ?_) (fun c3846 => ?_)
  · refine ev_iload_n rfl ?_
    refine ev_ret rfl (by decide) (by decide) ?_
    show jEv _ _ _ _ _ _ _ (_, [(2, 26)], [(0, v3845)], _, _, _)
    refine ev_aload_n rfl ?_
    refine ev_iconst ?_
    refine ev_iconst ?_
    refine ev_iconst ?_
    refine ev_in (d := 0) (a := 0) (b := 0) (cd' := c106_0) (m := 4) (L0 := [(2, 26), (0, 1), (0, 0), (0, 0)]) (jcall_v (A := [(0, 0), (0, 0), (0, 1)]) (S' := [(0, v3845)]) (r := 26) rfl (g.lt ad26) (g.tg ad26) (Nat.le_of_ble_eq_true rfl)) (by decide) ml106 pp106 (Nat.le_of_ble_eq_true rfl) rfl (by decide) (by decide) ?_
    refine ev_aload_n rfl ?_
    refine g_getp (r := 26) (c := 27) g ad26 (by decide) (by decide) rf26_2 ft9_2 ?_
    refine ev_bipush ?_
    refine ev_iload_n rfl ?_
    refine ev_imul (r := 8) (by decide) ?_
    refine ev_iconst ?_
    refine ev_iload_n rfl ?_
    refine ev_imul (r := 0) (by decide) ?_
    refine ev_iadd (r := 8) (by decide) ?_
    refine ev_iload_n rfl ?_
    refine ev_iadd (r := 8) (by decide) ?_
    refine g_iald g ad27 rt27 (by omega) (by omega) (fun v3847 ev3847 lv3847 uv3847 => ?_)
    refine ev_ret rfl (by decide) (by decide) ?_
    show jEv _ _ _ _ _ _ _ (_, [(2, 26)], [(0, v3847), (0, v3845)], _, _, _)
    refine ev_aload_n rfl ?_
    refine ev_iconst ?_
    refine ev_iconst ?_
    refine ev_iconst ?_
    refine ev_in (d := 0) (a := 0) (b := 0) (cd' := c106_0) (m := 4) (L0 := [(2, 26), (0, 1), (0, 1), (0, 0)]) (jcall_v (A := [(0, 0), (0, 1), (0, 1)]) (S' := [(0, v3847), (0, v3845)]) (r := 26) rfl (g.lt ad26) (g.tg ad26) (Nat.le_of_ble_eq_true rfl)) (by decide) ml106 pp106 (Nat.le_of_ble_eq_true rfl) rfl (by decide) (by decide) ?_
    refine ev_aload_n rfl ?_
    refine g_getp (r := 26) (c := 27) g ad26 (by decide) (by decide) rf26_2 ft9_2 ?_
    refine ev_bipush ?_
    refine ev_iload_n rfl ?_
    refine ev_imul (r := 8) (by decide) ?_
    refine ev_iconst ?_
    refine ev_iload_n rfl ?_
    refine ev_imul (r := 2) (by decide) ?_
    refine ev_iadd (r := 10) (by decide) ?_
    refine ev_iload_n rfl ?_
    refine ev_iadd (r := 10) (by decide) ?_
    refine g_iald g ad27 rt27 (by omega) (by omega) (fun v3848 ev3848 lv3848 uv3848 => ?_)
    refine ev_ret rfl (by decide) (by decide) ?_
    show jEv _ _ _ _ _ _ _ (_, [(2, 26)], [(0, v3848), (0, v3847), (0, v3845)], _, _, _)
    refine ev_in (d := 0) (a := 0) (b := 0) (cd' := c381_0) (m := 2) (L0 := [(0, v3847), (0, v3848)]) (jcall_s (A := [(0, v3848), (0, v3847)]) (S' := [(0, v3845)]) (by decide) rfl (Nat.le_of_ble_eq_true rfl)) (by decide) ml381 pp381 (Nat.le_of_ble_eq_true rfl) rfl (by decide) (by decide) ?_
    refine ev_iload_n rfl ?_
    refine ev_iload_n rfl ?_
    refine ev_icmpgt f381_9 (fun c3849 => ?_) (fun c3849 => ?_)
    · refine ev_iload_n rfl ?_
      refine ev_ret rfl (by decide) (by decide) ?_
      show jEv _ _ _ _ _ _ _ (_, [(2, 26)], [(0, v3848), (0, v3845)], _, _, _)
      refine ev_in (d := 0) (a := 0) (b := 0) (cd' := c379_0) (m := 2) (L0 := [(0, v3845), (0, v3848)]) (jcall_s (A := [(0, v3848), (0, v3845)]) (S' := []) (by decide) rfl (Nat.le_of_ble_eq_true rfl)) (by decide) ml379 pp379 (Nat.le_of_ble_eq_true rfl) rfl (by decide) (by decide) ?_
      refine ev_iload_n rfl ?_
      refine ev_iload_n rfl ?_
      refine ev_icmplt f379_9 (fun c3850 => ?_) (fun c3850 => ?_)
      · refine ev_iload_n rfl ?_
        refine ev_ret rfl (by decide) (by decide) ?_
        show jEv _ _ _ _ _ _ _ (_, [(2, 26)], [(0, v3848)], _, _, _)
        exact ev_ret rfl (by decide) (by decide) ⟨_, rfl, by omega, by omega, g, k0⟩
      · refine ev_iload_n rfl ?_
        refine ev_goto f379_10 ?_
        refine ev_ret rfl (by decide) (by decide) ?_
        show jEv _ _ _ _ _ _ _ (_, [(2, 26)], [(0, v3845)], _, _, _)
        exact ev_ret rfl (by decide) (by decide) ⟨_, rfl, by omega, by omega, g, k0⟩
    · refine ev_iload_n rfl ?_
      refine ev_goto f381_10 ?_
      refine ev_ret rfl (by decide) (by decide) ?_
      show jEv _ _ _ _ _ _ _ (_, [(2, 26)], [(0, v3847), (0, v3845)], _, _, _)
      refine ev_in (d := 0) (a := 0) (b := 0) (cd' := c379_0) (m := 2) (L0 := [(0, v3845), (0, v3847)]) (jcall_s (A := [(0, v3847), (0, v3845)]) (S' := []) (by decide) rfl (Nat.le_of_ble_eq_true rfl)) (by decide) ml379 pp379 (Nat.le_of_ble_eq_true rfl) rfl (by decide) (by decide) ?_
      refine ev_iload_n rfl ?_
      refine ev_iload_n rfl ?_
      refine ev_icmplt f379_9 (fun c3851 => ?_) (fun c3851 => ?_)
      · refine ev_iload_n rfl ?_
        refine ev_ret rfl (by decide) (by decide) ?_
        show jEv _ _ _ _ _ _ _ (_, [(2, 26)], [(0, v3847)], _, _, _)
        exact ev_ret rfl (by decide) (by decide) ⟨_, rfl, by omega, by omega, g, k0⟩
      · refine ev_iload_n rfl ?_
        refine ev_goto f379_10 ?_
        refine ev_ret rfl (by decide) (by decide) ?_
        show jEv _ _ _ _ _ _ _ (_, [(2, 26)], [(0, v3845)], _, _, _)
        exact ev_ret rfl (by decide) (by decide) ⟨_, rfl, by omega, by omega, g, k0⟩
  · refine ev_iload_n rfl ?_
    refine ev_goto f381_10 ?_
    refine ev_ret rfl (by decide) (by decide) ?_
    show jEv _ _ _ _ _ _ _ (_, [(2, 26)], [(0, v3844)], _, _, _)
    refine ev_aload_n rfl ?_
    refine ev_iconst ?_
    refine ev_iconst ?_
    refine ev_iconst ?_
    refine ev_in (d := 0) (a := 0) (b := 0) (cd' := c106_0) (m := 4) (L0 := [(2, 26), (0, 1), (0, 0), (0, 0)]) (jcall_v (A := [(0, 0), (0, 0), (0, 1)]) (S' := [(0, v3844)]) (r := 26) rfl (g.lt ad26) (g.tg ad26) (Nat.le_of_ble_eq_true rfl)) (by decide) ml106 pp106 (Nat.le_of_ble_eq_true rfl) rfl (by decide) (by decide) ?_
    refine ev_aload_n rfl ?_
    refine g_getp (r := 26) (c := 27) g ad26 (by decide) (by decide) rf26_2 ft9_2 ?_
    refine ev_bipush ?_
    refine ev_iload_n rfl ?_
    refine ev_imul (r := 8) (by decide) ?_
    refine ev_iconst ?_
    refine ev_iload_n rfl ?_
    refine ev_imul (r := 0) (by decide) ?_
    refine ev_iadd (r := 8) (by decide) ?_
    refine ev_iload_n rfl ?_
    refine ev_iadd (r := 8) (by decide) ?_
    refine g_iald g ad27 rt27 (by omega) (by omega) (fun v3852 ev3852 lv3852 uv3852 => ?_)
    refine ev_ret rfl (by decide) (by decide) ?_
    show jEv _ _ _ _ _ _ _ (_, [(2, 26)], [(0, v3852), (0, v3844)], _, _, _)
    refine ev_aload_n rfl ?_
    refine ev_iconst ?_
    refine ev_iconst ?_
    refine ev_iconst ?_
    refine ev_in (d := 0) (a := 0) (b := 0) (cd' := c106_0) (m := 4) (L0 := [(2, 26), (0, 1), (0, 1), (0, 0)]) (jcall_v (A := [(0, 0), (0, 1), (0, 1)]) (S' := [(0, v3852), (0, v3844)]) (r := 26) rfl (g.lt ad26) (g.tg ad26) (Nat.le_of_ble_eq_true rfl)) (by decide) ml106 pp106 (Nat.le_of_ble_eq_true rfl) rfl (by decide) (by decide) ?_
    refine ev_aload_n rfl ?_
    refine g_getp (r := 26) (c := 27) g ad26 (by decide) (by decide) rf26_2 ft9_2 ?_
    refine ev_bipush ?_
    refine ev_iload_n rfl ?_
    refine ev_imul (r := 8) (by decide) ?_
    refine ev_iconst ?_
    refine ev_iload_n rfl ?_
    refine ev_imul (r := 2) (by decide) ?_
    refine ev_iadd (r := 10) (by decide) ?_
    refine ev_iload_n rfl ?_
    refine ev_iadd (r := 10) (by decide) ?_
    refine g_iald g ad27 rt27 (by omega) (by omega) (fun v3853 ev3853 lv3853 uv3853 => ?_)
    refine ev_ret rfl (by decide) (by decide) ?_
    show jEv _ _ _ _ _ _ _ (_, [(2, 26)], [(0, v3853), (0, v3852), (0, v3844)], _, _, _)
    refine ev_in (d := 0) (a := 0) (b := 0) (cd' := c381_0) (m := 2) (L0 := [(0, v3852), (0, v3853)]) (jcall_s (A := [(0, v3853), (0, v3852)]) (S' := [(0, v3844)]) (by decide) rfl (Nat.le_of_ble_eq_true rfl)) (by decide) ml381 pp381 (Nat.le_of_ble_eq_true rfl) rfl (by decide) (by decide) ?_
    refine ev_iload_n rfl ?_
    refine ev_iload_n rfl ?_
    refine ev_icmpgt f381_9 (fun c3854 => ?_) (fun c3854 => ?_)
    · refine ev_iload_n rfl ?_
      refine ev_ret rfl (by decide) (by decide) ?_
      show jEv _ _ _ _ _ _ _ (_, [(2, 26)], [(0, v3853), (0, v3844)], _, _, _)
      refine ev_in (d := 0) (a := 0) (b := 0) (cd' := c379_0) (m := 2) (L0 := [(0, v3844), (0, v3853)]) (jcall_s (A := [(0, v3853), (0, v3844)]) (S' := []) (by decide) rfl (Nat.le_of_ble_eq_true rfl)) (by decide) ml379 pp379 (Nat.le_of_ble_eq_true rfl) rfl (by decide) (by decide) ?_
      refine ev_iload_n rfl ?_
      refine ev_iload_n rfl ?_
      refine ev_icmplt f379_9 (fun c3855 => ?_) (fun c3855 => ?_)
      · refine ev_iload_n rfl ?_
        refine ev_ret rfl (by decide) (by decide) ?_
        show jEv _ _ _ _ _ _ _ (_, [(2, 26)], [(0, v3853)], _, _, _)
        exact ev_ret rfl (by decide) (by decide) ⟨_, rfl, by omega, by omega, g, k0⟩
      · refine ev_iload_n rfl ?_
        refine ev_goto f379_10 ?_
        refine ev_ret rfl (by decide) (by decide) ?_
        show jEv _ _ _ _ _ _ _ (_, [(2, 26)], [(0, v3844)], _, _, _)
        exact ev_ret rfl (by decide) (by decide) ⟨_, rfl, by omega, by omega, g, k0⟩
    · refine ev_iload_n rfl ?_
      refine ev_goto f381_10 ?_
      refine ev_ret rfl (by decide) (by decide) ?_
      show jEv _ _ _ _ _ _ _ (_, [(2, 26)], [(0, v3852), (0, v3844)], _, _, _)
      refine ev_in (d := 0) (a := 0) (b := 0) (cd' := c379_0) (m := 2) (L0 := [(0, v3844), (0, v3852)]) (jcall_s (A := [(0, v3852), (0, v3844)]) (S' := []) (by decide) rfl (Nat.le_of_ble_eq_true rfl)) (by decide) ml379 pp379 (Nat.le_of_ble_eq_true rfl) rfl (by decide) (by decide) ?_
      refine ev_iload_n rfl ?_
      refine ev_iload_n rfl ?_
      refine ev_icmplt f379_9 (fun c3856 => ?_) (fun c3856 => ?_)
      · refine ev_iload_n rfl ?_
        refine ev_ret rfl (by decide) (by decide) ?_
        show jEv _ _ _ _ _ _ _ (_, [(2, 26)], [(0, v3852)], _, _, _)
        exact ev_ret rfl (by decide) (by decide) ⟨_, rfl, by omega, by omega, g, k0⟩
      · refine ev_iload_n rfl ?_
        refine ev_goto f379_10 ?_
        refine ev_ret rfl (by decide) (by decide) ?_
        show jEv _ _ _ _ _ _ _ (_, [(2, 26)], [(0, v3844)], _, _, _)
        exact ev_ret rfl (by decide) (by decide) ⟨_, rfl, by omega, by omega, g, k0⟩
/-! 112 duelMix -/
set_option maxHeartbeats 4000000 in
theorem s112 {G : GH} {h : JH} (g : Gd G h)  : jOk 2 0 0 112 [(2, 26)] h (PI G [] h 0 (-396) 396) := by
  refine ⟨by decide, by rw [ml112]; exact Nat.le_of_ble_eq_true rfl, ?_⟩
  rw [ml112, pp112]
  show jEv _ none _ c112_0 0 0 _ (c112_0, [(2, 26)], [], h, 0, 0)
  have k0 := Kp.rf [] h
  refine ev_aload_n rfl ?_
  refine ev_iconst ?_
  refine ev_iconst ?_
  refine ev_iconst ?_
  refine ev_in (d := 0) (a := 0) (b := 0) (cd' := c106_0) (m := 4) (L0 := [(2, 26), (0, 0), (0, 0), (0, 0)]) (jcall_v (A := [(0, 0), (0, 0), (0, 0)]) (S' := []) (r := 26) rfl (g.lt ad26) (g.tg ad26) (Nat.le_of_ble_eq_true rfl)) (by decide) ml106 pp106 (Nat.le_of_ble_eq_true rfl) rfl (by decide) (by decide) ?_
  refine ev_aload_n rfl ?_
  refine g_getp (r := 26) (c := 27) g ad26 (by decide) (by decide) rf26_2 ft9_2 ?_
  refine ev_bipush ?_
  refine ev_iload_n rfl ?_
  refine ev_imul (r := 0) (by decide) ?_
  refine ev_iconst ?_
  refine ev_iload_n rfl ?_
  refine ev_imul (r := 0) (by decide) ?_
  refine ev_iadd (r := 0) (by decide) ?_
  refine ev_iload_n rfl ?_
  refine ev_iadd (r := 0) (by decide) ?_
  refine g_iald g ad27 rt27 (by omega) (by omega) (fun v3865 ev3865 lv3865 uv3865 => ?_)
  refine ev_ret rfl (by decide) (by decide) ?_
  show jEv _ _ _ _ _ _ _ (_, [(2, 26)], [(0, v3865)], _, _, _)
  refine ev_aload_n rfl ?_
  refine ev_iconst ?_
  refine ev_iconst ?_
  refine ev_iconst ?_
  refine ev_in (d := 0) (a := 0) (b := 0) (cd' := c106_0) (m := 4) (L0 := [(2, 26), (0, 1), (0, 1), (0, 0)]) (jcall_v (A := [(0, 0), (0, 1), (0, 1)]) (S' := [(0, v3865)]) (r := 26) rfl (g.lt ad26) (g.tg ad26) (Nat.le_of_ble_eq_true rfl)) (by decide) ml106 pp106 (Nat.le_of_ble_eq_true rfl) rfl (by decide) (by decide) ?_
  refine ev_aload_n rfl ?_
  refine g_getp (r := 26) (c := 27) g ad26 (by decide) (by decide) rf26_2 ft9_2 ?_
  refine ev_bipush ?_
  refine ev_iload_n rfl ?_
  refine ev_imul (r := 8) (by decide) ?_
  refine ev_iconst ?_
  refine ev_iload_n rfl ?_
  refine ev_imul (r := 2) (by decide) ?_
  refine ev_iadd (r := 10) (by decide) ?_
  refine ev_iload_n rfl ?_
  refine ev_iadd (r := 10) (by decide) ?_
  refine g_iald g ad27 rt27 (by omega) (by omega) (fun v3866 ev3866 lv3866 uv3866 => ?_)
  refine ev_ret rfl (by decide) (by decide) ?_
  show jEv _ _ _ _ _ _ _ (_, [(2, 26)], [(0, v3866), (0, v3865)], _, _, _)
  refine ev_iadd (r := (v3865 + v3866)) (by unfold w32; omega) ?_
  refine ev_aload_n rfl ?_
  refine ev_iconst ?_
  refine ev_iconst ?_
  refine ev_iconst ?_
  refine ev_in (d := 0) (a := 0) (b := 0) (cd' := c106_0) (m := 4) (L0 := [(2, 26), (0, 0), (0, 1), (0, 0)]) (jcall_v (A := [(0, 0), (0, 1), (0, 0)]) (S' := [(0, (v3865 + v3866))]) (r := 26) rfl (g.lt ad26) (g.tg ad26) (Nat.le_of_ble_eq_true rfl)) (by decide) ml106 pp106 (Nat.le_of_ble_eq_true rfl) rfl (by decide) (by decide) ?_
  refine ev_aload_n rfl ?_
  refine g_getp (r := 26) (c := 27) g ad26 (by decide) (by decide) rf26_2 ft9_2 ?_
  refine ev_bipush ?_
  refine ev_iload_n rfl ?_
  refine ev_imul (r := 0) (by decide) ?_
  refine ev_iconst ?_
  refine ev_iload_n rfl ?_
  refine ev_imul (r := 2) (by decide) ?_
  refine ev_iadd (r := 2) (by decide) ?_
  refine ev_iload_n rfl ?_
  refine ev_iadd (r := 2) (by decide) ?_
  refine g_iald g ad27 rt27 (by omega) (by omega) (fun v3867 ev3867 lv3867 uv3867 => ?_)
  refine ev_ret rfl (by decide) (by decide) ?_
  show jEv _ _ _ _ _ _ _ (_, [(2, 26)], [(0, v3867), (0, (v3865 + v3866))], _, _, _)
  refine ev_isub (r := (v3865 + v3866 + (-v3867))) (by unfold w32; omega) ?_
  refine ev_aload_n rfl ?_
  refine ev_iconst ?_
  refine ev_iconst ?_
  refine ev_iconst ?_
  refine ev_in (d := 0) (a := 0) (b := 0) (cd' := c106_0) (m := 4) (L0 := [(2, 26), (0, 1), (0, 0), (0, 0)]) (jcall_v (A := [(0, 0), (0, 0), (0, 1)]) (S' := [(0, (v3865 + v3866 + (-v3867)))]) (r := 26) rfl (g.lt ad26) (g.tg ad26) (Nat.le_of_ble_eq_true rfl)) (by decide) ml106 pp106 (Nat.le_of_ble_eq_true rfl) rfl (by decide) (by decide) ?_
  refine ev_aload_n rfl ?_
  refine g_getp (r := 26) (c := 27) g ad26 (by decide) (by decide) rf26_2 ft9_2 ?_
  refine ev_bipush ?_
  refine ev_iload_n rfl ?_
  refine ev_imul (r := 8) (by decide) ?_
  refine ev_iconst ?_
  refine ev_iload_n rfl ?_
  refine ev_imul (r := 0) (by decide) ?_
  refine ev_iadd (r := 8) (by decide) ?_
  refine ev_iload_n rfl ?_
  refine ev_iadd (r := 8) (by decide) ?_
  refine g_iald g ad27 rt27 (by omega) (by omega) (fun v3868 ev3868 lv3868 uv3868 => ?_)
  refine ev_ret rfl (by decide) (by decide) ?_
  show jEv _ _ _ _ _ _ _ (_, [(2, 26)], [(0, v3868), (0, (v3865 + v3866 + (-v3867)))], _, _, _)
  refine ev_isub (r := (v3865 + v3866 + (-v3867) + (-v3868))) (by unfold w32; omega) ?_
  exact ev_ret rfl (by decide) (by decide) ⟨_, rfl, by omega, by omega, g, k0⟩
/-! 113 isSettled -/
set_option maxHeartbeats 4000000 in
theorem s113 {G : GH} {h : JH} (g : Gd G h)  : jOk 3 0 0 113 [(2, 26)] h (PI G [] h 0 0 1) := by
  refine ⟨by decide, by rw [ml113]; exact Nat.le_of_ble_eq_true rfl, ?_⟩
  rw [ml113, pp113]
  show jEv _ none _ c113_0 0 0 _ (c113_0, [(2, 26), (9, 0)], [], h, 0, 0)
  have k0 := Kp.rf [] h
  refine ev_aload_n rfl ?_
  refine ev_iconst ?_
  refine ev_iconst ?_
  refine ev_iconst ?_
  refine ev_in (d := 1) (a := 0) (b := 0) (cd' := c106_0) (m := 4) (L0 := [(2, 26), (0, 0), (0, 0), (0, 0)]) (jcall_v (A := [(0, 0), (0, 0), (0, 0)]) (S' := []) (r := 26) rfl (g.lt ad26) (g.tg ad26) (Nat.le_of_ble_eq_true rfl)) (by decide) ml106 pp106 (Nat.le_of_ble_eq_true rfl) rfl (by decide) (by decide) ?_
  refine ev_aload_n rfl ?_
  refine g_getp (r := 26) (c := 27) g ad26 (by decide) (by decide) rf26_2 ft9_2 ?_
  refine ev_bipush ?_
  refine ev_iload_n rfl ?_
  refine ev_imul (r := 0) (by decide) ?_
  refine ev_iconst ?_
  refine ev_iload_n rfl ?_
  refine ev_imul (r := 0) (by decide) ?_
  refine ev_iadd (r := 0) (by decide) ?_
  refine ev_iload_n rfl ?_
  refine ev_iadd (r := 0) (by decide) ?_
  refine g_iald g ad27 rt27 (by omega) (by omega) (fun v3991 ev3991 lv3991 uv3991 => ?_)
  refine ev_ret rfl (by decide) (by decide) ?_
  show jEv _ _ _ _ _ _ _ (_, [(2, 26), (9, 0)], [(0, v3991)], _, _, _)
  refine ev_aload_n rfl ?_
  refine ev_iconst ?_
  refine ev_iconst ?_
  refine ev_iconst ?_
  refine ev_in (d := 1) (a := 0) (b := 0) (cd' := c106_0) (m := 4) (L0 := [(2, 26), (0, 1), (0, 0), (0, 0)]) (jcall_v (A := [(0, 0), (0, 0), (0, 1)]) (S' := [(0, v3991)]) (r := 26) rfl (g.lt ad26) (g.tg ad26) (Nat.le_of_ble_eq_true rfl)) (by decide) ml106 pp106 (Nat.le_of_ble_eq_true rfl) rfl (by decide) (by decide) ?_
  refine ev_aload_n rfl ?_
  refine g_getp (r := 26) (c := 27) g ad26 (by decide) (by decide) rf26_2 ft9_2 ?_
  refine ev_bipush ?_
  refine ev_iload_n rfl ?_
  refine ev_imul (r := 8) (by decide) ?_
  refine ev_iconst ?_
  refine ev_iload_n rfl ?_
  refine ev_imul (r := 0) (by decide) ?_
  refine ev_iadd (r := 8) (by decide) ?_
  refine ev_iload_n rfl ?_
  refine ev_iadd (r := 8) (by decide) ?_
  refine g_iald g ad27 rt27 (by omega) (by omega) (fun v3992 ev3992 lv3992 uv3992 => ?_)
  refine ev_ret rfl (by decide) (by decide) ?_
  show jEv _ _ _ _ _ _ _ (_, [(2, 26), (9, 0)], [(0, v3992), (0, v3991)], _, _, _)
  refine ev_in (d := 1) (a := 0) (b := 0) (cd' := c379_0) (m := 2) (L0 := [(0, v3991), (0, v3992)]) (jcall_s (A := [(0, v3992), (0, v3991)]) (S' := []) (by decide) rfl (Nat.le_of_ble_eq_true rfl)) (by decide) ml379 pp379 (Nat.le_of_ble_eq_true rfl) rfl (by decide) (by decide) ?_
  refine ev_iload_n rfl ?_
  refine ev_iload_n rfl ?_
  refine ev_icmplt f379_9 (fun c3993 => ?_) (fun c3993 => ?_)
  · refine ev_iload_n rfl ?_
    refine ev_ret rfl (by decide) (by decide) ?_
    show jEv _ _ _ _ _ _ _ (_, [(2, 26), (9, 0)], [(0, v3992)], _, _, _)
    refine ev_aload_n rfl ?_
    refine ev_iconst ?_
    refine ev_iconst ?_
    refine ev_iconst ?_
    refine ev_in (d := 1) (a := 0) (b := 0) (cd' := c106_0) (m := 4) (L0 := [(2, 26), (0, 0), (0, 1), (0, 0)]) (jcall_v (A := [(0, 0), (0, 1), (0, 0)]) (S' := [(0, v3992)]) (r := 26) rfl (g.lt ad26) (g.tg ad26) (Nat.le_of_ble_eq_true rfl)) (by decide) ml106 pp106 (Nat.le_of_ble_eq_true rfl) rfl (by decide) (by decide) ?_
    refine ev_aload_n rfl ?_
    refine g_getp (r := 26) (c := 27) g ad26 (by decide) (by decide) rf26_2 ft9_2 ?_
    refine ev_bipush ?_
    refine ev_iload_n rfl ?_
    refine ev_imul (r := 0) (by decide) ?_
    refine ev_iconst ?_
    refine ev_iload_n rfl ?_
    refine ev_imul (r := 2) (by decide) ?_
    refine ev_iadd (r := 2) (by decide) ?_
    refine ev_iload_n rfl ?_
    refine ev_iadd (r := 2) (by decide) ?_
    refine g_iald g ad27 rt27 (by omega) (by omega) (fun v3994 ev3994 lv3994 uv3994 => ?_)
    refine ev_ret rfl (by decide) (by decide) ?_
    show jEv _ _ _ _ _ _ _ (_, [(2, 26), (9, 0)], [(0, v3994), (0, v3992)], _, _, _)
    refine ev_aload_n rfl ?_
    refine ev_iconst ?_
    refine ev_iconst ?_
    refine ev_iconst ?_
    refine ev_in (d := 1) (a := 0) (b := 0) (cd' := c106_0) (m := 4) (L0 := [(2, 26), (0, 1), (0, 1), (0, 0)]) (jcall_v (A := [(0, 0), (0, 1), (0, 1)]) (S' := [(0, v3994), (0, v3992)]) (r := 26) rfl (g.lt ad26) (g.tg ad26) (Nat.le_of_ble_eq_true rfl)) (by decide) ml106 pp106 (Nat.le_of_ble_eq_true rfl) rfl (by decide) (by decide) ?_
    refine ev_aload_n rfl ?_
    refine g_getp (r := 26) (c := 27) g ad26 (by decide) (by decide) rf26_2 ft9_2 ?_
    refine ev_bipush ?_
    refine ev_iload_n rfl ?_
    refine ev_imul (r := 8) (by decide) ?_
    refine ev_iconst ?_
    refine ev_iload_n rfl ?_
    refine ev_imul (r := 2) (by decide) ?_
    refine ev_iadd (r := 10) (by decide) ?_
    refine ev_iload_n rfl ?_
    refine ev_iadd (r := 10) (by decide) ?_
    refine g_iald g ad27 rt27 (by omega) (by omega) (fun v3995 ev3995 lv3995 uv3995 => ?_)
    refine ev_ret rfl (by decide) (by decide) ?_
    show jEv _ _ _ _ _ _ _ (_, [(2, 26), (9, 0)], [(0, v3995), (0, v3994), (0, v3992)], _, _, _)
    refine ev_in (d := 1) (a := 0) (b := 0) (cd' := c379_0) (m := 2) (L0 := [(0, v3994), (0, v3995)]) (jcall_s (A := [(0, v3995), (0, v3994)]) (S' := [(0, v3992)]) (by decide) rfl (Nat.le_of_ble_eq_true rfl)) (by decide) ml379 pp379 (Nat.le_of_ble_eq_true rfl) rfl (by decide) (by decide) ?_
    refine ev_iload_n rfl ?_
    refine ev_iload_n rfl ?_
    refine ev_icmplt f379_9 (fun c3996 => ?_) (fun c3996 => ?_)
    · refine ev_iload_n rfl ?_
      refine ev_ret rfl (by decide) (by decide) ?_
      show jEv _ _ _ _ _ _ _ (_, [(2, 26), (9, 0)], [(0, v3995), (0, v3992)], _, _, _)
      refine ev_in (d := 1) (a := 0) (b := 0) (cd' := c381_0) (m := 2) (L0 := [(0, v3992), (0, v3995)]) (jcall_s (A := [(0, v3995), (0, v3992)]) (S' := []) (by decide) rfl (Nat.le_of_ble_eq_true rfl)) (by decide) ml381 pp381 (Nat.le_of_ble_eq_true rfl) rfl (by decide) (by decide) ?_
      refine ev_iload_n rfl ?_
      refine ev_iload_n rfl ?_
      refine ev_icmpgt f381_9 (fun c3997 => ?_) (fun c3997 => ?_)
      · refine ev_iload_n rfl ?_
        refine ev_ret rfl (by decide) (by decide) ?_
        show jEv _ _ _ _ _ _ _ (_, [(2, 26), (9, 0)], [(0, v3995)], _, _, _)
        refine ev_istore_n (L' := [(2, 26), (0, v3995)]) (Nat.le_of_ble_eq_true rfl) rfl ?_
        refine ev_aload_n rfl ?_
        refine ev_call (jcall_v (A := []) (S' := []) (r := 26) rfl (g.lt ad26) (g.tg ad26) (Nat.le_of_ble_eq_true rfl)) (jOk_le (by decide) (s111 g )) (by decide) (by decide) (fun w3998 h3998 q3998 => ?_)
        obtain ⟨v3999, rfl, lv3999, uv3999, g3998, kk3998⟩ := q3998
        have k3998 := k0.tr kk3998 (by decide)
        show jEv _ _ _ _ _ _ _ (_, [(2, 26), (0, v3995)], [(0, v3999)], _, _, _)
        refine ev_iload_n rfl ?_
        refine ev_icmpeq f113_53 (fun c4000 => ?_) (fun c4000 => ?_)
        · refine ev_iconst ?_
          refine ev_goto f113_58 ?_
          exact ev_ret rfl (by decide) (by decide) ⟨_, rfl, by omega, by omega, g3998, k3998⟩
        · refine ev_aload_n rfl ?_
          refine ev_call (jcall_v (A := []) (S' := []) (r := 26) rfl (g3998.lt ad26) (g3998.tg ad26) (Nat.le_of_ble_eq_true rfl)) (jOk_le (by decide) (s112 g3998 )) (by decide) (by decide) (fun w4001 h4001 q4001 => ?_)
          obtain ⟨v4002, rfl, lv4002, uv4002, g4001, kk4001⟩ := q4001
          have k4001 := k3998.tr kk4001 (by decide)
          show jEv _ _ _ _ _ _ _ (_, [(2, 26), (0, v3995)], [(0, v4002)], _, _, _)
          refine ev_ifne f113_57 (fun c4003 => ?_) (fun c4003 => ?_)
          · refine ev_iconst ?_
            exact ev_ret rfl (by decide) (by decide) ⟨_, rfl, by omega, by omega, g4001, k4001⟩
          · refine ev_iconst ?_
            refine ev_goto f113_58 ?_
            exact ev_ret rfl (by decide) (by decide) ⟨_, rfl, by omega, by omega, g4001, k4001⟩
      · refine ev_iload_n rfl ?_
        refine ev_goto f381_10 ?_
        refine ev_ret rfl (by decide) (by decide) ?_
        show jEv _ _ _ _ _ _ _ (_, [(2, 26), (9, 0)], [(0, v3992)], _, _, _)
        refine ev_istore_n (L' := [(2, 26), (0, v3992)]) (Nat.le_of_ble_eq_true rfl) rfl ?_
        refine ev_aload_n rfl ?_
        refine ev_call (jcall_v (A := []) (S' := []) (r := 26) rfl (g.lt ad26) (g.tg ad26) (Nat.le_of_ble_eq_true rfl)) (jOk_le (by decide) (s111 g )) (by decide) (by decide) (fun w4004 h4004 q4004 => ?_)
        obtain ⟨v4005, rfl, lv4005, uv4005, g4004, kk4004⟩ := q4004
        have k4004 := k0.tr kk4004 (by decide)
        show jEv _ _ _ _ _ _ _ (_, [(2, 26), (0, v3992)], [(0, v4005)], _, _, _)
        refine ev_iload_n rfl ?_
        refine ev_icmpeq f113_53 (fun c4006 => ?_) (fun c4006 => ?_)
        · refine ev_iconst ?_
          refine ev_goto f113_58 ?_
          exact ev_ret rfl (by decide) (by decide) ⟨_, rfl, by omega, by omega, g4004, k4004⟩
        · refine ev_aload_n rfl ?_
          refine ev_call (jcall_v (A := []) (S' := []) (r := 26) rfl (g4004.lt ad26) (g4004.tg ad26) (Nat.le_of_ble_eq_true rfl)) (jOk_le (by decide) (s112 g4004 )) (by decide) (by decide) (fun w4007 h4007 q4007 => ?_)
          obtain ⟨v4008, rfl, lv4008, uv4008, g4007, kk4007⟩ := q4007
          have k4007 := k4004.tr kk4007 (by decide)
          show jEv _ _ _ _ _ _ _ (_, [(2, 26), (0, v3992)], [(0, v4008)], _, _, _)
          refine ev_ifne f113_57 (fun c4009 => ?_) (fun c4009 => ?_)
          · refine ev_iconst ?_
            exact ev_ret rfl (by decide) (by decide) ⟨_, rfl, by omega, by omega, g4007, k4007⟩
          · refine ev_iconst ?_
            refine ev_goto f113_58 ?_
            exact ev_ret rfl (by decide) (by decide) ⟨_, rfl, by omega, by omega, g4007, k4007⟩
    · refine ev_iload_n rfl ?_
      refine ev_goto f379_10 ?_
      refine ev_ret rfl (by decide) (by decide) ?_
      show jEv _ _ _ _ _ _ _ (_, [(2, 26), (9, 0)], [(0, v3994), (0, v3992)], _, _, _)
      refine ev_in (d := 1) (a := 0) (b := 0) (cd' := c381_0) (m := 2) (L0 := [(0, v3992), (0, v3994)]) (jcall_s (A := [(0, v3994), (0, v3992)]) (S' := []) (by decide) rfl (Nat.le_of_ble_eq_true rfl)) (by decide) ml381 pp381 (Nat.le_of_ble_eq_true rfl) rfl (by decide) (by decide) ?_
      refine ev_iload_n rfl ?_
      refine ev_iload_n rfl ?_
      refine ev_icmpgt f381_9 (fun c4010 => ?_) (fun c4010 => ?_)
      · refine ev_iload_n rfl ?_
        refine ev_ret rfl (by decide) (by decide) ?_
        show jEv _ _ _ _ _ _ _ (_, [(2, 26), (9, 0)], [(0, v3994)], _, _, _)
        refine ev_istore_n (L' := [(2, 26), (0, v3994)]) (Nat.le_of_ble_eq_true rfl) rfl ?_
        refine ev_aload_n rfl ?_
        refine ev_call (jcall_v (A := []) (S' := []) (r := 26) rfl (g.lt ad26) (g.tg ad26) (Nat.le_of_ble_eq_true rfl)) (jOk_le (by decide) (s111 g )) (by decide) (by decide) (fun w4011 h4011 q4011 => ?_)
        obtain ⟨v4012, rfl, lv4012, uv4012, g4011, kk4011⟩ := q4011
        have k4011 := k0.tr kk4011 (by decide)
        show jEv _ _ _ _ _ _ _ (_, [(2, 26), (0, v3994)], [(0, v4012)], _, _, _)
        refine ev_iload_n rfl ?_
        refine ev_icmpeq f113_53 (fun c4013 => ?_) (fun c4013 => ?_)
        · refine ev_iconst ?_
          refine ev_goto f113_58 ?_
          exact ev_ret rfl (by decide) (by decide) ⟨_, rfl, by omega, by omega, g4011, k4011⟩
        · refine ev_aload_n rfl ?_
          refine ev_call (jcall_v (A := []) (S' := []) (r := 26) rfl (g4011.lt ad26) (g4011.tg ad26) (Nat.le_of_ble_eq_true rfl)) (jOk_le (by decide) (s112 g4011 )) (by decide) (by decide) (fun w4014 h4014 q4014 => ?_)
          obtain ⟨v4015, rfl, lv4015, uv4015, g4014, kk4014⟩ := q4014
          have k4014 := k4011.tr kk4014 (by decide)
          show jEv _ _ _ _ _ _ _ (_, [(2, 26), (0, v3994)], [(0, v4015)], _, _, _)
          refine ev_ifne f113_57 (fun c4016 => ?_) (fun c4016 => ?_)
          · refine ev_iconst ?_
            exact ev_ret rfl (by decide) (by decide) ⟨_, rfl, by omega, by omega, g4014, k4014⟩
          · refine ev_iconst ?_
            refine ev_goto f113_58 ?_
            exact ev_ret rfl (by decide) (by decide) ⟨_, rfl, by omega, by omega, g4014, k4014⟩
      · refine ev_iload_n rfl ?_
        refine ev_goto f381_10 ?_
        refine ev_ret rfl (by decide) (by decide) ?_
        show jEv _ _ _ _ _ _ _ (_, [(2, 26), (9, 0)], [(0, v3992)], _, _, _)
        refine ev_istore_n (L' := [(2, 26), (0, v3992)]) (Nat.le_of_ble_eq_true rfl) rfl ?_
        refine ev_aload_n rfl ?_
        refine ev_call (jcall_v (A := []) (S' := []) (r := 26) rfl (g.lt ad26) (g.tg ad26) (Nat.le_of_ble_eq_true rfl)) (jOk_le (by decide) (s111 g )) (by decide) (by decide) (fun w4017 h4017 q4017 => ?_)
        obtain ⟨v4018, rfl, lv4018, uv4018, g4017, kk4017⟩ := q4017
        have k4017 := k0.tr kk4017 (by decide)
        show jEv _ _ _ _ _ _ _ (_, [(2, 26), (0, v3992)], [(0, v4018)], _, _, _)
        refine ev_iload_n rfl ?_
        refine ev_icmpeq f113_53 (fun c4019 => ?_) (fun c4019 => ?_)
        · refine ev_iconst ?_
          refine ev_goto f113_58 ?_
          exact ev_ret rfl (by decide) (by decide) ⟨_, rfl, by omega, by omega, g4017, k4017⟩
        · refine ev_aload_n rfl ?_
          refine ev_call (jcall_v (A := []) (S' := []) (r := 26) rfl (g4017.lt ad26) (g4017.tg ad26) (Nat.le_of_ble_eq_true rfl)) (jOk_le (by decide) (s112 g4017 )) (by decide) (by decide) (fun w4020 h4020 q4020 => ?_)
          obtain ⟨v4021, rfl, lv4021, uv4021, g4020, kk4020⟩ := q4020
          have k4020 := k4017.tr kk4020 (by decide)
          show jEv _ _ _ _ _ _ _ (_, [(2, 26), (0, v3992)], [(0, v4021)], _, _, _)
          refine ev_ifne f113_57 (fun c4022 => ?_) (fun c4022 => ?_)
          · refine ev_iconst ?_
            exact ev_ret rfl (by decide) (by decide) ⟨_, rfl, by omega, by omega, g4020, k4020⟩
          · refine ev_iconst ?_
            refine ev_goto f113_58 ?_
            exact ev_ret rfl (by decide) (by decide) ⟨_, rfl, by omega, by omega, g4020, k4020⟩
  · refine ev_iload_n rfl ?_
    refine ev_goto f379_10 ?_
    refine ev_ret rfl (by decide) (by decide) ?_
    show jEv _ _ _ _ _ _ _ (_, [(2, 26), (9, 0)], [(0, v3991)], _, _, _)
    refine ev_aload_n rfl ?_
    refine ev_iconst ?_
    refine ev_iconst ?_
    refine ev_iconst ?_
    refine ev_in (d := 1) (a := 0) (b := 0) (cd' := c106_0) (m := 4) (L0 := [(2, 26), (0, 0), (0, 1), (0, 0)]) (jcall_v (A := [(0, 0), (0, 1), (0, 0)]) (S' := [(0, v3991)]) (r := 26) rfl (g.lt ad26) (g.tg ad26) (Nat.le_of_ble_eq_true rfl)) (by decide) ml106 pp106 (Nat.le_of_ble_eq_true rfl) rfl (by decide) (by decide) ?_
    refine ev_aload_n rfl ?_
    refine g_getp (r := 26) (c := 27) g ad26 (by decide) (by decide) rf26_2 ft9_2 ?_
    refine ev_bipush ?_
    refine ev_iload_n rfl ?_
    refine ev_imul (r := 0) (by decide) ?_
    refine ev_iconst ?_
    refine ev_iload_n rfl ?_
    refine ev_imul (r := 2) (by decide) ?_
    refine ev_iadd (r := 2) (by decide) ?_
    refine ev_iload_n rfl ?_
    refine ev_iadd (r := 2) (by decide) ?_
    refine g_iald g ad27 rt27 (by omega) (by omega) (fun v4023 ev4023 lv4023 uv4023 => ?_)
    refine ev_ret rfl (by decide) (by decide) ?_
    show jEv _ _ _ _ _ _ _ (_, [(2, 26), (9, 0)], [(0, v4023), (0, v3991)], _, _, _)
    refine ev_aload_n rfl ?_
    refine ev_iconst ?_
    refine ev_iconst ?_
    refine ev_iconst ?_
    refine ev_in (d := 1) (a := 0) (b := 0) (cd' := c106_0) (m := 4) (L0 := [(2, 26), (0, 1), (0, 1), (0, 0)]) (jcall_v (A := [(0, 0), (0, 1), (0, 1)]) (S' := [(0, v4023), (0, v3991)]) (r := 26) rfl (g.lt ad26) (g.tg ad26) (Nat.le_of_ble_eq_true rfl)) (by decide) ml106 pp106 (Nat.le_of_ble_eq_true rfl) rfl (by decide) (by decide) ?_
    refine ev_aload_n rfl ?_
    refine g_getp (r := 26) (c := 27) g ad26 (by decide) (by decide) rf26_2 ft9_2 ?_
    refine ev_bipush ?_
    refine ev_iload_n rfl ?_
    refine ev_imul (r := 8) (by decide) ?_
    refine ev_iconst ?_
    refine ev_iload_n rfl ?_
    refine ev_imul (r := 2) (by decide) ?_
    refine ev_iadd (r := 10) (by decide) ?_
    refine ev_iload_n rfl ?_
    refine ev_iadd (r := 10) (by decide) ?_
    refine g_iald g ad27 rt27 (by omega) (by omega) (fun v4024 ev4024 lv4024 uv4024 => ?_)
    refine ev_ret rfl (by decide) (by decide) ?_
    show jEv _ _ _ _ _ _ _ (_, [(2, 26), (9, 0)], [(0, v4024), (0, v4023), (0, v3991)], _, _, _)
    refine ev_in (d := 1) (a := 0) (b := 0) (cd' := c379_0) (m := 2) (L0 := [(0, v4023), (0, v4024)]) (jcall_s (A := [(0, v4024), (0, v4023)]) (S' := [(0, v3991)]) (by decide) rfl (Nat.le_of_ble_eq_true rfl)) (by decide) ml379 pp379 (Nat.le_of_ble_eq_true rfl) rfl (by decide) (by decide) ?_
    refine ev_iload_n rfl ?_
    refine ev_iload_n rfl ?_
    refine ev_icmplt f379_9 (fun c4025 => ?_) (fun c4025 => ?_)
    · refine ev_iload_n rfl ?_
      refine ev_ret rfl (by decide) (by decide) ?_
      show jEv _ _ _ _ _ _ _ (_, [(2, 26), (9, 0)], [(0, v4024), (0, v3991)], _, _, _)
      refine ev_in (d := 1) (a := 0) (b := 0) (cd' := c381_0) (m := 2) (L0 := [(0, v3991), (0, v4024)]) (jcall_s (A := [(0, v4024), (0, v3991)]) (S' := []) (by decide) rfl (Nat.le_of_ble_eq_true rfl)) (by decide) ml381 pp381 (Nat.le_of_ble_eq_true rfl) rfl (by decide) (by decide) ?_
      refine ev_iload_n rfl ?_
      refine ev_iload_n rfl ?_
      refine ev_icmpgt f381_9 (fun c4026 => ?_) (fun c4026 => ?_)
      · refine ev_iload_n rfl ?_
        refine ev_ret rfl (by decide) (by decide) ?_
        show jEv _ _ _ _ _ _ _ (_, [(2, 26), (9, 0)], [(0, v4024)], _, _, _)
        refine ev_istore_n (L' := [(2, 26), (0, v4024)]) (Nat.le_of_ble_eq_true rfl) rfl ?_
        refine ev_aload_n rfl ?_
        refine ev_call (jcall_v (A := []) (S' := []) (r := 26) rfl (g.lt ad26) (g.tg ad26) (Nat.le_of_ble_eq_true rfl)) (jOk_le (by decide) (s111 g )) (by decide) (by decide) (fun w4027 h4027 q4027 => ?_)
        obtain ⟨v4028, rfl, lv4028, uv4028, g4027, kk4027⟩ := q4027
        have k4027 := k0.tr kk4027 (by decide)
        show jEv _ _ _ _ _ _ _ (_, [(2, 26), (0, v4024)], [(0, v4028)], _, _, _)
        refine ev_iload_n rfl ?_
        refine ev_icmpeq f113_53 (fun c4029 => ?_) (fun c4029 => ?_)
        · refine ev_iconst ?_
          refine ev_goto f113_58 ?_
          exact ev_ret rfl (by decide) (by decide) ⟨_, rfl, by omega, by omega, g4027, k4027⟩
        · refine ev_aload_n rfl ?_
          refine ev_call (jcall_v (A := []) (S' := []) (r := 26) rfl (g4027.lt ad26) (g4027.tg ad26) (Nat.le_of_ble_eq_true rfl)) (jOk_le (by decide) (s112 g4027 )) (by decide) (by decide) (fun w4030 h4030 q4030 => ?_)
          obtain ⟨v4031, rfl, lv4031, uv4031, g4030, kk4030⟩ := q4030
          have k4030 := k4027.tr kk4030 (by decide)
          show jEv _ _ _ _ _ _ _ (_, [(2, 26), (0, v4024)], [(0, v4031)], _, _, _)
          refine ev_ifne f113_57 (fun c4032 => ?_) (fun c4032 => ?_)
          · refine ev_iconst ?_
            exact ev_ret rfl (by decide) (by decide) ⟨_, rfl, by omega, by omega, g4030, k4030⟩
          · refine ev_iconst ?_
            refine ev_goto f113_58 ?_
            exact ev_ret rfl (by decide) (by decide) ⟨_, rfl, by omega, by omega, g4030, k4030⟩
      · refine ev_iload_n rfl ?_
        refine ev_goto f381_10 ?_
        refine ev_ret rfl (by decide) (by decide) ?_
        show jEv _ _ _ _ _ _ _ (_, [(2, 26), (9, 0)], [(0, v3991)], _, _, _)
        refine ev_istore_n (L' := [(2, 26), (0, v3991)]) (Nat.le_of_ble_eq_true rfl) rfl ?_
        refine ev_aload_n rfl ?_
        refine ev_call (jcall_v (A := []) (S' := []) (r := 26) rfl (g.lt ad26) (g.tg ad26) (Nat.le_of_ble_eq_true rfl)) (jOk_le (by decide) (s111 g )) (by decide) (by decide) (fun w4033 h4033 q4033 => ?_)
        obtain ⟨v4034, rfl, lv4034, uv4034, g4033, kk4033⟩ := q4033
        have k4033 := k0.tr kk4033 (by decide)
        show jEv _ _ _ _ _ _ _ (_, [(2, 26), (0, v3991)], [(0, v4034)], _, _, _)
        refine ev_iload_n rfl ?_
        refine ev_icmpeq f113_53 (fun c4035 => ?_) (fun c4035 => ?_)
        · refine ev_iconst ?_
          refine ev_goto f113_58 ?_
          exact ev_ret rfl (by decide) (by decide) ⟨_, rfl, by omega, by omega, g4033, k4033⟩
        · refine ev_aload_n rfl ?_
          refine ev_call (jcall_v (A := []) (S' := []) (r := 26) rfl (g4033.lt ad26) (g4033.tg ad26) (Nat.le_of_ble_eq_true rfl)) (jOk_le (by decide) (s112 g4033 )) (by decide) (by decide) (fun w4036 h4036 q4036 => ?_)
          obtain ⟨v4037, rfl, lv4037, uv4037, g4036, kk4036⟩ := q4036
          have k4036 := k4033.tr kk4036 (by decide)
          show jEv _ _ _ _ _ _ _ (_, [(2, 26), (0, v3991)], [(0, v4037)], _, _, _)
          refine ev_ifne f113_57 (fun c4038 => ?_) (fun c4038 => ?_)
          · refine ev_iconst ?_
            exact ev_ret rfl (by decide) (by decide) ⟨_, rfl, by omega, by omega, g4036, k4036⟩
          · refine ev_iconst ?_
            refine ev_goto f113_58 ?_
            exact ev_ret rfl (by decide) (by decide) ⟨_, rfl, by omega, by omega, g4036, k4036⟩
    · refine ev_iload_n rfl ?_
      refine ev_goto f379_10 ?_
      refine ev_ret rfl (by decide) (by decide) ?_
      show jEv _ _ _ _ _ _ _ (_, [(2, 26), (9, 0)], [(0, v4023), (0, v3991)], _, _, _)
      refine ev_in (d := 1) (a := 0) (b := 0) (cd' := c381_0) (m := 2) (L0 := [(0, v3991), (0, v4023)]) (jcall_s (A := [(0, v4023), (0, v3991)]) (S' := []) (by decide) rfl (Nat.le_of_ble_eq_true rfl)) (by decide) ml381 pp381 (Nat.le_of_ble_eq_true rfl) rfl (by decide) (by decide) ?_
      refine ev_iload_n rfl ?_
      refine ev_iload_n rfl ?_
      refine ev_icmpgt f381_9 (fun c4039 => ?_) (fun c4039 => ?_)
      · refine ev_iload_n rfl ?_
        refine ev_ret rfl (by decide) (by decide) ?_
        show jEv _ _ _ _ _ _ _ (_, [(2, 26), (9, 0)], [(0, v4023)], _, _, _)
        refine ev_istore_n (L' := [(2, 26), (0, v4023)]) (Nat.le_of_ble_eq_true rfl) rfl ?_
        refine ev_aload_n rfl ?_
        refine ev_call (jcall_v (A := []) (S' := []) (r := 26) rfl (g.lt ad26) (g.tg ad26) (Nat.le_of_ble_eq_true rfl)) (jOk_le (by decide) (s111 g )) (by decide) (by decide) (fun w4040 h4040 q4040 => ?_)
        obtain ⟨v4041, rfl, lv4041, uv4041, g4040, kk4040⟩ := q4040
        have k4040 := k0.tr kk4040 (by decide)
        show jEv _ _ _ _ _ _ _ (_, [(2, 26), (0, v4023)], [(0, v4041)], _, _, _)
        refine ev_iload_n rfl ?_
        refine ev_icmpeq f113_53 (fun c4042 => ?_) (fun c4042 => ?_)
        · refine ev_iconst ?_
          refine ev_goto f113_58 ?_
          exact ev_ret rfl (by decide) (by decide) ⟨_, rfl, by omega, by omega, g4040, k4040⟩
        · refine ev_aload_n rfl ?_
          refine ev_call (jcall_v (A := []) (S' := []) (r := 26) rfl (g4040.lt ad26) (g4040.tg ad26) (Nat.le_of_ble_eq_true rfl)) (jOk_le (by decide) (s112 g4040 )) (by decide) (by decide) (fun w4043 h4043 q4043 => ?_)
          obtain ⟨v4044, rfl, lv4044, uv4044, g4043, kk4043⟩ := q4043
          have k4043 := k4040.tr kk4043 (by decide)
          show jEv _ _ _ _ _ _ _ (_, [(2, 26), (0, v4023)], [(0, v4044)], _, _, _)
          refine ev_ifne f113_57 (fun c4045 => ?_) (fun c4045 => ?_)
          · refine ev_iconst ?_
            exact ev_ret rfl (by decide) (by decide) ⟨_, rfl, by omega, by omega, g4043, k4043⟩
          · refine ev_iconst ?_
            refine ev_goto f113_58 ?_
            exact ev_ret rfl (by decide) (by decide) ⟨_, rfl, by omega, by omega, g4043, k4043⟩
      · refine ev_iload_n rfl ?_
        refine ev_goto f381_10 ?_
        refine ev_ret rfl (by decide) (by decide) ?_
        show jEv _ _ _ _ _ _ _ (_, [(2, 26), (9, 0)], [(0, v3991)], _, _, _)
        refine ev_istore_n (L' := [(2, 26), (0, v3991)]) (Nat.le_of_ble_eq_true rfl) rfl ?_
        refine ev_aload_n rfl ?_
        refine ev_call (jcall_v (A := []) (S' := []) (r := 26) rfl (g.lt ad26) (g.tg ad26) (Nat.le_of_ble_eq_true rfl)) (jOk_le (by decide) (s111 g )) (by decide) (by decide) (fun w4046 h4046 q4046 => ?_)
        obtain ⟨v4047, rfl, lv4047, uv4047, g4046, kk4046⟩ := q4046
        have k4046 := k0.tr kk4046 (by decide)
        show jEv _ _ _ _ _ _ _ (_, [(2, 26), (0, v3991)], [(0, v4047)], _, _, _)
        refine ev_iload_n rfl ?_
        refine ev_icmpeq f113_53 (fun c4048 => ?_) (fun c4048 => ?_)
        · refine ev_iconst ?_
          refine ev_goto f113_58 ?_
          exact ev_ret rfl (by decide) (by decide) ⟨_, rfl, by omega, by omega, g4046, k4046⟩
        · refine ev_aload_n rfl ?_
          refine ev_call (jcall_v (A := []) (S' := []) (r := 26) rfl (g4046.lt ad26) (g4046.tg ad26) (Nat.le_of_ble_eq_true rfl)) (jOk_le (by decide) (s112 g4046 )) (by decide) (by decide) (fun w4049 h4049 q4049 => ?_)
          obtain ⟨v4050, rfl, lv4050, uv4050, g4049, kk4049⟩ := q4049
          have k4049 := k4046.tr kk4049 (by decide)
          show jEv _ _ _ _ _ _ _ (_, [(2, 26), (0, v3991)], [(0, v4050)], _, _, _)
          refine ev_ifne f113_57 (fun c4051 => ?_) (fun c4051 => ?_)
          · refine ev_iconst ?_
            exact ev_ret rfl (by decide) (by decide) ⟨_, rfl, by omega, by omega, g4049, k4049⟩
          · refine ev_iconst ?_
            refine ev_goto f113_58 ?_
            exact ev_ret rfl (by decide) (by decide) ⟨_, rfl, by omega, by omega, g4049, k4049⟩
/-! 114 duelTop -/
set_option maxHeartbeats 4000000 in
theorem s114 {G : GH} {h : JH} (g : Gd G h)  : jOk 4 0 0 114 [(2, 26)] h (PI G [] h 1 (-2147483648) 2147483647) := by
  refine ⟨by decide, by rw [ml114]; exact Nat.le_of_ble_eq_true rfl, ?_⟩
  rw [ml114, pp114]
  show jEv _ none _ c114_0 0 0 _ (c114_0, [(2, 26)], [], h, 0, 0)
  have k0 := Kp.rf [] h
  refine ev_aload_n rfl ?_
  refine ev_call (jcall_v (A := []) (S' := []) (r := 26) rfl (g.lt ad26) (g.tg ad26) (Nat.le_of_ble_eq_true rfl)) (jOk_le (by decide) (s113 g )) (by decide) (by decide) (fun w4076 h4076 q4076 => ?_)
  obtain ⟨v4077, rfl, lv4077, uv4077, g4076, kk4076⟩ := q4076
  have k4076 := k0.tr kk4076 (by decide)
  show jEv _ _ _ _ _ _ _ (_, [(2, 26)], [(0, v4077)], _, _, _)
  refine ev_ifeq f114_15 (fun c4078 => ?_) (fun c4078 => ?_)
  · refine ev_aload_n rfl ?_
    refine ev_iconst ?_
    refine ev_iconst ?_
    refine ev_iconst ?_
    refine ev_in (d := 2) (a := 0) (b := 0) (cd' := c106_0) (m := 4) (L0 := [(2, 26), (0, 0), (0, 0), (0, 0)]) (jcall_v (A := [(0, 0), (0, 0), (0, 0)]) (S' := []) (r := 26) rfl (g4076.lt ad26) (g4076.tg ad26) (Nat.le_of_ble_eq_true rfl)) (by decide) ml106 pp106 (Nat.le_of_ble_eq_true rfl) rfl (by decide) (by decide) ?_
    refine ev_aload_n rfl ?_
    refine g_getp (r := 26) (c := 27) g4076 ad26 (by decide) (by decide) rf26_2 ft9_2 ?_
    refine ev_bipush ?_
    refine ev_iload_n rfl ?_
    refine ev_imul (r := 0) (by decide) ?_
    refine ev_iconst ?_
    refine ev_iload_n rfl ?_
    refine ev_imul (r := 0) (by decide) ?_
    refine ev_iadd (r := 0) (by decide) ?_
    refine ev_iload_n rfl ?_
    refine ev_iadd (r := 0) (by decide) ?_
    refine g_iald g4076 ad27 rt27 (by omega) (by omega) (fun v4079 ev4079 lv4079 uv4079 => ?_)
    refine ev_ret rfl (by decide) (by decide) ?_
    show jEv _ _ _ _ _ _ _ (_, [(2, 26)], [(0, v4079)], _, _, _)
    refine ev_aload_n rfl ?_
    refine ev_iconst ?_
    refine ev_iconst ?_
    refine ev_iconst ?_
    refine ev_in (d := 2) (a := 0) (b := 0) (cd' := c106_0) (m := 4) (L0 := [(2, 26), (0, 1), (0, 1), (0, 0)]) (jcall_v (A := [(0, 0), (0, 1), (0, 1)]) (S' := [(0, v4079)]) (r := 26) rfl (g4076.lt ad26) (g4076.tg ad26) (Nat.le_of_ble_eq_true rfl)) (by decide) ml106 pp106 (Nat.le_of_ble_eq_true rfl) rfl (by decide) (by decide) ?_
    refine ev_aload_n rfl ?_
    refine g_getp (r := 26) (c := 27) g4076 ad26 (by decide) (by decide) rf26_2 ft9_2 ?_
    refine ev_bipush ?_
    refine ev_iload_n rfl ?_
    refine ev_imul (r := 8) (by decide) ?_
    refine ev_iconst ?_
    refine ev_iload_n rfl ?_
    refine ev_imul (r := 2) (by decide) ?_
    refine ev_iadd (r := 10) (by decide) ?_
    refine ev_iload_n rfl ?_
    refine ev_iadd (r := 10) (by decide) ?_
    refine g_iald g4076 ad27 rt27 (by omega) (by omega) (fun v4080 ev4080 lv4080 uv4080 => ?_)
    refine ev_ret rfl (by decide) (by decide) ?_
    show jEv _ _ _ _ _ _ _ (_, [(2, 26)], [(0, v4080), (0, v4079)], _, _, _)
    refine g_imulG (fun v4081 ev4081 lv4081 uv4081 => ?_)
    refine ev_aload_n rfl ?_
    refine ev_iconst ?_
    refine ev_iconst ?_
    refine ev_iconst ?_
    refine ev_in (d := 2) (a := 0) (b := 0) (cd' := c106_0) (m := 4) (L0 := [(2, 26), (0, 0), (0, 1), (0, 0)]) (jcall_v (A := [(0, 0), (0, 1), (0, 0)]) (S' := [(0, v4081)]) (r := 26) rfl (g4076.lt ad26) (g4076.tg ad26) (Nat.le_of_ble_eq_true rfl)) (by decide) ml106 pp106 (Nat.le_of_ble_eq_true rfl) rfl (by decide) (by decide) ?_
    refine ev_aload_n rfl ?_
    refine g_getp (r := 26) (c := 27) g4076 ad26 (by decide) (by decide) rf26_2 ft9_2 ?_
    refine ev_bipush ?_
    refine ev_iload_n rfl ?_
    refine ev_imul (r := 0) (by decide) ?_
    refine ev_iconst ?_
    refine ev_iload_n rfl ?_
    refine ev_imul (r := 2) (by decide) ?_
    refine ev_iadd (r := 2) (by decide) ?_
    refine ev_iload_n rfl ?_
    refine ev_iadd (r := 2) (by decide) ?_
    refine g_iald g4076 ad27 rt27 (by omega) (by omega) (fun v4082 ev4082 lv4082 uv4082 => ?_)
    refine ev_ret rfl (by decide) (by decide) ?_
    show jEv _ _ _ _ _ _ _ (_, [(2, 26)], [(0, v4082), (0, v4081)], _, _, _)
    refine ev_aload_n rfl ?_
    refine ev_iconst ?_
    refine ev_iconst ?_
    refine ev_iconst ?_
    refine ev_in (d := 2) (a := 0) (b := 0) (cd' := c106_0) (m := 4) (L0 := [(2, 26), (0, 1), (0, 0), (0, 0)]) (jcall_v (A := [(0, 0), (0, 0), (0, 1)]) (S' := [(0, v4082), (0, v4081)]) (r := 26) rfl (g4076.lt ad26) (g4076.tg ad26) (Nat.le_of_ble_eq_true rfl)) (by decide) ml106 pp106 (Nat.le_of_ble_eq_true rfl) rfl (by decide) (by decide) ?_
    refine ev_aload_n rfl ?_
    refine g_getp (r := 26) (c := 27) g4076 ad26 (by decide) (by decide) rf26_2 ft9_2 ?_
    refine ev_bipush ?_
    refine ev_iload_n rfl ?_
    refine ev_imul (r := 8) (by decide) ?_
    refine ev_iconst ?_
    refine ev_iload_n rfl ?_
    refine ev_imul (r := 0) (by decide) ?_
    refine ev_iadd (r := 8) (by decide) ?_
    refine ev_iload_n rfl ?_
    refine ev_iadd (r := 8) (by decide) ?_
    refine g_iald g4076 ad27 rt27 (by omega) (by omega) (fun v4083 ev4083 lv4083 uv4083 => ?_)
    refine ev_ret rfl (by decide) (by decide) ?_
    show jEv _ _ _ _ _ _ _ (_, [(2, 26)], [(0, v4083), (0, v4082), (0, v4081)], _, _, _)
    refine g_imulG (fun v4084 ev4084 lv4084 uv4084 => ?_)
    refine g_isubG (fun v4085 ev4085 lv4085 uv4085 => ?_)
    refine ev_i2l ?_
    exact ev_ret rfl (by decide) (by decide) ⟨_, rfl, by omega, by omega, g4076, k4076⟩
  · refine ev_aload_n rfl ?_
    refine ev_call (jcall_v (A := []) (S' := []) (r := 26) rfl (g4076.lt ad26) (g4076.tg ad26) (Nat.le_of_ble_eq_true rfl)) (jOk_le (by decide) (s111 g4076 )) (by decide) (by decide) (fun w4086 h4086 q4086 => ?_)
    obtain ⟨v4087, rfl, lv4087, uv4087, g4086, kk4086⟩ := q4086
    have k4086 := k4076.tr kk4086 (by decide)
    show jEv _ _ _ _ _ _ _ (_, [(2, 26)], [(0, v4087)], _, _, _)
    refine ev_i2l ?_
    refine ev_goto f114_47 ?_
    exact ev_ret rfl (by decide) (by decide) ⟨_, rfl, by omega, by omega, g4086, k4086⟩
/-! 115 duelBottom -/
set_option maxHeartbeats 4000000 in
theorem s115 {G : GH} {h : JH} (g : Gd G h)  : jOk 4 0 0 115 [(2, 26)] h (PI G [] h 1 (-396) 396) := by
  refine ⟨by decide, by rw [ml115]; exact Nat.le_of_ble_eq_true rfl, ?_⟩
  rw [ml115, pp115]
  show jEv _ none _ c115_0 0 0 _ (c115_0, [(2, 26)], [], h, 0, 0)
  have k0 := Kp.rf [] h
  refine ev_aload_n rfl ?_
  refine ev_call (jcall_v (A := []) (S' := []) (r := 26) rfl (g.lt ad26) (g.tg ad26) (Nat.le_of_ble_eq_true rfl)) (jOk_le (by decide) (s113 g )) (by decide) (by decide) (fun w4098 h4098 q4098 => ?_)
  obtain ⟨v4099, rfl, lv4099, uv4099, g4098, kk4098⟩ := q4098
  have k4098 := k0.tr kk4098 (by decide)
  show jEv _ _ _ _ _ _ _ (_, [(2, 26)], [(0, v4099)], _, _, _)
  refine ev_ifeq f115_11 (fun c4100 => ?_) (fun c4100 => ?_)
  · refine ev_aload_n rfl ?_
    refine ev_call (jcall_v (A := []) (S' := []) (r := 26) rfl (g4098.lt ad26) (g4098.tg ad26) (Nat.le_of_ble_eq_true rfl)) (jOk_le (by decide) (s112 g4098 )) (by decide) (by decide) (fun w4101 h4101 q4101 => ?_)
    obtain ⟨v4102, rfl, lv4102, uv4102, g4101, kk4101⟩ := q4101
    have k4101 := k4098.tr kk4101 (by decide)
    show jEv _ _ _ _ _ _ _ (_, [(2, 26)], [(0, v4102)], _, _, _)
    refine ev_i2l ?_
    exact ev_ret rfl (by decide) (by decide) ⟨_, rfl, by omega, by omega, g4101, k4101⟩
  · refine ev_lconst ?_
    refine ev_goto f115_16 ?_
    exact ev_ret rfl (by decide) (by decide) ⟨_, rfl, by omega, by omega, g4098, k4098⟩
/-! 92 sumOver -/
set_option maxHeartbeats 4000000 in
theorem s92_l {G : GH} {h : JH} {a1 : Int} (la1 : (-2147483648) ≤ a1) (ua1 : a1 ≤ 2147483647) {a2 : Int} (la2 : (-2147483648) ≤ a2) (ua2 : a2 ≤ 2147483647) : ∀ N : Nat, (∀ (h1 : JH) (x3 x4 x5 x6 : Int), Gd G h1 → Kp [] h h1 → (-2147483648) ≤ a1 → a1 ≤ 2147483647 → (-2147483648) ≤ a2 → a2 ≤ 2147483647 → (-2147483648) ≤ x3 → x3 ≤ 2147483647 → (-2147483648) ≤ x4 → x4 ≤ 2147483647 → (-2147483648) ≤ x5 → x5 ≤ 2147483647 → 0 ≤ x6 → x6 ≤ 6 → ((-x6) + 6) < N → jEv (jOk 0) none (fun _ => 0) c92_0 0 0 (PI G [] h 0 (-2147483648) 2147483647) (c92_12, [(2, 19), (0, a1), (0, a2), (0, x3), (0, x4), (0, x5), (0, x6)], [], h1, 0, 0)) := by
  intro N
  induction N with
  | zero => exact fun h1 x3 x4 x5 x6 g1 k1 b0 b1 b2 b3 b4 b5 b6 b7 b8 b9 b10 b11 hm => absurd hm (by omega)
  | succ N ih =>
    show _
    intro h1 x3 x4 x5 x6 g1 k1 b0 b1 b2 b3 b4 b5 b6 b7 b8 b9 b10 b11 hm
    refine ev_iload rfl ?_
    refine ev_aload_n rfl ?_
    obtain ⟨v4244, ev4244, lv4244, uv4244⟩ := g1.rd ad19 (show 4 < 6 by decide) rf19_4
    refine g_getv (r := 19) (v := v4244) g1 ad19 (by decide) ft7_4 ev4244 ?_
    refine ev_icmpge f92_84 (fun c4245 => ?_) (fun c4245 => ?_)
    · refine ev_iload_n rfl ?_
      refine ev_iload_n rfl ?_
      refine ev_iload rfl ?_
      refine g_isubG (fun v4246 ev4246 lv4246 uv4246 => ?_)
      refine ev_iconst ?_
      refine g_iaddG (fun v4247 ev4247 lv4247 uv4247 => ?_)
      refine ev_iload rfl ?_
      refine g_imulG (fun v4248 ev4248 lv4248 uv4248 => ?_)
      refine g_iaddG (fun v4249 ev4249 lv4249 uv4249 => ?_)
      exact ev_ret rfl (by decide) (by decide) ⟨_, rfl, by omega, by omega, g1, k1⟩
    · refine ev_aload_n rfl ?_
      refine g_getp (r := 19) (c := 20) g1 ad19 (by decide) (by decide) rf19_0 ft7_0 ?_
      refine ev_iload rfl ?_
      refine g_iald g1 ad20 rt20 (by omega) (by omega) (fun v4250 ev4250 lv4250 uv4250 => ?_)
      refine ev_iload_n rfl ?_
      refine ev_icmpgt f92_84 (fun c4251 => ?_) (fun c4251 => ?_)
      · refine ev_iload_n rfl ?_
        refine ev_iload_n rfl ?_
        refine ev_iload rfl ?_
        refine g_isubG (fun v4252 ev4252 lv4252 uv4252 => ?_)
        refine ev_iconst ?_
        refine g_iaddG (fun v4253 ev4253 lv4253 uv4253 => ?_)
        refine ev_iload rfl ?_
        refine g_imulG (fun v4254 ev4254 lv4254 uv4254 => ?_)
        refine g_iaddG (fun v4255 ev4255 lv4255 uv4255 => ?_)
        exact ev_ret rfl (by decide) (by decide) ⟨_, rfl, by omega, by omega, g1, k1⟩
      · refine ev_aload_n rfl ?_
        refine g_getp (r := 19) (c := 20) g1 ad19 (by decide) (by decide) rf19_0 ft7_0 ?_
        refine ev_iload rfl ?_
        refine g_ialdv (v := v4250) g1 ad20 (by omega) (by omega) (ev4250) ?_
        refine ev_iload rfl ?_
        refine ev_icmple f92_69 (fun c4256 => ?_) (fun c4256 => ?_)
        · refine ev_aload_n rfl ?_
          refine g_getp (r := 19) (c := 21) g1 ad19 (by decide) (by decide) rf19_1 ft7_1 ?_
          refine ev_iload rfl ?_
          refine g_iald g1 ad21 rt21 (by omega) (by omega) (fun v4257 ev4257 lv4257 uv4257 => ?_)
          refine ev_istore (L' := [(2, 19), (0, a1), (0, a2), (0, x3), (0, x4), (0, v4257), (0, x6)]) (Nat.le_of_ble_eq_true rfl) rfl ?_
          refine ev_iinc (w := (x6 + 1)) (L' := [(2, 19), (0, a1), (0, a2), (0, x3), (0, x4), (0, v4257), (0, (x6 + 1))]) rfl (by unfold w32; omega) rfl ?_
          refine ev_goto f92_12 ?_
          exact ih _ _ _ _ _ g1 k1 (by omega) (by omega) (by omega) (by omega) (by omega) (by omega) (by omega) (by omega) (by omega) (by omega) (by omega) (by omega) (by omega)
        · refine ev_iload_n rfl ?_
          refine ev_aload_n rfl ?_
          refine g_getp (r := 19) (c := 20) g1 ad19 (by decide) (by decide) rf19_0 ft7_0 ?_
          refine ev_iload rfl ?_
          refine g_ialdv (v := v4250) g1 ad20 (by omega) (by omega) (ev4250) ?_
          refine ev_iload rfl ?_
          refine g_isubG (fun v4258 ev4258 lv4258 uv4258 => ?_)
          refine ev_iload rfl ?_
          refine g_imulG (fun v4259 ev4259 lv4259 uv4259 => ?_)
          refine g_iaddG (fun v4260 ev4260 lv4260 uv4260 => ?_)
          refine ev_istore_n (L' := [(2, 19), (0, a1), (0, a2), (0, v4260), (0, x4), (0, x5), (0, x6)]) (Nat.le_of_ble_eq_true rfl) rfl ?_
          refine ev_aload_n rfl ?_
          refine g_getp (r := 19) (c := 20) g1 ad19 (by decide) (by decide) rf19_0 ft7_0 ?_
          refine ev_iload rfl ?_
          refine g_ialdv (v := v4250) g1 ad20 (by omega) (by omega) (ev4250) ?_
          refine ev_istore (L' := [(2, 19), (0, a1), (0, a2), (0, v4260), (0, v4250), (0, x5), (0, x6)]) (Nat.le_of_ble_eq_true rfl) rfl ?_
          refine ev_aload_n rfl ?_
          refine g_getp (r := 19) (c := 21) g1 ad19 (by decide) (by decide) rf19_1 ft7_1 ?_
          refine ev_iload rfl ?_
          refine g_iald g1 ad21 rt21 (by omega) (by omega) (fun v4261 ev4261 lv4261 uv4261 => ?_)
          refine ev_istore (L' := [(2, 19), (0, a1), (0, a2), (0, v4260), (0, v4250), (0, v4261), (0, x6)]) (Nat.le_of_ble_eq_true rfl) rfl ?_
          refine ev_iinc (w := (x6 + 1)) (L' := [(2, 19), (0, a1), (0, a2), (0, v4260), (0, v4250), (0, v4261), (0, (x6 + 1))]) rfl (by unfold w32; omega) rfl ?_
          refine ev_goto f92_12 ?_
          exact ih _ _ _ _ _ g1 k1 (by omega) (by omega) (by omega) (by omega) (by omega) (by omega) (by omega) (by omega) (by omega) (by omega) (by omega) (by omega) (by omega)
set_option maxHeartbeats 4000000 in
theorem s92 {G : GH} {h : JH} (g : Gd G h) {a1 : Int} (la1 : (-2147483648) ≤ a1) (ua1 : a1 ≤ 2147483647) {a2 : Int} (la2 : (-2147483648) ≤ a2) (ua2 : a2 ≤ 2147483647) : jOk 1 0 0 92 [(2, 19), (0, a1), (0, a2)] h (PI G [] h 0 (-2147483648) 2147483647) := by
  refine ⟨by decide, by rw [ml92]; exact Nat.le_of_ble_eq_true rfl, ?_⟩
  rw [ml92, pp92]
  show jEv _ none _ c92_0 0 0 _ (c92_0, [(2, 19), (0, a1), (0, a2), (9, 0), (9, 0), (9, 0), (9, 0)], [], h, 0, 0)
  have k0 := Kp.rf [] h
  refine ev_iconst ?_
  refine ev_istore_n (L' := [(2, 19), (0, a1), (0, a2), (0, 0), (9, 0), (9, 0), (9, 0)]) (Nat.le_of_ble_eq_true rfl) rfl ?_
  refine ev_iload_n rfl ?_
  refine ev_istore (L' := [(2, 19), (0, a1), (0, a2), (0, 0), (0, a1), (9, 0), (9, 0)]) (Nat.le_of_ble_eq_true rfl) rfl ?_
  refine ev_bipush ?_
  refine ev_istore (L' := [(2, 19), (0, a1), (0, a2), (0, 0), (0, a1), (0, 100), (9, 0)]) (Nat.le_of_ble_eq_true rfl) rfl ?_
  refine ev_iconst ?_
  refine ev_istore (L' := [(2, 19), (0, a1), (0, a2), (0, 0), (0, a1), (0, 100), (0, 0)]) (Nat.le_of_ble_eq_true rfl) rfl ?_
  exact (s92_l la1 ua1 la2 ua2 14) _ _ _ _ _ g k0 (by omega) (by omega) (by omega) (by omega) (by omega) (by omega) (by omega) (by omega) (by omega) (by omega) (by omega) (by omega) (by omega)
