/-! 378 floorDiv -/
set_option maxHeartbeats 4000000 in
theorem s378 {G : GH} {h : JH} (g : Gd G h) {a0 : Int} (la0 : (-9223372036854775808) ≤ a0) (ua0 : a0 ≤ 9223372036854775807) {a1 : Int} (la1 : 1 ≤ a1) (ua1 : a1 ≤ 9223372036854775807) : jOk 1 0 0 378 [(1, a0), (1, a1)] h (PI G [] h 1 (-9223372036854775808) 9223372036854775807) := by
  refine ⟨by decide, by rw [ml378]; exact Nat.le_of_ble_eq_true rfl, ?_⟩
  rw [ml378, pp378]
  show jEv _ none _ c378_0 0 0 _ (c378_0, [(1, a0), (9, 0), (1, a1), (9, 0), (9, 0), (9, 0)], [], h, 0, 0)
  have k0 := Kp.rf [] h
  refine ev_lload_n rfl ?_
  refine ev_lload_n rfl ?_
  refine g_ldivG (by omega) (fun v13 ev13 lv13 uv13 => ?_)
  refine ev_lstore (L' := [(1, a0), (9, 0), (1, a1), (9, 0), (1, v13), (9, 0)]) (Nat.le_of_ble_eq_true rfl) rfl ?_
  refine ev_lload_n rfl ?_
  refine ev_lload_n rfl ?_
  refine g_lxorG (fun v14 ev14 lv14 uv14 => ?_)
  refine ev_lconst ?_
  refine ev_lcmp ?_
  refine ev_ifge f378_27 (fun c15 => ?_) (fun c15 => ?_)
  · have c15b := jcmpL_ge c15
    refine ev_lload rfl ?_
    exact ev_ret rfl (by decide) (by decide) ⟨_, rfl, by omega, by omega, g, k0⟩
  · have c15b := jcmpL_geN c15
    refine ev_lload rfl ?_
    refine ev_lload_n rfl ?_
    refine g_lmulG (fun v16 ev16 lv16 uv16 => ?_)
    refine ev_lload_n rfl ?_
    refine ev_lcmp ?_
    refine ev_ifeq f378_27 (fun c17 => ?_) (fun c17 => ?_)
    · have c17b := jcmpL_eq c17
      refine ev_lload rfl ?_
      exact ev_ret rfl (by decide) (by decide) ⟨_, rfl, by omega, by omega, g, k0⟩
    · have c17b := jcmpL_eqN c17
      refine ev_lload rfl ?_
      refine ev_lconst ?_
      refine g_lsubG (fun v18 ev18 lv18 uv18 => ?_)
      exact ev_ret rfl (by decide) (by decide) ⟨_, rfl, by omega, by omega, g, k0⟩
/-! 108 isSure -/
set_option maxHeartbeats 4000000 in
theorem s108_l {G : GH} {h : JH} {a1 : Int} (la1 : 0 ≤ a1) (ua1 : a1 ≤ 3) {a2 : Int} (la2 : 0 ≤ a2) (ua2 : a2 ≤ 3) : ∀ N : Nat, (∀ (h1 : JH) (x3 x4 : Int), Gd G h1 → Kp [] h h1 → 0 ≤ a1 → a1 ≤ 3 → 0 ≤ a2 → a2 ≤ 3 → 0 ≤ x3 → x3 ≤ 1 → 0 ≤ x4 → x4 ≤ 4 → ((-x4) + 9) < N → jEv (jOk 1) none (fun _ => 0) c108_0 0 0 (PI G [] h 0 0 1) (c108_5, [(2, 26), (0, a1), (0, a2), (0, x3), (0, x4)], [], h1, 0, 0)) ∧ (∀ (h1 : JH) (x3 x4 : Int), Gd G h1 → Kp [] h h1 → 0 ≤ a1 → a1 ≤ 3 → 0 ≤ a2 → a2 ≤ 3 → 0 ≤ x3 → x3 ≤ 1 → 0 ≤ x4 → x4 ≤ 4 → ((-x4) + 4) < N → jEv (jOk 1) none (fun _ => 0) c108_0 0 0 (PI G [] h 0 0 1) (c108_49, [(2, 26), (0, a1), (0, a2), (0, x3), (0, x4)], [], h1, 0, 0)) := by
  intro N
  induction N with
  | zero => exact ⟨fun h1 x3 x4 g1 k1 b0 b1 b2 b3 b4 b5 b6 b7 hm => absurd hm (by omega), fun h1 x3 x4 g1 k1 b0 b1 b2 b3 b4 b5 b6 b7 hm => absurd hm (by omega)⟩
  | succ N ih =>
    refine ⟨?_, ?_⟩
    · intro h1 x3 x4 g1 k1 b0 b1 b2 b3 b4 b5 b6 b7 hm
      refine ev_iload rfl ?_
      refine ev_aload_n rfl ?_
      obtain ⟨v101, ev101, lv101, uv101⟩ := g1.rd ad26 (show 0 < 15 by decide) rf26_0
      refine g_getv (r := 26) (v := v101) g1 ad26 (by decide) ft9_0 ev101 ?_
      refine ev_icmpge f108_46 (fun c102 => ?_) (fun c102 => ?_)
      · refine ev_iconst ?_
        refine ev_istore (L' := [(2, 26), (0, a1), (0, a2), (0, x3), (0, 0)]) (Nat.le_of_ble_eq_true rfl) rfl ?_
        exact ih.2 _ _ _ g1 k1 (by omega) (by omega) (by omega) (by omega) (by omega) (by omega) (by omega) (by omega) (by omega)
      · refine ev_iload_n rfl ?_
        refine ev_aload_n rfl ?_
        refine ev_iload rfl ?_
        refine ev_iload_n rfl ?_
        refine ev_iconst ?_
        refine ev_in (d := 0) (a := 0) (b := 0) (cd' := c106_0) (m := 4) (L0 := [(2, 26), (0, x4), (0, a2), (0, 0)]) (jcall_v (A := [(0, 0), (0, a2), (0, x4)]) (S' := [(0, x3)]) (r := 26) rfl (g1.lt ad26) (g1.tg ad26) (Nat.le_of_ble_eq_true rfl)) (by decide) ml106 pp106 (Nat.le_of_ble_eq_true rfl) rfl (by decide) (by decide) ?_
        refine ev_aload_n rfl ?_
        refine g_getp (r := 26) (c := 27) g1 ad26 (by decide) (by decide) rf26_2 ft9_2 ?_
        refine ev_bipush ?_
        refine ev_iload_n rfl ?_
        refine ev_imul (r := (8 * x4)) (by unfold w32; omega) ?_
        refine ev_iconst ?_
        refine ev_iload_n rfl ?_
        refine ev_imul (r := (2 * a2)) (by unfold w32; omega) ?_
        refine ev_iadd (r := (2 * a2 + 8 * x4)) (by unfold w32; omega) ?_
        refine ev_iload_n rfl ?_
        refine ev_iadd (r := (2 * a2 + 8 * x4)) (by unfold w32; omega) ?_
        refine g_iald g1 ad27 rt27 (by omega) (by omega) (fun v103 ev103 lv103 uv103 => ?_)
        refine ev_ret rfl (by decide) (by decide) ?_
        show jEv _ _ _ _ _ _ _ (_, [(2, 26), (0, a1), (0, a2), (0, x3), (0, x4)], [(0, v103), (0, x3)], _, _, _)
        refine ev_aload_n rfl ?_
        refine ev_iload_n rfl ?_
        refine ev_iload_n rfl ?_
        refine ev_iconst ?_
        refine ev_in (d := 0) (a := 0) (b := 0) (cd' := c106_0) (m := 4) (L0 := [(2, 26), (0, a1), (0, a2), (0, 0)]) (jcall_v (A := [(0, 0), (0, a2), (0, a1)]) (S' := [(0, v103), (0, x3)]) (r := 26) rfl (g1.lt ad26) (g1.tg ad26) (Nat.le_of_ble_eq_true rfl)) (by decide) ml106 pp106 (Nat.le_of_ble_eq_true rfl) rfl (by decide) (by decide) ?_
        refine ev_aload_n rfl ?_
        refine g_getp (r := 26) (c := 27) g1 ad26 (by decide) (by decide) rf26_2 ft9_2 ?_
        refine ev_bipush ?_
        refine ev_iload_n rfl ?_
        refine ev_imul (r := (8 * a1)) (by unfold w32; omega) ?_
        refine ev_iconst ?_
        refine ev_iload_n rfl ?_
        refine ev_imul (r := (2 * a2)) (by unfold w32; omega) ?_
        refine ev_iadd (r := (8 * a1 + 2 * a2)) (by unfold w32; omega) ?_
        refine ev_iload_n rfl ?_
        refine ev_iadd (r := (8 * a1 + 2 * a2)) (by unfold w32; omega) ?_
        refine g_iald g1 ad27 rt27 (by omega) (by omega) (fun v104 ev104 lv104 uv104 => ?_)
        refine ev_ret rfl (by decide) (by decide) ?_
        show jEv _ _ _ _ _ _ _ (_, [(2, 26), (0, a1), (0, a2), (0, x3), (0, x4)], [(0, v104), (0, v103), (0, x3)], _, _, _)
        refine ev_icmpgt f108_37 (fun c105 => ?_) (fun c105 => ?_)
        · refine ev_iconst ?_
          refine g_iandB (b := 0) (by omega) (by omega) (by decide) (fun v106 ev106 lv106 uv106 => ?_)
          refine ev_istore_n (L' := [(2, 26), (0, a1), (0, a2), (0, v106), (0, x4)]) (Nat.le_of_ble_eq_true rfl) rfl ?_
          refine ev_iinc (w := (x4 + 1)) (L' := [(2, 26), (0, a1), (0, a2), (0, v106), (0, (x4 + 1))]) rfl (by unfold w32; omega) rfl ?_
          refine ev_goto f108_5 ?_
          exact ih.1 _ _ _ g1 k1 (by omega) (by omega) (by omega) (by omega) (by omega) (by omega) (by omega) (by omega) (by omega)
        · refine ev_iconst ?_
          refine ev_goto f108_38 ?_
          refine g_iandB (b := 1) (by omega) (by omega) (by decide) (fun v107 ev107 lv107 uv107 => ?_)
          refine ev_istore_n (L' := [(2, 26), (0, a1), (0, a2), (0, v107), (0, x4)]) (Nat.le_of_ble_eq_true rfl) rfl ?_
          refine ev_iinc (w := (x4 + 1)) (L' := [(2, 26), (0, a1), (0, a2), (0, v107), (0, (x4 + 1))]) rfl (by unfold w32; omega) rfl ?_
          refine ev_goto f108_5 ?_
          exact ih.1 _ _ _ g1 k1 (by omega) (by omega) (by omega) (by omega) (by omega) (by omega) (by omega) (by omega) (by omega)
    · intro h1 x3 x4 g1 k1 b0 b1 b2 b3 b4 b5 b6 b7 hm
      refine ev_iload rfl ?_
      refine ev_aload_n rfl ?_
      obtain ⟨v108, ev108, lv108, uv108⟩ := g1.rd ad26 (show 1 < 15 by decide) rf26_1
      refine g_getv (r := 26) (v := v108) g1 ad26 (by decide) ft9_1 ev108 ?_
      refine ev_icmpge f108_90 (fun c109 => ?_) (fun c109 => ?_)
      · refine ev_iload_n rfl ?_
        exact ev_ret (jret_b (by omega)) (by decide) (by decide) ⟨_, rfl, by omega, by omega, g1, k1⟩
      · refine ev_iload_n rfl ?_
        refine ev_aload_n rfl ?_
        refine ev_iload_n rfl ?_
        refine ev_iload rfl ?_
        refine ev_iconst ?_
        refine ev_in (d := 0) (a := 0) (b := 0) (cd' := c106_0) (m := 4) (L0 := [(2, 26), (0, a1), (0, x4), (0, 1)]) (jcall_v (A := [(0, 1), (0, x4), (0, a1)]) (S' := [(0, x3)]) (r := 26) rfl (g1.lt ad26) (g1.tg ad26) (Nat.le_of_ble_eq_true rfl)) (by decide) ml106 pp106 (Nat.le_of_ble_eq_true rfl) rfl (by decide) (by decide) ?_
        refine ev_aload_n rfl ?_
        refine g_getp (r := 26) (c := 27) g1 ad26 (by decide) (by decide) rf26_2 ft9_2 ?_
        refine ev_bipush ?_
        refine ev_iload_n rfl ?_
        refine ev_imul (r := (8 * a1)) (by unfold w32; omega) ?_
        refine ev_iconst ?_
        refine ev_iload_n rfl ?_
        refine ev_imul (r := (2 * x4)) (by unfold w32; omega) ?_
        refine ev_iadd (r := (8 * a1 + 2 * x4)) (by unfold w32; omega) ?_
        refine ev_iload_n rfl ?_
        refine ev_iadd (r := (8 * a1 + 2 * x4 + 1)) (by unfold w32; omega) ?_
        refine g_iald g1 ad27 rt27 (by omega) (by omega) (fun v110 ev110 lv110 uv110 => ?_)
        refine ev_ret rfl (by decide) (by decide) ?_
        show jEv _ _ _ _ _ _ _ (_, [(2, 26), (0, a1), (0, a2), (0, x3), (0, x4)], [(0, v110), (0, x3)], _, _, _)
        refine ev_aload_n rfl ?_
        refine ev_iload_n rfl ?_
        refine ev_iload_n rfl ?_
        refine ev_iconst ?_
        refine ev_in (d := 0) (a := 0) (b := 0) (cd' := c106_0) (m := 4) (L0 := [(2, 26), (0, a1), (0, a2), (0, 1)]) (jcall_v (A := [(0, 1), (0, a2), (0, a1)]) (S' := [(0, v110), (0, x3)]) (r := 26) rfl (g1.lt ad26) (g1.tg ad26) (Nat.le_of_ble_eq_true rfl)) (by decide) ml106 pp106 (Nat.le_of_ble_eq_true rfl) rfl (by decide) (by decide) ?_
        refine ev_aload_n rfl ?_
        refine g_getp (r := 26) (c := 27) g1 ad26 (by decide) (by decide) rf26_2 ft9_2 ?_
        refine ev_bipush ?_
        refine ev_iload_n rfl ?_
        refine ev_imul (r := (8 * a1)) (by unfold w32; omega) ?_
        refine ev_iconst ?_
        refine ev_iload_n rfl ?_
        refine ev_imul (r := (2 * a2)) (by unfold w32; omega) ?_
        refine ev_iadd (r := (8 * a1 + 2 * a2)) (by unfold w32; omega) ?_
        refine ev_iload_n rfl ?_
        refine ev_iadd (r := (8 * a1 + 2 * a2 + 1)) (by unfold w32; omega) ?_
        refine g_iald g1 ad27 rt27 (by omega) (by omega) (fun v111 ev111 lv111 uv111 => ?_)
        refine ev_ret rfl (by decide) (by decide) ?_
        show jEv _ _ _ _ _ _ _ (_, [(2, 26), (0, a1), (0, a2), (0, x3), (0, x4)], [(0, v111), (0, v110), (0, x3)], _, _, _)
        refine ev_icmpgt f108_81 (fun c112 => ?_) (fun c112 => ?_)
        · refine ev_iconst ?_
          refine g_iandB (b := 0) (by omega) (by omega) (by decide) (fun v113 ev113 lv113 uv113 => ?_)
          refine ev_istore_n (L' := [(2, 26), (0, a1), (0, a2), (0, v113), (0, x4)]) (Nat.le_of_ble_eq_true rfl) rfl ?_
          refine ev_iinc (w := (x4 + 1)) (L' := [(2, 26), (0, a1), (0, a2), (0, v113), (0, (x4 + 1))]) rfl (by unfold w32; omega) rfl ?_
          refine ev_goto f108_49 ?_
          exact ih.2 _ _ _ g1 k1 (by omega) (by omega) (by omega) (by omega) (by omega) (by omega) (by omega) (by omega) (by omega)
        · refine ev_iconst ?_
          refine ev_goto f108_82 ?_
          refine g_iandB (b := 1) (by omega) (by omega) (by decide) (fun v114 ev114 lv114 uv114 => ?_)
          refine ev_istore_n (L' := [(2, 26), (0, a1), (0, a2), (0, v114), (0, x4)]) (Nat.le_of_ble_eq_true rfl) rfl ?_
          refine ev_iinc (w := (x4 + 1)) (L' := [(2, 26), (0, a1), (0, a2), (0, v114), (0, (x4 + 1))]) rfl (by unfold w32; omega) rfl ?_
          refine ev_goto f108_49 ?_
          exact ih.2 _ _ _ g1 k1 (by omega) (by omega) (by omega) (by omega) (by omega) (by omega) (by omega) (by omega) (by omega)
set_option maxHeartbeats 4000000 in
theorem s108 {G : GH} {h : JH} (g : Gd G h) {a1 : Int} (la1 : 0 ≤ a1) (ua1 : a1 ≤ 3) {a2 : Int} (la2 : 0 ≤ a2) (ua2 : a2 ≤ 3) : jOk 2 0 0 108 [(2, 26), (0, a1), (0, a2)] h (PI G [] h 0 0 1) := by
  refine ⟨by decide, by rw [ml108]; exact Nat.le_of_ble_eq_true rfl, ?_⟩
  rw [ml108, pp108]
  show jEv _ none _ c108_0 0 0 _ (c108_0, [(2, 26), (0, a1), (0, a2), (9, 0), (9, 0)], [], h, 0, 0)
  have k0 := Kp.rf [] h
  refine ev_iconst ?_
  refine ev_istore_n (L' := [(2, 26), (0, a1), (0, a2), (0, 1), (9, 0)]) (Nat.le_of_ble_eq_true rfl) rfl ?_
  refine ev_iconst ?_
  refine ev_istore (L' := [(2, 26), (0, a1), (0, a2), (0, 1), (0, 0)]) (Nat.le_of_ble_eq_true rfl) rfl ?_
  exact (s108_l la1 ua1 la2 ua2 15).1 _ _ _ g k0 (by omega) (by omega) (by omega) (by omega) (by omega) (by omega) (by omega) (by omega) (by omega)
/-! 109 surePair -/
set_option maxHeartbeats 4000000 in
theorem s109_l {G : GH} {h : JH} {a1 : Int} (la1 : (-2147483648) ≤ a1) (ua1 : a1 ≤ 2147483647) : ∀ N : Nat, (∀ (h1 : JH) (x2 x3 : Int) (j4 : AV), Gd G h1 → Kp [] h h1 → (-2147483648) ≤ a1 → a1 ≤ 2147483647 → (-2147483648) ≤ x2 → x2 ≤ 2147483647 → 0 ≤ x3 → x3 ≤ 4 → ((-10) * x3 + 45) < N → jEv (jOk 2) none (fun _ => 0) c109_0 0 0 (PI G [] h 0 (-2147483648) 2147483647) (c109_4, [(2, 26), (0, a1), (0, x2), (0, x3), j4], [], h1, 0, 0)) ∧ (∀ (h1 : JH) (x2 x3 x4 : Int), Gd G h1 → Kp [] h h1 → (-2147483648) ≤ a1 → a1 ≤ 2147483647 → (-2147483648) ≤ x2 → x2 ≤ 2147483647 → 0 ≤ x3 → x3 ≤ 3 → 0 ≤ x4 → x4 ≤ 4 → ((-10) * x3 + (-x4) + 44) < N → jEv (jOk 2) none (fun _ => 0) c109_0 0 0 (PI G [] h 0 (-2147483648) 2147483647) (c109_15, [(2, 26), (0, a1), (0, x2), (0, x3), (0, x4)], [], h1, 0, 0)) := by
  intro N
  induction N with
  | zero => exact ⟨fun h1 x2 x3 j4 g1 k1 b0 b1 b2 b3 b4 b5 hm => absurd hm (by omega), fun h1 x2 x3 x4 g1 k1 b0 b1 b2 b3 b4 b5 b6 b7 hm => absurd hm (by omega)⟩
  | succ N ih =>
    refine ⟨?_, ?_⟩
    · intro h1 x2 x3 j4 g1 k1 b0 b1 b2 b3 b4 b5 hm
      refine ev_iload_n rfl ?_
      refine ev_aload_n rfl ?_
      obtain ⟨v796, ev796, lv796, uv796⟩ := g1.rd ad26 (show 0 < 15 by decide) rf26_0
      refine g_getv (r := 26) (v := v796) g1 ad26 (by decide) ft9_0 ev796 ?_
      refine ev_icmpge f109_62 (fun c797 => ?_) (fun c797 => ?_)
      · refine ev_iload_n rfl ?_
        refine ev_iconst ?_
        refine ev_icmpne f109_71 (fun c798 => ?_) (fun c798 => ?_)
        · refine ev_iconst ?_
          exact ev_ret rfl (by decide) (by decide) ⟨_, rfl, by omega, by omega, g1, k1⟩
        · refine ev_iload_n rfl ?_
          refine ev_goto f109_72 ?_
          exact ev_ret rfl (by decide) (by decide) ⟨_, rfl, by omega, by omega, g1, k1⟩
      · refine ev_iconst ?_
        refine ev_istore (L' := [(2, 26), (0, a1), (0, x2), (0, x3), (0, 0)]) (Nat.le_of_ble_eq_true rfl) rfl ?_
        exact ih.2 _ _ _ _ g1 k1 (by omega) (by omega) (by omega) (by omega) (by omega) (by omega) (by omega) (by omega) (by omega)
    · intro h1 x2 x3 x4 g1 k1 b0 b1 b2 b3 b4 b5 b6 b7 hm
      refine ev_iload rfl ?_
      refine ev_aload_n rfl ?_
      obtain ⟨v799, ev799, lv799, uv799⟩ := g1.rd ad26 (show 1 < 15 by decide) rf26_1
      refine g_getv (r := 26) (v := v799) g1 ad26 (by decide) ft9_1 ev799 ?_
      refine ev_icmpge f109_56 (fun c800 => ?_) (fun c800 => ?_)
      · refine ev_iinc (w := (x3 + 1)) (L' := [(2, 26), (0, a1), (0, x2), (0, (x3 + 1)), (0, x4)]) rfl (by unfold w32; omega) rfl ?_
        refine ev_goto f109_4 ?_
        exact ih.1 _ _ _ _ g1 k1 (by omega) (by omega) (by omega) (by omega) (by omega) (by omega) (by omega)
      · refine ev_aload_n rfl ?_
        refine ev_iload_n rfl ?_
        refine ev_iload rfl ?_
        refine ev_call (jcall_v (A := [(0, x4), (0, x3)]) (S' := []) (r := 26) rfl (g1.lt ad26) (g1.tg ad26) (Nat.le_of_ble_eq_true rfl)) (jOk_le (by decide) (s108 g1 (by omega) (by omega) (by omega) (by omega))) (by decide) (by decide) (fun w801 h801 q801 => ?_)
        obtain ⟨v802, rfl, lv802, uv802, g801, kk801⟩ := q801
        have k801 := k1.tr kk801 (by decide)
        show jEv _ _ _ _ _ _ _ (_, [(2, 26), (0, a1), (0, x2), (0, x3), (0, x4)], [(0, v802)], _, _, _)
        refine ev_ifeq f109_50 (fun c803 => ?_) (fun c803 => ?_)
        · refine ev_iinc (w := (x4 + 1)) (L' := [(2, 26), (0, a1), (0, x2), (0, x3), (0, (x4 + 1))]) rfl (by unfold w32; omega) rfl ?_
          refine ev_goto f109_15 ?_
          exact ih.2 _ _ _ _ g801 k801 (by omega) (by omega) (by omega) (by omega) (by omega) (by omega) (by omega) (by omega) (by omega)
        · refine ev_iload_n rfl ?_
          refine ev_iload_n rfl ?_
          refine ev_icmpne f109_47 (fun c804 => ?_) (fun c804 => ?_)
          · refine g_iincG (f := fun w => [(2, 26), (0, a1), (0, w), (0, x3), (0, x4)]) rfl (fun _ => rfl) (fun v805 ev805 lv805 uv805 => ?_)
            refine ev_iinc (w := (x4 + 1)) (L' := [(2, 26), (0, a1), (0, v805), (0, x3), (0, (x4 + 1))]) rfl (by unfold w32; omega) rfl ?_
            refine ev_goto f109_15 ?_
            exact ih.2 _ _ _ _ g801 k801 (by omega) (by omega) (by omega) (by omega) (by omega) (by omega) (by omega) (by omega) (by omega)
          · refine ev_bipush ?_
            refine ev_iload_n rfl ?_
            refine ev_imul (r := (10 * x3)) (by unfold w32; omega) ?_
            refine ev_iload rfl ?_
            refine ev_iadd (r := (10 * x3 + x4)) (by unfold w32; omega) ?_
            exact ev_ret rfl (by decide) (by decide) ⟨_, rfl, by omega, by omega, g801, k801⟩
set_option maxHeartbeats 4000000 in
theorem s109 {G : GH} {h : JH} (g : Gd G h) {a1 : Int} (la1 : (-2147483648) ≤ a1) (ua1 : a1 ≤ 2147483647) : jOk 3 0 0 109 [(2, 26), (0, a1)] h (PI G [] h 0 (-2147483648) 2147483647) := by
  refine ⟨by decide, by rw [ml109]; exact Nat.le_of_ble_eq_true rfl, ?_⟩
  rw [ml109, pp109]
  show jEv _ none _ c109_0 0 0 _ (c109_0, [(2, 26), (0, a1), (9, 0), (9, 0), (9, 0)], [], h, 0, 0)
  have k0 := Kp.rf [] h
  refine ev_iconst ?_
  refine ev_istore_n (L' := [(2, 26), (0, a1), (0, 0), (9, 0), (9, 0)]) (Nat.le_of_ble_eq_true rfl) rfl ?_
  refine ev_iconst ?_
  refine ev_istore_n (L' := [(2, 26), (0, a1), (0, 0), (0, 0), (9, 0)]) (Nat.le_of_ble_eq_true rfl) rfl ?_
  exact (s109_l la1 ua1 100).1 _ _ _ _ g k0 (by omega) (by omega) (by omega) (by omega) (by omega) (by omega) (by omega)
/-! 110 isDuel -/
set_option maxHeartbeats 4000000 in
theorem s110_l {G : GH} {h : JH}  : ∀ N : Nat, (∀ (h1 : JH) (x1 x2 : Int), Gd G h1 → Kp [] h h1 → 0 ≤ x1 → x1 ≤ 1 → 0 ≤ x2 → x2 ≤ 4 → ((-x2) + 4) < N → jEv (jOk 1) none (fun _ => 0) c110_0 0 0 (PI G [] h 0 0 1) (c110_24, [(2, 26), (0, x1), (0, x2)], [], h1, 0, 0)) := by
  intro N
  induction N with
  | zero => exact fun h1 x1 x2 g1 k1 b0 b1 b2 b3 hm => absurd hm (by omega)
  | succ N ih =>
    show _
    intro h1 x1 x2 g1 k1 b0 b1 b2 b3 hm
    refine ev_iload_n rfl ?_
    refine ev_iconst ?_
    refine ev_icmpge f110_71 (fun c864 => ?_) (fun c864 => ?_)
    · refine ev_iload_n rfl ?_
      exact ev_ret (jret_b (by omega)) (by decide) (by decide) ⟨_, rfl, by omega, by omega, g1, k1⟩
    · refine ev_iload_n rfl ?_
      refine ev_ifeq f110_71 (fun c865 => ?_) (fun c865 => ?_)
      · refine ev_iload_n rfl ?_
        exact ev_ret (jret_b (by omega)) (by decide) (by decide) ⟨_, rfl, by omega, by omega, g1, k1⟩
      · refine ev_aload_n rfl ?_
        refine ev_iload_n rfl ?_
        refine ev_iconst ?_
        refine g_idivP (c := 2) rfl (by decide) (by omega) (by omega) (fun v866 ev866 lv866 uv866 => ?_)
        refine ev_iload_n rfl ?_
        refine ev_iconst ?_
        refine g_iremP (c := 2) rfl (by decide) (by omega) (fun v867 ev867 lv867 uv867 wv867 => ?_)
        refine ev_iconst ?_
        refine ev_in (d := 0) (a := 0) (b := 0) (cd' := c106_0) (m := 4) (L0 := [(2, 26), (0, v866), (0, v867), (0, 0)]) (jcall_v (A := [(0, 0), (0, v867), (0, v866)]) (S' := []) (r := 26) rfl (g1.lt ad26) (g1.tg ad26) (Nat.le_of_ble_eq_true rfl)) (by decide) ml106 pp106 (Nat.le_of_ble_eq_true rfl) rfl (by decide) (by decide) ?_
        refine ev_aload_n rfl ?_
        refine g_getp (r := 26) (c := 27) g1 ad26 (by decide) (by decide) rf26_2 ft9_2 ?_
        refine ev_bipush ?_
        refine ev_iload_n rfl ?_
        refine ev_imul (r := (8 * v866)) (by unfold w32; omega) ?_
        refine ev_iconst ?_
        refine ev_iload_n rfl ?_
        refine ev_imul (r := (2 * v867)) (by unfold w32; omega) ?_
        refine ev_iadd (r := (8 * v866 + 2 * v867)) (by unfold w32; omega) ?_
        refine ev_iload_n rfl ?_
        refine ev_iadd (r := (8 * v866 + 2 * v867)) (by unfold w32; omega) ?_
        refine g_iald g1 ad27 rt27 (by omega) (by omega) (fun v868 ev868 lv868 uv868 => ?_)
        refine ev_ret rfl (by decide) (by decide) ?_
        show jEv _ _ _ _ _ _ _ (_, [(2, 26), (0, x1), (0, x2)], [(0, v868)], _, _, _)
        refine ev_aload_n rfl ?_
        refine ev_iload_n rfl ?_
        refine ev_iconst ?_
        refine g_idivP (c := 2) rfl (by decide) (by omega) (by omega) (fun v869 ev869 lv869 uv869 => ?_)
        obtain rfl : v866 = v869 := by omega
        refine ev_iload_n rfl ?_
        refine ev_iconst ?_
        refine g_iremP (c := 2) rfl (by decide) (by omega) (fun v870 ev870 lv870 uv870 wv870 => ?_)
        obtain rfl : v867 = v870 := by omega
        refine ev_iconst ?_
        refine ev_in (d := 0) (a := 0) (b := 0) (cd' := c106_0) (m := 4) (L0 := [(2, 26), (0, v866), (0, v867), (0, 1)]) (jcall_v (A := [(0, 1), (0, v867), (0, v866)]) (S' := [(0, v868)]) (r := 26) rfl (g1.lt ad26) (g1.tg ad26) (Nat.le_of_ble_eq_true rfl)) (by decide) ml106 pp106 (Nat.le_of_ble_eq_true rfl) rfl (by decide) (by decide) ?_
        refine ev_aload_n rfl ?_
        refine g_getp (r := 26) (c := 27) g1 ad26 (by decide) (by decide) rf26_2 ft9_2 ?_
        refine ev_bipush ?_
        refine ev_iload_n rfl ?_
        refine ev_imul (r := (8 * v866)) (by unfold w32; omega) ?_
        refine ev_iconst ?_
        refine ev_iload_n rfl ?_
        refine ev_imul (r := (2 * v867)) (by unfold w32; omega) ?_
        refine ev_iadd (r := (8 * v866 + 2 * v867)) (by unfold w32; omega) ?_
        refine ev_iload_n rfl ?_
        refine ev_iadd (r := (8 * v866 + 2 * v867 + 1)) (by unfold w32; omega) ?_
        refine g_iald g1 ad27 rt27 (by omega) (by omega) (fun v871 ev871 lv871 uv871 => ?_)
        refine ev_ret rfl (by decide) (by decide) ?_
        show jEv _ _ _ _ _ _ _ (_, [(2, 26), (0, x1), (0, x2)], [(0, v871), (0, v868)], _, _, _)
        refine ev_ineg (r := ((-v871))) (by unfold w32; omega) ?_
        refine ev_icmpne f110_63 (fun c872 => ?_) (fun c872 => ?_)
        · refine ev_iconst ?_
          refine ev_istore_n (L' := [(2, 26), (0, 0), (0, x2)]) (Nat.le_of_ble_eq_true rfl) rfl ?_
          refine ev_iinc (w := (x2 + 1)) (L' := [(2, 26), (0, 0), (0, (x2 + 1))]) rfl (by unfold w32; omega) rfl ?_
          refine ev_goto f110_24 ?_
          exact ih _ _ _ g1 k1 (by omega) (by omega) (by omega) (by omega) (by omega)
        · refine ev_iconst ?_
          refine ev_goto f110_64 ?_
          refine ev_istore_n (L' := [(2, 26), (0, 1), (0, x2)]) (Nat.le_of_ble_eq_true rfl) rfl ?_
          refine ev_iinc (w := (x2 + 1)) (L' := [(2, 26), (0, 1), (0, (x2 + 1))]) rfl (by unfold w32; omega) rfl ?_
          refine ev_goto f110_24 ?_
          exact ih _ _ _ g1 k1 (by omega) (by omega) (by omega) (by omega) (by omega)
set_option maxHeartbeats 4000000 in
theorem s110 {G : GH} {h : JH} (g : Gd G h)  : jOk 2 0 0 110 [(2, 26)] h (PI G [] h 0 0 1) := by
  refine ⟨by decide, by rw [ml110]; exact Nat.le_of_ble_eq_true rfl, ?_⟩
  rw [ml110, pp110]
  show jEv _ none _ c110_0 0 0 _ (c110_0, [(2, 26), (9, 0), (9, 0)], [], h, 0, 0)
  have k0 := Kp.rf [] h
  refine ev_aload_n rfl ?_
  obtain ⟨v873, ev873, lv873, uv873⟩ := g.rd ad26 (show 0 < 15 by decide) rf26_0
  refine g_getv (r := 26) (v := v873) g ad26 (by decide) ft9_0 ev873 ?_
  refine ev_iconst ?_
  refine ev_icmpne f110_20 (fun c874 => ?_) (fun c874 => ?_)
  · refine ev_iconst ?_
    refine ev_istore_n (L' := [(2, 26), (0, 0), (9, 0)]) (Nat.le_of_ble_eq_true rfl) rfl ?_
    refine ev_iconst ?_
    refine ev_istore_n (L' := [(2, 26), (0, 0), (0, 0)]) (Nat.le_of_ble_eq_true rfl) rfl ?_
    exact (s110_l  10) _ _ _ g k0 (by omega) (by omega) (by omega) (by omega) (by omega)
  · refine ev_aload_n rfl ?_
    obtain ⟨v875, ev875, lv875, uv875⟩ := g.rd ad26 (show 1 < 15 by decide) rf26_1
    refine g_getv (r := 26) (v := v875) g ad26 (by decide) ft9_1 ev875 ?_
    refine ev_iconst ?_
    refine ev_icmpne f110_20 (fun c876 => ?_) (fun c876 => ?_)
    · refine ev_iconst ?_
      refine ev_istore_n (L' := [(2, 26), (0, 0), (9, 0)]) (Nat.le_of_ble_eq_true rfl) rfl ?_
      refine ev_iconst ?_
      refine ev_istore_n (L' := [(2, 26), (0, 0), (0, 0)]) (Nat.le_of_ble_eq_true rfl) rfl ?_
      exact (s110_l  10) _ _ _ g k0 (by omega) (by omega) (by omega) (by omega) (by omega)
    · refine ev_iconst ?_
      refine ev_goto f110_21 ?_
      refine ev_istore_n (L' := [(2, 26), (0, 1), (9, 0)]) (Nat.le_of_ble_eq_true rfl) rfl ?_
      refine ev_iconst ?_
      refine ev_istore_n (L' := [(2, 26), (0, 1), (0, 0)]) (Nat.le_of_ble_eq_true rfl) rfl ?_
      exact (s110_l  10) _ _ _ g k0 (by omega) (by omega) (by omega) (by omega) (by omega)
/-! 118 beats -/
set_option maxHeartbeats 4000000 in
theorem s118_l {G : GH} {h : JH} {a1 : Int} (la1 : 0 ≤ a1) (ua1 : a1 ≤ 3) {a2 : Int} (la2 : 0 ≤ a2) (ua2 : a2 ≤ 3) {a3 : Int} (la3 : (-2147483648) ≤ a3) (ua3 : a3 ≤ 2147483647) {a4 : Int} (la4 : 0 ≤ a4) (ua4 : a4 ≤ 1) : ∀ N : Nat, (∀ (h1 : JH) (x5 : Int) (j6 j7 : AV), Gd G h1 → Kp [] h h1 → 0 ≤ a1 → a1 ≤ 3 → 0 ≤ a2 → a2 ≤ 3 → (-2147483648) ≤ a3 → a3 ≤ 2147483647 → 0 ≤ a4 → a4 ≤ 1 → 0 ≤ x5 → x5 ≤ 4 → ((-x5) + 4) < N → jEv (jOk 1) none (fun _ => 0) c118_0 0 0 (PI G [] h 0 0 1) (c118_3, [(2, 26), (0, a1), (0, a2), (0, a3), (0, a4), (0, x5), j6, j7], [], h1, 0, 0)) := by
  intro N
  induction N with
  | zero => exact fun h1 x5 j6 j7 g1 k1 b0 b1 b2 b3 b4 b5 b6 b7 b8 b9 hm => absurd hm (by omega)
  | succ N ih =>
    show _
    intro h1 x5 j6 j7 g1 k1 b0 b1 b2 b3 b4 b5 b6 b7 b8 b9 hm
    refine ev_iload rfl ?_
    refine ev_iconst ?_
    refine ev_icmpge f118_86 (fun c954 => ?_) (fun c954 => ?_)
    · refine ev_iconst ?_
      exact ev_ret rfl (by decide) (by decide) ⟨_, rfl, by omega, by omega, g1, k1⟩
    · refine ev_iload_n rfl ?_
      refine ev_iload rfl ?_
      refine g_ishrG (fun v955 ev955 lv955 uv955 => ?_)
      refine ev_iconst ?_
      refine g_iandB (b := 1) (by omega) (by omega) (by decide) (fun v956 ev956 lv956 uv956 => ?_)
      refine ev_iconst ?_
      refine ev_icmpne f118_80 (fun c957 => ?_) (fun c957 => ?_)
      · refine ev_iinc (w := (x5 + 1)) (L' := [(2, 26), (0, a1), (0, a2), (0, a3), (0, a4), (0, (x5 + 1)), j6, j7]) rfl (by unfold w32; omega) rfl ?_
        refine ev_goto f118_3 ?_
        exact ih _ _ _ _ g1 k1 (by omega) (by omega) (by omega) (by omega) (by omega) (by omega) (by omega) (by omega) (by omega) (by omega) (by omega)
      · refine ev_iload rfl ?_
        refine ev_ifne f118_35 (fun c958 => ?_) (fun c958 => ?_)
        · refine ev_aload_n rfl ?_
          refine ev_iload rfl ?_
          refine ev_iload_n rfl ?_
          refine ev_iconst ?_
          refine ev_in (d := 0) (a := 0) (b := 0) (cd' := c106_0) (m := 4) (L0 := [(2, 26), (0, x5), (0, a1), (0, 1)]) (jcall_v (A := [(0, 1), (0, a1), (0, x5)]) (S' := []) (r := 26) rfl (g1.lt ad26) (g1.tg ad26) (Nat.le_of_ble_eq_true rfl)) (by decide) ml106 pp106 (Nat.le_of_ble_eq_true rfl) rfl (by decide) (by decide) ?_
          refine ev_aload_n rfl ?_
          refine g_getp (r := 26) (c := 27) g1 ad26 (by decide) (by decide) rf26_2 ft9_2 ?_
          refine ev_bipush ?_
          refine ev_iload_n rfl ?_
          refine ev_imul (r := (8 * x5)) (by unfold w32; omega) ?_
          refine ev_iconst ?_
          refine ev_iload_n rfl ?_
          refine ev_imul (r := (2 * a1)) (by unfold w32; omega) ?_
          refine ev_iadd (r := (2 * a1 + 8 * x5)) (by unfold w32; omega) ?_
          refine ev_iload_n rfl ?_
          refine ev_iadd (r := (2 * a1 + 8 * x5 + 1)) (by unfold w32; omega) ?_
          refine g_iald g1 ad27 rt27 (by omega) (by omega) (fun v959 ev959 lv959 uv959 => ?_)
          refine ev_ret rfl (by decide) (by decide) ?_
          show jEv _ _ _ _ _ _ _ (_, [(2, 26), (0, a1), (0, a2), (0, a3), (0, a4), (0, x5), j6, j7], [(0, v959)], _, _, _)
          refine ev_istore (L' := [(2, 26), (0, a1), (0, a2), (0, a3), (0, a4), (0, x5), (0, v959), j7]) (Nat.le_of_ble_eq_true rfl) rfl ?_
          refine ev_iload rfl ?_
          refine ev_ifne f118_61 (fun c960 => ?_) (fun c960 => absurd c960 (by omega))
          refine ev_aload_n rfl ?_
          refine ev_iload rfl ?_
          refine ev_iload_n rfl ?_
          refine ev_iconst ?_
          refine ev_in (d := 0) (a := 0) (b := 0) (cd' := c106_0) (m := 4) (L0 := [(2, 26), (0, x5), (0, a2), (0, 1)]) (jcall_v (A := [(0, 1), (0, a2), (0, x5)]) (S' := []) (r := 26) rfl (g1.lt ad26) (g1.tg ad26) (Nat.le_of_ble_eq_true rfl)) (by decide) ml106 pp106 (Nat.le_of_ble_eq_true rfl) rfl (by decide) (by decide) ?_
          refine ev_aload_n rfl ?_
          refine g_getp (r := 26) (c := 27) g1 ad26 (by decide) (by decide) rf26_2 ft9_2 ?_
          refine ev_bipush ?_
          refine ev_iload_n rfl ?_
          refine ev_imul (r := (8 * x5)) (by unfold w32; omega) ?_
          refine ev_iconst ?_
          refine ev_iload_n rfl ?_
          refine ev_imul (r := (2 * a2)) (by unfold w32; omega) ?_
          refine ev_iadd (r := (2 * a2 + 8 * x5)) (by unfold w32; omega) ?_
          refine ev_iload_n rfl ?_
          refine ev_iadd (r := (2 * a2 + 8 * x5 + 1)) (by unfold w32; omega) ?_
          refine g_iald g1 ad27 rt27 (by omega) (by omega) (fun v961 ev961 lv961 uv961 => ?_)
          refine ev_ret rfl (by decide) (by decide) ?_
          show jEv _ _ _ _ _ _ _ (_, [(2, 26), (0, a1), (0, a2), (0, a3), (0, a4), (0, x5), (0, v959), j7], [(0, v961)], _, _, _)
          refine ev_istore (L' := [(2, 26), (0, a1), (0, a2), (0, a3), (0, a4), (0, x5), (0, v959), (0, v961)]) (Nat.le_of_ble_eq_true rfl) rfl ?_
          refine ev_iload rfl ?_
          refine ev_iload rfl ?_
          refine ev_icmpgt f118_80 (fun c962 => ?_) (fun c962 => ?_)
          · refine ev_iinc (w := (x5 + 1)) (L' := [(2, 26), (0, a1), (0, a2), (0, a3), (0, a4), (0, (x5 + 1)), (0, v959), (0, v961)]) rfl (by unfold w32; omega) rfl ?_
            refine ev_goto f118_3 ?_
            exact ih _ _ _ _ g1 k1 (by omega) (by omega) (by omega) (by omega) (by omega) (by omega) (by omega) (by omega) (by omega) (by omega) (by omega)
          · refine ev_iconst ?_
            exact ev_ret rfl (by decide) (by decide) ⟨_, rfl, by omega, by omega, g1, k1⟩
        · refine ev_aload_n rfl ?_
          refine ev_iload_n rfl ?_
          refine ev_iload rfl ?_
          refine ev_iconst ?_
          refine ev_in (d := 0) (a := 0) (b := 0) (cd' := c106_0) (m := 4) (L0 := [(2, 26), (0, a1), (0, x5), (0, 0)]) (jcall_v (A := [(0, 0), (0, x5), (0, a1)]) (S' := []) (r := 26) rfl (g1.lt ad26) (g1.tg ad26) (Nat.le_of_ble_eq_true rfl)) (by decide) ml106 pp106 (Nat.le_of_ble_eq_true rfl) rfl (by decide) (by decide) ?_
          refine ev_aload_n rfl ?_
          refine g_getp (r := 26) (c := 27) g1 ad26 (by decide) (by decide) rf26_2 ft9_2 ?_
          refine ev_bipush ?_
          refine ev_iload_n rfl ?_
          refine ev_imul (r := (8 * a1)) (by unfold w32; omega) ?_
          refine ev_iconst ?_
          refine ev_iload_n rfl ?_
          refine ev_imul (r := (2 * x5)) (by unfold w32; omega) ?_
          refine ev_iadd (r := (8 * a1 + 2 * x5)) (by unfold w32; omega) ?_
          refine ev_iload_n rfl ?_
          refine ev_iadd (r := (8 * a1 + 2 * x5)) (by unfold w32; omega) ?_
          refine g_iald g1 ad27 rt27 (by omega) (by omega) (fun v963 ev963 lv963 uv963 => ?_)
          refine ev_ret rfl (by decide) (by decide) ?_
          show jEv _ _ _ _ _ _ _ (_, [(2, 26), (0, a1), (0, a2), (0, a3), (0, a4), (0, x5), j6, j7], [(0, v963)], _, _, _)
          refine ev_goto f118_43 ?_
          refine ev_istore (L' := [(2, 26), (0, a1), (0, a2), (0, a3), (0, a4), (0, x5), (0, v963), j7]) (Nat.le_of_ble_eq_true rfl) rfl ?_
          refine ev_iload rfl ?_
          refine ev_ifne f118_61 (fun c964 => absurd c964 (by omega)) (fun c964 => ?_)
          refine ev_aload_n rfl ?_
          refine ev_iload_n rfl ?_
          refine ev_iload rfl ?_
          refine ev_iconst ?_
          refine ev_in (d := 0) (a := 0) (b := 0) (cd' := c106_0) (m := 4) (L0 := [(2, 26), (0, a2), (0, x5), (0, 0)]) (jcall_v (A := [(0, 0), (0, x5), (0, a2)]) (S' := []) (r := 26) rfl (g1.lt ad26) (g1.tg ad26) (Nat.le_of_ble_eq_true rfl)) (by decide) ml106 pp106 (Nat.le_of_ble_eq_true rfl) rfl (by decide) (by decide) ?_
          refine ev_aload_n rfl ?_
          refine g_getp (r := 26) (c := 27) g1 ad26 (by decide) (by decide) rf26_2 ft9_2 ?_
          refine ev_bipush ?_
          refine ev_iload_n rfl ?_
          refine ev_imul (r := (8 * a2)) (by unfold w32; omega) ?_
          refine ev_iconst ?_
          refine ev_iload_n rfl ?_
          refine ev_imul (r := (2 * x5)) (by unfold w32; omega) ?_
          refine ev_iadd (r := (8 * a2 + 2 * x5)) (by unfold w32; omega) ?_
          refine ev_iload_n rfl ?_
          refine ev_iadd (r := (8 * a2 + 2 * x5)) (by unfold w32; omega) ?_
          refine g_iald g1 ad27 rt27 (by omega) (by omega) (fun v965 ev965 lv965 uv965 => ?_)
          refine ev_ret rfl (by decide) (by decide) ?_
          show jEv _ _ _ _ _ _ _ (_, [(2, 26), (0, a1), (0, a2), (0, a3), (0, a4), (0, x5), (0, v963), j7], [(0, v965)], _, _, _)
          refine ev_goto f118_69 ?_
          refine ev_istore (L' := [(2, 26), (0, a1), (0, a2), (0, a3), (0, a4), (0, x5), (0, v963), (0, v965)]) (Nat.le_of_ble_eq_true rfl) rfl ?_
          refine ev_iload rfl ?_
          refine ev_iload rfl ?_
          refine ev_icmpgt f118_80 (fun c966 => ?_) (fun c966 => ?_)
          · refine ev_iinc (w := (x5 + 1)) (L' := [(2, 26), (0, a1), (0, a2), (0, a3), (0, a4), (0, (x5 + 1)), (0, v963), (0, v965)]) rfl (by unfold w32; omega) rfl ?_
            refine ev_goto f118_3 ?_
            exact ih _ _ _ _ g1 k1 (by omega) (by omega) (by omega) (by omega) (by omega) (by omega) (by omega) (by omega) (by omega) (by omega) (by omega)
          · refine ev_iconst ?_
            exact ev_ret rfl (by decide) (by decide) ⟨_, rfl, by omega, by omega, g1, k1⟩
set_option maxHeartbeats 4000000 in
theorem s118 {G : GH} {h : JH} (g : Gd G h) {a1 : Int} (la1 : 0 ≤ a1) (ua1 : a1 ≤ 3) {a2 : Int} (la2 : 0 ≤ a2) (ua2 : a2 ≤ 3) {a3 : Int} (la3 : (-2147483648) ≤ a3) (ua3 : a3 ≤ 2147483647) {a4 : Int} (la4 : 0 ≤ a4) (ua4 : a4 ≤ 1) : jOk 2 0 0 118 [(2, 26), (0, a1), (0, a2), (0, a3), (0, a4)] h (PI G [] h 0 0 1) := by
  refine ⟨by decide, by rw [ml118]; exact Nat.le_of_ble_eq_true rfl, ?_⟩
  rw [ml118, pp118]
  show jEv _ none _ c118_0 0 0 _ (c118_0, [(2, 26), (0, a1), (0, a2), (0, a3), (0, a4), (9, 0), (9, 0), (9, 0)], [], h, 0, 0)
  have k0 := Kp.rf [] h
  refine ev_iconst ?_
  refine ev_istore (L' := [(2, 26), (0, a1), (0, a2), (0, a3), (0, a4), (0, 0), (9, 0), (9, 0)]) (Nat.le_of_ble_eq_true rfl) rfl ?_
  exact (s118_l la1 ua1 la2 ua2 la3 ua3 la4 ua4 10) _ _ _ _ g k0 (by omega) (by omega) (by omega) (by omega) (by omega) (by omega) (by omega) (by omega) (by omega) (by omega) (by omega)
/-! 117 lineToStrike -/
set_option maxHeartbeats 4000000 in
theorem s117_l {G : GH} {h : JH} {a1 : Int} (la1 : (-2147483648) ≤ a1) (ua1 : a1 ≤ 2147483647) {a2 : Int} (la2 : (-2147483648) ≤ a2) (ua2 : a2 ≤ 2147483647) {a3 : Int} (la3 : 0 ≤ a3) (ua3 : a3 ≤ 1) : ∀ N : Nat, (∀ (h1 : JH) (x4 : Int) (j5 : AV), Gd G h1 → Kp [] h h1 → (-2147483648) ≤ a1 → a1 ≤ 2147483647 → (-2147483648) ≤ a2 → a2 ≤ 2147483647 → 0 ≤ a3 → a3 ≤ 1 → 0 ≤ x4 → x4 ≤ 4 → ((-10) * x4 + 45) < N → jEv (jOk 2) none (fun _ => 0) c117_0 0 0 (PI G [] h 0 (-1) 3) (c117_3, [(2, 26), (0, a1), (0, a2), (0, a3), (0, x4), j5], [], h1, 0, 0)) ∧ (∀ (h1 : JH) (x4 x5 : Int), Gd G h1 → Kp [] h h1 → (-2147483648) ≤ a1 → a1 ≤ 2147483647 → (-2147483648) ≤ a2 → a2 ≤ 2147483647 → 0 ≤ a3 → a3 ≤ 1 → 0 ≤ x4 → x4 ≤ 3 → 0 ≤ x5 → x5 ≤ 4 → ((-10) * x4 + (-x5) + 44) < N → jEv (jOk 2) none (fun _ => 0) c117_0 0 0 (PI G [] h 0 (-1) 3) (c117_12, [(2, 26), (0, a1), (0, a2), (0, a3), (0, x4), (0, x5)], [], h1, 0, 0)) := by
  intro N
  induction N with
  | zero => exact ⟨fun h1 x4 j5 g1 k1 b0 b1 b2 b3 b4 b5 b6 b7 hm => absurd hm (by omega), fun h1 x4 x5 g1 k1 b0 b1 b2 b3 b4 b5 b6 b7 b8 b9 hm => absurd hm (by omega)⟩
  | succ N ih =>
    refine ⟨?_, ?_⟩
    · intro h1 x4 j5 g1 k1 b0 b1 b2 b3 b4 b5 b6 b7 hm
      refine ev_iload rfl ?_
      refine ev_iconst ?_
      refine ev_icmpge f117_73 (fun c1032 => ?_) (fun c1032 => ?_)
      · refine ev_iconst ?_
        exact ev_ret rfl (by decide) (by decide) ⟨_, rfl, by omega, by omega, g1, k1⟩
      · refine ev_iconst ?_
        refine ev_istore (L' := [(2, 26), (0, a1), (0, a2), (0, a3), (0, x4), (0, 0)]) (Nat.le_of_ble_eq_true rfl) rfl ?_
        exact ih.2 _ _ _ g1 k1 (by omega) (by omega) (by omega) (by omega) (by omega) (by omega) (by omega) (by omega) (by omega) (by omega) (by omega)
    · intro h1 x4 x5 g1 k1 b0 b1 b2 b3 b4 b5 b6 b7 b8 b9 hm
      refine ev_iload rfl ?_
      refine ev_iconst ?_
      refine ev_icmpge f117_67 (fun c1033 => ?_) (fun c1033 => ?_)
      · refine ev_iinc (w := (x4 + 1)) (L' := [(2, 26), (0, a1), (0, a2), (0, a3), (0, (x4 + 1)), (0, x5)]) rfl (by unfold w32; omega) rfl ?_
        refine ev_goto f117_3 ?_
        exact ih.1 _ _ _ g1 k1 (by omega) (by omega) (by omega) (by omega) (by omega) (by omega) (by omega) (by omega) (by omega)
      · refine ev_iload_n rfl ?_
        refine ev_iload rfl ?_
        refine g_ishrG (fun v1034 ev1034 lv1034 uv1034 => ?_)
        refine ev_iconst ?_
        refine g_iandB (b := 1) (by omega) (by omega) (by decide) (fun v1035 ev1035 lv1035 uv1035 => ?_)
        refine ev_iconst ?_
        refine ev_icmpne f117_67 (fun c1036 => ?_) (fun c1036 => ?_)
        · refine ev_iinc (w := (x4 + 1)) (L' := [(2, 26), (0, a1), (0, a2), (0, a3), (0, (x4 + 1)), (0, x5)]) rfl (by unfold w32; omega) rfl ?_
          refine ev_goto f117_3 ?_
          exact ih.1 _ _ _ g1 k1 (by omega) (by omega) (by omega) (by omega) (by omega) (by omega) (by omega) (by omega) (by omega)
        · refine ev_iload rfl ?_
          refine ev_iload rfl ?_
          refine ev_icmpeq f117_61 (fun c1037 => ?_) (fun c1037 => ?_)
          · refine ev_iinc (w := (x5 + 1)) (L' := [(2, 26), (0, a1), (0, a2), (0, a3), (0, x4), (0, (x5 + 1))]) rfl (by unfold w32; omega) rfl ?_
            refine ev_goto f117_12 ?_
            exact ih.2 _ _ _ g1 k1 (by omega) (by omega) (by omega) (by omega) (by omega) (by omega) (by omega) (by omega) (by omega) (by omega) (by omega)
          · refine ev_iload_n rfl ?_
            refine ev_iload rfl ?_
            refine g_ishrG (fun v1038 ev1038 lv1038 uv1038 => ?_)
            refine ev_iconst ?_
            refine g_iandB (b := 1) (by omega) (by omega) (by decide) (fun v1039 ev1039 lv1039 uv1039 => ?_)
            refine ev_iconst ?_
            refine ev_icmpne f117_61 (fun c1040 => ?_) (fun c1040 => ?_)
            · refine ev_iinc (w := (x5 + 1)) (L' := [(2, 26), (0, a1), (0, a2), (0, a3), (0, x4), (0, (x5 + 1))]) rfl (by unfold w32; omega) rfl ?_
              refine ev_goto f117_12 ?_
              exact ih.2 _ _ _ g1 k1 (by omega) (by omega) (by omega) (by omega) (by omega) (by omega) (by omega) (by omega) (by omega) (by omega) (by omega)
            · refine ev_aload_n rfl ?_
              refine ev_iload rfl ?_
              refine ev_iload rfl ?_
              refine ev_iload_n rfl ?_
              refine ev_iload_n rfl ?_
              refine ev_call (jcall_v (A := [(0, a3), (0, a2), (0, x4), (0, x5)]) (S' := []) (r := 26) rfl (g1.lt ad26) (g1.tg ad26) (Nat.le_of_ble_eq_true rfl)) (jOk_le (by decide) (s118 g1 (by omega) (by omega) (by omega) (by omega) (by omega) (by omega) (by omega) (by omega))) (by decide) (by decide) (fun w1041 h1041 q1041 => ?_)
              obtain ⟨v1042, rfl, lv1042, uv1042, g1041, kk1041⟩ := q1041
              have k1041 := k1.tr kk1041 (by decide)
              show jEv _ _ _ _ _ _ _ (_, [(2, 26), (0, a1), (0, a2), (0, a3), (0, x4), (0, x5)], [(0, v1042)], _, _, _)
              refine ev_ifeq f117_61 (fun c1043 => ?_) (fun c1043 => ?_)
              · refine ev_iinc (w := (x5 + 1)) (L' := [(2, 26), (0, a1), (0, a2), (0, a3), (0, x4), (0, (x5 + 1))]) rfl (by unfold w32; omega) rfl ?_
                refine ev_goto f117_12 ?_
                exact ih.2 _ _ _ g1041 k1041 (by omega) (by omega) (by omega) (by omega) (by omega) (by omega) (by omega) (by omega) (by omega) (by omega) (by omega)
              · refine ev_iload rfl ?_
                exact ev_ret rfl (by decide) (by decide) ⟨_, rfl, by omega, by omega, g1041, k1041⟩
set_option maxHeartbeats 4000000 in
theorem s117 {G : GH} {h : JH} (g : Gd G h) {a1 : Int} (la1 : (-2147483648) ≤ a1) (ua1 : a1 ≤ 2147483647) {a2 : Int} (la2 : (-2147483648) ≤ a2) (ua2 : a2 ≤ 2147483647) {a3 : Int} (la3 : 0 ≤ a3) (ua3 : a3 ≤ 1) : jOk 3 0 0 117 [(2, 26), (0, a1), (0, a2), (0, a3)] h (PI G [] h 0 (-1) 3) := by
  refine ⟨by decide, by rw [ml117]; exact Nat.le_of_ble_eq_true rfl, ?_⟩
  rw [ml117, pp117]
  show jEv _ none _ c117_0 0 0 _ (c117_0, [(2, 26), (0, a1), (0, a2), (0, a3), (9, 0), (9, 0)], [], h, 0, 0)
  have k0 := Kp.rf [] h
  refine ev_iconst ?_
  refine ev_istore (L' := [(2, 26), (0, a1), (0, a2), (0, a3), (0, 0), (9, 0)]) (Nat.le_of_ble_eq_true rfl) rfl ?_
  exact (s117_l la1 ua1 la2 ua2 la3 ua3 100).1 _ _ _ g k0 (by omega) (by omega) (by omega) (by omega) (by omega) (by omega) (by omega) (by omega) (by omega)
/-! 116 leftUnstruck -/
set_option maxHeartbeats 4000000 in
theorem s116_l {G : GH} {h : JH} {a1 : Int} (la1 : (-2147483648) ≤ a1) (ua1 : a1 ≤ 2147483647) : ∀ N : Nat, (∀ (h1 : JH) (x2 x3 x4 : Int) (j5 j6 : AV), Gd G h1 → Kp [] h h1 → (-2147483648) ≤ a1 → a1 ≤ 2147483647 → 0 ≤ x2 → x2 ≤ 15 → 0 ≤ x3 → x3 ≤ 15 → 0 ≤ x4 → x4 ≤ 8 → ((-x4) + 8) < N → jEv (jOk 3) none (fun _ => 0) c116_0 0 0 (PI G [] h 0 0 15) (c116_21, [(2, 26), (0, a1), (0, x2), (0, x3), (0, x4), j5, j6], [], h1, 0, 0)) := by
  intro N
  induction N with
  | zero => exact fun h1 x2 x3 x4 j5 j6 g1 k1 b0 b1 b2 b3 b4 b5 b6 b7 hm => absurd hm (by omega)
  | succ N ih =>
    show _
    intro h1 x2 x3 x4 j5 j6 g1 k1 b0 b1 b2 b3 b4 b5 b6 b7 hm
    refine ev_iload rfl ?_
    refine ev_bipush ?_
    refine ev_icmpge f116_87 (fun c1194 => ?_) (fun c1194 => ?_)
    · refine ev_iload_n rfl ?_
      refine ev_ifne f116_95 (fun c1195 => ?_) (fun c1195 => ?_)
      · refine ev_iload_n rfl ?_
        exact ev_ret rfl (by decide) (by decide) ⟨_, rfl, by omega, by omega, g1, k1⟩
      · refine ev_iload_n rfl ?_
        refine ev_goto f116_96 ?_
        exact ev_ret rfl (by decide) (by decide) ⟨_, rfl, by omega, by omega, g1, k1⟩
    · refine ev_aload_n rfl ?_
      refine ev_iload_n rfl ?_
      refine ev_iload_n rfl ?_
      refine ev_iconst ?_
      refine ev_call (jcall_v (A := [(0, 0), (0, x3), (0, x2)]) (S' := []) (r := 26) rfl (g1.lt ad26) (g1.tg ad26) (Nat.le_of_ble_eq_true rfl)) (jOk_le (by decide) (s117 g1 (by omega) (by omega) (by omega) (by omega) (by omega) (by omega))) (by decide) (by decide) (fun w1196 h1196 q1196 => ?_)
      obtain ⟨v1197, rfl, lv1197, uv1197, g1196, kk1196⟩ := q1196
      have k1196 := k1.tr kk1196 (by decide)
      show jEv _ _ _ _ _ _ _ (_, [(2, 26), (0, a1), (0, x2), (0, x3), (0, x4), j5, j6], [(0, v1197)], _, _, _)
      refine ev_istore (L' := [(2, 26), (0, a1), (0, x2), (0, x3), (0, x4), (0, v1197), j6]) (Nat.le_of_ble_eq_true rfl) rfl ?_
      refine ev_iload rfl ?_
      refine ev_iflt f116_54 (fun c1198 => ?_) (fun c1198 => ?_)
      · refine ev_aload_n rfl ?_
        refine ev_iload_n rfl ?_
        refine ev_iload_n rfl ?_
        refine ev_iconst ?_
        refine ev_call (jcall_v (A := [(0, 1), (0, x2), (0, x3)]) (S' := []) (r := 26) rfl (g1196.lt ad26) (g1196.tg ad26) (Nat.le_of_ble_eq_true rfl)) (jOk_le (by decide) (s117 g1196 (by omega) (by omega) (by omega) (by omega) (by omega) (by omega))) (by decide) (by decide) (fun w1199 h1199 q1199 => ?_)
        obtain ⟨v1200, rfl, lv1200, uv1200, g1199, kk1199⟩ := q1199
        have k1199 := k1196.tr kk1199 (by decide)
        show jEv _ _ _ _ _ _ _ (_, [(2, 26), (0, a1), (0, x2), (0, x3), (0, x4), (0, v1197), j6], [(0, v1200)], _, _, _)
        refine ev_istore (L' := [(2, 26), (0, a1), (0, x2), (0, x3), (0, x4), (0, v1197), (0, v1200)]) (Nat.le_of_ble_eq_true rfl) rfl ?_
        refine ev_iload_n rfl ?_
        refine ev_iload rfl ?_
        refine ev_ifge f116_73 (fun c1201 => ?_) (fun c1201 => ?_)
        · refine ev_iconst ?_
          refine ev_iload rfl ?_
          refine g_ishlB (a' := 1) (a := 1) (b := 3) (hi := 8) (by omega) (by omega) (by omega) (by omega) (by decide) (by decide) (fun v1202 ev1202 lv1202 uv1202 => ?_)
          refine ev_iconst ?_
          refine g_ixorG (fun v1203 ev1203 lv1203 uv1203 => ?_)
          refine g_iandA (b := 15) (by omega) (by omega) (by decide) (fun v1204 ev1204 lv1204 uv1204 => ?_)
          refine ev_istore_n (L' := [(2, 26), (0, a1), (0, x2), (0, v1204), (0, x4), (0, v1197), (0, v1200)]) (Nat.le_of_ble_eq_true rfl) rfl ?_
          refine ev_iinc (w := (x4 + 1)) (L' := [(2, 26), (0, a1), (0, x2), (0, v1204), (0, (x4 + 1)), (0, v1197), (0, v1200)]) rfl (by unfold w32; omega) rfl ?_
          refine ev_goto f116_21 ?_
          exact ih _ _ _ _ _ _ g1199 k1199 (by omega) (by omega) (by omega) (by omega) (by omega) (by omega) (by omega) (by omega) (by omega)
        · refine ev_iconst ?_
          refine ev_goto f116_79 ?_
          refine g_iandA (b := 15) (by omega) (by omega) (by decide) (fun v1205 ev1205 lv1205 uv1205 => ?_)
          refine ev_istore_n (L' := [(2, 26), (0, a1), (0, x2), (0, v1205), (0, x4), (0, v1197), (0, v1200)]) (Nat.le_of_ble_eq_true rfl) rfl ?_
          refine ev_iinc (w := (x4 + 1)) (L' := [(2, 26), (0, a1), (0, x2), (0, v1205), (0, (x4 + 1)), (0, v1197), (0, v1200)]) rfl (by unfold w32; omega) rfl ?_
          refine ev_goto f116_21 ?_
          exact ih _ _ _ _ _ _ g1199 k1199 (by omega) (by omega) (by omega) (by omega) (by omega) (by omega) (by omega) (by omega) (by omega)
      · refine ev_iload_n rfl ?_
        refine ev_iconst ?_
        refine ev_iload rfl ?_
        refine g_ishlB (a' := 1) (a := 1) (b := 3) (hi := 8) (by omega) (by omega) (by omega) (by omega) (by decide) (by decide) (fun v1206 ev1206 lv1206 uv1206 => ?_)
        refine ev_iconst ?_
        refine g_ixorG (fun v1207 ev1207 lv1207 uv1207 => ?_)
        refine g_iandA (b := 15) (by omega) (by omega) (by decide) (fun v1208 ev1208 lv1208 uv1208 => ?_)
        refine ev_istore_n (L' := [(2, 26), (0, a1), (0, v1208), (0, x3), (0, x4), (0, v1197), j6]) (Nat.le_of_ble_eq_true rfl) rfl ?_
        refine ev_goto f116_81 ?_
        refine ev_iinc (w := (x4 + 1)) (L' := [(2, 26), (0, a1), (0, v1208), (0, x3), (0, (x4 + 1)), (0, v1197), j6]) rfl (by unfold w32; omega) rfl ?_
        refine ev_goto f116_21 ?_
        exact ih _ _ _ _ _ _ g1196 k1196 (by omega) (by omega) (by omega) (by omega) (by omega) (by omega) (by omega) (by omega) (by omega)
set_option maxHeartbeats 4000000 in
theorem s116 {G : GH} {h : JH} (g : Gd G h) {a1 : Int} (la1 : (-2147483648) ≤ a1) (ua1 : a1 ≤ 2147483647) : jOk 4 0 0 116 [(2, 26), (0, a1)] h (PI G [] h 0 0 15) := by
  refine ⟨by decide, by rw [ml116]; exact Nat.le_of_ble_eq_true rfl, ?_⟩
  rw [ml116, pp116]
  show jEv _ none _ c116_0 0 0 _ (c116_0, [(2, 26), (0, a1), (9, 0), (9, 0), (9, 0), (9, 0), (9, 0)], [], h, 0, 0)
  have k0 := Kp.rf [] h
  refine ev_iconst ?_
  refine ev_aload_n rfl ?_
  obtain ⟨v1209, ev1209, lv1209, uv1209⟩ := g.rd ad26 (show 0 < 15 by decide) rf26_0
  refine g_getv (r := 26) (v := v1209) g ad26 (by decide) ft9_0 ev1209 ?_
  refine g_ishlB (a' := 1) (a := 1) (b := 4) (hi := 16) (by omega) (by omega) (by omega) (by omega) (by decide) (by decide) (fun v1210 ev1210 lv1210 uv1210 => ?_)
  refine ev_iconst ?_
  refine ev_isub (r := (v1210 - 1)) (by unfold w32; omega) ?_
  refine ev_istore_n (L' := [(2, 26), (0, a1), (0, (v1210 - 1)), (9, 0), (9, 0), (9, 0), (9, 0)]) (Nat.le_of_ble_eq_true rfl) rfl ?_
  refine ev_iconst ?_
  refine ev_aload_n rfl ?_
  obtain ⟨v1211, ev1211, lv1211, uv1211⟩ := g.rd ad26 (show 1 < 15 by decide) rf26_1
  refine g_getv (r := 26) (v := v1211) g ad26 (by decide) ft9_1 ev1211 ?_
  refine g_ishlB (a' := 1) (a := 1) (b := 4) (hi := 16) (by omega) (by omega) (by omega) (by omega) (by decide) (by decide) (fun v1212 ev1212 lv1212 uv1212 => ?_)
  refine ev_iconst ?_
  refine ev_isub (r := (v1212 - 1)) (by unfold w32; omega) ?_
  refine ev_istore_n (L' := [(2, 26), (0, a1), (0, (v1210 - 1)), (0, (v1212 - 1)), (9, 0), (9, 0), (9, 0)]) (Nat.le_of_ble_eq_true rfl) rfl ?_
  refine ev_iconst ?_
  refine ev_istore (L' := [(2, 26), (0, a1), (0, (v1210 - 1)), (0, (v1212 - 1)), (0, 0), (9, 0), (9, 0)]) (Nat.le_of_ble_eq_true rfl) rfl ?_
  exact (s116_l la1 ua1 18) _ _ _ _ _ _ g k0 (by omega) (by omega) (by omega) (by omega) (by omega) (by omega) (by omega) (by omega) (by omega)
/-! 119 addSort -/
set_option maxHeartbeats 4000000 in
theorem s119 {G : GH} {h : JH} (g : Gd G h) {a1 : Int} (la1 : 1 ≤ a1) (ua1 : a1 ≤ 9) {a2 : Int} (la2 : 0 ≤ a2) (ua2 : a2 ≤ 99) {a3 : Int} (la3 : 0 ≤ a3) (ua3 : a3 ≤ 99) : jOk 1 0 0 119 [(2, 26), (0, a1), (0, a2), (0, a3)] h (PI G [(26, 4), (28, 0), (29, 0), (30, 0)] h 0 (-3) 3) := by
  refine ⟨by decide, by rw [ml119]; exact Nat.le_of_ble_eq_true rfl, ?_⟩
  rw [ml119, pp119]
  show jEv _ none _ c119_0 0 0 _ (c119_0, [(2, 26), (0, a1), (0, a2), (0, a3)], [], h, 0, 0)
  have k0 := Kp.rf [(26, 4), (28, 0), (29, 0), (30, 0)] h
  refine ev_aload_n rfl ?_
  obtain ⟨v1225, ev1225, lv1225, uv1225⟩ := g.rd ad26 (show 3 < 15 by decide) rf26_3
  refine g_getv (r := 26) (v := v1225) g ad26 (by decide) ft9_3 ev1225 ?_
  refine ev_iconst ?_
  refine ev_icmplt f119_11 (fun c1226 => ?_) (fun c1226 => ?_)
  · refine ev_aload_n rfl ?_
    refine g_getp (r := 26) (c := 28) g ad26 (by decide) (by decide) rf26_4 ft9_4 ?_
    refine ev_aload_n rfl ?_
    refine g_getv (r := 26) (v := v1225) g ad26 (by decide) ft9_3 (ev1225) ?_
    refine ev_iload_n rfl ?_
    refine g_iast g ad28 rt28 (fun _ => rfl) (by omega) (by omega) (by omega) (by omega) (fun h1227 e1227 g1227 => ?_)
    have k1227 := k0.wr e1227 rfl
    refine ev_aload_n rfl ?_
    refine g_getp (r := 26) (c := 29) g1227 ad26 (by decide) (by decide) rf26_5 ft9_5 ?_
    refine ev_aload_n rfl ?_
    refine g_getv (r := 26) (v := v1225) g1227 ad26 (by decide) ft9_3 (((jw_ne e1227 (Or.inl (by decide))).trans ev1225)) ?_
    refine ev_iload_n rfl ?_
    refine g_iast g1227 ad29 rt29 (fun _ => rfl) (by omega) (by omega) (by omega) (by omega) (fun h1228 e1228 g1228 => ?_)
    have k1228 := k1227.wr e1228 rfl
    refine ev_aload_n rfl ?_
    refine g_getp (r := 26) (c := 30) g1228 ad26 (by decide) (by decide) rf26_6 ft9_6 ?_
    refine ev_aload_n rfl ?_
    refine g_getv (r := 26) (v := v1225) g1228 ad26 (by decide) ft9_3 (((jw_ne e1228 (Or.inl (by decide))).trans ((jw_ne e1227 (Or.inl (by decide))).trans ev1225))) ?_
    refine ev_iload_n rfl ?_
    refine g_iast g1228 ad30 rt30 (fun _ => rfl) (by omega) (by omega) (by omega) (by omega) (fun h1229 e1229 g1229 => ?_)
    have k1229 := k1228.wr e1229 rfl
    refine ev_aload_n rfl ?_
    refine ev_dup (by decide) ?_
    refine g_getv (r := 26) (v := v1225) g1229 ad26 (by decide) ft9_3 (((jw_ne e1229 (Or.inl (by decide))).trans ((jw_ne e1228 (Or.inl (by decide))).trans ((jw_ne e1227 (Or.inl (by decide))).trans ev1225)))) ?_
    refine ev_iconst ?_
    refine ev_iadd (r := (v1225 + 1)) (by unfold w32; omega) ?_
    refine g_putf (r := 26) g1229 ad26 (by decide) ft9_3 (by decide) (fun e => absurd e nz9_3) rf26_3 (by decide) (by omega) (by omega) (fun h1230 e1230 g1230 => ?_)
    have k1230 := k1229.wr e1230 rfl
    refine ev_aload_n rfl ?_
    refine g_getv (r := 26) (v := (v1225 + 1)) g1230 ad26 (by decide) ft9_3 ((jw_eq e1230)) ?_
    exact ev_ret rfl (by decide) (by decide) ⟨_, rfl, by omega, by omega, g1230, k1230⟩
  · refine ev_bipush ?_
    exact ev_ret rfl (by decide) (by decide) ⟨_, rfl, by omega, by omega, g, k0⟩
/-! 120 addOffer -/
set_option maxHeartbeats 4000000 in
theorem s120_l {G : GH} {h : JH} {a1 : Int} (la1 : 0 ≤ a1) (ua1 : a1 ≤ 99) : ∀ N : Nat, (∀ (h1 : JH) (x2 : Int), Gd G h1 → Kp [(26, 8), (31, 0)] h h1 → 0 ≤ a1 → a1 ≤ 99 → 0 ≤ x2 → x2 ≤ 4 → ((-x2) + 4) < N → jEv (jOk 0) none (fun _ => 0) c120_0 0 0 (PI G [(26, 8), (31, 0)] h 0 (-3) 4) (c120_2, [(2, 26), (0, a1), (0, x2)], [], h1, 0, 0)) := by
  intro N
  induction N with
  | zero => exact fun h1 x2 g1 k1 b0 b1 b2 b3 hm => absurd hm (by omega)
  | succ N ih =>
    show _
    intro h1 x2 g1 k1 b0 b1 b2 b3 hm
    refine ev_iload_n rfl ?_
    refine ev_aload_n rfl ?_
    obtain ⟨v1273, ev1273, lv1273, uv1273⟩ := g1.rd ad26 (show 7 < 15 by decide) rf26_7
    refine g_getv (r := 26) (v := v1273) g1 ad26 (by decide) ft9_7 ev1273 ?_
    refine ev_icmpge f120_28 (fun c1274 => ?_) (fun c1274 => ?_)
    · refine ev_aload_n rfl ?_
      refine g_getv (r := 26) (v := v1273) g1 ad26 (by decide) ft9_7 (ev1273) ?_
      refine ev_iconst ?_
      refine ev_icmplt f120_39 (fun c1275 => ?_) (fun c1275 => ?_)
      · refine ev_aload_n rfl ?_
        refine g_getp (r := 26) (c := 31) g1 ad26 (by decide) (by decide) rf26_8 ft9_8 ?_
        refine ev_aload_n rfl ?_
        refine g_getv (r := 26) (v := v1273) g1 ad26 (by decide) ft9_7 (ev1273) ?_
        refine ev_iload_n rfl ?_
        refine g_iast g1 ad31 rt31 (fun _ => rfl) (by omega) (by omega) (by omega) (by omega) (fun h1276 e1276 g1276 => ?_)
        have k1276 := k1.wr e1276 rfl
        refine ev_aload_n rfl ?_
        refine ev_dup (by decide) ?_
        refine g_getv (r := 26) (v := v1273) g1276 ad26 (by decide) ft9_7 (((jw_ne e1276 (Or.inl (by decide))).trans ev1273)) ?_
        refine ev_iconst ?_
        refine ev_iadd (r := (v1273 + 1)) (by unfold w32; omega) ?_
        refine g_putf (r := 26) g1276 ad26 (by decide) ft9_7 (by decide) (fun e => absurd e nz9_7) rf26_7 (by decide) (by omega) (by omega) (fun h1277 e1277 g1277 => ?_)
        have k1277 := k1276.wr e1277 rfl
        refine ev_aload_n rfl ?_
        refine g_getv (r := 26) (v := (v1273 + 1)) g1277 ad26 (by decide) ft9_7 ((jw_eq e1277)) ?_
        exact ev_ret rfl (by decide) (by decide) ⟨_, rfl, by omega, by omega, g1277, k1277⟩
      · refine ev_bipush ?_
        exact ev_ret rfl (by decide) (by decide) ⟨_, rfl, by omega, by omega, g1, k1⟩
    · refine ev_aload_n rfl ?_
      refine g_getp (r := 26) (c := 31) g1 ad26 (by decide) (by decide) rf26_8 ft9_8 ?_
      refine ev_iload_n rfl ?_
      refine g_iald g1 ad31 rt31 (by omega) (by omega) (fun v1278 ev1278 lv1278 uv1278 => ?_)
      refine ev_iload_n rfl ?_
      refine ev_icmpne f120_22 (fun c1279 => ?_) (fun c1279 => ?_)
      · refine ev_iinc (w := (x2 + 1)) (L' := [(2, 26), (0, a1), (0, (x2 + 1))]) rfl (by unfold w32; omega) rfl ?_
        refine ev_goto f120_2 ?_
        exact ih _ _ g1 k1 (by omega) (by omega) (by omega) (by omega) (by omega)
      · refine ev_iconst ?_
        exact ev_ret rfl (by decide) (by decide) ⟨_, rfl, by omega, by omega, g1, k1⟩
set_option maxHeartbeats 4000000 in
theorem s120 {G : GH} {h : JH} (g : Gd G h) {a1 : Int} (la1 : 0 ≤ a1) (ua1 : a1 ≤ 99) : jOk 1 0 0 120 [(2, 26), (0, a1)] h (PI G [(26, 8), (31, 0)] h 0 (-3) 4) := by
  refine ⟨by decide, by rw [ml120]; exact Nat.le_of_ble_eq_true rfl, ?_⟩
  rw [ml120, pp120]
  show jEv _ none _ c120_0 0 0 _ (c120_0, [(2, 26), (0, a1), (9, 0)], [], h, 0, 0)
  have k0 := Kp.rf [(26, 8), (31, 0)] h
  refine ev_iconst ?_
  refine ev_istore_n (L' := [(2, 26), (0, a1), (0, 0)]) (Nat.le_of_ble_eq_true rfl) rfl ?_
  exact (s120_l la1 ua1 10) _ _ g k0 (by omega) (by omega) (by omega) (by omega) (by omega)
/-! 124 isMade -/
set_option maxHeartbeats 4000000 in
theorem s124_l {G : GH} {h : JH} {a1 : Int} (la1 : 0 ≤ a1) (ua1 : a1 ≤ 63) : ∀ N : Nat, (∀ (h1 : JH) (x2 : Int), Gd G h1 → Kp [] h h1 → 0 ≤ a1 → a1 ≤ 63 → 0 ≤ x2 → x2 ≤ 3 → ((-x2) + 3) < N → jEv (jOk 1) none (fun _ => 0) c124_0 0 0 (PI G [] h 0 0 1) (c124_2, [(2, 26), (0, a1), (0, x2)], [], h1, 0, 0)) := by
  intro N
  induction N with
  | zero => exact fun h1 x2 g1 k1 b0 b1 b2 b3 hm => absurd hm (by omega)
  | succ N ih =>
    show _
    intro h1 x2 g1 k1 b0 b1 b2 b3 hm
    refine ev_iload_n rfl ?_
    refine ev_aload_n rfl ?_
    obtain ⟨v1310, ev1310, lv1310, uv1310⟩ := g1.rd ad26 (show 3 < 15 by decide) rf26_3
    refine g_getv (r := 26) (v := v1310) g1 ad26 (by decide) ft9_3 ev1310 ?_
    refine ev_icmpge f124_31 (fun c1311 => ?_) (fun c1311 => ?_)
    · refine ev_iconst ?_
      exact ev_ret rfl (by decide) (by decide) ⟨_, rfl, by omega, by omega, g1, k1⟩
    · refine ev_aload_n rfl ?_
      refine ev_iload_n rfl ?_
      refine ev_iload_n rfl ?_
      refine ev_in (d := 0) (a := 0) (b := 0) (cd' := c123_0) (m := 3) (L0 := [(2, 26), (0, a1), (0, x2)]) (jcall_v (A := [(0, x2), (0, a1)]) (S' := []) (r := 26) rfl (g1.lt ad26) (g1.tg ad26) (Nat.le_of_ble_eq_true rfl)) (by decide) ml123 pp123 (Nat.le_of_ble_eq_true rfl) rfl (by decide) (by decide) ?_
      refine ev_iload_n rfl ?_
      refine ev_iconst ?_
      refine ev_aload_n rfl ?_
      refine g_getv (r := 26) (v := v1310) g1 ad26 (by decide) ft9_3 (ev1310) ?_
      refine ev_iconst ?_
      refine ev_isub (r := (v1310 - 1)) (by unfold w32; omega) ?_
      refine ev_iload_n rfl ?_
      refine ev_isub (r := (v1310 + (-x2) - 1)) (by unfold w32; omega) ?_
      refine ev_imul (r := (2 * v1310 + (-2) * x2 - 2)) (by unfold w32; omega) ?_
      refine g_ishrB (a := 63) (by omega) (by omega) (by decide) (fun v1312 ev1312 lv1312 uv1312 => ?_)
      refine ev_iconst ?_
      refine g_iandB (b := 3) (by omega) (by omega) (by decide) (fun v1313 ev1313 lv1313 uv1313 => ?_)
      refine ev_ret rfl (by decide) (by decide) ?_
      show jEv _ _ _ _ _ _ _ (_, [(2, 26), (0, a1), (0, x2)], [(0, v1313)], _, _, _)
      refine ev_aload_n rfl ?_
      obtain ⟨v1314, ev1314, lv1314, uv1314⟩ := g1.rd ad26 (show 7 < 15 by decide) rf26_7
      refine g_getv (r := 26) (v := v1314) g1 ad26 (by decide) ft9_7 ev1314 ?_
      refine ev_icmplt f124_25 (fun c1315 => ?_) (fun c1315 => ?_)
      · refine ev_iinc (w := (x2 + 1)) (L' := [(2, 26), (0, a1), (0, (x2 + 1))]) rfl (by unfold w32; omega) rfl ?_
        refine ev_goto f124_2 ?_
        exact ih _ _ g1 k1 (by omega) (by omega) (by omega) (by omega) (by omega)
      · refine ev_iconst ?_
        exact ev_ret rfl (by decide) (by decide) ⟨_, rfl, by omega, by omega, g1, k1⟩
set_option maxHeartbeats 4000000 in
theorem s124 {G : GH} {h : JH} (g : Gd G h) {a1 : Int} (la1 : 0 ≤ a1) (ua1 : a1 ≤ 63) : jOk 2 0 0 124 [(2, 26), (0, a1)] h (PI G [] h 0 0 1) := by
  refine ⟨by decide, by rw [ml124]; exact Nat.le_of_ble_eq_true rfl, ?_⟩
  rw [ml124, pp124]
  show jEv _ none _ c124_0 0 0 _ (c124_0, [(2, 26), (0, a1), (9, 0)], [], h, 0, 0)
  have k0 := Kp.rf [] h
  refine ev_iconst ?_
  refine ev_istore_n (L' := [(2, 26), (0, a1), (0, 0)]) (Nat.le_of_ble_eq_true rfl) rfl ?_
  exact (s124_l la1 ua1 8) _ _ g k0 (by omega) (by omega) (by omega) (by omega) (by omega)
/-! 126 leastWin -/
set_option maxHeartbeats 4000000 in
theorem s126_l {G : GH} {h : JH}  : ∀ N : Nat, (∀ (h1 : JH) (x1 x2 : Int), Gd G h1 → Kp [] h h1 → 0 ≤ x1 → x1 ≤ 99 → 1 ≤ x2 → x2 ≤ 3 → ((-x2) + 3) < N → jEv (jOk 1) none (fun _ => 0) c126_0 0 0 (PI G [] h 0 0 99) (c126_9, [(2, 26), (0, x1), (0, x2)], [], h1, 0, 0)) := by
  intro N
  induction N with
  | zero => exact fun h1 x1 x2 g1 k1 b0 b1 b2 b3 hm => absurd hm (by omega)
  | succ N ih =>
    show _
    intro h1 x1 x2 g1 k1 b0 b1 b2 b3 hm
    refine ev_iload_n rfl ?_
    refine ev_aload_n rfl ?_
    obtain ⟨v1334, ev1334, lv1334, uv1334⟩ := g1.rd ad26 (show 3 < 15 by decide) rf26_3
    refine g_getv (r := 26) (v := v1334) g1 ad26 (by decide) ft9_3 ev1334 ?_
    refine ev_icmpge f126_34 (fun c1335 => ?_) (fun c1335 => ?_)
    · refine ev_iload_n rfl ?_
      exact ev_ret rfl (by decide) (by decide) ⟨_, rfl, by omega, by omega, g1, k1⟩
    · refine ev_iload_n rfl ?_
      refine ev_aload_n rfl ?_
      refine g_getp (r := 26) (c := 29) g1 ad26 (by decide) (by decide) rf26_5 ft9_5 ?_
      refine ev_iload_n rfl ?_
      refine g_iald g1 ad29 rt29 (by omega) (by omega) (fun v1336 ev1336 lv1336 uv1336 => ?_)
      refine ev_in (d := 0) (a := 0) (b := 0) (cd' := c381_0) (m := 2) (L0 := [(0, x1), (0, v1336)]) (jcall_s (A := [(0, v1336), (0, x1)]) (S' := []) (by decide) rfl (Nat.le_of_ble_eq_true rfl)) (by decide) ml381 pp381 (Nat.le_of_ble_eq_true rfl) rfl (by decide) (by decide) ?_
      refine ev_iload_n rfl ?_
      refine ev_iload_n rfl ?_
      refine ev_icmpgt f381_9 (fun c1337 => ?_) (fun c1337 => ?_)
      · refine ev_iload_n rfl ?_
        refine ev_ret rfl (by decide) (by decide) ?_
        show jEv _ _ _ _ _ _ _ (_, [(2, 26), (0, x1), (0, x2)], [(0, v1336)], _, _, _)
        refine ev_istore_n (L' := [(2, 26), (0, v1336), (0, x2)]) (Nat.le_of_ble_eq_true rfl) rfl ?_
        refine ev_iinc (w := (x2 + 1)) (L' := [(2, 26), (0, v1336), (0, (x2 + 1))]) rfl (by unfold w32; omega) rfl ?_
        refine ev_goto f126_9 ?_
        exact ih _ _ _ g1 k1 (by omega) (by omega) (by omega) (by omega) (by omega)
      · refine ev_iload_n rfl ?_
        refine ev_goto f381_10 ?_
        refine ev_ret rfl (by decide) (by decide) ?_
        show jEv _ _ _ _ _ _ _ (_, [(2, 26), (0, x1), (0, x2)], [(0, x1)], _, _, _)
        refine ev_istore_n (L' := [(2, 26), (0, x1), (0, x2)]) (Nat.le_of_ble_eq_true rfl) rfl ?_
        refine ev_iinc (w := (x2 + 1)) (L' := [(2, 26), (0, x1), (0, (x2 + 1))]) rfl (by unfold w32; omega) rfl ?_
        refine ev_goto f126_9 ?_
        exact ih _ _ _ g1 k1 (by omega) (by omega) (by omega) (by omega) (by omega)
set_option maxHeartbeats 4000000 in
theorem s126 {G : GH} {h : JH} (g : Gd G h)  : jOk 2 0 0 126 [(2, 26)] h (PI G [] h 0 0 99) := by
  refine ⟨by decide, by rw [ml126]; exact Nat.le_of_ble_eq_true rfl, ?_⟩
  rw [ml126, pp126]
  show jEv _ none _ c126_0 0 0 _ (c126_0, [(2, 26), (9, 0), (9, 0)], [], h, 0, 0)
  have k0 := Kp.rf [] h
  refine ev_aload_n rfl ?_
  refine g_getp (r := 26) (c := 29) g ad26 (by decide) (by decide) rf26_5 ft9_5 ?_
  refine ev_iconst ?_
  refine g_iald g ad29 rt29 (by omega) (by omega) (fun v1338 ev1338 lv1338 uv1338 => ?_)
  refine ev_istore_n (L' := [(2, 26), (0, v1338), (9, 0)]) (Nat.le_of_ble_eq_true rfl) rfl ?_
  refine ev_iconst ?_
  refine ev_istore_n (L' := [(2, 26), (0, v1338), (0, 1)]) (Nat.le_of_ble_eq_true rfl) rfl ?_
  exact (s126_l  6) _ _ _ g k0 (by omega) (by omega) (by omega) (by omega) (by omega)
/-! 125 takenOf -/
set_option maxHeartbeats 4000000 in
theorem s125_l {G : GH} {h : JH} {a1 : Int} (la1 : 0 ≤ a1) (ua1 : a1 ≤ 63) {a2 : Int} (la2 : 0 ≤ a2) (ua2 : a2 ≤ 99) : ∀ N : Nat, (∀ (h1 : JH) (x3 x4 : Int) (j5 j6 j7 : AV), Gd G h1 → Kp [] h h1 → 0 ≤ a1 → a1 ≤ 63 → 0 ≤ a2 → a2 ≤ 99 → 0 ≤ x3 → x3 ≤ 15 → 0 ≤ x4 → x4 ≤ 4 → ((-8) * x4 + 36) < N → jEv (jOk 2) none (fun _ => 0) c125_0 0 0 (PI G [] h 0 0 15) (c125_5, [(2, 26), (0, a1), (0, a2), (0, x3), (0, x4), j5, j6, j7], [], h1, 0, 0)) ∧ (∀ (h1 : JH) (x3 x4 x5 x6 x7 : Int), Gd G h1 → Kp [] h h1 → 0 ≤ a1 → a1 ≤ 63 → 0 ≤ a2 → a2 ≤ 99 → 0 ≤ x3 → x3 ≤ 15 → 0 ≤ x4 → x4 ≤ 3 → (-2147483648) ≤ x5 → x5 ≤ 2147483647 → (-2147483648) ≤ x6 → x6 ≤ 2147483647 → 0 ≤ x7 → x7 ≤ 3 → ((-8) * x4 + (-x7) + 35) < N → jEv (jOk 2) none (fun _ => 0) c125_0 0 0 (PI G [] h 0 0 15) (c125_23, [(2, 26), (0, a1), (0, a2), (0, x3), (0, x4), (0, x5), (0, x6), (0, x7)], [], h1, 0, 0)) := by
  intro N
  induction N with
  | zero => exact ⟨fun h1 x3 x4 j5 j6 j7 g1 k1 b0 b1 b2 b3 b4 b5 b6 b7 hm => absurd hm (by omega), fun h1 x3 x4 x5 x6 x7 g1 k1 b0 b1 b2 b3 b4 b5 b6 b7 b8 b9 b10 b11 b12 b13 hm => absurd hm (by omega)⟩
  | succ N ih =>
    refine ⟨?_, ?_⟩
    · intro h1 x3 x4 j5 j6 j7 g1 k1 b0 b1 b2 b3 b4 b5 b6 b7 hm
      refine ev_iload rfl ?_
      refine ev_aload_n rfl ?_
      obtain ⟨v2146, ev2146, lv2146, uv2146⟩ := g1.rd ad26 (show 7 < 15 by decide) rf26_7
      refine g_getv (r := 26) (v := v2146) g1 ad26 (by decide) ft9_7 ev2146 ?_
      refine ev_icmpge f125_157 (fun c2147 => ?_) (fun c2147 => ?_)
      · refine ev_iload_n rfl ?_
        exact ev_ret rfl (by decide) (by decide) ⟨_, rfl, by omega, by omega, g1, k1⟩
      · refine ev_iconst ?_
        refine ev_istore (L' := [(2, 26), (0, a1), (0, a2), (0, x3), (0, x4), (0, 0), j6, j7]) (Nat.le_of_ble_eq_true rfl) rfl ?_
        refine ev_iconst ?_
        refine ev_istore (L' := [(2, 26), (0, a1), (0, a2), (0, x3), (0, x4), (0, 0), (0, 0), j7]) (Nat.le_of_ble_eq_true rfl) rfl ?_
        refine ev_iconst ?_
        refine ev_istore (L' := [(2, 26), (0, a1), (0, a2), (0, x3), (0, x4), (0, 0), (0, 0), (0, 0)]) (Nat.le_of_ble_eq_true rfl) rfl ?_
        exact ih.2 _ _ _ _ _ _ g1 k1 (by omega) (by omega) (by omega) (by omega) (by omega) (by omega) (by omega) (by omega) (by omega) (by omega) (by omega) (by omega) (by omega) (by omega) (by omega)
    · intro h1 x3 x4 x5 x6 x7 g1 k1 b0 b1 b2 b3 b4 b5 b6 b7 b8 b9 b10 b11 b12 b13 hm
      refine ev_iload rfl ?_
      refine ev_aload_n rfl ?_
      obtain ⟨v2148, ev2148, lv2148, uv2148⟩ := g1.rd ad26 (show 3 < 15 by decide) rf26_3
      refine g_getv (r := 26) (v := v2148) g1 ad26 (by decide) ft9_3 ev2148 ?_
      refine ev_icmpge f125_82 (fun c2149 => ?_) (fun c2149 => ?_)
      · refine ev_iload rfl ?_
        refine ev_ifne f125_111 (fun c2150 => ?_) (fun c2150 => ?_)
        · refine ev_aload_n rfl ?_
          refine g_getp (r := 26) (c := 31) g1 ad26 (by decide) (by decide) rf26_8 ft9_8 ?_
          refine ev_iload rfl ?_
          refine g_iald g1 ad31 rt31 (by omega) (by omega) (fun v2151 ev2151 lv2151 uv2151 => ?_)
          refine ev_iload_n rfl ?_
          refine ev_isub (r := ((-a2) + v2151)) (by unfold w32; omega) ?_
          refine ev_iload rfl ?_
          refine g_imulG (fun v2152 ev2152 lv2152 uv2152 => ?_)
          refine ev_iload rfl ?_
          refine ev_icmpgt f125_132 (fun c2153 => ?_) (fun c2153 => ?_)
          · refine ev_iconst ?_
            refine ev_istore (L' := [(2, 26), (0, a1), (0, a2), (0, x3), (0, x4), (0, x5), (0, x6), (0, 0)]) (Nat.le_of_ble_eq_true rfl) rfl ?_
            refine ev_iload_n rfl ?_
            refine ev_iload rfl ?_
            refine ev_ifeq f125_148 (fun c2154 => ?_) (fun c2154 => absurd c2154 (by omega))
            refine ev_iconst ?_
            refine g_iorB (k := 4) (hi := 15) (by decide) (by decide) (by omega) (by omega) (by omega) (by omega) (fun v2155 ev2155 lv2155 uv2155 => ?_)
            refine ev_istore_n (L' := [(2, 26), (0, a1), (0, a2), (0, v2155), (0, x4), (0, x5), (0, x6), (0, 0)]) (Nat.le_of_ble_eq_true rfl) rfl ?_
            refine ev_iinc (w := (x4 + 1)) (L' := [(2, 26), (0, a1), (0, a2), (0, v2155), (0, (x4 + 1)), (0, x5), (0, x6), (0, 0)]) rfl (by unfold w32; omega) rfl ?_
            refine ev_goto f125_5 ?_
            exact ih.1 _ _ _ _ _ _ g1 k1 (by omega) (by omega) (by omega) (by omega) (by omega) (by omega) (by omega) (by omega) (by omega)
          · refine ev_iconst ?_
            refine ev_goto f125_133 ?_
            refine ev_istore (L' := [(2, 26), (0, a1), (0, a2), (0, x3), (0, x4), (0, x5), (0, x6), (0, 1)]) (Nat.le_of_ble_eq_true rfl) rfl ?_
            refine ev_iload_n rfl ?_
            refine ev_iload rfl ?_
            refine ev_ifeq f125_148 (fun c2156 => absurd c2156 (by omega)) (fun c2156 => ?_)
            refine ev_iconst ?_
            refine ev_iload rfl ?_
            refine g_ishlB (a' := 1) (a := 1) (b := 3) (hi := 8) (by omega) (by omega) (by omega) (by omega) (by decide) (by decide) (fun v2157 ev2157 lv2157 uv2157 => ?_)
            refine ev_goto f125_149 ?_
            refine g_iorB (k := 4) (hi := 15) (by decide) (by decide) (by omega) (by omega) (by omega) (by omega) (fun v2158 ev2158 lv2158 uv2158 => ?_)
            refine ev_istore_n (L' := [(2, 26), (0, a1), (0, a2), (0, v2158), (0, x4), (0, x5), (0, x6), (0, 1)]) (Nat.le_of_ble_eq_true rfl) rfl ?_
            refine ev_iinc (w := (x4 + 1)) (L' := [(2, 26), (0, a1), (0, a2), (0, v2158), (0, (x4 + 1)), (0, x5), (0, x6), (0, 1)]) rfl (by unfold w32; omega) rfl ?_
            refine ev_goto f125_5 ?_
            exact ih.1 _ _ _ _ _ _ g1 k1 (by omega) (by omega) (by omega) (by omega) (by omega) (by omega) (by omega) (by omega) (by omega)
        · refine ev_aload_n rfl ?_
          refine g_getp (r := 26) (c := 31) g1 ad26 (by decide) (by decide) rf26_8 ft9_8 ?_
          refine ev_iload rfl ?_
          refine g_iald g1 ad31 rt31 (by omega) (by omega) (fun v2159 ev2159 lv2159 uv2159 => ?_)
          refine ev_aload_n rfl ?_
          refine ev_call (jcall_v (A := []) (S' := [(0, v2159)]) (r := 26) rfl (g1.lt ad26) (g1.tg ad26) (Nat.le_of_ble_eq_true rfl)) (jOk_le (by decide) (s126 g1 )) (by decide) (by decide) (fun w2160 h2160 q2160 => ?_)
          obtain ⟨v2161, rfl, lv2161, uv2161, g2160, kk2160⟩ := q2160
          have k2160 := k1.tr kk2160 (by decide)
          show jEv _ _ _ _ _ _ _ (_, [(2, 26), (0, a1), (0, a2), (0, x3), (0, x4), (0, x5), (0, x6), (0, x7)], [(0, v2161), (0, v2159)], _, _, _)
          refine ev_iload_n rfl ?_
          refine ev_iadd (r := (a2 + v2161)) (by unfold w32; omega) ?_
          refine ev_icmpgt f125_107 (fun c2162 => ?_) (fun c2162 => ?_)
          · refine ev_iconst ?_
            refine ev_goto f125_133 ?_
            refine ev_istore (L' := [(2, 26), (0, a1), (0, a2), (0, x3), (0, x4), (0, x5), (0, x6), (0, 0)]) (Nat.le_of_ble_eq_true rfl) rfl ?_
            refine ev_iload_n rfl ?_
            refine ev_iload rfl ?_
            refine ev_ifeq f125_148 (fun c2163 => ?_) (fun c2163 => absurd c2163 (by omega))
            refine ev_iconst ?_
            refine g_iorB (k := 4) (hi := 15) (by decide) (by decide) (by omega) (by omega) (by omega) (by omega) (fun v2164 ev2164 lv2164 uv2164 => ?_)
            refine ev_istore_n (L' := [(2, 26), (0, a1), (0, a2), (0, v2164), (0, x4), (0, x5), (0, x6), (0, 0)]) (Nat.le_of_ble_eq_true rfl) rfl ?_
            refine ev_iinc (w := (x4 + 1)) (L' := [(2, 26), (0, a1), (0, a2), (0, v2164), (0, (x4 + 1)), (0, x5), (0, x6), (0, 0)]) rfl (by unfold w32; omega) rfl ?_
            refine ev_goto f125_5 ?_
            exact ih.1 _ _ _ _ _ _ g2160 k2160 (by omega) (by omega) (by omega) (by omega) (by omega) (by omega) (by omega) (by omega) (by omega)
          · refine ev_iconst ?_
            refine ev_goto f125_133 ?_
            refine ev_istore (L' := [(2, 26), (0, a1), (0, a2), (0, x3), (0, x4), (0, x5), (0, x6), (0, 1)]) (Nat.le_of_ble_eq_true rfl) rfl ?_
            refine ev_iload_n rfl ?_
            refine ev_iload rfl ?_
            refine ev_ifeq f125_148 (fun c2165 => absurd c2165 (by omega)) (fun c2165 => ?_)
            refine ev_iconst ?_
            refine ev_iload rfl ?_
            refine g_ishlB (a' := 1) (a := 1) (b := 3) (hi := 8) (by omega) (by omega) (by omega) (by omega) (by decide) (by decide) (fun v2166 ev2166 lv2166 uv2166 => ?_)
            refine ev_goto f125_149 ?_
            refine g_iorB (k := 4) (hi := 15) (by decide) (by decide) (by omega) (by omega) (by omega) (by omega) (fun v2167 ev2167 lv2167 uv2167 => ?_)
            refine ev_istore_n (L' := [(2, 26), (0, a1), (0, a2), (0, v2167), (0, x4), (0, x5), (0, x6), (0, 1)]) (Nat.le_of_ble_eq_true rfl) rfl ?_
            refine ev_iinc (w := (x4 + 1)) (L' := [(2, 26), (0, a1), (0, a2), (0, v2167), (0, (x4 + 1)), (0, x5), (0, x6), (0, 1)]) rfl (by unfold w32; omega) rfl ?_
            refine ev_goto f125_5 ?_
            exact ih.1 _ _ _ _ _ _ g2160 k2160 (by omega) (by omega) (by omega) (by omega) (by omega) (by omega) (by omega) (by omega) (by omega)
      · refine ev_aload_n rfl ?_
        refine ev_iload_n rfl ?_
        refine ev_iload rfl ?_
        refine ev_in (d := 1) (a := 0) (b := 0) (cd' := c123_0) (m := 3) (L0 := [(2, 26), (0, a1), (0, x7)]) (jcall_v (A := [(0, x7), (0, a1)]) (S' := []) (r := 26) rfl (g1.lt ad26) (g1.tg ad26) (Nat.le_of_ble_eq_true rfl)) (by decide) ml123 pp123 (Nat.le_of_ble_eq_true rfl) rfl (by decide) (by decide) ?_
        refine ev_iload_n rfl ?_
        refine ev_iconst ?_
        refine ev_aload_n rfl ?_
        refine g_getv (r := 26) (v := v2148) g1 ad26 (by decide) ft9_3 (ev2148) ?_
        refine ev_iconst ?_
        refine ev_isub (r := (v2148 - 1)) (by unfold w32; omega) ?_
        refine ev_iload_n rfl ?_
        refine ev_isub (r := (v2148 + (-x7) - 1)) (by unfold w32; omega) ?_
        refine ev_imul (r := (2 * v2148 + (-2) * x7 - 2)) (by unfold w32; omega) ?_
        refine g_ishrB (a := 63) (by omega) (by omega) (by decide) (fun v2168 ev2168 lv2168 uv2168 => ?_)
        refine ev_iconst ?_
        refine g_iandB (b := 3) (by omega) (by omega) (by decide) (fun v2169 ev2169 lv2169 uv2169 => ?_)
        refine ev_ret rfl (by decide) (by decide) ?_
        show jEv _ _ _ _ _ _ _ (_, [(2, 26), (0, a1), (0, a2), (0, x3), (0, x4), (0, x5), (0, x6), (0, x7)], [(0, v2169)], _, _, _)
        refine ev_iload rfl ?_
        refine ev_icmpne f125_76 (fun c2170 => ?_) (fun c2170 => ?_)
        · refine ev_iinc (w := (x7 + 1)) (L' := [(2, 26), (0, a1), (0, a2), (0, x3), (0, x4), (0, x5), (0, x6), (0, (x7 + 1))]) rfl (by unfold w32; omega) rfl ?_
          refine ev_goto f125_23 ?_
          exact ih.2 _ _ _ _ _ _ g1 k1 (by omega) (by omega) (by omega) (by omega) (by omega) (by omega) (by omega) (by omega) (by omega) (by omega) (by omega) (by omega) (by omega) (by omega) (by omega)
        · refine ev_iload rfl ?_
          refine ev_aload_n rfl ?_
          refine g_getp (r := 26) (c := 28) g1 ad26 (by decide) (by decide) rf26_4 ft9_4 ?_
          refine ev_iload rfl ?_
          refine g_iald g1 ad28 rt28 (by omega) (by omega) (fun v2171 ev2171 lv2171 uv2171 => ?_)
          refine g_iaddG (fun v2172 ev2172 lv2172 uv2172 => ?_)
          refine ev_istore (L' := [(2, 26), (0, a1), (0, a2), (0, x3), (0, x4), (0, v2172), (0, x6), (0, x7)]) (Nat.le_of_ble_eq_true rfl) rfl ?_
          refine ev_iload rfl ?_
          refine ev_aload_n rfl ?_
          refine g_getp (r := 26) (c := 28) g1 ad26 (by decide) (by decide) rf26_4 ft9_4 ?_
          refine ev_iload rfl ?_
          refine g_ialdv (v := v2171) g1 ad28 (by omega) (by omega) (ev2171) ?_
          refine ev_aload_n rfl ?_
          refine g_getp (r := 26) (c := 29) g1 ad26 (by decide) (by decide) rf26_5 ft9_5 ?_
          refine ev_iload rfl ?_
          refine g_iald g1 ad29 rt29 (by omega) (by omega) (fun v2173 ev2173 lv2173 uv2173 => ?_)
          refine g_imulB (a := 9) (b := 99) (a' := 0) (b' := 0) (by omega) (by omega) (by omega) (by omega) (by decide) (lo := 0) (hi := 891) (by decide) (by decide) (fun v2174 ev2174 lv2174 uv2174 => ?_)
          refine g_iaddG (fun v2175 ev2175 lv2175 uv2175 => ?_)
          refine ev_istore (L' := [(2, 26), (0, a1), (0, a2), (0, x3), (0, x4), (0, v2172), (0, v2175), (0, x7)]) (Nat.le_of_ble_eq_true rfl) rfl ?_
          refine ev_iinc (w := (x7 + 1)) (L' := [(2, 26), (0, a1), (0, a2), (0, x3), (0, x4), (0, v2172), (0, v2175), (0, (x7 + 1))]) rfl (by unfold w32; omega) rfl ?_
          refine ev_goto f125_23 ?_
          exact ih.2 _ _ _ _ _ _ g1 k1 (by omega) (by omega) (by omega) (by omega) (by omega) (by omega) (by omega) (by omega) (by omega) (by omega) (by omega) (by omega) (by omega) (by omega) (by omega)
set_option maxHeartbeats 4000000 in
theorem s125 {G : GH} {h : JH} (g : Gd G h) {a1 : Int} (la1 : 0 ≤ a1) (ua1 : a1 ≤ 63) {a2 : Int} (la2 : 0 ≤ a2) (ua2 : a2 ≤ 99) : jOk 3 0 0 125 [(2, 26), (0, a1), (0, a2)] h (PI G [] h 0 0 15) := by
  refine ⟨by decide, by rw [ml125]; exact Nat.le_of_ble_eq_true rfl, ?_⟩
  rw [ml125, pp125]
  show jEv _ none _ c125_0 0 0 _ (c125_0, [(2, 26), (0, a1), (0, a2), (9, 0), (9, 0), (9, 0), (9, 0), (9, 0)], [], h, 0, 0)
  have k0 := Kp.rf [] h
  refine ev_iconst ?_
  refine ev_istore_n (L' := [(2, 26), (0, a1), (0, a2), (0, 0), (9, 0), (9, 0), (9, 0), (9, 0)]) (Nat.le_of_ble_eq_true rfl) rfl ?_
  refine ev_iconst ?_
  refine ev_istore (L' := [(2, 26), (0, a1), (0, a2), (0, 0), (0, 0), (9, 0), (9, 0), (9, 0)]) (Nat.le_of_ble_eq_true rfl) rfl ?_
  exact (s125_l la1 ua1 la2 ua2 80).1 _ _ _ _ _ _ g k0 (by omega) (by omega) (by omega) (by omega) (by omega) (by omega) (by omega) (by omega) (by omega)
/-! 128 doAllKeepTo -/
set_option maxHeartbeats 4000000 in
theorem s128_l {G : GH} {h : JH} {a1 : Int} (la1 : 0 ≤ a1) (ua1 : a1 ≤ 63) {a2 : Int} (la2 : 0 ≤ a2) (ua2 : a2 ≤ 15) : ∀ N : Nat, (∀ (h1 : JH) (x3 : Int) (j4 j5 : AV), Gd G h1 → Kp [] h h1 → 0 ≤ a1 → a1 ≤ 63 → 0 ≤ a2 → a2 ≤ 15 → 0 ≤ x3 → x3 ≤ 3 → ((-10) * x3 + 35) < N → jEv (jOk 1) none (fun _ => 0) c128_0 0 0 (PI G [] h 0 0 1) (c128_2, [(2, 26), (0, a1), (0, a2), (0, x3), j4, j5], [], h1, 0, 0)) ∧ (∀ (h1 : JH) (x3 x4 x5 : Int), Gd G h1 → Kp [] h h1 → 0 ≤ a1 → a1 ≤ 63 → 0 ≤ a2 → a2 ≤ 15 → 0 ≤ x3 → x3 ≤ 2 → (-99) ≤ x4 → x4 ≤ 99 → 0 ≤ x5 → x5 ≤ 4 → ((-10) * x3 + (-x5) + 34) < N → jEv (jOk 1) none (fun _ => 0) c128_0 0 0 (PI G [] h 0 0 1) (c128_27, [(2, 26), (0, a1), (0, a2), (0, x3), (0, x4), (0, x5)], [], h1, 0, 0)) := by
  intro N
  induction N with
  | zero => exact ⟨fun h1 x3 j4 j5 g1 k1 b0 b1 b2 b3 b4 b5 hm => absurd hm (by omega), fun h1 x3 x4 x5 g1 k1 b0 b1 b2 b3 b4 b5 b6 b7 b8 b9 hm => absurd hm (by omega)⟩
  | succ N ih =>
    refine ⟨?_, ?_⟩
    · intro h1 x3 j4 j5 g1 k1 b0 b1 b2 b3 b4 b5 hm
      refine ev_iload_n rfl ?_
      refine ev_aload_n rfl ?_
      obtain ⟨v2285, ev2285, lv2285, uv2285⟩ := g1.rd ad26 (show 3 < 15 by decide) rf26_3
      refine g_getv (r := 26) (v := v2285) g1 ad26 (by decide) ft9_3 ev2285 ?_
      refine ev_icmpge f128_63 (fun c2286 => ?_) (fun c2286 => ?_)
      · refine ev_iconst ?_
        exact ev_ret rfl (by decide) (by decide) ⟨_, rfl, by omega, by omega, g1, k1⟩
      · refine ev_aload_n rfl ?_
        refine ev_iload_n rfl ?_
        refine ev_aload_n rfl ?_
        refine ev_iload_n rfl ?_
        refine ev_iload_n rfl ?_
        refine ev_in (d := 0) (a := 0) (b := 0) (cd' := c123_0) (m := 3) (L0 := [(2, 26), (0, a1), (0, x3)]) (jcall_v (A := [(0, x3), (0, a1)]) (S' := [(0, x3), (2, 26)]) (r := 26) rfl (g1.lt ad26) (g1.tg ad26) (Nat.le_of_ble_eq_true rfl)) (by decide) ml123 pp123 (Nat.le_of_ble_eq_true rfl) rfl (by decide) (by decide) ?_
        refine ev_iload_n rfl ?_
        refine ev_iconst ?_
        refine ev_aload_n rfl ?_
        refine g_getv (r := 26) (v := v2285) g1 ad26 (by decide) ft9_3 (ev2285) ?_
        refine ev_iconst ?_
        refine ev_isub (r := (v2285 - 1)) (by unfold w32; omega) ?_
        refine ev_iload_n rfl ?_
        refine ev_isub (r := (v2285 + (-x3) - 1)) (by unfold w32; omega) ?_
        refine ev_imul (r := (2 * v2285 + (-2) * x3 - 2)) (by unfold w32; omega) ?_
        refine g_ishrB (a := 63) (by omega) (by omega) (by decide) (fun v2287 ev2287 lv2287 uv2287 => ?_)
        refine ev_iconst ?_
        refine g_iandB (b := 3) (by omega) (by omega) (by decide) (fun v2288 ev2288 lv2288 uv2288 => ?_)
        refine ev_ret rfl (by decide) (by decide) ?_
        show jEv _ _ _ _ _ _ _ (_, [(2, 26), (0, a1), (0, a2), (0, x3), j4, j5], [(0, v2288), (0, x3), (2, 26)], _, _, _)
        refine ev_iload_n rfl ?_
        refine ev_in (d := 0) (a := 0) (b := 0) (cd' := c127_0) (m := 4) (L0 := [(2, 26), (0, x3), (0, v2288), (0, a2)]) (jcall_v (A := [(0, a2), (0, v2288), (0, x3)]) (S' := []) (r := 26) rfl (g1.lt ad26) (g1.tg ad26) (Nat.le_of_ble_eq_true rfl)) (by decide) ml127 pp127 (Nat.le_of_ble_eq_true rfl) rfl (by decide) (by decide) ?_
        refine ev_iload_n rfl ?_
        refine ev_iload_n rfl ?_
        refine g_ishrB (a := 15) (by omega) (by omega) (by decide) (fun v2289 ev2289 lv2289 uv2289 => ?_)
        refine ev_iconst ?_
        refine g_iandB (b := 1) (by omega) (by omega) (by decide) (fun v2290 ev2290 lv2290 uv2290 => ?_)
        refine ev_iconst ?_
        refine ev_icmpne f127_18 (fun c2291 => ?_) (fun c2291 => ?_)
        · refine ev_aload_n rfl ?_
          refine g_getp (r := 26) (c := 29) g1 ad26 (by decide) (by decide) rf26_5 ft9_5 ?_
          refine ev_iload_n rfl ?_
          refine g_iald g1 ad29 rt29 (by omega) (by omega) (fun v2292 ev2292 lv2292 uv2292 => ?_)
          refine ev_aload_n rfl ?_
          refine g_getp (r := 26) (c := 30) g1 ad26 (by decide) (by decide) rf26_6 ft9_6 ?_
          refine ev_iload_n rfl ?_
          refine g_iald g1 ad30 rt30 (by omega) (by omega) (fun v2293 ev2293 lv2293 uv2293 => ?_)
          refine ev_isub (r := (v2292 + (-v2293))) (by unfold w32; omega) ?_
          refine ev_ret rfl (by decide) (by decide) ?_
          show jEv _ _ _ _ _ _ _ (_, [(2, 26), (0, a1), (0, a2), (0, x3), j4, j5], [(0, (v2292 + (-v2293)))], _, _, _)
          refine ev_istore (L' := [(2, 26), (0, a1), (0, a2), (0, x3), (0, (v2292 + (-v2293))), j5]) (Nat.le_of_ble_eq_true rfl) rfl ?_
          refine ev_iconst ?_
          refine ev_istore (L' := [(2, 26), (0, a1), (0, a2), (0, x3), (0, (v2292 + (-v2293))), (0, 0)]) (Nat.le_of_ble_eq_true rfl) rfl ?_
          exact ih.2 _ _ _ _ g1 k1 (by omega) (by omega) (by omega) (by omega) (by omega) (by omega) (by omega) (by omega) (by omega) (by omega) (by omega)
        · refine ev_aload_n rfl ?_
          refine g_getp (r := 26) (c := 31) g1 ad26 (by decide) (by decide) rf26_8 ft9_8 ?_
          refine ev_iload_n rfl ?_
          refine g_iald g1 ad31 rt31 (by omega) (by omega) (fun v2294 ev2294 lv2294 uv2294 => ?_)
          refine ev_goto f127_31 ?_
          refine ev_ret rfl (by decide) (by decide) ?_
          show jEv _ _ _ _ _ _ _ (_, [(2, 26), (0, a1), (0, a2), (0, x3), j4, j5], [(0, v2294)], _, _, _)
          refine ev_istore (L' := [(2, 26), (0, a1), (0, a2), (0, x3), (0, v2294), j5]) (Nat.le_of_ble_eq_true rfl) rfl ?_
          refine ev_iconst ?_
          refine ev_istore (L' := [(2, 26), (0, a1), (0, a2), (0, x3), (0, v2294), (0, 0)]) (Nat.le_of_ble_eq_true rfl) rfl ?_
          exact ih.2 _ _ _ _ g1 k1 (by omega) (by omega) (by omega) (by omega) (by omega) (by omega) (by omega) (by omega) (by omega) (by omega) (by omega)
    · intro h1 x3 x4 x5 g1 k1 b0 b1 b2 b3 b4 b5 b6 b7 b8 b9 hm
      refine ev_iload rfl ?_
      refine ev_aload_n rfl ?_
      obtain ⟨v2295, ev2295, lv2295, uv2295⟩ := g1.rd ad26 (show 7 < 15 by decide) rf26_7
      refine g_getv (r := 26) (v := v2295) g1 ad26 (by decide) ft9_7 ev2295 ?_
      refine ev_icmpge f128_57 (fun c2296 => ?_) (fun c2296 => ?_)
      · refine ev_iinc (w := (x3 + 1)) (L' := [(2, 26), (0, a1), (0, a2), (0, (x3 + 1)), (0, x4), (0, x5)]) rfl (by unfold w32; omega) rfl ?_
        refine ev_goto f128_2 ?_
        exact ih.1 _ _ _ _ g1 k1 (by omega) (by omega) (by omega) (by omega) (by omega) (by omega) (by omega)
      · refine ev_aload_n rfl ?_
        refine ev_iload_n rfl ?_
        refine ev_iload rfl ?_
        refine ev_iload_n rfl ?_
        refine ev_in (d := 0) (a := 0) (b := 0) (cd' := c127_0) (m := 4) (L0 := [(2, 26), (0, x3), (0, x5), (0, a2)]) (jcall_v (A := [(0, a2), (0, x5), (0, x3)]) (S' := []) (r := 26) rfl (g1.lt ad26) (g1.tg ad26) (Nat.le_of_ble_eq_true rfl)) (by decide) ml127 pp127 (Nat.le_of_ble_eq_true rfl) rfl (by decide) (by decide) ?_
        refine ev_iload_n rfl ?_
        refine ev_iload_n rfl ?_
        refine g_ishrB (a := 15) (by omega) (by omega) (by decide) (fun v2297 ev2297 lv2297 uv2297 => ?_)
        refine ev_iconst ?_
        refine g_iandB (b := 1) (by omega) (by omega) (by decide) (fun v2298 ev2298 lv2298 uv2298 => ?_)
        refine ev_iconst ?_
        refine ev_icmpne f127_18 (fun c2299 => ?_) (fun c2299 => ?_)
        · refine ev_aload_n rfl ?_
          refine g_getp (r := 26) (c := 29) g1 ad26 (by decide) (by decide) rf26_5 ft9_5 ?_
          refine ev_iload_n rfl ?_
          refine g_iald g1 ad29 rt29 (by omega) (by omega) (fun v2300 ev2300 lv2300 uv2300 => ?_)
          refine ev_aload_n rfl ?_
          refine g_getp (r := 26) (c := 30) g1 ad26 (by decide) (by decide) rf26_6 ft9_6 ?_
          refine ev_iload_n rfl ?_
          refine g_iald g1 ad30 rt30 (by omega) (by omega) (fun v2301 ev2301 lv2301 uv2301 => ?_)
          refine ev_isub (r := (v2300 + (-v2301))) (by unfold w32; omega) ?_
          refine ev_ret rfl (by decide) (by decide) ?_
          show jEv _ _ _ _ _ _ _ (_, [(2, 26), (0, a1), (0, a2), (0, x3), (0, x4), (0, x5)], [(0, (v2300 + (-v2301)))], _, _, _)
          refine ev_iload rfl ?_
          refine ev_icmple f128_51 (fun c2302 => ?_) (fun c2302 => ?_)
          · refine ev_iinc (w := (x5 + 1)) (L' := [(2, 26), (0, a1), (0, a2), (0, x3), (0, x4), (0, (x5 + 1))]) rfl (by unfold w32; omega) rfl ?_
            refine ev_goto f128_27 ?_
            exact ih.2 _ _ _ _ g1 k1 (by omega) (by omega) (by omega) (by omega) (by omega) (by omega) (by omega) (by omega) (by omega) (by omega) (by omega)
          · refine ev_iconst ?_
            exact ev_ret rfl (by decide) (by decide) ⟨_, rfl, by omega, by omega, g1, k1⟩
        · refine ev_aload_n rfl ?_
          refine g_getp (r := 26) (c := 31) g1 ad26 (by decide) (by decide) rf26_8 ft9_8 ?_
          refine ev_iload_n rfl ?_
          refine g_iald g1 ad31 rt31 (by omega) (by omega) (fun v2303 ev2303 lv2303 uv2303 => ?_)
          refine ev_goto f127_31 ?_
          refine ev_ret rfl (by decide) (by decide) ?_
          show jEv _ _ _ _ _ _ _ (_, [(2, 26), (0, a1), (0, a2), (0, x3), (0, x4), (0, x5)], [(0, v2303)], _, _, _)
          refine ev_iload rfl ?_
          refine ev_icmple f128_51 (fun c2304 => ?_) (fun c2304 => ?_)
          · refine ev_iinc (w := (x5 + 1)) (L' := [(2, 26), (0, a1), (0, a2), (0, x3), (0, x4), (0, (x5 + 1))]) rfl (by unfold w32; omega) rfl ?_
            refine ev_goto f128_27 ?_
            exact ih.2 _ _ _ _ g1 k1 (by omega) (by omega) (by omega) (by omega) (by omega) (by omega) (by omega) (by omega) (by omega) (by omega) (by omega)
          · refine ev_iconst ?_
            exact ev_ret rfl (by decide) (by decide) ⟨_, rfl, by omega, by omega, g1, k1⟩
set_option maxHeartbeats 4000000 in
theorem s128 {G : GH} {h : JH} (g : Gd G h) {a1 : Int} (la1 : 0 ≤ a1) (ua1 : a1 ≤ 63) {a2 : Int} (la2 : 0 ≤ a2) (ua2 : a2 ≤ 15) : jOk 2 0 0 128 [(2, 26), (0, a1), (0, a2)] h (PI G [] h 0 0 1) := by
  refine ⟨by decide, by rw [ml128]; exact Nat.le_of_ble_eq_true rfl, ?_⟩
  rw [ml128, pp128]
  show jEv _ none _ c128_0 0 0 _ (c128_0, [(2, 26), (0, a1), (0, a2), (9, 0), (9, 0), (9, 0)], [], h, 0, 0)
  have k0 := Kp.rf [] h
  refine ev_iconst ?_
  refine ev_istore_n (L' := [(2, 26), (0, a1), (0, a2), (0, 0), (9, 0), (9, 0)]) (Nat.le_of_ble_eq_true rfl) rfl ?_
  exact (s128_l la1 ua1 la2 ua2 80).1 _ _ _ _ g k0 (by omega) (by omega) (by omega) (by omega) (by omega) (by omega) (by omega)
/-! 122 profiles -/
set_option maxHeartbeats 4000000 in
theorem s122_l {G : GH} {h : JH} {a1 : Int} (la1 : 0 ≤ a1) (ua1 : a1 ≤ 99) {a2 : Int} (la2 : 0 ≤ a2) (ua2 : a2 ≤ 2) : ∀ N : Nat, (∀ (h1 : JH) (x3 x4 : Int) (j5 : AV), Gd G h1 → Kp [] h h1 → 0 ≤ a1 → a1 ≤ 99 → 0 ≤ a2 → a2 ≤ 2 → (-2147483648) ≤ x3 → x3 ≤ 2147483647 → 0 ≤ x4 → x4 ≤ 64 → ((-x4) + 64) < N → jEv (jOk 3) none (fun _ => 0) c122_0 0 0 (PI G [] h 0 (-2147483648) 2147483647) (c122_22, [(2, 26), (0, a1), (0, a2), (0, x3), (0, x4), j5], [], h1, 0, 0)) := by
  intro N
  induction N with
  | zero => exact fun h1 x3 x4 j5 g1 k1 b0 b1 b2 b3 b4 b5 b6 b7 hm => absurd hm (by omega)
  | succ N ih =>
    show _
    intro h1 x3 x4 j5 g1 k1 b0 b1 b2 b3 b4 b5 b6 b7 hm
    refine ev_iload rfl ?_
    refine ev_iconst ?_
    refine ev_iconst ?_
    refine ev_aload_n rfl ?_
    obtain ⟨v3365, ev3365, lv3365, uv3365⟩ := g1.rd ad26 (show 3 < 15 by decide) rf26_3
    refine g_getv (r := 26) (v := v3365) g1 ad26 (by decide) ft9_3 ev3365 ?_
    refine ev_imul (r := (2 * v3365)) (by unfold w32; omega) ?_
    refine g_ishlB (a' := 1) (a := 1) (b := 6) (hi := 64) (by omega) (by omega) (by omega) (by omega) (by decide) (by decide) (fun v3366 ev3366 lv3366 uv3366 => ?_)
    refine ev_icmpge f122_90 (fun c3367 => ?_) (fun c3367 => ?_)
    · refine ev_iload_n rfl ?_
      refine ev_ifne f122_98 (fun c3368 => ?_) (fun c3368 => ?_)
      · refine ev_bipush ?_
        exact ev_ret rfl (by decide) (by decide) ⟨_, rfl, by omega, by omega, g1, k1⟩
      · refine ev_iload_n rfl ?_
        refine ev_goto f122_100 ?_
        exact ev_ret rfl (by decide) (by decide) ⟨_, rfl, by omega, by omega, g1, k1⟩
    · refine ev_aload_n rfl ?_
      refine ev_iload rfl ?_
      refine ev_call (jcall_v (A := [(0, x4)]) (S' := []) (r := 26) rfl (g1.lt ad26) (g1.tg ad26) (Nat.le_of_ble_eq_true rfl)) (jOk_le (by decide) (s124 g1 (by omega) (by omega))) (by decide) (by decide) (fun w3369 h3369 q3369 => ?_)
      obtain ⟨v3370, rfl, lv3370, uv3370, g3369, kk3369⟩ := q3369
      have k3369 := k1.tr kk3369 (by decide)
      show jEv _ _ _ _ _ _ _ (_, [(2, 26), (0, a1), (0, a2), (0, x3), (0, x4), j5], [(0, v3370)], _, _, _)
      refine ev_ifeq f122_84 (fun c3371 => ?_) (fun c3371 => ?_)
      · refine ev_iinc (w := (x4 + 1)) (L' := [(2, 26), (0, a1), (0, a2), (0, x3), (0, (x4 + 1)), j5]) rfl (by unfold w32; omega) rfl ?_
        refine ev_goto f122_22 ?_
        exact ih _ _ _ _ g3369 k3369 (by omega) (by omega) (by omega) (by omega) (by omega) (by omega) (by omega) (by omega) (by omega)
      · refine ev_aload_n rfl ?_
        refine ev_iload rfl ?_
        refine ev_iload_n rfl ?_
        refine ev_call (jcall_v (A := [(0, a1), (0, x4)]) (S' := []) (r := 26) rfl (g3369.lt ad26) (g3369.tg ad26) (Nat.le_of_ble_eq_true rfl)) (jOk_le (by decide) (s125 g3369 (by omega) (by omega) (by omega) (by omega))) (by decide) (by decide) (fun w3372 h3372 q3372 => ?_)
        obtain ⟨v3373, rfl, lv3373, uv3373, g3372, kk3372⟩ := q3372
        have k3372 := k3369.tr kk3372 (by decide)
        show jEv _ _ _ _ _ _ _ (_, [(2, 26), (0, a1), (0, a2), (0, x3), (0, x4), j5], [(0, v3373)], _, _, _)
        refine ev_istore (L' := [(2, 26), (0, a1), (0, a2), (0, x3), (0, x4), (0, v3373)]) (Nat.le_of_ble_eq_true rfl) rfl ?_
        refine ev_aload_n rfl ?_
        refine ev_iload rfl ?_
        refine ev_iload rfl ?_
        refine ev_call (jcall_v (A := [(0, v3373), (0, x4)]) (S' := []) (r := 26) rfl (g3372.lt ad26) (g3372.tg ad26) (Nat.le_of_ble_eq_true rfl)) (jOk_le (by decide) (s128 g3372 (by omega) (by omega) (by omega) (by omega))) (by decide) (by decide) (fun w3374 h3374 q3374 => ?_)
        obtain ⟨v3375, rfl, lv3375, uv3375, g3374, kk3374⟩ := q3374
        have k3374 := k3372.tr kk3374 (by decide)
        show jEv _ _ _ _ _ _ _ (_, [(2, 26), (0, a1), (0, a2), (0, x3), (0, x4), (0, v3373)], [(0, v3375)], _, _, _)
        refine ev_ifeq f122_84 (fun c3376 => ?_) (fun c3376 => ?_)
        · refine ev_iinc (w := (x4 + 1)) (L' := [(2, 26), (0, a1), (0, a2), (0, x3), (0, (x4 + 1)), (0, v3373)]) rfl (by unfold w32; omega) rfl ?_
          refine ev_goto f122_22 ?_
          exact ih _ _ _ _ g3374 k3374 (by omega) (by omega) (by omega) (by omega) (by omega) (by omega) (by omega) (by omega) (by omega)
        · refine ev_iload_n rfl ?_
          refine ev_ifle f122_81 (fun c3377 => ?_) (fun c3377 => ?_)
          · refine g_iincG (f := fun w => [(2, 26), (0, a1), (0, a2), (0, w), (0, x4), (0, v3373)]) rfl (fun _ => rfl) (fun v3378 ev3378 lv3378 uv3378 => ?_)
            refine ev_iinc (w := (x4 + 1)) (L' := [(2, 26), (0, a1), (0, a2), (0, v3378), (0, (x4 + 1)), (0, v3373)]) rfl (by unfold w32; omega) rfl ?_
            refine ev_goto f122_22 ?_
            exact ih _ _ _ _ g3374 k3374 (by omega) (by omega) (by omega) (by omega) (by omega) (by omega) (by omega) (by omega) (by omega)
          · refine ev_iload_n rfl ?_
            refine ev_iconst ?_
            refine ev_icmpne f122_78 (fun c3379 => ?_) (fun c3379 => ?_)
            · refine ev_iload rfl ?_
              exact ev_ret rfl (by decide) (by decide) ⟨_, rfl, by omega, by omega, g3374, k3374⟩
            · refine ev_iload rfl ?_
              refine ev_goto f122_80 ?_
              exact ev_ret rfl (by decide) (by decide) ⟨_, rfl, by omega, by omega, g3374, k3374⟩
set_option maxHeartbeats 4000000 in
theorem s122 {G : GH} {h : JH} (g : Gd G h) {a1 : Int} (la1 : 0 ≤ a1) (ua1 : a1 ≤ 99) {a2 : Int} (la2 : 0 ≤ a2) (ua2 : a2 ≤ 2) : jOk 4 0 0 122 [(2, 26), (0, a1), (0, a2)] h (PI G [] h 0 (-2147483648) 2147483647) := by
  refine ⟨by decide, by rw [ml122]; exact Nat.le_of_ble_eq_true rfl, ?_⟩
  rw [ml122, pp122]
  show jEv _ none _ c122_0 0 0 _ (c122_0, [(2, 26), (0, a1), (0, a2), (9, 0), (9, 0), (9, 0)], [], h, 0, 0)
  have k0 := Kp.rf [] h
  refine ev_aload_n rfl ?_
  obtain ⟨v3380, ev3380, lv3380, uv3380⟩ := g.rd ad26 (show 3 < 15 by decide) rf26_3
  refine g_getv (r := 26) (v := v3380) g ad26 (by decide) ft9_3 ev3380 ?_
  refine ev_ifeq f122_14 (fun c3381 => ?_) (fun c3381 => ?_)
  · refine ev_bipush ?_
    exact ev_ret rfl (by decide) (by decide) ⟨_, rfl, by omega, by omega, g, k0⟩
  · refine ev_aload_n rfl ?_
    obtain ⟨v3382, ev3382, lv3382, uv3382⟩ := g.rd ad26 (show 7 < 15 by decide) rf26_7
    refine g_getv (r := 26) (v := v3382) g ad26 (by decide) ft9_7 ev3382 ?_
    refine ev_ifne f122_17 (fun c3383 => ?_) (fun c3383 => ?_)
    · refine ev_iconst ?_
      refine ev_istore_n (L' := [(2, 26), (0, a1), (0, a2), (0, 0), (9, 0), (9, 0)]) (Nat.le_of_ble_eq_true rfl) rfl ?_
      refine ev_iconst ?_
      refine ev_istore (L' := [(2, 26), (0, a1), (0, a2), (0, 0), (0, 0), (9, 0)]) (Nat.le_of_ble_eq_true rfl) rfl ?_
      exact (s122_l la1 ua1 la2 ua2 130) _ _ _ _ g k0 (by omega) (by omega) (by omega) (by omega) (by omega) (by omega) (by omega) (by omega) (by omega)
    · refine ev_bipush ?_
      exact ev_ret rfl (by decide) (by decide) ⟨_, rfl, by omega, by omega, g, k0⟩
/-! 131 effortFor -/
set_option maxHeartbeats 4000000 in
theorem s131_l {G : GH} {h : JH} {a1 : Int} (la1 : 0 ≤ a1) (ua1 : a1 ≤ 999) {a2 : Int} (la2 : 0 ≤ a2) (ua2 : a2 ≤ 100) : ∀ N : Nat, (∀ (h1 : JH) (x3 x4 x5 : Int) (j6 : AV), Gd G h1 → Kp [] h h1 → 0 ≤ a1 → a1 ≤ 999 → 0 ≤ a2 → a2 ≤ 100 → 0 ≤ x3 → x3 ≤ 3 → (-990000) ≤ x4 → x4 ≤ 9990000 → 0 ≤ x5 → x5 ≤ 4 → ((-x5) + 4) < N → jEv (jOk 0) none (fun _ => 0) c131_0 0 0 (PI G [] h 0 0 3) (c131_8, [(2, 26), (0, a1), (0, a2), (0, x3), (0, x4), (0, x5), j6], [], h1, 0, 0)) := by
  intro N
  induction N with
  | zero => exact fun h1 x3 x4 x5 j6 g1 k1 b0 b1 b2 b3 b4 b5 b6 b7 b8 b9 hm => absurd hm (by omega)
  | succ N ih =>
    show _
    intro h1 x3 x4 x5 j6 g1 k1 b0 b1 b2 b3 b4 b5 b6 b7 b8 b9 hm
    refine ev_iload rfl ?_
    refine ev_aload_n rfl ?_
    obtain ⟨v3431, ev3431, lv3431, uv3431⟩ := g1.rd ad26 (show 9 < 15 by decide) rf26_9
    refine g_getv (r := 26) (v := v3431) g1 ad26 (by decide) ft9_9 ev3431 ?_
    refine ev_icmpge f131_67 (fun c3432 => ?_) (fun c3432 => ?_)
    · refine ev_iload_n rfl ?_
      exact ev_ret rfl (by decide) (by decide) ⟨_, rfl, by omega, by omega, g1, k1⟩
    · refine ev_iload_n rfl ?_
      refine ev_iload_n rfl ?_
      refine g_imulB (a := 100) (b := 999) (a' := 0) (b' := 0) (by omega) (by omega) (by omega) (by omega) (by decide) (lo := 0) (hi := 99900) (by decide) (by decide) (fun v3433 ev3433 lv3433 uv3433 => ?_)
      refine ev_aload_n rfl ?_
      refine g_getp (r := 26) (c := 33) g1 ad26 (by decide) (by decide) rf26_11 ft9_11 ?_
      refine ev_iload rfl ?_
      refine g_iald g1 ad33 rt33 (by omega) (by omega) (fun v3434 ev3434 lv3434 uv3434 => ?_)
      refine g_imulB (a := 99900) (b := 100) (a' := 0) (b' := 0) (by omega) (by omega) (by omega) (by omega) (by decide) (lo := 0) (hi := 9990000) (by decide) (by decide) (fun v3435 ev3435 lv3435 uv3435 => ?_)
      refine ev_sipush ?_
      refine ev_aload_n rfl ?_
      refine g_getp (r := 26) (c := 32) g1 ad26 (by decide) (by decide) rf26_10 ft9_10 ?_
      refine ev_iload rfl ?_
      refine g_iald g1 ad32 rt32 (by omega) (by omega) (fun v3436 ev3436 lv3436 uv3436 => ?_)
      refine ev_imul (r := (10000 * v3436)) (by unfold w32; omega) ?_
      refine ev_isub (r := (v3435 + (-10000) * v3436)) (by unfold w32; omega) ?_
      refine ev_istore (L' := [(2, 26), (0, a1), (0, a2), (0, x3), (0, x4), (0, x5), (0, (v3435 + (-10000) * v3436))]) (Nat.le_of_ble_eq_true rfl) rfl ?_
      refine ev_iload rfl ?_
      refine ev_ifeq f131_54 (fun c3437 => ?_) (fun c3437 => ?_)
      · refine ev_iload rfl ?_
        refine ev_istore (L' := [(2, 26), (0, a1), (0, a2), (0, x3), (0, (v3435 + (-10000) * v3436)), (0, x5), (0, (v3435 + (-10000) * v3436))]) (Nat.le_of_ble_eq_true rfl) rfl ?_
        refine ev_iload rfl ?_
        refine ev_istore_n (L' := [(2, 26), (0, a1), (0, a2), (0, x5), (0, (v3435 + (-10000) * v3436)), (0, x5), (0, (v3435 + (-10000) * v3436))]) (Nat.le_of_ble_eq_true rfl) rfl ?_
        refine ev_iinc (w := (x5 + 1)) (L' := [(2, 26), (0, a1), (0, a2), (0, x5), (0, (v3435 + (-10000) * v3436)), (0, (x5 + 1)), (0, (v3435 + (-10000) * v3436))]) rfl (by unfold w32; omega) rfl ?_
        refine ev_goto f131_8 ?_
        exact ih _ _ _ _ _ g1 k1 (by omega) (by omega) (by omega) (by omega) (by omega) (by omega) (by omega) (by omega) (by omega) (by omega) (by omega)
      · refine ev_iload rfl ?_
        refine ev_iload rfl ?_
        refine ev_icmple f131_61 (fun c3438 => ?_) (fun c3438 => ?_)
        · refine ev_iinc (w := (x5 + 1)) (L' := [(2, 26), (0, a1), (0, a2), (0, x3), (0, x4), (0, (x5 + 1)), (0, (v3435 + (-10000) * v3436))]) rfl (by unfold w32; omega) rfl ?_
          refine ev_goto f131_8 ?_
          exact ih _ _ _ _ _ g1 k1 (by omega) (by omega) (by omega) (by omega) (by omega) (by omega) (by omega) (by omega) (by omega) (by omega) (by omega)
        · refine ev_iload rfl ?_
          refine ev_istore (L' := [(2, 26), (0, a1), (0, a2), (0, x3), (0, (v3435 + (-10000) * v3436)), (0, x5), (0, (v3435 + (-10000) * v3436))]) (Nat.le_of_ble_eq_true rfl) rfl ?_
          refine ev_iload rfl ?_
          refine ev_istore_n (L' := [(2, 26), (0, a1), (0, a2), (0, x5), (0, (v3435 + (-10000) * v3436)), (0, x5), (0, (v3435 + (-10000) * v3436))]) (Nat.le_of_ble_eq_true rfl) rfl ?_
          refine ev_iinc (w := (x5 + 1)) (L' := [(2, 26), (0, a1), (0, a2), (0, x5), (0, (v3435 + (-10000) * v3436)), (0, (x5 + 1)), (0, (v3435 + (-10000) * v3436))]) rfl (by unfold w32; omega) rfl ?_
          refine ev_goto f131_8 ?_
          exact ih _ _ _ _ _ g1 k1 (by omega) (by omega) (by omega) (by omega) (by omega) (by omega) (by omega) (by omega) (by omega) (by omega) (by omega)
set_option maxHeartbeats 4000000 in
theorem s131 {G : GH} {h : JH} (g : Gd G h) {a1 : Int} (la1 : 0 ≤ a1) (ua1 : a1 ≤ 999) {a2 : Int} (la2 : 0 ≤ a2) (ua2 : a2 ≤ 100) : jOk 1 0 0 131 [(2, 26), (0, a1), (0, a2)] h (PI G [] h 0 0 3) := by
  refine ⟨by decide, by rw [ml131]; exact Nat.le_of_ble_eq_true rfl, ?_⟩
  rw [ml131, pp131]
  show jEv _ none _ c131_0 0 0 _ (c131_0, [(2, 26), (0, a1), (0, a2), (9, 0), (9, 0), (9, 0), (9, 0)], [], h, 0, 0)
  have k0 := Kp.rf [] h
  refine ev_iconst ?_
  refine ev_istore_n (L' := [(2, 26), (0, a1), (0, a2), (0, 0), (9, 0), (9, 0), (9, 0)]) (Nat.le_of_ble_eq_true rfl) rfl ?_
  refine ev_iconst ?_
  refine ev_istore (L' := [(2, 26), (0, a1), (0, a2), (0, 0), (0, 0), (9, 0), (9, 0)]) (Nat.le_of_ble_eq_true rfl) rfl ?_
  refine ev_iconst ?_
  refine ev_istore (L' := [(2, 26), (0, a1), (0, a2), (0, 0), (0, 0), (0, 0), (9, 0)]) (Nat.le_of_ble_eq_true rfl) rfl ?_
  exact (s131_l la1 ua1 la2 ua2 10) _ _ _ _ _ g k0 (by omega) (by omega) (by omega) (by omega) (by omega) (by omega) (by omega) (by omega) (by omega) (by omega) (by omega)
/-! 132 leftOver -/
set_option maxHeartbeats 4000000 in
theorem s132 {G : GH} {h : JH} (g : Gd G h) {a1 : Int} (la1 : 0 ≤ a1) (ua1 : a1 ≤ 999) {a2 : Int} (la2 : 0 ≤ a2) (ua2 : a2 ≤ 100) : jOk 2 0 0 132 [(2, 26), (0, a1), (0, a2)] h (PI G [] h 0 0 9990000) := by
  refine ⟨by decide, by rw [ml132]; exact Nat.le_of_ble_eq_true rfl, ?_⟩
  rw [ml132, pp132]
  show jEv _ none _ c132_0 0 0 _ (c132_0, [(2, 26), (0, a1), (0, a2)], [], h, 0, 0)
  have k0 := Kp.rf [] h
  refine ev_bipush ?_
  refine ev_iload_n rfl ?_
  refine ev_isub (r := ((-a2) + 100)) (by unfold w32; omega) ?_
  refine ev_iload_n rfl ?_
  refine g_imulB (a := 100) (b := 999) (a' := 0) (b' := 0) (by omega) (by omega) (by omega) (by omega) (by decide) (lo := 0) (hi := 99900) (by decide) (by decide) (fun v3449 ev3449 lv3449 uv3449 => ?_)
  refine ev_aload_n rfl ?_
  refine g_getp (r := 26) (c := 33) g ad26 (by decide) (by decide) rf26_11 ft9_11 ?_
  refine ev_aload_n rfl ?_
  refine ev_iload_n rfl ?_
  refine ev_iload_n rfl ?_
  refine ev_call (jcall_v (A := [(0, a2), (0, a1)]) (S' := [(2, 33), (0, v3449)]) (r := 26) rfl (g.lt ad26) (g.tg ad26) (Nat.le_of_ble_eq_true rfl)) (jOk_le (by decide) (s131 g (by omega) (by omega) (by omega) (by omega))) (by decide) (by decide) (fun w3450 h3450 q3450 => ?_)
  obtain ⟨v3451, rfl, lv3451, uv3451, g3450, kk3450⟩ := q3450
  have k3450 := k0.tr kk3450 (by decide)
  show jEv _ _ _ _ _ _ _ (_, [(2, 26), (0, a1), (0, a2)], [(0, v3451), (2, 33), (0, v3449)], _, _, _)
  refine g_iald g3450 ad33 rt33 (by omega) (by omega) (fun v3452 ev3452 lv3452 uv3452 => ?_)
  refine g_imulB (a := 99900) (b := 100) (a' := 0) (b' := 0) (by omega) (by omega) (by omega) (by omega) (by decide) (lo := 0) (hi := 9990000) (by decide) (by decide) (fun v3453 ev3453 lv3453 uv3453 => ?_)
  exact ev_ret rfl (by decide) (by decide) ⟨_, rfl, by omega, by omega, g3450, k3450⟩
/-! 133 bestShare -/
set_option maxHeartbeats 4000000 in
theorem s133_l {G : GH} {h : JH} {a1 : Int} (la1 : 0 ≤ a1) (ua1 : a1 ≤ 999) : ∀ N : Nat, (∀ (h1 : JH) (x2 x3 : Int), Gd G h1 → Kp [] h h1 → 0 ≤ a1 → a1 ≤ 999 → 0 ≤ x2 → x2 ≤ 100 → 1 ≤ x3 → x3 ≤ 101 → ((-x3) + 101) < N → jEv (jOk 2) none (fun _ => 0) c133_0 0 0 (PI G [] h 0 0 100) (c133_4, [(2, 26), (0, a1), (0, x2), (0, x3)], [], h1, 0, 0)) := by
  intro N
  induction N with
  | zero => exact fun h1 x2 x3 g1 k1 b0 b1 b2 b3 b4 b5 hm => absurd hm (by omega)
  | succ N ih =>
    show _
    intro h1 x2 x3 g1 k1 b0 b1 b2 b3 b4 b5 hm
    refine ev_iload_n rfl ?_
    refine ev_bipush ?_
    refine ev_icmpgt f133_33 (fun c3688 => ?_) (fun c3688 => ?_)
    · refine ev_iload_n rfl ?_
      exact ev_ret rfl (by decide) (by decide) ⟨_, rfl, by omega, by omega, g1, k1⟩
    · refine ev_aload_n rfl ?_
      refine ev_iload_n rfl ?_
      refine ev_iload_n rfl ?_
      refine ev_call (jcall_v (A := [(0, x3), (0, a1)]) (S' := []) (r := 26) rfl (g1.lt ad26) (g1.tg ad26) (Nat.le_of_ble_eq_true rfl)) (jOk_le (by decide) (s132 g1 (by omega) (by omega) (by omega) (by omega))) (by decide) (by decide) (fun w3689 h3689 q3689 => ?_)
      obtain ⟨v3690, rfl, lv3690, uv3690, g3689, kk3689⟩ := q3689
      have k3689 := k1.tr kk3689 (by decide)
      show jEv _ _ _ _ _ _ _ (_, [(2, 26), (0, a1), (0, x2), (0, x3)], [(0, v3690)], _, _, _)
      refine ev_aload_n rfl ?_
      refine ev_iload_n rfl ?_
      refine ev_iload_n rfl ?_
      refine ev_call (jcall_v (A := [(0, x2), (0, a1)]) (S' := [(0, v3690)]) (r := 26) rfl (g3689.lt ad26) (g3689.tg ad26) (Nat.le_of_ble_eq_true rfl)) (jOk_le (by decide) (s132 g3689 (by omega) (by omega) (by omega) (by omega))) (by decide) (by decide) (fun w3691 h3691 q3691 => ?_)
      obtain ⟨v3692, rfl, lv3692, uv3692, g3691, kk3691⟩ := q3691
      have k3691 := k3689.tr kk3691 (by decide)
      show jEv _ _ _ _ _ _ _ (_, [(2, 26), (0, a1), (0, x2), (0, x3)], [(0, v3692), (0, v3690)], _, _, _)
      refine ev_icmple f133_27 (fun c3693 => ?_) (fun c3693 => ?_)
      · refine ev_iinc (w := (x3 + 1)) (L' := [(2, 26), (0, a1), (0, x2), (0, (x3 + 1))]) rfl (by unfold w32; omega) rfl ?_
        refine ev_goto f133_4 ?_
        exact ih _ _ _ g3691 k3691 (by omega) (by omega) (by omega) (by omega) (by omega) (by omega) (by omega)
      · refine ev_iload_n rfl ?_
        refine ev_istore_n (L' := [(2, 26), (0, a1), (0, x3), (0, x3)]) (Nat.le_of_ble_eq_true rfl) rfl ?_
        refine ev_iinc (w := (x3 + 1)) (L' := [(2, 26), (0, a1), (0, x3), (0, (x3 + 1))]) rfl (by unfold w32; omega) rfl ?_
        refine ev_goto f133_4 ?_
        exact ih _ _ _ g3691 k3691 (by omega) (by omega) (by omega) (by omega) (by omega) (by omega) (by omega)
set_option maxHeartbeats 4000000 in
theorem s133 {G : GH} {h : JH} (g : Gd G h) {a1 : Int} (la1 : 0 ≤ a1) (ua1 : a1 ≤ 999) : jOk 3 0 0 133 [(2, 26), (0, a1)] h (PI G [] h 0 0 100) := by
  refine ⟨by decide, by rw [ml133]; exact Nat.le_of_ble_eq_true rfl, ?_⟩
  rw [ml133, pp133]
  show jEv _ none _ c133_0 0 0 _ (c133_0, [(2, 26), (0, a1), (9, 0), (9, 0)], [], h, 0, 0)
  have k0 := Kp.rf [] h
  refine ev_iconst ?_
  refine ev_istore_n (L' := [(2, 26), (0, a1), (0, 0), (9, 0)]) (Nat.le_of_ble_eq_true rfl) rfl ?_
  refine ev_iconst ?_
  refine ev_istore_n (L' := [(2, 26), (0, a1), (0, 0), (0, 1)]) (Nat.le_of_ble_eq_true rfl) rfl ?_
  exact (s133_l la1 ua1 202) _ _ _ g k0 (by omega) (by omega) (by omega) (by omega) (by omega) (by omega) (by omega)
/-! 136 worthFrom -/
set_option maxHeartbeats 4000000 in
theorem s136_l {G : GH} {h : JH} {a1 : Int} (la1 : (-2147483648) ≤ a1) (ua1 : a1 ≤ 2147483647) {a2 : Int} (la2 : 1 ≤ a2) (ua2 : a2 ≤ 20) {a3 : Int} (la3 : (-999) ≤ a3) (ua3 : a3 ≤ 999) : ∀ N : Nat, (∀ (h1 : JH) (x4 x6 : Int) (j7 j9 : AV), Gd G h1 → Kp [] h h1 → (-2147483648) ≤ a1 → a1 ≤ 2147483647 → 1 ≤ a2 → a2 ≤ 20 → (-999) ≤ a3 → a3 ≤ 999 → (-9223372036854775808) ≤ x4 → x4 ≤ 9223372036854775807 → (-1) ≤ x6 → x6 ≤ 19 → (x6 + 1) < N → jEv (jOk 1) none (fun _ => 0) c136_0 0 0 (PI G [] h 1 (-9223372036854775808) 9223372036854775807) (c136_18, [(2, 26), (0, a1), (0, a2), (0, a3), (1, x4), (9, 0), (0, x6), j7, (9, 0), j9, (9, 0)], [], h1, 0, 0)) := by
  intro N
  induction N with
  | zero => exact fun h1 x4 x6 j7 j9 g1 k1 b0 b1 b2 b3 b4 b5 b6 b7 b8 b9 hm => absurd hm (by omega)
  | succ N ih =>
    show _
    intro h1 x4 x6 j7 j9 g1 k1 b0 b1 b2 b3 b4 b5 b6 b7 b8 b9 hm
    refine ev_iload rfl ?_
    refine ev_iflt f136_105 (fun c3748 => ?_) (fun c3748 => ?_)
    · refine ev_lload rfl ?_
      exact ev_ret rfl (by decide) (by decide) ⟨_, rfl, by omega, by omega, g1, k1⟩
    · refine ev_iload rfl ?_
      refine ev_iload_n rfl ?_
      refine ev_icmplt f136_105 (fun c3749 => ?_) (fun c3749 => ?_)
      · refine ev_lload rfl ?_
        exact ev_ret rfl (by decide) (by decide) ⟨_, rfl, by omega, by omega, g1, k1⟩
      · refine ev_lload rfl ?_
        refine ev_ldc2_w ?_
        refine ev_aload_n rfl ?_
        refine g_getp (r := 26) (c := 36) g1 ad26 (by decide) (by decide) rf26_14 ft9_14 ?_
        refine ev_iload rfl ?_
        refine g_iald g1 ad36 rt36 (by omega) (by omega) (fun v3750 ev3750 lv3750 uv3750 => ?_)
        refine ev_i2l ?_
        refine ev_lmul (r := (1000000 * v3750)) (by unfold w64; omega) ?_
        refine g_lsubG (fun v3751 ev3751 lv3751 uv3751 => ?_)
        refine ev_lstore (L' := [(2, 26), (0, a1), (0, a2), (0, a3), (1, x4), (9, 0), (0, x6), (1, v3751), (9, 0), j9, (9, 0)]) (Nat.le_of_ble_eq_true rfl) rfl ?_
        refine ev_ldc2_w ?_
        refine ev_aload_n rfl ?_
        refine g_getp (r := 26) (c := 34) g1 ad26 (by decide) (by decide) rf26_12 ft9_12 ?_
        refine ev_iload rfl ?_
        refine g_iald g1 ad34 rt34 (by omega) (by omega) (fun v3752 ev3752 lv3752 uv3752 => ?_)
        refine ev_i2l ?_
        refine ev_lmul (r := (1000000 * v3752)) (by unfold w64; omega) ?_
        refine ev_lload rfl ?_
        refine ev_in (d := 0) (a := 0) (b := 0) (cd' := c380_0) (m := 4) (L0 := [(1, (1000000 * v3752)), (9, 0), (1, v3751), (9, 0)]) (jcall_s (A := [(1, v3751), (1, (1000000 * v3752))]) (S' := []) (by decide) rfl (Nat.le_of_ble_eq_true rfl)) (by decide) ml380 pp380 (Nat.le_of_ble_eq_true rfl) rfl (by decide) (by decide) ?_
        refine ev_lload_n rfl ?_
        refine ev_lload_n rfl ?_
        refine ev_lcmp ?_
        refine ev_iflt f380_10 (fun c3753 => ?_) (fun c3753 => ?_)
        · have c3753b := jcmpL_lt c3753
          refine ev_lload_n rfl ?_
          refine ev_ret rfl (by decide) (by decide) ?_
          show jEv _ _ _ _ _ _ _ (_, [(2, 26), (0, a1), (0, a2), (0, a3), (1, x4), (9, 0), (0, x6), (1, v3751), (9, 0), j9, (9, 0)], [(1, v3751)], _, _, _)
          refine ev_lstore (L' := [(2, 26), (0, a1), (0, a2), (0, a3), (1, x4), (9, 0), (0, x6), (1, v3751), (9, 0), (1, v3751), (9, 0)]) (Nat.le_of_ble_eq_true rfl) rfl ?_
          refine ev_aload_n rfl ?_
          refine g_getp (r := 26) (c := 35) g1 ad26 (by decide) (by decide) rf26_13 ft9_13 ?_
          refine ev_iload rfl ?_
          refine g_iald g1 ad35 rt35 (by omega) (by omega) (fun v3754 ev3754 lv3754 uv3754 => ?_)
          refine ev_i2l ?_
          refine ev_lload rfl ?_
          refine g_lmulG (fun v3755 ev3755 lv3755 uv3755 => ?_)
          refine ev_bipush ?_
          refine ev_aload_n rfl ?_
          refine g_getp (r := 26) (c := 35) g1 ad26 (by decide) (by decide) rf26_13 ft9_13 ?_
          refine ev_iload rfl ?_
          refine g_ialdv (v := v3754) g1 ad35 (by omega) (by omega) (ev3754) ?_
          refine ev_isub (r := ((-v3754) + 100)) (by unfold w32; omega) ?_
          refine ev_i2l ?_
          refine ev_lload rfl ?_
          refine g_lmulG (fun v3756 ev3756 lv3756 uv3756 => ?_)
          refine g_laddG (fun v3757 ev3757 lv3757 uv3757 => ?_)
          refine ev_ldc2_w ?_
          refine ev_call (jcall_s (A := [(1, 100), (1, v3757)]) (S' := []) (by decide) rfl (Nat.le_of_ble_eq_true rfl)) (jOk_le (by decide) (s378 g1 (by omega) (by omega) (by omega) (by omega))) (by decide) (by decide) (fun w3758 h3758 q3758 => ?_)
          obtain ⟨v3759, rfl, lv3759, uv3759, g3758, kk3758⟩ := q3758
          have k3758 := k1.tr kk3758 (by decide)
          show jEv _ _ _ _ _ _ _ (_, [(2, 26), (0, a1), (0, a2), (0, a3), (1, x4), (9, 0), (0, x6), (1, v3751), (9, 0), (1, v3751), (9, 0)], [(1, v3759)], _, _, _)
          refine ev_lstore (L' := [(2, 26), (0, a1), (0, a2), (0, a3), (1, v3759), (9, 0), (0, x6), (1, v3751), (9, 0), (1, v3751), (9, 0)]) (Nat.le_of_ble_eq_true rfl) rfl ?_
          refine ev_iinc (w := (x6 - 1)) (L' := [(2, 26), (0, a1), (0, a2), (0, a3), (1, v3759), (9, 0), (0, (x6 - 1)), (1, v3751), (9, 0), (1, v3751), (9, 0)]) rfl (by unfold w32; omega) rfl ?_
          refine ev_goto f136_18 ?_
          exact ih _ _ _ _ _ g3758 k3758 (by omega) (by omega) (by omega) (by omega) (by omega) (by omega) (by omega) (by omega) (by omega) (by omega) (by omega)
        · have c3753b := jcmpL_ltN c3753
          refine ev_lload_n rfl ?_
          refine ev_goto f380_11 ?_
          refine ev_ret rfl (by decide) (by decide) ?_
          show jEv _ _ _ _ _ _ _ (_, [(2, 26), (0, a1), (0, a2), (0, a3), (1, x4), (9, 0), (0, x6), (1, v3751), (9, 0), j9, (9, 0)], [(1, (1000000 * v3752))], _, _, _)
          refine ev_lstore (L' := [(2, 26), (0, a1), (0, a2), (0, a3), (1, x4), (9, 0), (0, x6), (1, v3751), (9, 0), (1, (1000000 * v3752)), (9, 0)]) (Nat.le_of_ble_eq_true rfl) rfl ?_
          refine ev_aload_n rfl ?_
          refine g_getp (r := 26) (c := 35) g1 ad26 (by decide) (by decide) rf26_13 ft9_13 ?_
          refine ev_iload rfl ?_
          refine g_iald g1 ad35 rt35 (by omega) (by omega) (fun v3760 ev3760 lv3760 uv3760 => ?_)
          refine ev_i2l ?_
          refine ev_lload rfl ?_
          refine g_lmulB (a := 100) (b := 999000000) (a' := 0) (b' := 0) (by omega) (by omega) (by omega) (by omega) (by decide) (lo := 0) (hi := 99900000000) (by decide) (by decide) (fun v3761 ev3761 lv3761 uv3761 => ?_)
          refine ev_bipush ?_
          refine ev_aload_n rfl ?_
          refine g_getp (r := 26) (c := 35) g1 ad26 (by decide) (by decide) rf26_13 ft9_13 ?_
          refine ev_iload rfl ?_
          refine g_ialdv (v := v3760) g1 ad35 (by omega) (by omega) (ev3760) ?_
          refine ev_isub (r := ((-v3760) + 100)) (by unfold w32; omega) ?_
          refine ev_i2l ?_
          refine ev_lload rfl ?_
          refine g_lmulG (fun v3762 ev3762 lv3762 uv3762 => ?_)
          refine g_laddG (fun v3763 ev3763 lv3763 uv3763 => ?_)
          refine ev_ldc2_w ?_
          refine ev_call (jcall_s (A := [(1, 100), (1, v3763)]) (S' := []) (by decide) rfl (Nat.le_of_ble_eq_true rfl)) (jOk_le (by decide) (s378 g1 (by omega) (by omega) (by omega) (by omega))) (by decide) (by decide) (fun w3764 h3764 q3764 => ?_)
          obtain ⟨v3765, rfl, lv3765, uv3765, g3764, kk3764⟩ := q3764
          have k3764 := k1.tr kk3764 (by decide)
          show jEv _ _ _ _ _ _ _ (_, [(2, 26), (0, a1), (0, a2), (0, a3), (1, x4), (9, 0), (0, x6), (1, v3751), (9, 0), (1, (1000000 * v3752)), (9, 0)], [(1, v3765)], _, _, _)
          refine ev_lstore (L' := [(2, 26), (0, a1), (0, a2), (0, a3), (1, v3765), (9, 0), (0, x6), (1, v3751), (9, 0), (1, (1000000 * v3752)), (9, 0)]) (Nat.le_of_ble_eq_true rfl) rfl ?_
          refine ev_iinc (w := (x6 - 1)) (L' := [(2, 26), (0, a1), (0, a2), (0, a3), (1, v3765), (9, 0), (0, (x6 - 1)), (1, v3751), (9, 0), (1, (1000000 * v3752)), (9, 0)]) rfl (by unfold w32; omega) rfl ?_
          refine ev_goto f136_18 ?_
          exact ih _ _ _ _ _ g3764 k3764 (by omega) (by omega) (by omega) (by omega) (by omega) (by omega) (by omega) (by omega) (by omega) (by omega) (by omega)
set_option maxHeartbeats 4000000 in
theorem s136 {G : GH} {h : JH} (g : Gd G h) {a1 : Int} (la1 : (-2147483648) ≤ a1) (ua1 : a1 ≤ 2147483647) {a2 : Int} (la2 : 1 ≤ a2) (ua2 : a2 ≤ 20) {a3 : Int} (la3 : (-999) ≤ a3) (ua3 : a3 ≤ 999) : jOk 2 0 0 136 [(2, 26), (0, a1), (0, a2), (0, a3)] h (PI G [] h 1 (-9223372036854775808) 9223372036854775807) := by
  refine ⟨by decide, by rw [ml136]; exact Nat.le_of_ble_eq_true rfl, ?_⟩
  rw [ml136, pp136]
  show jEv _ none _ c136_0 0 0 _ (c136_0, [(2, 26), (0, a1), (0, a2), (0, a3), (9, 0), (9, 0), (9, 0), (9, 0), (9, 0), (9, 0), (9, 0)], [], h, 0, 0)
  have k0 := Kp.rf [] h
  refine ev_ldc2_w ?_
  refine ev_iload_n rfl ?_
  refine ev_i2l ?_
  refine ev_lmul (r := (1000000 * a3)) (by unfold w64; omega) ?_
  refine ev_lstore (L' := [(2, 26), (0, a1), (0, a2), (0, a3), (1, (1000000 * a3)), (9, 0), (9, 0), (9, 0), (9, 0), (9, 0), (9, 0)]) (Nat.le_of_ble_eq_true rfl) rfl ?_
  refine ev_iload_n rfl ?_
  refine ev_bipush ?_
  refine ev_in (d := 0) (a := 0) (b := 0) (cd' := c381_0) (m := 2) (L0 := [(0, a2), (0, 20)]) (jcall_s (A := [(0, 20), (0, a2)]) (S' := []) (by decide) rfl (Nat.le_of_ble_eq_true rfl)) (by decide) ml381 pp381 (Nat.le_of_ble_eq_true rfl) rfl (by decide) (by decide) ?_
  refine ev_iload_n rfl ?_
  refine ev_iload_n rfl ?_
  refine ev_icmpgt f381_9 (fun c3766 => absurd c3766 (by omega)) (fun c3766 => ?_)
  refine ev_iload_n rfl ?_
  refine ev_goto f381_10 ?_
  refine ev_ret rfl (by decide) (by decide) ?_
  show jEv _ _ _ _ _ _ _ (_, [(2, 26), (0, a1), (0, a2), (0, a3), (1, (1000000 * a3)), (9, 0), (9, 0), (9, 0), (9, 0), (9, 0), (9, 0)], [(0, a2)], _, _, _)
  refine ev_iconst ?_
  refine ev_isub (r := (a2 - 1)) (by unfold w32; omega) ?_
  refine ev_istore (L' := [(2, 26), (0, a1), (0, a2), (0, a3), (1, (1000000 * a3)), (9, 0), (0, (a2 - 1)), (9, 0), (9, 0), (9, 0), (9, 0)]) (Nat.le_of_ble_eq_true rfl) rfl ?_
  exact (s136_l la1 ua1 la2 ua2 la3 ua3 42) _ _ _ _ _ g k0 (by omega) (by omega) (by omega) (by omega) (by omega) (by omega) (by omega) (by omega) (by omega) (by omega) (by omega)
/-! 137 bar -/
set_option maxHeartbeats 4000000 in
theorem s137 {G : GH} {h : JH} (g : Gd G h) {a1 : Int} (la1 : (-2147483648) ≤ a1) (ua1 : a1 ≤ 2147483647) {a2 : Int} (la2 : 1 ≤ a2) (ua2 : a2 ≤ 20) {a3 : Int} (la3 : (-999) ≤ a3) (ua3 : a3 ≤ 999) : jOk 3 0 0 137 [(2, 26), (0, a1), (0, a2), (0, a3)] h (PI G [] h 1 (-9223372036854775808) 1000) := by
  refine ⟨by decide, by rw [ml137]; exact Nat.le_of_ble_eq_true rfl, ?_⟩
  rw [ml137, pp137]
  show jEv _ none _ c137_0 0 0 _ (c137_0, [(2, 26), (0, a1), (0, a2), (0, a3), (9, 0), (9, 0)], [], h, 0, 0)
  have k0 := Kp.rf [] h
  refine ev_iload_n rfl ?_
  refine ev_iflt f137_10 (fun c3793 => ?_) (fun c3793 => ?_)
  · refine ev_ldc2_w ?_
    exact ev_ret rfl (by decide) (by decide) ⟨_, rfl, by omega, by omega, g, k0⟩
  · refine ev_iload_n rfl ?_
    refine ev_bipush ?_
    refine ev_icmplt f137_14 (fun c3794 => ?_) (fun c3794 => ?_)
    · refine ev_aload_n rfl ?_
      refine ev_iload_n rfl ?_
      refine ev_iconst ?_
      refine ev_iadd (r := (a1 + 1)) (by unfold w32; omega) ?_
      refine ev_iload_n rfl ?_
      refine ev_iload_n rfl ?_
      refine ev_call (jcall_v (A := [(0, a3), (0, a2), (0, (a1 + 1))]) (S' := []) (r := 26) rfl (g.lt ad26) (g.tg ad26) (Nat.le_of_ble_eq_true rfl)) (jOk_le (by decide) (s136 g (by omega) (by omega) (by omega) (by omega) (by omega) (by omega))) (by decide) (by decide) (fun w3795 h3795 q3795 => ?_)
      obtain ⟨v3796, rfl, lv3796, uv3796, g3795, kk3795⟩ := q3795
      have k3795 := k0.tr kk3795 (by decide)
      show jEv _ _ _ _ _ _ _ (_, [(2, 26), (0, a1), (0, a2), (0, a3), (9, 0), (9, 0)], [(1, v3796)], _, _, _)
      refine ev_ldc2_w ?_
      refine ev_aload_n rfl ?_
      refine g_getp (r := 26) (c := 36) g3795 ad26 (by decide) (by decide) rf26_14 ft9_14 ?_
      refine ev_iload_n rfl ?_
      refine g_iald g3795 ad36 rt36 (by omega) (by omega) (fun v3797 ev3797 lv3797 uv3797 => ?_)
      refine ev_i2l ?_
      refine ev_lmul (r := (1000000 * v3797)) (by unfold w64; omega) ?_
      refine g_lsubG (fun v3798 ev3798 lv3798 uv3798 => ?_)
      refine ev_lstore (L' := [(2, 26), (0, a1), (0, a2), (0, a3), (1, v3798), (9, 0)]) (Nat.le_of_ble_eq_true rfl) rfl ?_
      refine ev_lconst ?_
      refine ev_ldc2_w ?_
      refine ev_lload rfl ?_
      refine g_lnegG (fun v3799 ev3799 lv3799 uv3799 => ?_)
      refine ev_ldc2_w ?_
      refine ev_call (jcall_s (A := [(1, 1000000), (1, v3799)]) (S' := [(1, 1000), (1, 0)]) (by decide) rfl (Nat.le_of_ble_eq_true rfl)) (jOk_le (by decide) (s378 g3795 (by omega) (by omega) (by omega) (by omega))) (by decide) (by decide) (fun w3800 h3800 q3800 => ?_)
      obtain ⟨v3801, rfl, lv3801, uv3801, g3800, kk3800⟩ := q3800
      have k3800 := k3795.tr kk3800 (by decide)
      show jEv _ _ _ _ _ _ _ (_, [(2, 26), (0, a1), (0, a2), (0, a3), (1, v3798), (9, 0)], [(1, v3801), (1, 1000), (1, 0)], _, _, _)
      refine g_lnegG (fun v3802 ev3802 lv3802 uv3802 => ?_)
      refine ev_in (d := 1) (a := 0) (b := 0) (cd' := c382_0) (m := 4) (L0 := [(1, 1000), (9, 0), (1, v3802), (9, 0)]) (jcall_s (A := [(1, v3802), (1, 1000)]) (S' := [(1, 0)]) (by decide) rfl (Nat.le_of_ble_eq_true rfl)) (by decide) ml382 pp382 (Nat.le_of_ble_eq_true rfl) rfl (by decide) (by decide) ?_
      refine ev_lload_n rfl ?_
      refine ev_lload_n rfl ?_
      refine ev_lcmp ?_
      refine ev_ifgt f382_10 (fun c3803 => ?_) (fun c3803 => ?_)
      · have c3803b := jcmpL_gt c3803
        refine ev_lload_n rfl ?_
        refine ev_ret rfl (by decide) (by decide) ?_
        show jEv _ _ _ _ _ _ _ (_, [(2, 26), (0, a1), (0, a2), (0, a3), (1, v3798), (9, 0)], [(1, v3802), (1, 0)], _, _, _)
        refine ev_in (d := 1) (a := 0) (b := 0) (cd' := c380_0) (m := 4) (L0 := [(1, 0), (9, 0), (1, v3802), (9, 0)]) (jcall_s (A := [(1, v3802), (1, 0)]) (S' := []) (by decide) rfl (Nat.le_of_ble_eq_true rfl)) (by decide) ml380 pp380 (Nat.le_of_ble_eq_true rfl) rfl (by decide) (by decide) ?_
        refine ev_lload_n rfl ?_
        refine ev_lload_n rfl ?_
        refine ev_lcmp ?_
        refine ev_iflt f380_10 (fun c3804 => ?_) (fun c3804 => ?_)
        · have c3804b := jcmpL_lt c3804
          refine ev_lload_n rfl ?_
          refine ev_ret rfl (by decide) (by decide) ?_
          show jEv _ _ _ _ _ _ _ (_, [(2, 26), (0, a1), (0, a2), (0, a3), (1, v3798), (9, 0)], [(1, v3802)], _, _, _)
          exact ev_ret rfl (by decide) (by decide) ⟨_, rfl, by omega, by omega, g3800, k3800⟩
        · have c3804b := jcmpL_ltN c3804
          refine ev_lload_n rfl ?_
          refine ev_goto f380_11 ?_
          refine ev_ret rfl (by decide) (by decide) ?_
          show jEv _ _ _ _ _ _ _ (_, [(2, 26), (0, a1), (0, a2), (0, a3), (1, v3798), (9, 0)], [(1, 0)], _, _, _)
          exact ev_ret rfl (by decide) (by decide) ⟨_, rfl, by omega, by omega, g3800, k3800⟩
      · have c3803b := jcmpL_gtN c3803
        refine ev_lload_n rfl ?_
        refine ev_goto f382_11 ?_
        refine ev_ret rfl (by decide) (by decide) ?_
        show jEv _ _ _ _ _ _ _ (_, [(2, 26), (0, a1), (0, a2), (0, a3), (1, v3798), (9, 0)], [(1, 1000), (1, 0)], _, _, _)
        refine ev_in (d := 1) (a := 0) (b := 0) (cd' := c380_0) (m := 4) (L0 := [(1, 0), (9, 0), (1, 1000), (9, 0)]) (jcall_s (A := [(1, 1000), (1, 0)]) (S' := []) (by decide) rfl (Nat.le_of_ble_eq_true rfl)) (by decide) ml380 pp380 (Nat.le_of_ble_eq_true rfl) rfl (by decide) (by decide) ?_
        refine ev_lload_n rfl ?_
        refine ev_lload_n rfl ?_
        refine ev_lcmp ?_
        refine ev_iflt f380_10 (fun c3805 => ?_) (fun c3805 => absurd (jcmpL_ltN c3805) (by omega))
        refine ev_lload_n rfl ?_
        refine ev_ret rfl (by decide) (by decide) ?_
        show jEv _ _ _ _ _ _ _ (_, [(2, 26), (0, a1), (0, a2), (0, a3), (1, v3798), (9, 0)], [(1, 1000)], _, _, _)
        exact ev_ret rfl (by decide) (by decide) ⟨_, rfl, by omega, by omega, g3800, k3800⟩
    · refine ev_ldc2_w ?_
      exact ev_ret rfl (by decide) (by decide) ⟨_, rfl, by omega, by omega, g, k0⟩
/-! 111 sureOfOne -/
set_option maxHeartbeats 4000000 in
theorem s111 {G : GH} {h : JH} (g : Gd G h)  : jOk 2 0 0 111 [(2, 26)] h (PI G [] h 0 (-99) 99) := by
  refine ⟨by decide, by rw [ml111]; exact Nat.le_of_ble_eq_true rfl, ?_⟩
  rw [ml111, pp111]
  show jEv _ none _ c111_0 0 0 _ (c111_0, [(2, 26)], [], h, 0, 0)
  have k0 := Kp.rf [] h
  refine ev_aload_n rfl ?_
  refine ev_iconst ?_
  refine ev_iconst ?_
  refine ev_iconst ?_
  refine ev_in (d := 0) (a := 0) (b := 0) (cd' := c106_0) (m := 4) (L0 := [(2, 26), (0, 0), (0, 0), (0, 0)]) (jcall_v (A := [(0, 0), (0, 0), (0, 0)]) (S' := []) (r := 26) rfl (g.lt ad26) (g.tg ad26) (Nat.le_of_ble_eq_true rfl)) (by decide) ml106 pp106 (Nat.le_of_ble_eq_true rfl) rfl (by decide) (by decide) ?_
  refine ev_aload_n rfl ?_
  refine g_getp (r := 26) (c := 27) g ad26 (by decide) (by decide) rf26_2 ft9_2 ?_
  refine ev_bipush ?_
  refine ev_iload_n rfl ?_
  refine ev_imul (r := 0) (by decide) ?_
  refine ev_iconst ?_
  refine ev_iload_n rfl ?_
  refine ev_imul (r := 0) (by decide) ?_
  refine ev_iadd (r := 0) (by decide) ?_
  refine ev_iload_n rfl ?_
  refine ev_iadd (r := 0) (by decide) ?_
  refine g_iald g ad27 rt27 (by omega) (by omega) (fun v3832 ev3832 lv3832 uv3832 => ?_)
  refine ev_ret rfl (by decide) (by decide) ?_
  show jEv _ _ _ _ _ _ _ (_, [(2, 26)], [(0, v3832)], _, _, _)
  refine ev_aload_n rfl ?_
  refine ev_iconst ?_
  refine ev_iconst ?_
  refine ev_iconst ?_
  refine ev_in (d := 0) (a := 0) (b := 0) (cd' := c106_0) (m := 4) (L0 := [(2, 26), (0, 0), (0, 1), (0, 0)]) (jcall_v (A := [(0, 0), (0, 1), (0, 0)]) (S' := [(0, v3832)]) (r := 26) rfl (g.lt ad26) (g.tg ad26) (Nat.le_of_ble_eq_true rfl)) (by decide) ml106 pp106 (Nat.le_of_ble_eq_true rfl) rfl (by decide) (by decide) ?_
  refine ev_aload_n rfl ?_
  refine g_getp (r := 26) (c := 27) g ad26 (by decide) (by decide) rf26_2 ft9_2 ?_
  refine ev_bipush ?_
  refine ev_iload_n rfl ?_
  refine ev_imul (r := 0) (by decide) ?_
  refine ev_iconst ?_
  refine ev_iload_n rfl ?_
  refine ev_imul (r := 2) (by decide) ?_
  refine ev_iadd (r := 2) (by decide) ?_
  refine ev_iload_n rfl ?_
  refine ev_iadd (r := 2) (by decide) ?_
  refine g_iald g ad27 rt27 (by omega) (by omega) (fun v3833 ev3833 lv3833 uv3833 => ?_)
  refine ev_ret rfl (by decide) (by decide) ?_
  show jEv _ _ _ _ _ _ _ (_, [(2, 26)], [(0, v3833), (0, v3832)], _, _, _)
  refine ev_in (d := 0) (a := 0) (b := 0) (cd' := c381_0) (m := 2) (L0 := [(0, v3832), (0, v3833)]) (jcall_s (A := [(0, v3833), (0, v3832)]) (S' := []) (by decide) rfl (Nat.le_of_ble_eq_true rfl)) (by decide) ml381 pp381 (Nat.le_of_ble_eq_true rfl) rfl (by decide) (by decide) ?_
  refine ev_iload_n rfl ?_
  refine ev_iload_n rfl ?_
  refine ev_icmpgt f381_9 (fun c3834 => ?_) (fun c3834 => ?_)
  · refine ev_iload_n rfl ?_
    refine ev_ret rfl (by decide) (by decide) ?_
    show jEv _ _ _ _ _ _ _ (_, [(2, 26)], [(0, v3833)], _, _, _)
    refine ev_aload_n rfl ?_
    refine ev_iconst ?_
    refine ev_iconst ?_
    refine ev_iconst ?_
    refine ev_in (d := 0) (a := 0) (b := 0) (cd' := c106_0) (m := 4) (L0 := [(2, 26), (0, 1), (0, 0), (0, 0)]) (jcall_v (A := [(0, 0), (0, 0), (0, 1)]) (S' := [(0, v3833)]) (r := 26) rfl (g.lt ad26) (g.tg ad26) (Nat.le_of_ble_eq_true rfl)) (by decide) ml106 pp106 (Nat.le_of_ble_eq_true rfl) rfl (by decide) (by decide) ?_
    refine ev_aload_n rfl ?_
    refine g_getp (r := 26) (c := 27) g ad26 (by decide) (by decide) rf26_2 ft9_2 ?_
    refine ev_bipush ?_
    refine ev_iload_n rfl ?_
    refine ev_imul (r := 8) (by decide) ?_
    refine ev_iconst ?_
    refine ev_iload_n rfl ?_
    refine ev_imul (r := 0) (by decide) ?_
    refine ev_iadd (r := 8) (by decide) ?_
    refine ev_iload_n rfl ?_
    refine ev_iadd (r := 8) (by decide) ?_
    refine g_iald g ad27 rt27 (by omega) (by omega) (fun v3835 ev3835 lv3835 uv3835 => ?_)
    refine ev_ret rfl (by decide) (by decide) ?_
    show jEv _ _ _ _ _ _ _ (_, [(2, 26)], [(0, v3835), (0, v3833)], _, _, _)
    refine ev_aload_n rfl ?_
    refine ev_iconst ?_
    refine ev_iconst ?_
    refine ev_iconst ?_
    refine ev_in (d := 0) (a := 0) (b := 0) (cd' := c106_0) (m := 4) (L0 := [(2, 26), (0, 1), (0, 1), (0, 0)]) (jcall_v (A := [(0, 0), (0, 1), (0, 1)]) (S' := [(0, v3835), (0, v3833)]) (r := 26) rfl (g.lt ad26) (g.tg ad26) (Nat.le_of_ble_eq_true rfl)) (by decide) ml106 pp106 (Nat.le_of_ble_eq_true rfl) rfl (by decide) (by decide) ?_
    refine ev_aload_n rfl ?_
    refine g_getp (r := 26) (c := 27) g ad26 (by decide) (by decide) rf26_2 ft9_2 ?_
    refine ev_bipush ?_
    refine ev_iload_n rfl ?_
    refine ev_imul (r := 8) (by decide) ?_
    refine ev_iconst ?_
    refine ev_iload_n rfl ?_
    refine ev_imul (r := 2) (by decide) ?_
    refine ev_iadd (r := 10) (by decide) ?_
    refine ev_iload_n rfl ?_
    refine ev_iadd (r := 10) (by decide) ?_
    refine g_iald g ad27 rt27 (by omega) (by omega) (fun v3836 ev3836 lv3836 uv3836 => ?_)
    refine ev_ret rfl (by decide) (by decide) ?_
    show jEv _ _ _ _ _ _ _ (_, [(2, 26)], [(0, v3836), (0, v3835), (0, v3833)], _, _, _)
    refine ev_in (d := 0) (a := 0) (b := 0) (cd' := c381_0) (m := 2) (L0 := [(0, v3835), (0, v3836)]) (jcall_s (A := [(0, v3836), (0, v3835)]) (S' := [(0, v3833)]) (by decide) rfl (Nat.le_of_ble_eq_true rfl)) (by decide) ml381 pp381 (Nat.le_of_ble_eq_true rfl) rfl (by decide) (by decide) ?_
    refine ev_iload_n rfl ?_
    refine ev_iload_n rfl ?_
    refine ev_icmpgt f381_9 (fun c3837 => ?_) (fun c3837 => ?_)
    · refine ev_iload_n rfl ?_
      refine ev_ret rfl (by decide) (by decide) ?_
      show jEv _ _ _ _ _ _ _ (_, [(2, 26)], [(0, v3836), (0, v3833)], _, _, _)
      refine ev_in (d := 0) (a := 0) (b := 0) (cd' := c379_0) (m := 2) (L0 := [(0, v3833), (0, v3836)]) (jcall_s (A := [(0, v3836), (0, v3833)]) (S' := []) (by decide) rfl (Nat.le_of_ble_eq_true rfl)) (by decide) ml379 pp379 (Nat.le_of_ble_eq_true rfl) rfl (by decide) (by decide) ?_
      refine ev_iload_n rfl ?_
      refine ev_iload_n rfl ?_
      refine ev_icmplt f379_9 (fun c3838 => ?_) (fun c3838 => ?_)
      · refine ev_iload_n rfl ?_
        refine ev_ret rfl (by decide) (by decide) ?_
        show jEv _ _ _ _ _ _ _ (_, [(2, 26)], [(0, v3836)], _, _, _)
        exact ev_ret rfl (by decide) (by decide) ⟨_, rfl, by omega, by omega, g, k0⟩
      · refine ev_iload_n rfl ?_
        refine ev_goto f379_10 ?_
        refine ev_ret rfl (by decide) (by decide) ?_
        show jEv _ _ _ _ _ _ _ (_, [(2, 26)], [(0, v3833)], _, _, _)
        exact ev_ret rfl (by decide) (by decide) ⟨_, rfl, by omega, by omega, g, k0⟩
    · refine ev_iload_n rfl ?_
      refine ev_goto f381_10 ?_
      refine ev_ret rfl (by decide) (by decide) ?_
      show jEv _ _ _ _ _ _ _ (_, [(2, 26)], [(0, v3835), (0, v3833)], _, _, _)
      refine ev_in (d := 0) (a := 0) (b := 0) (cd' := c379_0) (m := 2) (L0 := [(0, v3833), (0, v3835)]) (jcall_s (A := [(0, v3835), (0, v3833)]) (S' := []) (by decide) rfl (Nat.le_of_ble_eq_true rfl)) (by decide) ml379 pp379 (Nat.le_of_ble_eq_true rfl) rfl (by decide) (by decide) ?_
      refine ev_iload_n rfl ?_
      refine ev_iload_n rfl ?_
      refine ev_icmplt f379_9 (fun c3839 => ?_) (fun c3839 => ?_)
      · refine ev_iload_n rfl ?_
        refine ev_ret rfl (by decide) (by decide) ?_
        show jEv _ _ _ _ _ _ _ (_, [(2, 26)], [(0, v3835)], _, _, _)
        exact ev_ret rfl (by decide) (by decide) ⟨_, rfl, by omega, by omega, g, k0⟩
      · refine ev_iload_n rfl ?_
        refine ev_goto f379_10 ?_
        refine ev_ret rfl (by decide) (by decide) ?_
        show jEv _ _ _ _ _ _ _ (_, [(2, 26)], [(0, v3833)], _, _, _)
        exact ev_ret rfl (by decide) (by decide) ⟨_, rfl, by omega, by omega, g, k0⟩
  · refine ev_iload_n rfl ?_
    refine ev_goto f381_10 ?_
    refine ev_ret rfl (by decide) (by decide) ?_
    show jEv _ _ _ _ _ _ _ (_, [(2, 26)], [(0, v3832)], _, _, _)
    refine ev_aload_n rfl ?_
    refine ev_iconst ?_
    refine ev_iconst ?_
    refine ev_iconst ?_
    refine ev_in (d := 0) (a := 0) (b := 0) (cd' := c106_0) (m := 4) (L0 := [(2, 26), (0, 1), (0, 0), (0, 0)]) (jcall_v (A := [(0, 0), (0, 0), (0, 1)]) (S' := [(0, v3832)]) (r := 26) rfl (g.lt ad26) (g.tg ad26) (Nat.le_of_ble_eq_true rfl)) (by decide) ml106 pp106 (Nat.le_of_ble_eq_true rfl) rfl (by decide) (by decide) ?_
    refine ev_aload_n rfl ?_
    refine g_getp (r := 26) (c := 27) g ad26 (by decide) (by decide) rf26_2 ft9_2 ?_
    refine ev_bipush ?_
    refine ev_iload_n rfl ?_
    refine ev_imul (r := 8) (by decide) ?_
    refine ev_iconst ?_
    refine ev_iload_n rfl ?_
    refine ev_imul (r := 0) (by decide) ?_
    refine ev_iadd (r := 8) (by decide) ?_
    refine ev_iload_n rfl ?_
    refine ev_iadd (r := 8) (by decide) ?_
    refine g_iald g ad27 rt27 (by omega) (by omega) (fun v3840 ev3840 lv3840 uv3840 => ?_)
    refine ev_ret rfl (by decide) (by decide) ?_
    show jEv _ _ _ _ _ _ _ (_, [(2, 26)], [(0, v3840), (0, v3832)], _, _, _)
    refine ev_aload_n rfl ?_
    refine ev_iconst ?_
    refine ev_iconst ?_
    refine ev_iconst ?_
    refine ev_in (d := 0) (a := 0) (b := 0) (cd' := c106_0) (m := 4) (L0 := [(2, 26), (0, 1), (0, 1), (0, 0)]) (jcall_v (A := [(0, 0), (0, 1), (0, 1)]) (S' := [(0, v3840), (0, v3832)]) (r := 26) rfl (g.lt ad26) (g.tg ad26) (Nat.le_of_ble_eq_true rfl)) (by decide) ml106 pp106 (Nat.le_of_ble_eq_true rfl) rfl (by decide) (by decide) ?_
    refine ev_aload_n rfl ?_
    refine g_getp (r := 26) (c := 27) g ad26 (by decide) (by decide) rf26_2 ft9_2 ?_
    refine ev_bipush ?_
    refine ev_iload_n rfl ?_
    refine ev_imul (r := 8) (by decide) ?_
    refine ev_iconst ?_
    refine ev_iload_n rfl ?_
    refine ev_imul (r := 2) (by decide) ?_
    refine ev_iadd (r := 10) (by decide) ?_
    refine ev_iload_n rfl ?_
    refine ev_iadd (r := 10) (by decide) ?_
    refine g_iald g ad27 rt27 (by omega) (by omega) (fun v3841 ev3841 lv3841 uv3841 => ?_)
    refine ev_ret rfl (by decide) (by decide) ?_
    show jEv _ _ _ _ _ _ _ (_, [(2, 26)], [(0, v3841), (0, v3840), (0, v3832)], _, _, _)
    refine ev_in (d := 0) (a := 0) (b := 0) (cd' := c381_0) (m := 2) (L0 := [(0, v3840), (0, v3841)]) (jcall_s (A := [(0, v3841), (0, v3840)]) (S' := [(0, v3832)]) (by decide) rfl (Nat.le_of_ble_eq_true rfl)) (by decide) ml381 pp381 (Nat.le_of_ble_eq_true rfl) rfl (by decide) (by decide) ?_
    refine ev_iload_n rfl ?_
    refine ev_iload_n rfl ?_
    refine ev_icmpgt f381_9 (fun c3842 => ?_) (fun c3842 => ?_)
    · refine ev_iload_n rfl ?_
      refine ev_ret rfl (by decide) (by decide) ?_
      show jEv _ _ _ _ _ _ _ (_, [(2, 26)], [(0, v3841), (0, v3832)], _, _, _)
      refine ev_in (d := 0) (a := 0) (b := 0) (cd' := c379_0) (m := 2) (L0 := [(0, v3832), (0, v3841)]) (jcall_s (A := [(0, v3841), (0, v3832)]) (S' := []) (by decide) rfl (Nat.le_of_ble_eq_true rfl)) (by decide) ml379 pp379 (Nat.le_of_ble_eq_true rfl) rfl (by decide) (by decide) ?_
      refine ev_iload_n rfl ?_
      refine ev_iload_n rfl ?_
      refine ev_icmplt f379_9 (fun c3843 => ?_) (fun c3843 => ?_)
      · refine ev_iload_n rfl ?_
        refine ev_ret rfl (by decide) (by decide) ?_
        show jEv _ _ _ _ _ _ _ (_, [(2, 26)], [(0, v3841)], _, _, _)
        exact ev_ret rfl (by decide) (by decide) ⟨_, rfl, by omega, by omega, g, k0⟩
      · refine ev_iload_n rfl ?_
        refine ev_goto f379_10 ?_
        refine ev_ret rfl (by decide) (by decide) ?_
        show jEv _ _ _ _ _ _ _ (_, [(2, 26)], [(0, v3832)], _, _, _)
        exact ev_ret rfl (by decide) (by decide) ⟨_, rfl, by omega, by omega, g, k0⟩
    · refine ev_iload_n rfl ?_
      refine ev_goto f381_10 ?_
      refine ev_ret rfl (by decide) (by decide) ?_
      show jEv _ _ _ _ _ _ _ (_, [(2, 26)], [(0, v3840), (0, v3832)], _, _, _)
      refine ev_in (d := 0) (a := 0) (b := 0) (cd' := c379_0) (m := 2) (L0 := [(0, v3832), (0, v3840)]) (jcall_s (A := [(0, v3840), (0, v3832)]) (S' := []) (by decide) rfl (Nat.le_of_ble_eq_true rfl)) (by decide) ml379 pp379 (Nat.le_of_ble_eq_true rfl) rfl (by decide) (by decide) ?_
      refine ev_iload_n rfl ?_
      refine ev_iload_n rfl ?_
      refine ev_icmplt f379_9 (fun c3844 => ?_) (fun c3844 => ?_)
      · refine ev_iload_n rfl ?_
        refine ev_ret rfl (by decide) (by decide) ?_
        show jEv _ _ _ _ _ _ _ (_, [(2, 26)], [(0, v3840)], _, _, _)
        exact ev_ret rfl (by decide) (by decide) ⟨_, rfl, by omega, by omega, g, k0⟩
      · refine ev_iload_n rfl ?_
        refine ev_goto f379_10 ?_
        refine ev_ret rfl (by decide) (by decide) ?_
        show jEv _ _ _ _ _ _ _ (_, [(2, 26)], [(0, v3832)], _, _, _)
        exact ev_ret rfl (by decide) (by decide) ⟨_, rfl, by omega, by omega, g, k0⟩
/-! 112 duelMix -/
set_option maxHeartbeats 4000000 in
theorem s112 {G : GH} {h : JH} (g : Gd G h)  : jOk 2 0 0 112 [(2, 26)] h (PI G [] h 0 (-396) 396) := by
  refine ⟨by decide, by rw [ml112]; exact Nat.le_of_ble_eq_true rfl, ?_⟩
  rw [ml112, pp112]
  show jEv _ none _ c112_0 0 0 _ (c112_0, [(2, 26)], [], h, 0, 0)
  have k0 := Kp.rf [] h
  refine ev_aload_n rfl ?_
  refine ev_iconst ?_
  refine ev_iconst ?_
  refine ev_iconst ?_
  refine ev_in (d := 0) (a := 0) (b := 0) (cd' := c106_0) (m := 4) (L0 := [(2, 26), (0, 0), (0, 0), (0, 0)]) (jcall_v (A := [(0, 0), (0, 0), (0, 0)]) (S' := []) (r := 26) rfl (g.lt ad26) (g.tg ad26) (Nat.le_of_ble_eq_true rfl)) (by decide) ml106 pp106 (Nat.le_of_ble_eq_true rfl) rfl (by decide) (by decide) ?_
  refine ev_aload_n rfl ?_
  refine g_getp (r := 26) (c := 27) g ad26 (by decide) (by decide) rf26_2 ft9_2 ?_
  refine ev_bipush ?_
  refine ev_iload_n rfl ?_
  refine ev_imul (r := 0) (by decide) ?_
  refine ev_iconst ?_
  refine ev_iload_n rfl ?_
  refine ev_imul (r := 0) (by decide) ?_
  refine ev_iadd (r := 0) (by decide) ?_
  refine ev_iload_n rfl ?_
  refine ev_iadd (r := 0) (by decide) ?_
  refine g_iald g ad27 rt27 (by omega) (by omega) (fun v3853 ev3853 lv3853 uv3853 => ?_)
  refine ev_ret rfl (by decide) (by decide) ?_
  show jEv _ _ _ _ _ _ _ (_, [(2, 26)], [(0, v3853)], _, _, _)
  refine ev_aload_n rfl ?_
  refine ev_iconst ?_
  refine ev_iconst ?_
  refine ev_iconst ?_
  refine ev_in (d := 0) (a := 0) (b := 0) (cd' := c106_0) (m := 4) (L0 := [(2, 26), (0, 1), (0, 1), (0, 0)]) (jcall_v (A := [(0, 0), (0, 1), (0, 1)]) (S' := [(0, v3853)]) (r := 26) rfl (g.lt ad26) (g.tg ad26) (Nat.le_of_ble_eq_true rfl)) (by decide) ml106 pp106 (Nat.le_of_ble_eq_true rfl) rfl (by decide) (by decide) ?_
  refine ev_aload_n rfl ?_
  refine g_getp (r := 26) (c := 27) g ad26 (by decide) (by decide) rf26_2 ft9_2 ?_
  refine ev_bipush ?_
  refine ev_iload_n rfl ?_
  refine ev_imul (r := 8) (by decide) ?_
  refine ev_iconst ?_
  refine ev_iload_n rfl ?_
  refine ev_imul (r := 2) (by decide) ?_
  refine ev_iadd (r := 10) (by decide) ?_
  refine ev_iload_n rfl ?_
  refine ev_iadd (r := 10) (by decide) ?_
  refine g_iald g ad27 rt27 (by omega) (by omega) (fun v3854 ev3854 lv3854 uv3854 => ?_)
  refine ev_ret rfl (by decide) (by decide) ?_
  show jEv _ _ _ _ _ _ _ (_, [(2, 26)], [(0, v3854), (0, v3853)], _, _, _)
  refine ev_iadd (r := (v3853 + v3854)) (by unfold w32; omega) ?_
  refine ev_aload_n rfl ?_
  refine ev_iconst ?_
  refine ev_iconst ?_
  refine ev_iconst ?_
  refine ev_in (d := 0) (a := 0) (b := 0) (cd' := c106_0) (m := 4) (L0 := [(2, 26), (0, 0), (0, 1), (0, 0)]) (jcall_v (A := [(0, 0), (0, 1), (0, 0)]) (S' := [(0, (v3853 + v3854))]) (r := 26) rfl (g.lt ad26) (g.tg ad26) (Nat.le_of_ble_eq_true rfl)) (by decide) ml106 pp106 (Nat.le_of_ble_eq_true rfl) rfl (by decide) (by decide) ?_
  refine ev_aload_n rfl ?_
  refine g_getp (r := 26) (c := 27) g ad26 (by decide) (by decide) rf26_2 ft9_2 ?_
  refine ev_bipush ?_
  refine ev_iload_n rfl ?_
  refine ev_imul (r := 0) (by decide) ?_
  refine ev_iconst ?_
  refine ev_iload_n rfl ?_
  refine ev_imul (r := 2) (by decide) ?_
  refine ev_iadd (r := 2) (by decide) ?_
  refine ev_iload_n rfl ?_
  refine ev_iadd (r := 2) (by decide) ?_
  refine g_iald g ad27 rt27 (by omega) (by omega) (fun v3855 ev3855 lv3855 uv3855 => ?_)
  refine ev_ret rfl (by decide) (by decide) ?_
  show jEv _ _ _ _ _ _ _ (_, [(2, 26)], [(0, v3855), (0, (v3853 + v3854))], _, _, _)
  refine ev_isub (r := (v3853 + v3854 + (-v3855))) (by unfold w32; omega) ?_
  refine ev_aload_n rfl ?_
  refine ev_iconst ?_
  refine ev_iconst ?_
  refine ev_iconst ?_
  refine ev_in (d := 0) (a := 0) (b := 0) (cd' := c106_0) (m := 4) (L0 := [(2, 26), (0, 1), (0, 0), (0, 0)]) (jcall_v (A := [(0, 0), (0, 0), (0, 1)]) (S' := [(0, (v3853 + v3854 + (-v3855)))]) (r := 26) rfl (g.lt ad26) (g.tg ad26) (Nat.le_of_ble_eq_true rfl)) (by decide) ml106 pp106 (Nat.le_of_ble_eq_true rfl) rfl (by decide) (by decide) ?_
  refine ev_aload_n rfl ?_
  refine g_getp (r := 26) (c := 27) g ad26 (by decide) (by decide) rf26_2 ft9_2 ?_
  refine ev_bipush ?_
  refine ev_iload_n rfl ?_
  refine ev_imul (r := 8) (by decide) ?_
  refine ev_iconst ?_
  refine ev_iload_n rfl ?_
  refine ev_imul (r := 0) (by decide) ?_
  refine ev_iadd (r := 8) (by decide) ?_
  refine ev_iload_n rfl ?_
  refine ev_iadd (r := 8) (by decide) ?_
  refine g_iald g ad27 rt27 (by omega) (by omega) (fun v3856 ev3856 lv3856 uv3856 => ?_)
  refine ev_ret rfl (by decide) (by decide) ?_
  show jEv _ _ _ _ _ _ _ (_, [(2, 26)], [(0, v3856), (0, (v3853 + v3854 + (-v3855)))], _, _, _)
  refine ev_isub (r := (v3853 + v3854 + (-v3855) + (-v3856))) (by unfold w32; omega) ?_
  exact ev_ret rfl (by decide) (by decide) ⟨_, rfl, by omega, by omega, g, k0⟩
/-! 113 isSettled -/
set_option maxHeartbeats 4000000 in
theorem s113 {G : GH} {h : JH} (g : Gd G h)  : jOk 3 0 0 113 [(2, 26)] h (PI G [] h 0 0 1) := by
  refine ⟨by decide, by rw [ml113]; exact Nat.le_of_ble_eq_true rfl, ?_⟩
  rw [ml113, pp113]
  show jEv _ none _ c113_0 0 0 _ (c113_0, [(2, 26), (9, 0)], [], h, 0, 0)
  have k0 := Kp.rf [] h
  refine ev_aload_n rfl ?_
  refine ev_iconst ?_
  refine ev_iconst ?_
  refine ev_iconst ?_
  refine ev_in (d := 1) (a := 0) (b := 0) (cd' := c106_0) (m := 4) (L0 := [(2, 26), (0, 0), (0, 0), (0, 0)]) (jcall_v (A := [(0, 0), (0, 0), (0, 0)]) (S' := []) (r := 26) rfl (g.lt ad26) (g.tg ad26) (Nat.le_of_ble_eq_true rfl)) (by decide) ml106 pp106 (Nat.le_of_ble_eq_true rfl) rfl (by decide) (by decide) ?_
  refine ev_aload_n rfl ?_
  refine g_getp (r := 26) (c := 27) g ad26 (by decide) (by decide) rf26_2 ft9_2 ?_
  refine ev_bipush ?_
  refine ev_iload_n rfl ?_
  refine ev_imul (r := 0) (by decide) ?_
  refine ev_iconst ?_
  refine ev_iload_n rfl ?_
  refine ev_imul (r := 0) (by decide) ?_
  refine ev_iadd (r := 0) (by decide) ?_
  refine ev_iload_n rfl ?_
  refine ev_iadd (r := 0) (by decide) ?_
  refine g_iald g ad27 rt27 (by omega) (by omega) (fun v3979 ev3979 lv3979 uv3979 => ?_)
  refine ev_ret rfl (by decide) (by decide) ?_
  show jEv _ _ _ _ _ _ _ (_, [(2, 26), (9, 0)], [(0, v3979)], _, _, _)
  refine ev_aload_n rfl ?_
  refine ev_iconst ?_
  refine ev_iconst ?_
  refine ev_iconst ?_
  refine ev_in (d := 1) (a := 0) (b := 0) (cd' := c106_0) (m := 4) (L0 := [(2, 26), (0, 1), (0, 0), (0, 0)]) (jcall_v (A := [(0, 0), (0, 0), (0, 1)]) (S' := [(0, v3979)]) (r := 26) rfl (g.lt ad26) (g.tg ad26) (Nat.le_of_ble_eq_true rfl)) (by decide) ml106 pp106 (Nat.le_of_ble_eq_true rfl) rfl (by decide) (by decide) ?_
  refine ev_aload_n rfl ?_
  refine g_getp (r := 26) (c := 27) g ad26 (by decide) (by decide) rf26_2 ft9_2 ?_
  refine ev_bipush ?_
  refine ev_iload_n rfl ?_
  refine ev_imul (r := 8) (by decide) ?_
  refine ev_iconst ?_
  refine ev_iload_n rfl ?_
  refine ev_imul (r := 0) (by decide) ?_
  refine ev_iadd (r := 8) (by decide) ?_
  refine ev_iload_n rfl ?_
  refine ev_iadd (r := 8) (by decide) ?_
  refine g_iald g ad27 rt27 (by omega) (by omega) (fun v3980 ev3980 lv3980 uv3980 => ?_)
  refine ev_ret rfl (by decide) (by decide) ?_
  show jEv _ _ _ _ _ _ _ (_, [(2, 26), (9, 0)], [(0, v3980), (0, v3979)], _, _, _)
  refine ev_in (d := 1) (a := 0) (b := 0) (cd' := c379_0) (m := 2) (L0 := [(0, v3979), (0, v3980)]) (jcall_s (A := [(0, v3980), (0, v3979)]) (S' := []) (by decide) rfl (Nat.le_of_ble_eq_true rfl)) (by decide) ml379 pp379 (Nat.le_of_ble_eq_true rfl) rfl (by decide) (by decide) ?_
  refine ev_iload_n rfl ?_
  refine ev_iload_n rfl ?_
  refine ev_icmplt f379_9 (fun c3981 => ?_) (fun c3981 => ?_)
  · refine ev_iload_n rfl ?_
    refine ev_ret rfl (by decide) (by decide) ?_
    show jEv _ _ _ _ _ _ _ (_, [(2, 26), (9, 0)], [(0, v3980)], _, _, _)
    refine ev_aload_n rfl ?_
    refine ev_iconst ?_
    refine ev_iconst ?_
    refine ev_iconst ?_
    refine ev_in (d := 1) (a := 0) (b := 0) (cd' := c106_0) (m := 4) (L0 := [(2, 26), (0, 0), (0, 1), (0, 0)]) (jcall_v (A := [(0, 0), (0, 1), (0, 0)]) (S' := [(0, v3980)]) (r := 26) rfl (g.lt ad26) (g.tg ad26) (Nat.le_of_ble_eq_true rfl)) (by decide) ml106 pp106 (Nat.le_of_ble_eq_true rfl) rfl (by decide) (by decide) ?_
    refine ev_aload_n rfl ?_
    refine g_getp (r := 26) (c := 27) g ad26 (by decide) (by decide) rf26_2 ft9_2 ?_
    refine ev_bipush ?_
    refine ev_iload_n rfl ?_
    refine ev_imul (r := 0) (by decide) ?_
    refine ev_iconst ?_
    refine ev_iload_n rfl ?_
    refine ev_imul (r := 2) (by decide) ?_
    refine ev_iadd (r := 2) (by decide) ?_
    refine ev_iload_n rfl ?_
    refine ev_iadd (r := 2) (by decide) ?_
    refine g_iald g ad27 rt27 (by omega) (by omega) (fun v3982 ev3982 lv3982 uv3982 => ?_)
    refine ev_ret rfl (by decide) (by decide) ?_
    show jEv _ _ _ _ _ _ _ (_, [(2, 26), (9, 0)], [(0, v3982), (0, v3980)], _, _, _)
    refine ev_aload_n rfl ?_
    refine ev_iconst ?_
    refine ev_iconst ?_
    refine ev_iconst ?_
    refine ev_in (d := 1) (a := 0) (b := 0) (cd' := c106_0) (m := 4) (L0 := [(2, 26), (0, 1), (0, 1), (0, 0)]) (jcall_v (A := [(0, 0), (0, 1), (0, 1)]) (S' := [(0, v3982), (0, v3980)]) (r := 26) rfl (g.lt ad26) (g.tg ad26) (Nat.le_of_ble_eq_true rfl)) (by decide) ml106 pp106 (Nat.le_of_ble_eq_true rfl) rfl (by decide) (by decide) ?_
    refine ev_aload_n rfl ?_
    refine g_getp (r := 26) (c := 27) g ad26 (by decide) (by decide) rf26_2 ft9_2 ?_
    refine ev_bipush ?_
    refine ev_iload_n rfl ?_
    refine ev_imul (r := 8) (by decide) ?_
    refine ev_iconst ?_
    refine ev_iload_n rfl ?_
    refine ev_imul (r := 2) (by decide) ?_
    refine ev_iadd (r := 10) (by decide) ?_
    refine ev_iload_n rfl ?_
    refine ev_iadd (r := 10) (by decide) ?_
    refine g_iald g ad27 rt27 (by omega) (by omega) (fun v3983 ev3983 lv3983 uv3983 => ?_)
    refine ev_ret rfl (by decide) (by decide) ?_
    show jEv _ _ _ _ _ _ _ (_, [(2, 26), (9, 0)], [(0, v3983), (0, v3982), (0, v3980)], _, _, _)
    refine ev_in (d := 1) (a := 0) (b := 0) (cd' := c379_0) (m := 2) (L0 := [(0, v3982), (0, v3983)]) (jcall_s (A := [(0, v3983), (0, v3982)]) (S' := [(0, v3980)]) (by decide) rfl (Nat.le_of_ble_eq_true rfl)) (by decide) ml379 pp379 (Nat.le_of_ble_eq_true rfl) rfl (by decide) (by decide) ?_
    refine ev_iload_n rfl ?_
    refine ev_iload_n rfl ?_
    refine ev_icmplt f379_9 (fun c3984 => ?_) (fun c3984 => ?_)
    · refine ev_iload_n rfl ?_
      refine ev_ret rfl (by decide) (by decide) ?_
      show jEv _ _ _ _ _ _ _ (_, [(2, 26), (9, 0)], [(0, v3983), (0, v3980)], _, _, _)
      refine ev_in (d := 1) (a := 0) (b := 0) (cd' := c381_0) (m := 2) (L0 := [(0, v3980), (0, v3983)]) (jcall_s (A := [(0, v3983), (0, v3980)]) (S' := []) (by decide) rfl (Nat.le_of_ble_eq_true rfl)) (by decide) ml381 pp381 (Nat.le_of_ble_eq_true rfl) rfl (by decide) (by decide) ?_
      refine ev_iload_n rfl ?_
      refine ev_iload_n rfl ?_
      refine ev_icmpgt f381_9 (fun c3985 => ?_) (fun c3985 => ?_)
      · refine ev_iload_n rfl ?_
        refine ev_ret rfl (by decide) (by decide) ?_
        show jEv _ _ _ _ _ _ _ (_, [(2, 26), (9, 0)], [(0, v3983)], _, _, _)
        refine ev_istore_n (L' := [(2, 26), (0, v3983)]) (Nat.le_of_ble_eq_true rfl) rfl ?_
        refine ev_aload_n rfl ?_
        refine ev_call (jcall_v (A := []) (S' := []) (r := 26) rfl (g.lt ad26) (g.tg ad26) (Nat.le_of_ble_eq_true rfl)) (jOk_le (by decide) (s111 g )) (by decide) (by decide) (fun w3986 h3986 q3986 => ?_)
        obtain ⟨v3987, rfl, lv3987, uv3987, g3986, kk3986⟩ := q3986
        have k3986 := k0.tr kk3986 (by decide)
        show jEv _ _ _ _ _ _ _ (_, [(2, 26), (0, v3983)], [(0, v3987)], _, _, _)
        refine ev_iload_n rfl ?_
        refine ev_icmpeq f113_53 (fun c3988 => ?_) (fun c3988 => ?_)
        · refine ev_iconst ?_
          refine ev_goto f113_58 ?_
          exact ev_ret rfl (by decide) (by decide) ⟨_, rfl, by omega, by omega, g3986, k3986⟩
        · refine ev_aload_n rfl ?_
          refine ev_call (jcall_v (A := []) (S' := []) (r := 26) rfl (g3986.lt ad26) (g3986.tg ad26) (Nat.le_of_ble_eq_true rfl)) (jOk_le (by decide) (s112 g3986 )) (by decide) (by decide) (fun w3989 h3989 q3989 => ?_)
          obtain ⟨v3990, rfl, lv3990, uv3990, g3989, kk3989⟩ := q3989
          have k3989 := k3986.tr kk3989 (by decide)
          show jEv _ _ _ _ _ _ _ (_, [(2, 26), (0, v3983)], [(0, v3990)], _, _, _)
          refine ev_ifne f113_57 (fun c3991 => ?_) (fun c3991 => ?_)
          · refine ev_iconst ?_
            exact ev_ret rfl (by decide) (by decide) ⟨_, rfl, by omega, by omega, g3989, k3989⟩
          · refine ev_iconst ?_
            refine ev_goto f113_58 ?_
            exact ev_ret rfl (by decide) (by decide) ⟨_, rfl, by omega, by omega, g3989, k3989⟩
      · refine ev_iload_n rfl ?_
        refine ev_goto f381_10 ?_
        refine ev_ret rfl (by decide) (by decide) ?_
        show jEv _ _ _ _ _ _ _ (_, [(2, 26), (9, 0)], [(0, v3980)], _, _, _)
        refine ev_istore_n (L' := [(2, 26), (0, v3980)]) (Nat.le_of_ble_eq_true rfl) rfl ?_
        refine ev_aload_n rfl ?_
        refine ev_call (jcall_v (A := []) (S' := []) (r := 26) rfl (g.lt ad26) (g.tg ad26) (Nat.le_of_ble_eq_true rfl)) (jOk_le (by decide) (s111 g )) (by decide) (by decide) (fun w3992 h3992 q3992 => ?_)
        obtain ⟨v3993, rfl, lv3993, uv3993, g3992, kk3992⟩ := q3992
        have k3992 := k0.tr kk3992 (by decide)
        show jEv _ _ _ _ _ _ _ (_, [(2, 26), (0, v3980)], [(0, v3993)], _, _, _)
        refine ev_iload_n rfl ?_
        refine ev_icmpeq f113_53 (fun c3994 => ?_) (fun c3994 => ?_)
        · refine ev_iconst ?_
          refine ev_goto f113_58 ?_
          exact ev_ret rfl (by decide) (by decide) ⟨_, rfl, by omega, by omega, g3992, k3992⟩
        · refine ev_aload_n rfl ?_
          refine ev_call (jcall_v (A := []) (S' := []) (r := 26) rfl (g3992.lt ad26) (g3992.tg ad26) (Nat.le_of_ble_eq_true rfl)) (jOk_le (by decide) (s112 g3992 )) (by decide) (by decide) (fun w3995 h3995 q3995 => ?_)
          obtain ⟨v3996, rfl, lv3996, uv3996, g3995, kk3995⟩ := q3995
          have k3995 := k3992.tr kk3995 (by decide)
          show jEv _ _ _ _ _ _ _ (_, [(2, 26), (0, v3980)], [(0, v3996)], _, _, _)
          refine ev_ifne f113_57 (fun c3997 => ?_) (fun c3997 => ?_)
          · refine ev_iconst ?_
            exact ev_ret rfl (by decide) (by decide) ⟨_, rfl, by omega, by omega, g3995, k3995⟩
          · refine ev_iconst ?_
            refine ev_goto f113_58 ?_
            exact ev_ret rfl (by decide) (by decide) ⟨_, rfl, by omega, by omega, g3995, k3995⟩
    · refine ev_iload_n rfl ?_
      refine ev_goto f379_10 ?_
      refine ev_ret rfl (by decide) (by decide) ?_
      show jEv _ _ _ _ _ _ _ (_, [(2, 26), (9, 0)], [(0, v3982), (0, v3980)], _, _, _)
      refine ev_in (d := 1) (a := 0) (b := 0) (cd' := c381_0) (m := 2) (L0 := [(0, v3980), (0, v3982)]) (jcall_s (A := [(0, v3982), (0, v3980)]) (S' := []) (by decide) rfl (Nat.le_of_ble_eq_true rfl)) (by decide) ml381 pp381 (Nat.le_of_ble_eq_true rfl) rfl (by decide) (by decide) ?_
      refine ev_iload_n rfl ?_
      refine ev_iload_n rfl ?_
      refine ev_icmpgt f381_9 (fun c3998 => ?_) (fun c3998 => ?_)
      · refine ev_iload_n rfl ?_
        refine ev_ret rfl (by decide) (by decide) ?_
        show jEv _ _ _ _ _ _ _ (_, [(2, 26), (9, 0)], [(0, v3982)], _, _, _)
        refine ev_istore_n (L' := [(2, 26), (0, v3982)]) (Nat.le_of_ble_eq_true rfl) rfl ?_
        refine ev_aload_n rfl ?_
        refine ev_call (jcall_v (A := []) (S' := []) (r := 26) rfl (g.lt ad26) (g.tg ad26) (Nat.le_of_ble_eq_true rfl)) (jOk_le (by decide) (s111 g )) (by decide) (by decide) (fun w3999 h3999 q3999 => ?_)
        obtain ⟨v4000, rfl, lv4000, uv4000, g3999, kk3999⟩ := q3999
        have k3999 := k0.tr kk3999 (by decide)
        show jEv _ _ _ _ _ _ _ (_, [(2, 26), (0, v3982)], [(0, v4000)], _, _, _)
        refine ev_iload_n rfl ?_
        refine ev_icmpeq f113_53 (fun c4001 => ?_) (fun c4001 => ?_)
        · refine ev_iconst ?_
          refine ev_goto f113_58 ?_
          exact ev_ret rfl (by decide) (by decide) ⟨_, rfl, by omega, by omega, g3999, k3999⟩
        · refine ev_aload_n rfl ?_
          refine ev_call (jcall_v (A := []) (S' := []) (r := 26) rfl (g3999.lt ad26) (g3999.tg ad26) (Nat.le_of_ble_eq_true rfl)) (jOk_le (by decide) (s112 g3999 )) (by decide) (by decide) (fun w4002 h4002 q4002 => ?_)
          obtain ⟨v4003, rfl, lv4003, uv4003, g4002, kk4002⟩ := q4002
          have k4002 := k3999.tr kk4002 (by decide)
          show jEv _ _ _ _ _ _ _ (_, [(2, 26), (0, v3982)], [(0, v4003)], _, _, _)
          refine ev_ifne f113_57 (fun c4004 => ?_) (fun c4004 => ?_)
          · refine ev_iconst ?_
            exact ev_ret rfl (by decide) (by decide) ⟨_, rfl, by omega, by omega, g4002, k4002⟩
          · refine ev_iconst ?_
            refine ev_goto f113_58 ?_
            exact ev_ret rfl (by decide) (by decide) ⟨_, rfl, by omega, by omega, g4002, k4002⟩
      · refine ev_iload_n rfl ?_
        refine ev_goto f381_10 ?_
        refine ev_ret rfl (by decide) (by decide) ?_
        show jEv _ _ _ _ _ _ _ (_, [(2, 26), (9, 0)], [(0, v3980)], _, _, _)
        refine ev_istore_n (L' := [(2, 26), (0, v3980)]) (Nat.le_of_ble_eq_true rfl) rfl ?_
        refine ev_aload_n rfl ?_
        refine ev_call (jcall_v (A := []) (S' := []) (r := 26) rfl (g.lt ad26) (g.tg ad26) (Nat.le_of_ble_eq_true rfl)) (jOk_le (by decide) (s111 g )) (by decide) (by decide) (fun w4005 h4005 q4005 => ?_)
        obtain ⟨v4006, rfl, lv4006, uv4006, g4005, kk4005⟩ := q4005
        have k4005 := k0.tr kk4005 (by decide)
        show jEv _ _ _ _ _ _ _ (_, [(2, 26), (0, v3980)], [(0, v4006)], _, _, _)
        refine ev_iload_n rfl ?_
        refine ev_icmpeq f113_53 (fun c4007 => ?_) (fun c4007 => ?_)
        · refine ev_iconst ?_
          refine ev_goto f113_58 ?_
          exact ev_ret rfl (by decide) (by decide) ⟨_, rfl, by omega, by omega, g4005, k4005⟩
        · refine ev_aload_n rfl ?_
          refine ev_call (jcall_v (A := []) (S' := []) (r := 26) rfl (g4005.lt ad26) (g4005.tg ad26) (Nat.le_of_ble_eq_true rfl)) (jOk_le (by decide) (s112 g4005 )) (by decide) (by decide) (fun w4008 h4008 q4008 => ?_)
          obtain ⟨v4009, rfl, lv4009, uv4009, g4008, kk4008⟩ := q4008
          have k4008 := k4005.tr kk4008 (by decide)
          show jEv _ _ _ _ _ _ _ (_, [(2, 26), (0, v3980)], [(0, v4009)], _, _, _)
          refine ev_ifne f113_57 (fun c4010 => ?_) (fun c4010 => ?_)
          · refine ev_iconst ?_
            exact ev_ret rfl (by decide) (by decide) ⟨_, rfl, by omega, by omega, g4008, k4008⟩
          · refine ev_iconst ?_
            refine ev_goto f113_58 ?_
            exact ev_ret rfl (by decide) (by decide) ⟨_, rfl, by omega, by omega, g4008, k4008⟩
  · refine ev_iload_n rfl ?_
    refine ev_goto f379_10 ?_
    refine ev_ret rfl (by decide) (by decide) ?_
    show jEv _ _ _ _ _ _ _ (_, [(2, 26), (9, 0)], [(0, v3979)], _, _, _)
    refine ev_aload_n rfl ?_
    refine ev_iconst ?_
    refine ev_iconst ?_
    refine ev_iconst ?_
    refine ev_in (d := 1) (a := 0) (b := 0) (cd' := c106_0) (m := 4) (L0 := [(2, 26), (0, 0), (0, 1), (0, 0)]) (jcall_v (A := [(0, 0), (0, 1), (0, 0)]) (S' := [(0, v3979)]) (r := 26) rfl (g.lt ad26) (g.tg ad26) (Nat.le_of_ble_eq_true rfl)) (by decide) ml106 pp106 (Nat.le_of_ble_eq_true rfl) rfl (by decide) (by decide) ?_
    refine ev_aload_n rfl ?_
    refine g_getp (r := 26) (c := 27) g ad26 (by decide) (by decide) rf26_2 ft9_2 ?_
    refine ev_bipush ?_
    refine ev_iload_n rfl ?_
    refine ev_imul (r := 0) (by decide) ?_
    refine ev_iconst ?_
    refine ev_iload_n rfl ?_
    refine ev_imul (r := 2) (by decide) ?_
    refine ev_iadd (r := 2) (by decide) ?_
    refine ev_iload_n rfl ?_
    refine ev_iadd (r := 2) (by decide) ?_
    refine g_iald g ad27 rt27 (by omega) (by omega) (fun v4011 ev4011 lv4011 uv4011 => ?_)
    refine ev_ret rfl (by decide) (by decide) ?_
    show jEv _ _ _ _ _ _ _ (_, [(2, 26), (9, 0)], [(0, v4011), (0, v3979)], _, _, _)
    refine ev_aload_n rfl ?_
    refine ev_iconst ?_
    refine ev_iconst ?_
    refine ev_iconst ?_
    refine ev_in (d := 1) (a := 0) (b := 0) (cd' := c106_0) (m := 4) (L0 := [(2, 26), (0, 1), (0, 1), (0, 0)]) (jcall_v (A := [(0, 0), (0, 1), (0, 1)]) (S' := [(0, v4011), (0, v3979)]) (r := 26) rfl (g.lt ad26) (g.tg ad26) (Nat.le_of_ble_eq_true rfl)) (by decide) ml106 pp106 (Nat.le_of_ble_eq_true rfl) rfl (by decide) (by decide) ?_
    refine ev_aload_n rfl ?_
    refine g_getp (r := 26) (c := 27) g ad26 (by decide) (by decide) rf26_2 ft9_2 ?_
    refine ev_bipush ?_
    refine ev_iload_n rfl ?_
    refine ev_imul (r := 8) (by decide) ?_
    refine ev_iconst ?_
    refine ev_iload_n rfl ?_
    refine ev_imul (r := 2) (by decide) ?_
    refine ev_iadd (r := 10) (by decide) ?_
    refine ev_iload_n rfl ?_
    refine ev_iadd (r := 10) (by decide) ?_
    refine g_iald g ad27 rt27 (by omega) (by omega) (fun v4012 ev4012 lv4012 uv4012 => ?_)
    refine ev_ret rfl (by decide) (by decide) ?_
    show jEv _ _ _ _ _ _ _ (_, [(2, 26), (9, 0)], [(0, v4012), (0, v4011), (0, v3979)], _, _, _)
    refine ev_in (d := 1) (a := 0) (b := 0) (cd' := c379_0) (m := 2) (L0 := [(0, v4011), (0, v4012)]) (jcall_s (A := [(0, v4012), (0, v4011)]) (S' := [(0, v3979)]) (by decide) rfl (Nat.le_of_ble_eq_true rfl)) (by decide) ml379 pp379 (Nat.le_of_ble_eq_true rfl) rfl (by decide) (by decide) ?_
    refine ev_iload_n rfl ?_
    refine ev_iload_n rfl ?_
    refine ev_icmplt f379_9 (fun c4013 => ?_) (fun c4013 => ?_)
    · refine ev_iload_n rfl ?_
      refine ev_ret rfl (by decide) (by decide) ?_
      show jEv _ _ _ _ _ _ _ (_, [(2, 26), (9, 0)], [(0, v4012), (0, v3979)], _, _, _)
      refine ev_in (d := 1) (a := 0) (b := 0) (cd' := c381_0) (m := 2) (L0 := [(0, v3979), (0, v4012)]) (jcall_s (A := [(0, v4012), (0, v3979)]) (S' := []) (by decide) rfl (Nat.le_of_ble_eq_true rfl)) (by decide) ml381 pp381 (Nat.le_of_ble_eq_true rfl) rfl (by decide) (by decide) ?_
      refine ev_iload_n rfl ?_
      refine ev_iload_n rfl ?_
      refine ev_icmpgt f381_9 (fun c4014 => ?_) (fun c4014 => ?_)
      · refine ev_iload_n rfl ?_
        refine ev_ret rfl (by decide) (by decide) ?_
        show jEv _ _ _ _ _ _ _ (_, [(2, 26), (9, 0)], [(0, v4012)], _, _, _)
        refine ev_istore_n (L' := [(2, 26), (0, v4012)]) (Nat.le_of_ble_eq_true rfl) rfl ?_
        refine ev_aload_n rfl ?_
        refine ev_call (jcall_v (A := []) (S' := []) (r := 26) rfl (g.lt ad26) (g.tg ad26) (Nat.le_of_ble_eq_true rfl)) (jOk_le (by decide) (s111 g )) (by decide) (by decide) (fun w4015 h4015 q4015 => ?_)
        obtain ⟨v4016, rfl, lv4016, uv4016, g4015, kk4015⟩ := q4015
        have k4015 := k0.tr kk4015 (by decide)
        show jEv _ _ _ _ _ _ _ (_, [(2, 26), (0, v4012)], [(0, v4016)], _, _, _)
        refine ev_iload_n rfl ?_
        refine ev_icmpeq f113_53 (fun c4017 => ?_) (fun c4017 => ?_)
        · refine ev_iconst ?_
          refine ev_goto f113_58 ?_
          exact ev_ret rfl (by decide) (by decide) ⟨_, rfl, by omega, by omega, g4015, k4015⟩
        · refine ev_aload_n rfl ?_
          refine ev_call (jcall_v (A := []) (S' := []) (r := 26) rfl (g4015.lt ad26) (g4015.tg ad26) (Nat.le_of_ble_eq_true rfl)) (jOk_le (by decide) (s112 g4015 )) (by decide) (by decide) (fun w4018 h4018 q4018 => ?_)
          obtain ⟨v4019, rfl, lv4019, uv4019, g4018, kk4018⟩ := q4018
          have k4018 := k4015.tr kk4018 (by decide)
          show jEv _ _ _ _ _ _ _ (_, [(2, 26), (0, v4012)], [(0, v4019)], _, _, _)
          refine ev_ifne f113_57 (fun c4020 => ?_) (fun c4020 => ?_)
          · refine ev_iconst ?_
            exact ev_ret rfl (by decide) (by decide) ⟨_, rfl, by omega, by omega, g4018, k4018⟩
          · refine ev_iconst ?_
            refine ev_goto f113_58 ?_
            exact ev_ret rfl (by decide) (by decide) ⟨_, rfl, by omega, by omega, g4018, k4018⟩
      · refine ev_iload_n rfl ?_
        refine ev_goto f381_10 ?_
        refine ev_ret rfl (by decide) (by decide) ?_
        show jEv _ _ _ _ _ _ _ (_, [(2, 26), (9, 0)], [(0, v3979)], _, _, _)
        refine ev_istore_n (L' := [(2, 26), (0, v3979)]) (Nat.le_of_ble_eq_true rfl) rfl ?_
        refine ev_aload_n rfl ?_
        refine ev_call (jcall_v (A := []) (S' := []) (r := 26) rfl (g.lt ad26) (g.tg ad26) (Nat.le_of_ble_eq_true rfl)) (jOk_le (by decide) (s111 g )) (by decide) (by decide) (fun w4021 h4021 q4021 => ?_)
        obtain ⟨v4022, rfl, lv4022, uv4022, g4021, kk4021⟩ := q4021
        have k4021 := k0.tr kk4021 (by decide)
        show jEv _ _ _ _ _ _ _ (_, [(2, 26), (0, v3979)], [(0, v4022)], _, _, _)
        refine ev_iload_n rfl ?_
        refine ev_icmpeq f113_53 (fun c4023 => ?_) (fun c4023 => ?_)
        · refine ev_iconst ?_
          refine ev_goto f113_58 ?_
          exact ev_ret rfl (by decide) (by decide) ⟨_, rfl, by omega, by omega, g4021, k4021⟩
        · refine ev_aload_n rfl ?_
          refine ev_call (jcall_v (A := []) (S' := []) (r := 26) rfl (g4021.lt ad26) (g4021.tg ad26) (Nat.le_of_ble_eq_true rfl)) (jOk_le (by decide) (s112 g4021 )) (by decide) (by decide) (fun w4024 h4024 q4024 => ?_)
          obtain ⟨v4025, rfl, lv4025, uv4025, g4024, kk4024⟩ := q4024
          have k4024 := k4021.tr kk4024 (by decide)
          show jEv _ _ _ _ _ _ _ (_, [(2, 26), (0, v3979)], [(0, v4025)], _, _, _)
          refine ev_ifne f113_57 (fun c4026 => ?_) (fun c4026 => ?_)
          · refine ev_iconst ?_
            exact ev_ret rfl (by decide) (by decide) ⟨_, rfl, by omega, by omega, g4024, k4024⟩
          · refine ev_iconst ?_
            refine ev_goto f113_58 ?_
            exact ev_ret rfl (by decide) (by decide) ⟨_, rfl, by omega, by omega, g4024, k4024⟩
    · refine ev_iload_n rfl ?_
      refine ev_goto f379_10 ?_
      refine ev_ret rfl (by decide) (by decide) ?_
      show jEv _ _ _ _ _ _ _ (_, [(2, 26), (9, 0)], [(0, v4011), (0, v3979)], _, _, _)
      refine ev_in (d := 1) (a := 0) (b := 0) (cd' := c381_0) (m := 2) (L0 := [(0, v3979), (0, v4011)]) (jcall_s (A := [(0, v4011), (0, v3979)]) (S' := []) (by decide) rfl (Nat.le_of_ble_eq_true rfl)) (by decide) ml381 pp381 (Nat.le_of_ble_eq_true rfl) rfl (by decide) (by decide) ?_
      refine ev_iload_n rfl ?_
      refine ev_iload_n rfl ?_
      refine ev_icmpgt f381_9 (fun c4027 => ?_) (fun c4027 => ?_)
      · refine ev_iload_n rfl ?_
        refine ev_ret rfl (by decide) (by decide) ?_
        show jEv _ _ _ _ _ _ _ (_, [(2, 26), (9, 0)], [(0, v4011)], _, _, _)
        refine ev_istore_n (L' := [(2, 26), (0, v4011)]) (Nat.le_of_ble_eq_true rfl) rfl ?_
        refine ev_aload_n rfl ?_
        refine ev_call (jcall_v (A := []) (S' := []) (r := 26) rfl (g.lt ad26) (g.tg ad26) (Nat.le_of_ble_eq_true rfl)) (jOk_le (by decide) (s111 g )) (by decide) (by decide) (fun w4028 h4028 q4028 => ?_)
        obtain ⟨v4029, rfl, lv4029, uv4029, g4028, kk4028⟩ := q4028
        have k4028 := k0.tr kk4028 (by decide)
        show jEv _ _ _ _ _ _ _ (_, [(2, 26), (0, v4011)], [(0, v4029)], _, _, _)
        refine ev_iload_n rfl ?_
        refine ev_icmpeq f113_53 (fun c4030 => ?_) (fun c4030 => ?_)
        · refine ev_iconst ?_
          refine ev_goto f113_58 ?_
          exact ev_ret rfl (by decide) (by decide) ⟨_, rfl, by omega, by omega, g4028, k4028⟩
        · refine ev_aload_n rfl ?_
          refine ev_call (jcall_v (A := []) (S' := []) (r := 26) rfl (g4028.lt ad26) (g4028.tg ad26) (Nat.le_of_ble_eq_true rfl)) (jOk_le (by decide) (s112 g4028 )) (by decide) (by decide) (fun w4031 h4031 q4031 => ?_)
          obtain ⟨v4032, rfl, lv4032, uv4032, g4031, kk4031⟩ := q4031
          have k4031 := k4028.tr kk4031 (by decide)
          show jEv _ _ _ _ _ _ _ (_, [(2, 26), (0, v4011)], [(0, v4032)], _, _, _)
          refine ev_ifne f113_57 (fun c4033 => ?_) (fun c4033 => ?_)
          · refine ev_iconst ?_
            exact ev_ret rfl (by decide) (by decide) ⟨_, rfl, by omega, by omega, g4031, k4031⟩
          · refine ev_iconst ?_
            refine ev_goto f113_58 ?_
            exact ev_ret rfl (by decide) (by decide) ⟨_, rfl, by omega, by omega, g4031, k4031⟩
      · refine ev_iload_n rfl ?_
        refine ev_goto f381_10 ?_
        refine ev_ret rfl (by decide) (by decide) ?_
        show jEv _ _ _ _ _ _ _ (_, [(2, 26), (9, 0)], [(0, v3979)], _, _, _)
        refine ev_istore_n (L' := [(2, 26), (0, v3979)]) (Nat.le_of_ble_eq_true rfl) rfl ?_
        refine ev_aload_n rfl ?_
        refine ev_call (jcall_v (A := []) (S' := []) (r := 26) rfl (g.lt ad26) (g.tg ad26) (Nat.le_of_ble_eq_true rfl)) (jOk_le (by decide) (s111 g )) (by decide) (by decide) (fun w4034 h4034 q4034 => ?_)
        obtain ⟨v4035, rfl, lv4035, uv4035, g4034, kk4034⟩ := q4034
        have k4034 := k0.tr kk4034 (by decide)
        show jEv _ _ _ _ _ _ _ (_, [(2, 26), (0, v3979)], [(0, v4035)], _, _, _)
        refine ev_iload_n rfl ?_
        refine ev_icmpeq f113_53 (fun c4036 => ?_) (fun c4036 => ?_)
        · refine ev_iconst ?_
          refine ev_goto f113_58 ?_
          exact ev_ret rfl (by decide) (by decide) ⟨_, rfl, by omega, by omega, g4034, k4034⟩
        · refine ev_aload_n rfl ?_
          refine ev_call (jcall_v (A := []) (S' := []) (r := 26) rfl (g4034.lt ad26) (g4034.tg ad26) (Nat.le_of_ble_eq_true rfl)) (jOk_le (by decide) (s112 g4034 )) (by decide) (by decide) (fun w4037 h4037 q4037 => ?_)
          obtain ⟨v4038, rfl, lv4038, uv4038, g4037, kk4037⟩ := q4037
          have k4037 := k4034.tr kk4037 (by decide)
          show jEv _ _ _ _ _ _ _ (_, [(2, 26), (0, v3979)], [(0, v4038)], _, _, _)
          refine ev_ifne f113_57 (fun c4039 => ?_) (fun c4039 => ?_)
          · refine ev_iconst ?_
            exact ev_ret rfl (by decide) (by decide) ⟨_, rfl, by omega, by omega, g4037, k4037⟩
          · refine ev_iconst ?_
            refine ev_goto f113_58 ?_
            exact ev_ret rfl (by decide) (by decide) ⟨_, rfl, by omega, by omega, g4037, k4037⟩
/-! 114 duelTop -/
set_option maxHeartbeats 4000000 in
theorem s114 {G : GH} {h : JH} (g : Gd G h)  : jOk 4 0 0 114 [(2, 26)] h (PI G [] h 1 (-2147483648) 2147483647) := by
  refine ⟨by decide, by rw [ml114]; exact Nat.le_of_ble_eq_true rfl, ?_⟩
  rw [ml114, pp114]
  show jEv _ none _ c114_0 0 0 _ (c114_0, [(2, 26)], [], h, 0, 0)
  have k0 := Kp.rf [] h
  refine ev_aload_n rfl ?_
  refine ev_call (jcall_v (A := []) (S' := []) (r := 26) rfl (g.lt ad26) (g.tg ad26) (Nat.le_of_ble_eq_true rfl)) (jOk_le (by decide) (s113 g )) (by decide) (by decide) (fun w4064 h4064 q4064 => ?_)
  obtain ⟨v4065, rfl, lv4065, uv4065, g4064, kk4064⟩ := q4064
  have k4064 := k0.tr kk4064 (by decide)
  show jEv _ _ _ _ _ _ _ (_, [(2, 26)], [(0, v4065)], _, _, _)
  refine ev_ifeq f114_15 (fun c4066 => ?_) (fun c4066 => ?_)
  · refine ev_aload_n rfl ?_
    refine ev_iconst ?_
    refine ev_iconst ?_
    refine ev_iconst ?_
    refine ev_in (d := 2) (a := 0) (b := 0) (cd' := c106_0) (m := 4) (L0 := [(2, 26), (0, 0), (0, 0), (0, 0)]) (jcall_v (A := [(0, 0), (0, 0), (0, 0)]) (S' := []) (r := 26) rfl (g4064.lt ad26) (g4064.tg ad26) (Nat.le_of_ble_eq_true rfl)) (by decide) ml106 pp106 (Nat.le_of_ble_eq_true rfl) rfl (by decide) (by decide) ?_
    refine ev_aload_n rfl ?_
    refine g_getp (r := 26) (c := 27) g4064 ad26 (by decide) (by decide) rf26_2 ft9_2 ?_
    refine ev_bipush ?_
    refine ev_iload_n rfl ?_
    refine ev_imul (r := 0) (by decide) ?_
    refine ev_iconst ?_
    refine ev_iload_n rfl ?_
    refine ev_imul (r := 0) (by decide) ?_
    refine ev_iadd (r := 0) (by decide) ?_
    refine ev_iload_n rfl ?_
    refine ev_iadd (r := 0) (by decide) ?_
    refine g_iald g4064 ad27 rt27 (by omega) (by omega) (fun v4067 ev4067 lv4067 uv4067 => ?_)
    refine ev_ret rfl (by decide) (by decide) ?_
    show jEv _ _ _ _ _ _ _ (_, [(2, 26)], [(0, v4067)], _, _, _)
    refine ev_aload_n rfl ?_
    refine ev_iconst ?_
    refine ev_iconst ?_
    refine ev_iconst ?_
    refine ev_in (d := 2) (a := 0) (b := 0) (cd' := c106_0) (m := 4) (L0 := [(2, 26), (0, 1), (0, 1), (0, 0)]) (jcall_v (A := [(0, 0), (0, 1), (0, 1)]) (S' := [(0, v4067)]) (r := 26) rfl (g4064.lt ad26) (g4064.tg ad26) (Nat.le_of_ble_eq_true rfl)) (by decide) ml106 pp106 (Nat.le_of_ble_eq_true rfl) rfl (by decide) (by decide) ?_
    refine ev_aload_n rfl ?_
    refine g_getp (r := 26) (c := 27) g4064 ad26 (by decide) (by decide) rf26_2 ft9_2 ?_
    refine ev_bipush ?_
    refine ev_iload_n rfl ?_
    refine ev_imul (r := 8) (by decide) ?_
    refine ev_iconst ?_
    refine ev_iload_n rfl ?_
    refine ev_imul (r := 2) (by decide) ?_
    refine ev_iadd (r := 10) (by decide) ?_
    refine ev_iload_n rfl ?_
    refine ev_iadd (r := 10) (by decide) ?_
    refine g_iald g4064 ad27 rt27 (by omega) (by omega) (fun v4068 ev4068 lv4068 uv4068 => ?_)
    refine ev_ret rfl (by decide) (by decide) ?_
    show jEv _ _ _ _ _ _ _ (_, [(2, 26)], [(0, v4068), (0, v4067)], _, _, _)
    refine g_imulG (fun v4069 ev4069 lv4069 uv4069 => ?_)
    refine ev_aload_n rfl ?_
    refine ev_iconst ?_
    refine ev_iconst ?_
    refine ev_iconst ?_
    refine ev_in (d := 2) (a := 0) (b := 0) (cd' := c106_0) (m := 4) (L0 := [(2, 26), (0, 0), (0, 1), (0, 0)]) (jcall_v (A := [(0, 0), (0, 1), (0, 0)]) (S' := [(0, v4069)]) (r := 26) rfl (g4064.lt ad26) (g4064.tg ad26) (Nat.le_of_ble_eq_true rfl)) (by decide) ml106 pp106 (Nat.le_of_ble_eq_true rfl) rfl (by decide) (by decide) ?_
    refine ev_aload_n rfl ?_
    refine g_getp (r := 26) (c := 27) g4064 ad26 (by decide) (by decide) rf26_2 ft9_2 ?_
    refine ev_bipush ?_
    refine ev_iload_n rfl ?_
    refine ev_imul (r := 0) (by decide) ?_
    refine ev_iconst ?_
    refine ev_iload_n rfl ?_
    refine ev_imul (r := 2) (by decide) ?_
    refine ev_iadd (r := 2) (by decide) ?_
    refine ev_iload_n rfl ?_
    refine ev_iadd (r := 2) (by decide) ?_
    refine g_iald g4064 ad27 rt27 (by omega) (by omega) (fun v4070 ev4070 lv4070 uv4070 => ?_)
    refine ev_ret rfl (by decide) (by decide) ?_
    show jEv _ _ _ _ _ _ _ (_, [(2, 26)], [(0, v4070), (0, v4069)], _, _, _)
    refine ev_aload_n rfl ?_
    refine ev_iconst ?_
    refine ev_iconst ?_
    refine ev_iconst ?_
    refine ev_in (d := 2) (a := 0) (b := 0) (cd' := c106_0) (m := 4) (L0 := [(2, 26), (0, 1), (0, 0), (0, 0)]) (jcall_v (A := [(0, 0), (0, 0), (0, 1)]) (S' := [(0, v4070), (0, v4069)]) (r := 26) rfl (g4064.lt ad26) (g4064.tg ad26) (Nat.le_of_ble_eq_true rfl)) (by decide) ml106 pp106 (Nat.le_of_ble_eq_true rfl) rfl (by decide) (by decide) ?_
    refine ev_aload_n rfl ?_
    refine g_getp (r := 26) (c := 27) g4064 ad26 (by decide) (by decide) rf26_2 ft9_2 ?_
    refine ev_bipush ?_
    refine ev_iload_n rfl ?_
    refine ev_imul (r := 8) (by decide) ?_
    refine ev_iconst ?_
    refine ev_iload_n rfl ?_
    refine ev_imul (r := 0) (by decide) ?_
    refine ev_iadd (r := 8) (by decide) ?_
    refine ev_iload_n rfl ?_
    refine ev_iadd (r := 8) (by decide) ?_
    refine g_iald g4064 ad27 rt27 (by omega) (by omega) (fun v4071 ev4071 lv4071 uv4071 => ?_)
    refine ev_ret rfl (by decide) (by decide) ?_
    show jEv _ _ _ _ _ _ _ (_, [(2, 26)], [(0, v4071), (0, v4070), (0, v4069)], _, _, _)
    refine g_imulG (fun v4072 ev4072 lv4072 uv4072 => ?_)
    refine g_isubG (fun v4073 ev4073 lv4073 uv4073 => ?_)
    refine ev_i2l ?_
    exact ev_ret rfl (by decide) (by decide) ⟨_, rfl, by omega, by omega, g4064, k4064⟩
  · refine ev_aload_n rfl ?_
    refine ev_call (jcall_v (A := []) (S' := []) (r := 26) rfl (g4064.lt ad26) (g4064.tg ad26) (Nat.le_of_ble_eq_true rfl)) (jOk_le (by decide) (s111 g4064 )) (by decide) (by decide) (fun w4074 h4074 q4074 => ?_)
    obtain ⟨v4075, rfl, lv4075, uv4075, g4074, kk4074⟩ := q4074
    have k4074 := k4064.tr kk4074 (by decide)
    show jEv _ _ _ _ _ _ _ (_, [(2, 26)], [(0, v4075)], _, _, _)
    refine ev_i2l ?_
    refine ev_goto f114_47 ?_
    exact ev_ret rfl (by decide) (by decide) ⟨_, rfl, by omega, by omega, g4074, k4074⟩
/-! 115 duelBottom -/
set_option maxHeartbeats 4000000 in
theorem s115 {G : GH} {h : JH} (g : Gd G h)  : jOk 4 0 0 115 [(2, 26)] h (PI G [] h 1 (-396) 396) := by
  refine ⟨by decide, by rw [ml115]; exact Nat.le_of_ble_eq_true rfl, ?_⟩
  rw [ml115, pp115]
  show jEv _ none _ c115_0 0 0 _ (c115_0, [(2, 26)], [], h, 0, 0)
  have k0 := Kp.rf [] h
  refine ev_aload_n rfl ?_
  refine ev_call (jcall_v (A := []) (S' := []) (r := 26) rfl (g.lt ad26) (g.tg ad26) (Nat.le_of_ble_eq_true rfl)) (jOk_le (by decide) (s113 g )) (by decide) (by decide) (fun w4086 h4086 q4086 => ?_)
  obtain ⟨v4087, rfl, lv4087, uv4087, g4086, kk4086⟩ := q4086
  have k4086 := k0.tr kk4086 (by decide)
  show jEv _ _ _ _ _ _ _ (_, [(2, 26)], [(0, v4087)], _, _, _)
  refine ev_ifeq f115_11 (fun c4088 => ?_) (fun c4088 => ?_)
  · refine ev_aload_n rfl ?_
    refine ev_call (jcall_v (A := []) (S' := []) (r := 26) rfl (g4086.lt ad26) (g4086.tg ad26) (Nat.le_of_ble_eq_true rfl)) (jOk_le (by decide) (s112 g4086 )) (by decide) (by decide) (fun w4089 h4089 q4089 => ?_)
    obtain ⟨v4090, rfl, lv4090, uv4090, g4089, kk4089⟩ := q4089
    have k4089 := k4086.tr kk4089 (by decide)
    show jEv _ _ _ _ _ _ _ (_, [(2, 26)], [(0, v4090)], _, _, _)
    refine ev_i2l ?_
    exact ev_ret rfl (by decide) (by decide) ⟨_, rfl, by omega, by omega, g4089, k4089⟩
  · refine ev_lconst ?_
    refine ev_goto f115_16 ?_
    exact ev_ret rfl (by decide) (by decide) ⟨_, rfl, by omega, by omega, g4086, k4086⟩
/-! 92 sumOver -/
set_option maxHeartbeats 4000000 in
theorem s92_l {G : GH} {h : JH} {a1 : Int} (la1 : (-2147483648) ≤ a1) (ua1 : a1 ≤ 2147483647) {a2 : Int} (la2 : (-2147483648) ≤ a2) (ua2 : a2 ≤ 2147483647) : ∀ N : Nat, (∀ (h1 : JH) (x3 x4 x5 x6 : Int), Gd G h1 → Kp [] h h1 → (-2147483648) ≤ a1 → a1 ≤ 2147483647 → (-2147483648) ≤ a2 → a2 ≤ 2147483647 → (-2147483648) ≤ x3 → x3 ≤ 2147483647 → (-2147483648) ≤ x4 → x4 ≤ 2147483647 → (-2147483648) ≤ x5 → x5 ≤ 2147483647 → 0 ≤ x6 → x6 ≤ 6 → ((-x6) + 6) < N → jEv (jOk 0) none (fun _ => 0) c92_0 0 0 (PI G [] h 0 (-2147483648) 2147483647) (c92_12, [(2, 19), (0, a1), (0, a2), (0, x3), (0, x4), (0, x5), (0, x6)], [], h1, 0, 0)) := by
  intro N
  induction N with
  | zero => exact fun h1 x3 x4 x5 x6 g1 k1 b0 b1 b2 b3 b4 b5 b6 b7 b8 b9 b10 b11 hm => absurd hm (by omega)
  | succ N ih =>
    show _
    intro h1 x3 x4 x5 x6 g1 k1 b0 b1 b2 b3 b4 b5 b6 b7 b8 b9 b10 b11 hm
    refine ev_iload rfl ?_
    refine ev_aload_n rfl ?_
    obtain ⟨v4240, ev4240, lv4240, uv4240⟩ := g1.rd ad19 (show 4 < 6 by decide) rf19_4
    obtain ⟨v4241, ev4241, lv4241, uv4241⟩ := g1.rd ad19 (show 3 < 6 by decide) rf19_3
    have tv4240 := g1.2.2.2.2.2.2.1
    rw [ev4240, ev4241] at tv4240
    refine g_getv (r := 19) (v := v4240) g1 ad19 (by decide) ft7_4 ev4240 ?_
    refine ev_icmpge f92_84 (fun c4242 => ?_) (fun c4242 => ?_)
    · refine ev_iload_n rfl ?_
      refine ev_iload_n rfl ?_
      refine ev_iload rfl ?_
      refine g_isubG (fun v4243 ev4243 lv4243 uv4243 => ?_)
      refine ev_iconst ?_
      refine g_iaddG (fun v4244 ev4244 lv4244 uv4244 => ?_)
      refine ev_iload rfl ?_
      refine g_imulG (fun v4245 ev4245 lv4245 uv4245 => ?_)
      refine g_iaddG (fun v4246 ev4246 lv4246 uv4246 => ?_)
      exact ev_ret rfl (by decide) (by decide) ⟨_, rfl, by omega, by omega, g1, k1⟩
    · refine ev_aload_n rfl ?_
      refine g_getp (r := 19) (c := 20) g1 ad19 (by decide) (by decide) rf19_0 ft7_0 ?_
      refine ev_iload rfl ?_
      refine g_iald g1 ad20 rt20 (by omega) (by omega) (fun v4247 ev4247 lv4247 uv4247 => ?_)
      refine ev_iload_n rfl ?_
      refine ev_icmpgt f92_84 (fun c4248 => ?_) (fun c4248 => ?_)
      · refine ev_iload_n rfl ?_
        refine ev_iload_n rfl ?_
        refine ev_iload rfl ?_
        refine g_isubG (fun v4249 ev4249 lv4249 uv4249 => ?_)
        refine ev_iconst ?_
        refine g_iaddG (fun v4250 ev4250 lv4250 uv4250 => ?_)
        refine ev_iload rfl ?_
        refine g_imulG (fun v4251 ev4251 lv4251 uv4251 => ?_)
        refine g_iaddG (fun v4252 ev4252 lv4252 uv4252 => ?_)
        exact ev_ret rfl (by decide) (by decide) ⟨_, rfl, by omega, by omega, g1, k1⟩
      · refine ev_aload_n rfl ?_
        refine g_getp (r := 19) (c := 20) g1 ad19 (by decide) (by decide) rf19_0 ft7_0 ?_
        refine ev_iload rfl ?_
        refine g_ialdv (v := v4247) g1 ad20 (by omega) (by omega) (ev4247) ?_
        refine ev_iload rfl ?_
        refine ev_icmple f92_69 (fun c4253 => ?_) (fun c4253 => ?_)
        · refine ev_aload_n rfl ?_
          refine g_getp (r := 19) (c := 21) g1 ad19 (by decide) (by decide) rf19_1 ft7_1 ?_
          refine ev_iload rfl ?_
          refine g_iald g1 ad21 rt21 (by omega) (by omega) (fun v4254 ev4254 lv4254 uv4254 => ?_)
          refine ev_istore (L' := [(2, 19), (0, a1), (0, a2), (0, x3), (0, x4), (0, v4254), (0, x6)]) (Nat.le_of_ble_eq_true rfl) rfl ?_
          refine ev_iinc (w := (x6 + 1)) (L' := [(2, 19), (0, a1), (0, a2), (0, x3), (0, x4), (0, v4254), (0, (x6 + 1))]) rfl (by unfold w32; omega) rfl ?_
          refine ev_goto f92_12 ?_
          exact ih _ _ _ _ _ g1 k1 (by omega) (by omega) (by omega) (by omega) (by omega) (by omega) (by omega) (by omega) (by omega) (by omega) (by omega) (by omega) (by omega)
        · refine ev_iload_n rfl ?_
          refine ev_aload_n rfl ?_
          refine g_getp (r := 19) (c := 20) g1 ad19 (by decide) (by decide) rf19_0 ft7_0 ?_
          refine ev_iload rfl ?_
          refine g_ialdv (v := v4247) g1 ad20 (by omega) (by omega) (ev4247) ?_
          refine ev_iload rfl ?_
          refine g_isubG (fun v4255 ev4255 lv4255 uv4255 => ?_)
          refine ev_iload rfl ?_
          refine g_imulG (fun v4256 ev4256 lv4256 uv4256 => ?_)
          refine g_iaddG (fun v4257 ev4257 lv4257 uv4257 => ?_)
          refine ev_istore_n (L' := [(2, 19), (0, a1), (0, a2), (0, v4257), (0, x4), (0, x5), (0, x6)]) (Nat.le_of_ble_eq_true rfl) rfl ?_
          refine ev_aload_n rfl ?_
          refine g_getp (r := 19) (c := 20) g1 ad19 (by decide) (by decide) rf19_0 ft7_0 ?_
          refine ev_iload rfl ?_
          refine g_ialdv (v := v4247) g1 ad20 (by omega) (by omega) (ev4247) ?_
          refine ev_istore (L' := [(2, 19), (0, a1), (0, a2), (0, v4257), (0, v4247), (0, x5), (0, x6)]) (Nat.le_of_ble_eq_true rfl) rfl ?_
          refine ev_aload_n rfl ?_
          refine g_getp (r := 19) (c := 21) g1 ad19 (by decide) (by decide) rf19_1 ft7_1 ?_
          refine ev_iload rfl ?_
          refine g_iald g1 ad21 rt21 (by omega) (by omega) (fun v4258 ev4258 lv4258 uv4258 => ?_)
          refine ev_istore (L' := [(2, 19), (0, a1), (0, a2), (0, v4257), (0, v4247), (0, v4258), (0, x6)]) (Nat.le_of_ble_eq_true rfl) rfl ?_
          refine ev_iinc (w := (x6 + 1)) (L' := [(2, 19), (0, a1), (0, a2), (0, v4257), (0, v4247), (0, v4258), (0, (x6 + 1))]) rfl (by unfold w32; omega) rfl ?_
          refine ev_goto f92_12 ?_
          exact ih _ _ _ _ _ g1 k1 (by omega) (by omega) (by omega) (by omega) (by omega) (by omega) (by omega) (by omega) (by omega) (by omega) (by omega) (by omega) (by omega)
set_option maxHeartbeats 4000000 in
theorem s92 {G : GH} {h : JH} (g : Gd G h) {a1 : Int} (la1 : (-2147483648) ≤ a1) (ua1 : a1 ≤ 2147483647) {a2 : Int} (la2 : (-2147483648) ≤ a2) (ua2 : a2 ≤ 2147483647) : jOk 1 0 0 92 [(2, 19), (0, a1), (0, a2)] h (PI G [] h 0 (-2147483648) 2147483647) := by
  refine ⟨by decide, by rw [ml92]; exact Nat.le_of_ble_eq_true rfl, ?_⟩
  rw [ml92, pp92]
  show jEv _ none _ c92_0 0 0 _ (c92_0, [(2, 19), (0, a1), (0, a2), (9, 0), (9, 0), (9, 0), (9, 0)], [], h, 0, 0)
  have k0 := Kp.rf [] h
  refine ev_iconst ?_
  refine ev_istore_n (L' := [(2, 19), (0, a1), (0, a2), (0, 0), (9, 0), (9, 0), (9, 0)]) (Nat.le_of_ble_eq_true rfl) rfl ?_
  refine ev_iload_n rfl ?_
  refine ev_istore (L' := [(2, 19), (0, a1), (0, a2), (0, 0), (0, a1), (9, 0), (9, 0)]) (Nat.le_of_ble_eq_true rfl) rfl ?_
  refine ev_bipush ?_
  refine ev_istore (L' := [(2, 19), (0, a1), (0, a2), (0, 0), (0, a1), (0, 100), (9, 0)]) (Nat.le_of_ble_eq_true rfl) rfl ?_
  refine ev_iconst ?_
  refine ev_istore (L' := [(2, 19), (0, a1), (0, a2), (0, 0), (0, a1), (0, 100), (0, 0)]) (Nat.le_of_ble_eq_true rfl) rfl ?_
  exact (s92_l la1 ua1 la2 ua2 14) _ _ _ _ _ g k0 (by omega) (by omega) (by omega) (by omega) (by omega) (by omega) (by omega) (by omega) (by omega) (by omega) (by omega) (by omega) (by omega)
