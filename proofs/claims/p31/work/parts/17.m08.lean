/-! 197 sure -/
set_option maxHeartbeats 4000000 in
theorem s197 {G : GH} {h : JH} (g : Gd G h) {a1 : Int} (la1 : (-2147483648) ≤ a1) (ua1 : a1 ≤ 2147483647) : jOk 4 0 0 197 [(2, 0), (0, a1)] h (PI G [] h 0 (-2147483648) 2147483647) := by
  refine ⟨by decide, by rw [ml197]; exact Nat.le_of_ble_eq_true rfl, ?_⟩
  rw [ml197, pp197]
  show jEv _ none _ c197_0 0 0 _ (c197_0, [(2, 0), (0, a1)], [], h, 0, 0)
  have k0 := Kp.rf [] h
  refine ev_iload_n rfl ?_
  refine ev_iconst ?_
  refine ev_icmplt f197_15 (fun c37552 => ?_) (fun c37552 => ?_)
  · refine ev_iconst ?_
    refine ev_goto f197_27 ?_
    exact ev_ret rfl (by decide) (by decide) ⟨_, rfl, by omega, by omega, g, k0⟩
  · refine ev_aload_n rfl ?_
    refine g_getp (r := 0) (c := 26) g ad0 (by decide) (by decide) rf0_11 ft11_11 ?_
    refine ev_in (d := 2) (a := 0) (b := 0) (cd' := c104_0) (m := 1) (L0 := [(2, 26)]) (jcall_v (A := []) (S' := []) (r := 26) rfl (g.lt ad26) (g.tg ad26) (Nat.le_of_ble_eq_true rfl)) (by decide) ml104 pp104 (Nat.le_of_ble_eq_true rfl) rfl (by decide) (by decide) ?_
    refine ev_aload_n rfl ?_
    obtain ⟨v37553, ev37553, lv37553, uv37553⟩ := g.rd ad26 (show 0 < 15 by decide) rf26_0
    refine g_getv (r := 26) (v := v37553) g ad26 (by decide) ft9_0 ev37553 ?_
    refine ev_ifle f104_11 (fun c37554 => ?_) (fun c37554 => ?_)
    · refine ev_iconst ?_
      refine ev_ret rfl (by decide) (by decide) ?_
      show jEv _ _ _ _ _ _ _ (_, [(2, 0), (0, a1)], [(0, 0)], _, _, _)
      refine ev_ifne f197_19 (fun c37555 => absurd c37555 (by omega)) (fun c37555 => ?_)
      refine ev_iconst ?_
      refine ev_goto f197_27 ?_
      exact ev_ret rfl (by decide) (by decide) ⟨_, rfl, by omega, by omega, g, k0⟩
    · refine ev_iconst ?_
      refine ev_goto f104_12 ?_
      refine ev_ret rfl (by decide) (by decide) ?_
      show jEv _ _ _ _ _ _ _ (_, [(2, 0), (0, a1)], [(0, 1)], _, _, _)
      refine ev_ifne f197_19 (fun c37556 => ?_) (fun c37556 => absurd c37556 (by omega))
      refine ev_aload_n rfl ?_
      refine g_getp (r := 0) (c := 26) g ad0 (by decide) (by decide) rf0_11 ft11_11 ?_
      refine ev_iload_n rfl ?_
      refine ev_call (jcall_v (A := [(0, a1)]) (S' := []) (r := 26) rfl (g.lt ad26) (g.tg ad26) (Nat.le_of_ble_eq_true rfl)) (jOk_le (by decide) (s109 g (by omega) (by omega))) (by decide) (by decide) (fun w37557 h37557 q37557 => ?_)
      obtain ⟨v37558, rfl, lv37558, uv37558, g37557, kk37557⟩ := q37557
      have k37557 := k0.tr kk37557 (by decide)
      show jEv _ _ _ _ _ _ _ (_, [(2, 0), (0, a1)], [(0, v37558)], _, _, _)
      exact ev_ret rfl (by decide) (by decide) ⟨_, rfl, by omega, by omega, g37557, k37557⟩
/-! 198 lots -/
set_option maxHeartbeats 4000000 in
theorem s198 {G : GH} {h : JH} (g : Gd G h) {a1 : Int} (la1 : (-2147483648) ≤ a1) (ua1 : a1 ≤ 2147483647) : jOk 5 0 0 198 [(2, 0), (0, a1)] h (PI G [] h 0 (-2147483648) 2147483647) := by
  refine ⟨by decide, by rw [ml198]; exact Nat.le_of_ble_eq_true rfl, ?_⟩
  rw [ml198, pp198]
  show jEv _ none _ c198_0 0 0 _ (c198_0, [(2, 0), (0, a1), (9, 0), (9, 0), (9, 0), (9, 0)], [], h, 0, 0)
  have k0 := Kp.rf [] h
  refine ev_iload_n rfl ?_
  refine ev_in (d := 3) (a := 0) (b := 0) (cd' := c221_0) (m := 1) (L0 := [(0, a1)]) (jcall_s (A := [(0, a1)]) (S' := []) (by decide) rfl (Nat.le_of_ble_eq_true rfl)) (by decide) ml221 pp221 (Nat.le_of_ble_eq_true rfl) rfl (by decide) (by decide) ?_
  refine ev_iload_n rfl ?_
  refine ev_ifeq f221_9 (fun c37625 => ?_) (fun c37625 => ?_)
  · refine ev_iconst ?_
    refine ev_goto f221_14 ?_
    refine ev_ret rfl (by decide) (by decide) ?_
    show jEv _ _ _ _ _ _ _ (_, [(2, 0), (0, a1), (9, 0), (9, 0), (9, 0), (9, 0)], [(0, 1)], _, _, _)
    refine ev_ifne f198_10 (fun c37626 => ?_) (fun c37626 => absurd c37626 (by omega))
    refine ev_aload_n rfl ?_
    refine g_getp (r := 0) (c := 26) g ad0 (by decide) (by decide) rf0_11 ft11_11 ?_
    refine ev_call (jcall_v (A := []) (S' := []) (r := 26) rfl (g.lt ad26) (g.tg ad26) (Nat.le_of_ble_eq_true rfl)) (jOk_le (by decide) (s110 g )) (by decide) (by decide) (fun w37627 h37627 q37627 => ?_)
    obtain ⟨v37628, rfl, lv37628, uv37628, g37627, kk37627⟩ := q37627
    have k37627 := k0.tr kk37627 (by decide)
    show jEv _ _ _ _ _ _ _ (_, [(2, 0), (0, a1), (9, 0), (9, 0), (9, 0), (9, 0)], [(0, v37628)], _, _, _)
    refine ev_ifne f198_23 (fun c37629 => ?_) (fun c37629 => ?_)
    · refine ev_aload_n rfl ?_
      refine g_getp (r := 0) (c := 26) g37627 ad0 (by decide) (by decide) rf0_11 ft11_11 ?_
      refine ev_call (jcall_v (A := []) (S' := []) (r := 26) rfl (g37627.lt ad26) (g37627.tg ad26) (Nat.le_of_ble_eq_true rfl)) (jOk_le (by decide) (s114 g37627 )) (by decide) (by decide) (fun w37630 h37630 q37630 => ?_)
      obtain ⟨v37631, rfl, lv37631, uv37631, g37630, kk37630⟩ := q37630
      have k37630 := k37627.tr kk37630 (by decide)
      show jEv _ _ _ _ _ _ _ (_, [(2, 0), (0, a1), (9, 0), (9, 0), (9, 0), (9, 0)], [(1, v37631)], _, _, _)
      refine ev_lstore_n (L' := [(2, 0), (0, a1), (1, v37631), (9, 0), (9, 0), (9, 0)]) (Nat.le_of_ble_eq_true rfl) rfl ?_
      refine ev_aload_n rfl ?_
      refine g_getp (r := 0) (c := 26) g37630 ad0 (by decide) (by decide) rf0_11 ft11_11 ?_
      refine ev_call (jcall_v (A := []) (S' := []) (r := 26) rfl (g37630.lt ad26) (g37630.tg ad26) (Nat.le_of_ble_eq_true rfl)) (jOk_le (by decide) (s115 g37630 )) (by decide) (by decide) (fun w37632 h37632 q37632 => ?_)
      obtain ⟨v37633, rfl, lv37633, uv37633, g37632, kk37632⟩ := q37632
      have k37632 := k37630.tr kk37632 (by decide)
      show jEv _ _ _ _ _ _ _ (_, [(2, 0), (0, a1), (1, v37631), (9, 0), (9, 0), (9, 0)], [(1, v37633)], _, _, _)
      refine ev_lstore (L' := [(2, 0), (0, a1), (1, v37631), (9, 0), (1, v37633), (9, 0)]) (Nat.le_of_ble_eq_true rfl) rfl ?_
      refine ev_lload rfl ?_
      refine ev_lconst ?_
      refine ev_lcmp ?_
      refine ev_ifge f198_59 (fun c37634 => ?_) (fun c37634 => ?_)
      · have c37634b := jcmpL_ge c37634
        refine ev_lload_n rfl ?_
        refine ev_lload rfl ?_
        refine ev_iload_n rfl ?_
        refine ev_call (jcall_s (A := [(0, a1), (1, v37633), (1, v37631)]) (S' := []) (by decide) rfl (Nat.le_of_ble_eq_true rfl)) (jOk_le (by decide) (s223 g37632 (by omega) (by omega) (by omega) (by omega) (by omega) (by omega))) (by decide) (by decide) (fun w37635 h37635 q37635 => ?_)
        obtain ⟨v37636, rfl, lv37636, uv37636, g37635, kk37635⟩ := q37635
        have k37635 := k37632.tr kk37635 (by decide)
        show jEv _ _ _ _ _ _ _ (_, [(2, 0), (0, a1), (1, v37631), (9, 0), (1, v37633), (9, 0)], [(1, v37636)], _, _, _)
        refine g_l2iG (fun v37637 ev37637 lv37637 uv37637 => ?_)
        exact ev_ret rfl (by decide) (by decide) ⟨_, rfl, by omega, by omega, g37635, k37635⟩
      · have c37634b := jcmpL_geN c37634
        refine ev_lload_n rfl ?_
        refine ev_lneg (r := ((-v37631))) (by unfold w64; omega) ?_
        refine ev_lload rfl ?_
        refine ev_lneg (r := ((-v37633))) (by unfold w64; omega) ?_
        refine ev_iload_n rfl ?_
        refine ev_call (jcall_s (A := [(0, a1), (1, ((-v37633))), (1, ((-v37631)))]) (S' := []) (by decide) rfl (Nat.le_of_ble_eq_true rfl)) (jOk_le (by decide) (s223 g37632 (by omega) (by omega) (by omega) (by omega) (by omega) (by omega))) (by decide) (by decide) (fun w37638 h37638 q37638 => ?_)
        obtain ⟨v37639, rfl, lv37639, uv37639, g37638, kk37638⟩ := q37638
        have k37638 := k37632.tr kk37638 (by decide)
        show jEv _ _ _ _ _ _ _ (_, [(2, 0), (0, a1), (1, v37631), (9, 0), (1, v37633), (9, 0)], [(1, v37639)], _, _, _)
        refine ev_goto f198_66 ?_
        refine g_l2iG (fun v37640 ev37640 lv37640 uv37640 => ?_)
        exact ev_ret rfl (by decide) (by decide) ⟨_, rfl, by omega, by omega, g37638, k37638⟩
    · refine ev_bipush ?_
      exact ev_ret rfl (by decide) (by decide) ⟨_, rfl, by omega, by omega, g37627, k37627⟩
  · refine ev_iload_n rfl ?_
    refine ev_iconst ?_
    refine ev_icmpne f221_13 (fun c37641 => ?_) (fun c37641 => ?_)
    · refine ev_iconst ?_
      refine ev_ret rfl (by decide) (by decide) ?_
      show jEv _ _ _ _ _ _ _ (_, [(2, 0), (0, a1), (9, 0), (9, 0), (9, 0), (9, 0)], [(0, 0)], _, _, _)
      refine ev_ifne f198_10 (fun c37642 => absurd c37642 (by omega)) (fun c37642 => ?_)
      refine ev_ldc ?_
      exact ev_ret rfl (by decide) (by decide) ⟨_, rfl, by omega, by omega, g, k0⟩
    · refine ev_iconst ?_
      refine ev_goto f221_14 ?_
      refine ev_ret rfl (by decide) (by decide) ?_
      show jEv _ _ _ _ _ _ _ (_, [(2, 0), (0, a1), (9, 0), (9, 0), (9, 0), (9, 0)], [(0, 1)], _, _, _)
      refine ev_ifne f198_10 (fun c37643 => ?_) (fun c37643 => absurd c37643 (by omega))
      refine ev_aload_n rfl ?_
      refine g_getp (r := 0) (c := 26) g ad0 (by decide) (by decide) rf0_11 ft11_11 ?_
      refine ev_call (jcall_v (A := []) (S' := []) (r := 26) rfl (g.lt ad26) (g.tg ad26) (Nat.le_of_ble_eq_true rfl)) (jOk_le (by decide) (s110 g )) (by decide) (by decide) (fun w37644 h37644 q37644 => ?_)
      obtain ⟨v37645, rfl, lv37645, uv37645, g37644, kk37644⟩ := q37644
      have k37644 := k0.tr kk37644 (by decide)
      show jEv _ _ _ _ _ _ _ (_, [(2, 0), (0, a1), (9, 0), (9, 0), (9, 0), (9, 0)], [(0, v37645)], _, _, _)
      refine ev_ifne f198_23 (fun c37646 => ?_) (fun c37646 => ?_)
      · refine ev_aload_n rfl ?_
        refine g_getp (r := 0) (c := 26) g37644 ad0 (by decide) (by decide) rf0_11 ft11_11 ?_
        refine ev_call (jcall_v (A := []) (S' := []) (r := 26) rfl (g37644.lt ad26) (g37644.tg ad26) (Nat.le_of_ble_eq_true rfl)) (jOk_le (by decide) (s114 g37644 )) (by decide) (by decide) (fun w37647 h37647 q37647 => ?_)
        obtain ⟨v37648, rfl, lv37648, uv37648, g37647, kk37647⟩ := q37647
        have k37647 := k37644.tr kk37647 (by decide)
        show jEv _ _ _ _ _ _ _ (_, [(2, 0), (0, a1), (9, 0), (9, 0), (9, 0), (9, 0)], [(1, v37648)], _, _, _)
        refine ev_lstore_n (L' := [(2, 0), (0, a1), (1, v37648), (9, 0), (9, 0), (9, 0)]) (Nat.le_of_ble_eq_true rfl) rfl ?_
        refine ev_aload_n rfl ?_
        refine g_getp (r := 0) (c := 26) g37647 ad0 (by decide) (by decide) rf0_11 ft11_11 ?_
        refine ev_call (jcall_v (A := []) (S' := []) (r := 26) rfl (g37647.lt ad26) (g37647.tg ad26) (Nat.le_of_ble_eq_true rfl)) (jOk_le (by decide) (s115 g37647 )) (by decide) (by decide) (fun w37649 h37649 q37649 => ?_)
        obtain ⟨v37650, rfl, lv37650, uv37650, g37649, kk37649⟩ := q37649
        have k37649 := k37647.tr kk37649 (by decide)
        show jEv _ _ _ _ _ _ _ (_, [(2, 0), (0, a1), (1, v37648), (9, 0), (9, 0), (9, 0)], [(1, v37650)], _, _, _)
        refine ev_lstore (L' := [(2, 0), (0, a1), (1, v37648), (9, 0), (1, v37650), (9, 0)]) (Nat.le_of_ble_eq_true rfl) rfl ?_
        refine ev_lload rfl ?_
        refine ev_lconst ?_
        refine ev_lcmp ?_
        refine ev_ifge f198_59 (fun c37651 => ?_) (fun c37651 => ?_)
        · have c37651b := jcmpL_ge c37651
          refine ev_lload_n rfl ?_
          refine ev_lload rfl ?_
          refine ev_iload_n rfl ?_
          refine ev_call (jcall_s (A := [(0, a1), (1, v37650), (1, v37648)]) (S' := []) (by decide) rfl (Nat.le_of_ble_eq_true rfl)) (jOk_le (by decide) (s223 g37649 (by omega) (by omega) (by omega) (by omega) (by omega) (by omega))) (by decide) (by decide) (fun w37652 h37652 q37652 => ?_)
          obtain ⟨v37653, rfl, lv37653, uv37653, g37652, kk37652⟩ := q37652
          have k37652 := k37649.tr kk37652 (by decide)
          show jEv _ _ _ _ _ _ _ (_, [(2, 0), (0, a1), (1, v37648), (9, 0), (1, v37650), (9, 0)], [(1, v37653)], _, _, _)
          refine g_l2iG (fun v37654 ev37654 lv37654 uv37654 => ?_)
          exact ev_ret rfl (by decide) (by decide) ⟨_, rfl, by omega, by omega, g37652, k37652⟩
        · have c37651b := jcmpL_geN c37651
          refine ev_lload_n rfl ?_
          refine ev_lneg (r := ((-v37648))) (by unfold w64; omega) ?_
          refine ev_lload rfl ?_
          refine ev_lneg (r := ((-v37650))) (by unfold w64; omega) ?_
          refine ev_iload_n rfl ?_
          refine ev_call (jcall_s (A := [(0, a1), (1, ((-v37650))), (1, ((-v37648)))]) (S' := []) (by decide) rfl (Nat.le_of_ble_eq_true rfl)) (jOk_le (by decide) (s223 g37649 (by omega) (by omega) (by omega) (by omega) (by omega) (by omega))) (by decide) (by decide) (fun w37655 h37655 q37655 => ?_)
          obtain ⟨v37656, rfl, lv37656, uv37656, g37655, kk37655⟩ := q37655
          have k37655 := k37649.tr kk37655 (by decide)
          show jEv _ _ _ _ _ _ _ (_, [(2, 0), (0, a1), (1, v37648), (9, 0), (1, v37650), (9, 0)], [(1, v37656)], _, _, _)
          refine ev_goto f198_66 ?_
          refine g_l2iG (fun v37657 ev37657 lv37657 uv37657 => ?_)
          exact ev_ret rfl (by decide) (by decide) ⟨_, rfl, by omega, by omega, g37655, k37655⟩
      · refine ev_bipush ?_
        exact ev_ret rfl (by decide) (by decide) ⟨_, rfl, by omega, by omega, g37644, k37644⟩
/-! 199 struck -/
set_option maxHeartbeats 4000000 in
theorem s199 {G : GH} {h : JH} (g : Gd G h) {a1 : Int} (la1 : (-2147483648) ≤ a1) (ua1 : a1 ≤ 2147483647) : jOk 5 0 0 199 [(2, 0), (0, a1)] h (PI G [] h 0 (-1) 15) := by
  refine ⟨by decide, by rw [ml199]; exact Nat.le_of_ble_eq_true rfl, ?_⟩
  rw [ml199, pp199]
  show jEv _ none _ c199_0 0 0 _ (c199_0, [(2, 0), (0, a1)], [], h, 0, 0)
  have k0 := Kp.rf [] h
  refine ev_iload_n rfl ?_
  refine ev_in (d := 3) (a := 0) (b := 0) (cd' := c221_0) (m := 1) (L0 := [(0, a1)]) (jcall_s (A := [(0, a1)]) (S' := []) (by decide) rfl (Nat.le_of_ble_eq_true rfl)) (by decide) ml221 pp221 (Nat.le_of_ble_eq_true rfl) rfl (by decide) (by decide) ?_
  refine ev_iload_n rfl ?_
  refine ev_ifeq f221_9 (fun c37692 => ?_) (fun c37692 => ?_)
  · refine ev_iconst ?_
    refine ev_goto f221_14 ?_
    refine ev_ret rfl (by decide) (by decide) ?_
    show jEv _ _ _ _ _ _ _ (_, [(2, 0), (0, a1)], [(0, 1)], _, _, _)
    refine ev_ifeq f199_17 (fun c37693 => absurd c37693 (by omega)) (fun c37693 => ?_)
    refine ev_aload_n rfl ?_
    refine g_getp (r := 0) (c := 26) g ad0 (by decide) (by decide) rf0_11 ft11_11 ?_
    refine ev_in (d := 3) (a := 0) (b := 0) (cd' := c104_0) (m := 1) (L0 := [(2, 26)]) (jcall_v (A := []) (S' := []) (r := 26) rfl (g.lt ad26) (g.tg ad26) (Nat.le_of_ble_eq_true rfl)) (by decide) ml104 pp104 (Nat.le_of_ble_eq_true rfl) rfl (by decide) (by decide) ?_
    refine ev_aload_n rfl ?_
    obtain ⟨v37694, ev37694, lv37694, uv37694⟩ := g.rd ad26 (show 0 < 15 by decide) rf26_0
    refine g_getv (r := 26) (v := v37694) g ad26 (by decide) ft9_0 ev37694 ?_
    refine ev_ifle f104_11 (fun c37695 => ?_) (fun c37695 => ?_)
    · refine ev_iconst ?_
      refine ev_ret rfl (by decide) (by decide) ?_
      show jEv _ _ _ _ _ _ _ (_, [(2, 0), (0, a1)], [(0, 0)], _, _, _)
      refine ev_ifne f199_21 (fun c37696 => absurd c37696 (by omega)) (fun c37696 => ?_)
      refine ev_iconst ?_
      refine ev_goto f199_29 ?_
      exact ev_ret rfl (by decide) (by decide) ⟨_, rfl, by omega, by omega, g, k0⟩
    · refine ev_iconst ?_
      refine ev_goto f104_12 ?_
      refine ev_ret rfl (by decide) (by decide) ?_
      show jEv _ _ _ _ _ _ _ (_, [(2, 0), (0, a1)], [(0, 1)], _, _, _)
      refine ev_ifne f199_21 (fun c37697 => ?_) (fun c37697 => absurd c37697 (by omega))
      refine ev_aload_n rfl ?_
      refine g_getp (r := 0) (c := 26) g ad0 (by decide) (by decide) rf0_11 ft11_11 ?_
      refine ev_iload_n rfl ?_
      refine ev_call (jcall_v (A := [(0, a1)]) (S' := []) (r := 26) rfl (g.lt ad26) (g.tg ad26) (Nat.le_of_ble_eq_true rfl)) (jOk_le (by decide) (s116 g (by omega) (by omega))) (by decide) (by decide) (fun w37698 h37698 q37698 => ?_)
      obtain ⟨v37699, rfl, lv37699, uv37699, g37698, kk37698⟩ := q37698
      have k37698 := k0.tr kk37698 (by decide)
      show jEv _ _ _ _ _ _ _ (_, [(2, 0), (0, a1)], [(0, v37699)], _, _, _)
      exact ev_ret rfl (by decide) (by decide) ⟨_, rfl, by omega, by omega, g37698, k37698⟩
  · refine ev_iload_n rfl ?_
    refine ev_iconst ?_
    refine ev_icmpne f221_13 (fun c37700 => ?_) (fun c37700 => ?_)
    · refine ev_iconst ?_
      refine ev_ret rfl (by decide) (by decide) ?_
      show jEv _ _ _ _ _ _ _ (_, [(2, 0), (0, a1)], [(0, 0)], _, _, _)
      refine ev_ifeq f199_17 (fun c37701 => ?_) (fun c37701 => absurd c37701 (by omega))
      refine ev_iconst ?_
      refine ev_goto f199_29 ?_
      exact ev_ret rfl (by decide) (by decide) ⟨_, rfl, by omega, by omega, g, k0⟩
    · refine ev_iconst ?_
      refine ev_goto f221_14 ?_
      refine ev_ret rfl (by decide) (by decide) ?_
      show jEv _ _ _ _ _ _ _ (_, [(2, 0), (0, a1)], [(0, 1)], _, _, _)
      refine ev_ifeq f199_17 (fun c37702 => absurd c37702 (by omega)) (fun c37702 => ?_)
      refine ev_aload_n rfl ?_
      refine g_getp (r := 0) (c := 26) g ad0 (by decide) (by decide) rf0_11 ft11_11 ?_
      refine ev_in (d := 3) (a := 0) (b := 0) (cd' := c104_0) (m := 1) (L0 := [(2, 26)]) (jcall_v (A := []) (S' := []) (r := 26) rfl (g.lt ad26) (g.tg ad26) (Nat.le_of_ble_eq_true rfl)) (by decide) ml104 pp104 (Nat.le_of_ble_eq_true rfl) rfl (by decide) (by decide) ?_
      refine ev_aload_n rfl ?_
      obtain ⟨v37703, ev37703, lv37703, uv37703⟩ := g.rd ad26 (show 0 < 15 by decide) rf26_0
      refine g_getv (r := 26) (v := v37703) g ad26 (by decide) ft9_0 ev37703 ?_
      refine ev_ifle f104_11 (fun c37704 => ?_) (fun c37704 => ?_)
      · refine ev_iconst ?_
        refine ev_ret rfl (by decide) (by decide) ?_
        show jEv _ _ _ _ _ _ _ (_, [(2, 0), (0, a1)], [(0, 0)], _, _, _)
        refine ev_ifne f199_21 (fun c37705 => absurd c37705 (by omega)) (fun c37705 => ?_)
        refine ev_iconst ?_
        refine ev_goto f199_29 ?_
        exact ev_ret rfl (by decide) (by decide) ⟨_, rfl, by omega, by omega, g, k0⟩
      · refine ev_iconst ?_
        refine ev_goto f104_12 ?_
        refine ev_ret rfl (by decide) (by decide) ?_
        show jEv _ _ _ _ _ _ _ (_, [(2, 0), (0, a1)], [(0, 1)], _, _, _)
        refine ev_ifne f199_21 (fun c37706 => ?_) (fun c37706 => absurd c37706 (by omega))
        refine ev_aload_n rfl ?_
        refine g_getp (r := 0) (c := 26) g ad0 (by decide) (by decide) rf0_11 ft11_11 ?_
        refine ev_iload_n rfl ?_
        refine ev_call (jcall_v (A := [(0, a1)]) (S' := []) (r := 26) rfl (g.lt ad26) (g.tg ad26) (Nat.le_of_ble_eq_true rfl)) (jOk_le (by decide) (s116 g (by omega) (by omega))) (by decide) (by decide) (fun w37707 h37707 q37707 => ?_)
        obtain ⟨v37708, rfl, lv37708, uv37708, g37707, kk37707⟩ := q37707
        have k37707 := k0.tr kk37707 (by decide)
        show jEv _ _ _ _ _ _ _ (_, [(2, 0), (0, a1)], [(0, v37708)], _, _, _)
        exact ev_ret rfl (by decide) (by decide) ⟨_, rfl, by omega, by omega, g37707, k37707⟩
/-! 200 sort -/
set_option maxHeartbeats 4000000 in
theorem s200 {G : GH} {h : JH} (g : Gd G h) {a1 : Int} (la1 : (-2147483648) ≤ a1) (ua1 : a1 ≤ 2147483647) {a2 : Int} (la2 : (-2147483648) ≤ a2) (ua2 : a2 ≤ 2147483647) {a3 : Int} (la3 : (-2147483648) ≤ a3) (ua3 : a3 ≤ 2147483647) : jOk 2 0 0 200 [(2, 0), (0, a1), (0, a2), (0, a3)] h (PI G [(26, 4), (28, 0), (29, 0), (30, 0)] h 0 (-3) 3) := by
  refine ⟨by decide, by rw [ml200]; exact Nat.le_of_ble_eq_true rfl, ?_⟩
  rw [ml200, pp200]
  show jEv _ none _ c200_0 0 0 _ (c200_0, [(2, 0), (0, a1), (0, a2), (0, a3)], [], h, 0, 0)
  have k0 := Kp.rf [(26, 4), (28, 0), (29, 0), (30, 0)] h
  refine ev_iload_n rfl ?_
  refine ev_iconst ?_
  refine ev_icmplt f200_31 (fun c37725 => ?_) (fun c37725 => ?_)
  · refine ev_iconst ?_
    exact ev_ret rfl (by decide) (by decide) ⟨_, rfl, by omega, by omega, g, k0⟩
  · refine ev_iload_n rfl ?_
    refine ev_bipush ?_
    refine ev_icmpgt f200_31 (fun c37726 => ?_) (fun c37726 => ?_)
    · refine ev_iconst ?_
      exact ev_ret rfl (by decide) (by decide) ⟨_, rfl, by omega, by omega, g, k0⟩
    · refine ev_iload_n rfl ?_
      refine ev_iflt f200_31 (fun c37727 => ?_) (fun c37727 => ?_)
      · refine ev_iconst ?_
        exact ev_ret rfl (by decide) (by decide) ⟨_, rfl, by omega, by omega, g, k0⟩
      · refine ev_iload_n rfl ?_
        refine ev_bipush ?_
        refine ev_icmpgt f200_31 (fun c37728 => ?_) (fun c37728 => ?_)
        · refine ev_iconst ?_
          exact ev_ret rfl (by decide) (by decide) ⟨_, rfl, by omega, by omega, g, k0⟩
        · refine ev_iload_n rfl ?_
          refine ev_iflt f200_31 (fun c37729 => ?_) (fun c37729 => ?_)
          · refine ev_iconst ?_
            exact ev_ret rfl (by decide) (by decide) ⟨_, rfl, by omega, by omega, g, k0⟩
          · refine ev_iload_n rfl ?_
            refine ev_bipush ?_
            refine ev_icmple f200_33 (fun c37730 => ?_) (fun c37730 => ?_)
            · refine ev_aload_n rfl ?_
              refine g_getp (r := 0) (c := 26) g ad0 (by decide) (by decide) rf0_11 ft11_11 ?_
              refine ev_iload_n rfl ?_
              refine ev_iload_n rfl ?_
              refine ev_iload_n rfl ?_
              refine ev_call (jcall_v (A := [(0, a3), (0, a2), (0, a1)]) (S' := []) (r := 26) rfl (g.lt ad26) (g.tg ad26) (Nat.le_of_ble_eq_true rfl)) (jOk_le (by decide) (s119 g (by omega) (by omega) (by omega) (by omega) (by omega) (by omega))) (by decide) (by decide) (fun w37731 h37731 q37731 => ?_)
              obtain ⟨v37732, rfl, lv37732, uv37732, g37731, kk37731⟩ := q37731
              have k37731 := k0.tr kk37731 (by decide)
              show jEv _ _ _ _ _ _ _ (_, [(2, 0), (0, a1), (0, a2), (0, a3)], [(0, v37732)], _, _, _)
              exact ev_ret rfl (by decide) (by decide) ⟨_, rfl, by omega, by omega, g37731, k37731⟩
            · refine ev_iconst ?_
              exact ev_ret rfl (by decide) (by decide) ⟨_, rfl, by omega, by omega, g, k0⟩
/-! 201 offer -/
set_option maxHeartbeats 4000000 in
theorem s201 {G : GH} {h : JH} (g : Gd G h) {a1 : Int} (la1 : (-2147483648) ≤ a1) (ua1 : a1 ≤ 2147483647) : jOk 2 0 0 201 [(2, 0), (0, a1)] h (PI G [(26, 8), (31, 0)] h 0 (-3) 4) := by
  refine ⟨by decide, by rw [ml201]; exact Nat.le_of_ble_eq_true rfl, ?_⟩
  rw [ml201, pp201]
  show jEv _ none _ c201_0 0 0 _ (c201_0, [(2, 0), (0, a1)], [], h, 0, 0)
  have k0 := Kp.rf [(26, 8), (31, 0)] h
  refine ev_iload_n rfl ?_
  refine ev_iflt f201_10 (fun c37741 => ?_) (fun c37741 => ?_)
  · refine ev_iconst ?_
    refine ev_goto f201_22 ?_
    exact ev_ret rfl (by decide) (by decide) ⟨_, rfl, by omega, by omega, g, k0⟩
  · refine ev_iload_n rfl ?_
    refine ev_bipush ?_
    refine ev_icmple f201_14 (fun c37742 => ?_) (fun c37742 => ?_)
    · refine ev_aload_n rfl ?_
      refine g_getp (r := 0) (c := 26) g ad0 (by decide) (by decide) rf0_11 ft11_11 ?_
      refine ev_iload_n rfl ?_
      refine ev_call (jcall_v (A := [(0, a1)]) (S' := []) (r := 26) rfl (g.lt ad26) (g.tg ad26) (Nat.le_of_ble_eq_true rfl)) (jOk_le (by decide) (s120 g (by omega) (by omega))) (by decide) (by decide) (fun w37743 h37743 q37743 => ?_)
      obtain ⟨v37744, rfl, lv37744, uv37744, g37743, kk37743⟩ := q37743
      have k37743 := k0.tr kk37743 (by decide)
      show jEv _ _ _ _ _ _ _ (_, [(2, 0), (0, a1)], [(0, v37744)], _, _, _)
      exact ev_ret rfl (by decide) (by decide) ⟨_, rfl, by omega, by omega, g37743, k37743⟩
    · refine ev_iconst ?_
      refine ev_goto f201_22 ?_
      exact ev_ret rfl (by decide) (by decide) ⟨_, rfl, by omega, by omega, g, k0⟩
/-! 202 holds -/
set_option maxHeartbeats 4000000 in
theorem s202 {G : GH} {h : JH} (g : Gd G h) {a1 : Int} (la1 : (-2147483648) ≤ a1) (ua1 : a1 ≤ 2147483647) {a2 : Int} (la2 : (-2147483648) ≤ a2) (ua2 : a2 ≤ 2147483647) : jOk 5 0 0 202 [(2, 0), (0, a1), (0, a2)] h (PI G [] h 0 (-2147483648) 2147483647) := by
  refine ⟨by decide, by rw [ml202]; exact Nat.le_of_ble_eq_true rfl, ?_⟩
  rw [ml202, pp202]
  show jEv _ none _ c202_0 0 0 _ (c202_0, [(2, 0), (0, a1), (0, a2)], [], h, 0, 0)
  have k0 := Kp.rf [] h
  refine ev_iload_n rfl ?_
  refine ev_iflt f202_19 (fun c37757 => ?_) (fun c37757 => ?_)
  · refine ev_iconst ?_
    refine ev_goto f202_32 ?_
    exact ev_ret rfl (by decide) (by decide) ⟨_, rfl, by omega, by omega, g, k0⟩
  · refine ev_iload_n rfl ?_
    refine ev_bipush ?_
    refine ev_icmpgt f202_19 (fun c37758 => ?_) (fun c37758 => ?_)
    · refine ev_iconst ?_
      refine ev_goto f202_32 ?_
      exact ev_ret rfl (by decide) (by decide) ⟨_, rfl, by omega, by omega, g, k0⟩
    · refine ev_iload_n rfl ?_
      refine ev_iflt f202_19 (fun c37759 => ?_) (fun c37759 => ?_)
      · refine ev_iconst ?_
        refine ev_goto f202_32 ?_
        exact ev_ret rfl (by decide) (by decide) ⟨_, rfl, by omega, by omega, g, k0⟩
      · refine ev_iload_n rfl ?_
        refine ev_iconst ?_
        refine ev_icmple f202_23 (fun c37760 => ?_) (fun c37760 => ?_)
        · refine ev_aload_n rfl ?_
          refine g_getp (r := 0) (c := 26) g ad0 (by decide) (by decide) rf0_11 ft11_11 ?_
          refine ev_iload_n rfl ?_
          refine ev_iload_n rfl ?_
          refine ev_call (jcall_v (A := [(0, a2), (0, a1)]) (S' := []) (r := 26) rfl (g.lt ad26) (g.tg ad26) (Nat.le_of_ble_eq_true rfl)) (jOk_le (by decide) (s122 g (by omega) (by omega) (by omega) (by omega))) (by decide) (by decide) (fun w37761 h37761 q37761 => ?_)
          obtain ⟨v37762, rfl, lv37762, uv37762, g37761, kk37761⟩ := q37761
          have k37761 := k0.tr kk37761 (by decide)
          show jEv _ _ _ _ _ _ _ (_, [(2, 0), (0, a1), (0, a2)], [(0, v37762)], _, _, _)
          exact ev_ret rfl (by decide) (by decide) ⟨_, rfl, by omega, by omega, g37761, k37761⟩
        · refine ev_iconst ?_
          refine ev_goto f202_32 ?_
          exact ev_ret rfl (by decide) (by decide) ⟨_, rfl, by omega, by omega, g, k0⟩
/-! 203 clear -/
set_option maxHeartbeats 4000000 in
theorem s203 {G : GH} {h : JH} (g : Gd G h)  : jOk 2 0 0 203 [(2, 0)] h (PI G [(26, 4), (26, 8)] h 0 0 3) := by
  refine ⟨by decide, by rw [ml203]; exact Nat.le_of_ble_eq_true rfl, ?_⟩
  rw [ml203, pp203]
  show jEv _ none _ c203_0 0 0 _ (c203_0, [(2, 0)], [], h, 0, 0)
  have k0 := Kp.rf [(26, 4), (26, 8)] h
  refine ev_aload_n rfl ?_
  refine g_getp (r := 0) (c := 26) g ad0 (by decide) (by decide) rf0_11 ft11_11 ?_
  refine ev_in (d := 0) (a := 0) (b := 0) (cd' := c121_0) (m := 2) (L0 := [(2, 26), (9, 0)]) (jcall_v (A := []) (S' := []) (r := 26) rfl (g.lt ad26) (g.tg ad26) (Nat.le_of_ble_eq_true rfl)) (by decide) ml121 pp121 (Nat.le_of_ble_eq_true rfl) rfl (by decide) (by decide) ?_
  refine ev_aload_n rfl ?_
  obtain ⟨v37769, ev37769, lv37769, uv37769⟩ := g.rd ad26 (show 3 < 15 by decide) rf26_3
  refine g_getv (r := 26) (v := v37769) g ad26 (by decide) ft9_3 ev37769 ?_
  refine ev_istore_n (L' := [(2, 26), (0, v37769)]) (Nat.le_of_ble_eq_true rfl) rfl ?_
  refine ev_aload_n rfl ?_
  refine ev_iconst ?_
  refine g_putf (r := 26) g ad26 (by decide) ft9_3 (by decide) (fun e => absurd e nz9_3) rf26_3 (by decide) (by omega) (by omega) (fun h37770 e37770 g37770 => ?_)
  have k37770 := k0.wr e37770 rfl
  refine ev_aload_n rfl ?_
  refine ev_iconst ?_
  refine g_putf (r := 26) g37770 ad26 (by decide) ft9_7 (by decide) (fun e => absurd e nz9_7) rf26_7 (by decide) (by omega) (by omega) (fun h37771 e37771 g37771 => ?_)
  have k37771 := k37770.wr e37771 rfl
  refine ev_iload_n rfl ?_
  refine ev_ret rfl (by decide) (by decide) ?_
  show jEv _ _ _ _ _ _ _ (_, [(2, 0)], [(0, v37769)], _, _, _)
  exact ev_ret rfl (by decide) (by decide) ⟨_, rfl, by omega, by omega, g37771, k37771⟩
/-! 204 effort -/
set_option maxHeartbeats 4000000 in
theorem s204 {G : GH} {h : JH} (g : Gd G h) {a1 : Int} (la1 : (-2147483648) ≤ a1) (ua1 : a1 ≤ 2147483647) {a2 : Int} (la2 : (-2147483648) ≤ a2) (ua2 : a2 ≤ 2147483647) : jOk 2 0 0 204 [(2, 0), (0, a1), (0, a2)] h (PI G [(26, 10), (32, 0), (33, 0)] h 0 (-3) 4) := by
  refine ⟨by decide, by rw [ml204]; exact Nat.le_of_ble_eq_true rfl, ?_⟩
  rw [ml204, pp204]
  show jEv _ none _ c204_0 0 0 _ (c204_0, [(2, 0), (0, a1), (0, a2)], [], h, 0, 0)
  have k0 := Kp.rf [(26, 10), (32, 0), (33, 0)] h
  refine ev_iload_n rfl ?_
  refine ev_iflt f204_20 (fun c37790 => ?_) (fun c37790 => ?_)
  · refine ev_iconst ?_
    refine ev_goto f204_33 ?_
    exact ev_ret rfl (by decide) (by decide) ⟨_, rfl, by omega, by omega, g, k0⟩
  · refine ev_iload_n rfl ?_
    refine ev_bipush ?_
    refine ev_icmpgt f204_20 (fun c37791 => ?_) (fun c37791 => ?_)
    · refine ev_iconst ?_
      refine ev_goto f204_33 ?_
      exact ev_ret rfl (by decide) (by decide) ⟨_, rfl, by omega, by omega, g, k0⟩
    · refine ev_iload_n rfl ?_
      refine ev_iflt f204_20 (fun c37792 => ?_) (fun c37792 => ?_)
      · refine ev_iconst ?_
        refine ev_goto f204_33 ?_
        exact ev_ret rfl (by decide) (by decide) ⟨_, rfl, by omega, by omega, g, k0⟩
      · refine ev_iload_n rfl ?_
        refine ev_bipush ?_
        refine ev_icmple f204_24 (fun c37793 => ?_) (fun c37793 => ?_)
        · refine ev_aload_n rfl ?_
          refine g_getp (r := 0) (c := 26) g ad0 (by decide) (by decide) rf0_11 ft11_11 ?_
          refine ev_iload_n rfl ?_
          refine ev_iload_n rfl ?_
          refine ev_in (d := 0) (a := 0) (b := 0) (cd' := c129_0) (m := 3) (L0 := [(2, 26), (0, a1), (0, a2)]) (jcall_v (A := [(0, a2), (0, a1)]) (S' := []) (r := 26) rfl (g.lt ad26) (g.tg ad26) (Nat.le_of_ble_eq_true rfl)) (by decide) ml129 pp129 (Nat.le_of_ble_eq_true rfl) rfl (by decide) (by decide) ?_
          refine ev_aload_n rfl ?_
          obtain ⟨v37794, ev37794, lv37794, uv37794⟩ := g.rd ad26 (show 9 < 15 by decide) rf26_9
          refine g_getv (r := 26) (v := v37794) g ad26 (by decide) ft9_9 ev37794 ?_
          refine ev_iconst ?_
          refine ev_icmplt f129_11 (fun c37795 => ?_) (fun c37795 => ?_)
          · refine ev_aload_n rfl ?_
            refine g_getp (r := 26) (c := 32) g ad26 (by decide) (by decide) rf26_10 ft9_10 ?_
            refine ev_aload_n rfl ?_
            refine g_getv (r := 26) (v := v37794) g ad26 (by decide) ft9_9 (ev37794) ?_
            refine ev_iload_n rfl ?_
            refine g_iast g ad32 rt32 (fun _ => rfl) (by omega) (by omega) (by omega) (by omega) (fun h37796 e37796 g37796 => ?_)
            have k37796 := k0.wr e37796 rfl
            refine ev_aload_n rfl ?_
            refine g_getp (r := 26) (c := 33) g37796 ad26 (by decide) (by decide) rf26_11 ft9_11 ?_
            refine ev_aload_n rfl ?_
            refine g_getv (r := 26) (v := v37794) g37796 ad26 (by decide) ft9_9 (((jw_ne e37796 (Or.inl (by decide))).trans ev37794)) ?_
            refine ev_iload_n rfl ?_
            refine g_iast g37796 ad33 rt33 (fun _ => rfl) (by omega) (by omega) (by omega) (by omega) (fun h37797 e37797 g37797 => ?_)
            have k37797 := k37796.wr e37797 rfl
            refine ev_aload_n rfl ?_
            refine ev_dup (by decide) ?_
            refine g_getv (r := 26) (v := v37794) g37797 ad26 (by decide) ft9_9 (((jw_ne e37797 (Or.inl (by decide))).trans ((jw_ne e37796 (Or.inl (by decide))).trans ev37794))) ?_
            refine ev_iconst ?_
            refine ev_iadd (r := (v37794 + 1)) (by unfold w32; omega) ?_
            refine g_putf (r := 26) g37797 ad26 (by decide) ft9_9 (by decide) (fun e => absurd e nz9_9) rf26_9 (by decide) (by omega) (by omega) (fun h37798 e37798 g37798 => ?_)
            have k37798 := k37797.wr e37798 rfl
            refine ev_aload_n rfl ?_
            refine g_getv (r := 26) (v := (v37794 + 1)) g37798 ad26 (by decide) ft9_9 ((jw_eq e37798)) ?_
            refine ev_ret rfl (by decide) (by decide) ?_
            show jEv _ _ _ _ _ _ _ (_, [(2, 0), (0, a1), (0, a2)], [(0, (v37794 + 1))], _, _, _)
            exact ev_ret rfl (by decide) (by decide) ⟨_, rfl, by omega, by omega, g37798, k37798⟩
          · refine ev_bipush ?_
            refine ev_ret rfl (by decide) (by decide) ?_
            show jEv _ _ _ _ _ _ _ (_, [(2, 0), (0, a1), (0, a2)], [(0, (-3))], _, _, _)
            exact ev_ret rfl (by decide) (by decide) ⟨_, rfl, by omega, by omega, g, k0⟩
        · refine ev_iconst ?_
          refine ev_goto f204_33 ?_
          exact ev_ret rfl (by decide) (by decide) ⟨_, rfl, by omega, by omega, g, k0⟩
/-! 205 hired -/
set_option maxHeartbeats 4000000 in
theorem s205 {G : GH} {h : JH} (g : Gd G h) {a1 : Int} (la1 : (-2147483648) ≤ a1) (ua1 : a1 ≤ 2147483647) {a2 : Int} (la2 : (-2147483648) ≤ a2) (ua2 : a2 ≤ 2147483647) : jOk 4 0 0 205 [(2, 0), (0, a1), (0, a2)] h (PI G [(26, 10)] h 0 (-2147483648) 2147483647) := by
  refine ⟨by decide, by rw [ml205]; exact Nat.le_of_ble_eq_true rfl, ?_⟩
  rw [ml205, pp205]
  show jEv _ none _ c205_0 0 0 _ (c205_0, [(2, 0), (0, a1), (0, a2), (9, 0)], [], h, 0, 0)
  have k0 := Kp.rf [(26, 10)] h
  refine ev_iload_n rfl ?_
  refine ev_iflt f205_21 (fun c37839 => ?_) (fun c37839 => ?_)
  · refine ev_iconst ?_
    exact ev_ret rfl (by decide) (by decide) ⟨_, rfl, by omega, by omega, g, k0⟩
  · refine ev_iload_n rfl ?_
    refine ev_sipush ?_
    refine ev_icmpgt f205_21 (fun c37840 => ?_) (fun c37840 => ?_)
    · refine ev_iconst ?_
      exact ev_ret rfl (by decide) (by decide) ⟨_, rfl, by omega, by omega, g, k0⟩
    · refine ev_iload_n rfl ?_
      refine ev_iconst ?_
      refine ev_icmplt f205_21 (fun c37841 => ?_) (fun c37841 => ?_)
      · refine ev_iconst ?_
        exact ev_ret rfl (by decide) (by decide) ⟨_, rfl, by omega, by omega, g, k0⟩
      · refine ev_iload_n rfl ?_
        refine ev_iconst ?_
        refine ev_icmple f205_23 (fun c37842 => ?_) (fun c37842 => ?_)
        · refine ev_iload_n rfl ?_
          refine ev_iconst ?_
          refine ev_icmpne f205_36 (fun c37843 => ?_) (fun c37843 => ?_)
          · refine ev_aload_n rfl ?_
            refine g_getp (r := 0) (c := 26) g ad0 (by decide) (by decide) rf0_11 ft11_11 ?_
            obtain ⟨v37844, ev37844, lv37844, uv37844⟩ := g.rd ad26 (show 9 < 15 by decide) rf26_9
            refine g_getv (r := 26) (v := v37844) g ad26 (by decide) ft9_9 ev37844 ?_
            refine ev_iconst ?_
            refine ev_icmpge f205_50 (fun c37845 => ?_) (fun c37845 => ?_)
            · refine ev_aload_n rfl ?_
              refine g_getp (r := 0) (c := 26) g ad0 (by decide) (by decide) rf0_11 ft11_11 ?_
              refine ev_iload_n rfl ?_
              refine ev_call (jcall_v (A := [(0, a1)]) (S' := []) (r := 26) rfl (g.lt ad26) (g.tg ad26) (Nat.le_of_ble_eq_true rfl)) (jOk_le (by decide) (s133 g (by omega) (by omega))) (by decide) (by decide) (fun w37846 h37846 q37846 => ?_)
              obtain ⟨v37847, rfl, lv37847, uv37847, g37846, kk37846⟩ := q37846
              have k37846 := k0.tr kk37846 (by decide)
              show jEv _ _ _ _ _ _ _ (_, [(2, 0), (0, a1), (0, a2), (9, 0)], [(0, v37847)], _, _, _)
              refine ev_istore_n (L' := [(2, 0), (0, a1), (0, a2), (0, v37847)]) (Nat.le_of_ble_eq_true rfl) rfl ?_
              refine ev_iload_n rfl ?_
              refine ev_ifne f205_65 (fun c37848 => ?_) (fun c37848 => ?_)
              · refine ev_iload_n rfl ?_
                refine ev_iconst ?_
                refine ev_icmpne f205_82 (fun c37849 => ?_) (fun c37849 => ?_)
                · refine ev_aload_n rfl ?_
                  refine g_getp (r := 0) (c := 26) g37846 ad0 (by decide) (by decide) rf0_11 ft11_11 ?_
                  refine ev_iload_n rfl ?_
                  refine ev_iload_n rfl ?_
                  refine ev_call (jcall_v (A := [(0, v37847), (0, a1)]) (S' := []) (r := 26) rfl (g37846.lt ad26) (g37846.tg ad26) (Nat.le_of_ble_eq_true rfl)) (jOk_le (by decide) (s132 g37846 (by omega) (by omega) (by omega) (by omega))) (by decide) (by decide) (fun w37850 h37850 q37850 => ?_)
                  obtain ⟨v37851, rfl, lv37851, uv37851, g37850, kk37850⟩ := q37850
                  have k37850 := k37846.tr kk37850 (by decide)
                  show jEv _ _ _ _ _ _ _ (_, [(2, 0), (0, a1), (0, a2), (0, v37847)], [(0, v37851)], _, _, _)
                  refine ev_i2l ?_
                  refine ev_ldc2_w ?_
                  refine ev_iload_n rfl ?_
                  refine ev_iconst ?_
                  refine ev_isub (r := (a2 - 2)) (by unfold w32; omega) ?_
                  refine ev_call (jcall_s (A := [(0, (a2 - 2)), (1, 10000), (1, v37851)]) (S' := []) (by decide) rfl (Nat.le_of_ble_eq_true rfl)) (jOk_le (by decide) (s223 g37850 (by omega) (by omega) (by omega) (by omega) (by omega) (by omega))) (by decide) (by decide) (fun w37852 h37852 q37852 => ?_)
                  obtain ⟨v37853, rfl, lv37853, uv37853, g37852, kk37852⟩ := q37852
                  have k37852 := k37850.tr kk37852 (by decide)
                  show jEv _ _ _ _ _ _ _ (_, [(2, 0), (0, a1), (0, a2), (0, v37847)], [(1, v37853)], _, _, _)
                  refine g_l2iG (fun v37854 ev37854 lv37854 uv37854 => ?_)
                  exact ev_ret rfl (by decide) (by decide) ⟨_, rfl, by omega, by omega, g37852, k37852⟩
                · refine ev_aload_n rfl ?_
                  refine g_getp (r := 0) (c := 26) g37846 ad0 (by decide) (by decide) rf0_11 ft11_11 ?_
                  refine ev_iload_n rfl ?_
                  refine ev_iload_n rfl ?_
                  refine ev_call (jcall_v (A := [(0, v37847), (0, a1)]) (S' := []) (r := 26) rfl (g37846.lt ad26) (g37846.tg ad26) (Nat.le_of_ble_eq_true rfl)) (jOk_le (by decide) (s131 g37846 (by omega) (by omega) (by omega) (by omega))) (by decide) (by decide) (fun w37855 h37855 q37855 => ?_)
                  obtain ⟨v37856, rfl, lv37856, uv37856, g37855, kk37855⟩ := q37855
                  have k37855 := k37846.tr kk37855 (by decide)
                  show jEv _ _ _ _ _ _ _ (_, [(2, 0), (0, a1), (0, a2), (0, v37847)], [(0, v37856)], _, _, _)
                  refine ev_goto f205_102 ?_
                  exact ev_ret rfl (by decide) (by decide) ⟨_, rfl, by omega, by omega, g37855, k37855⟩
              · refine ev_iload_n rfl ?_
                exact ev_ret rfl (by decide) (by decide) ⟨_, rfl, by omega, by omega, g37846, k37846⟩
            · refine ev_bipush ?_
              exact ev_ret rfl (by decide) (by decide) ⟨_, rfl, by omega, by omega, g, k0⟩
          · refine ev_aload_n rfl ?_
            refine g_getp (r := 0) (c := 26) g ad0 (by decide) (by decide) rf0_11 ft11_11 ?_
            refine ev_in (d := 2) (a := 0) (b := 0) (cd' := c130_0) (m := 2) (L0 := [(2, 26), (9, 0)]) (jcall_v (A := []) (S' := []) (r := 26) rfl (g.lt ad26) (g.tg ad26) (Nat.le_of_ble_eq_true rfl)) (by decide) ml130 pp130 (Nat.le_of_ble_eq_true rfl) rfl (by decide) (by decide) ?_
            refine ev_aload_n rfl ?_
            obtain ⟨v37857, ev37857, lv37857, uv37857⟩ := g.rd ad26 (show 9 < 15 by decide) rf26_9
            refine g_getv (r := 26) (v := v37857) g ad26 (by decide) ft9_9 ev37857 ?_
            refine ev_istore_n (L' := [(2, 26), (0, v37857)]) (Nat.le_of_ble_eq_true rfl) rfl ?_
            refine ev_aload_n rfl ?_
            refine ev_iconst ?_
            refine g_putf (r := 26) g ad26 (by decide) ft9_9 (by decide) (fun e => absurd e nz9_9) rf26_9 (by decide) (by omega) (by omega) (fun h37858 e37858 g37858 => ?_)
            have k37858 := k0.wr e37858 rfl
            refine ev_iload_n rfl ?_
            refine ev_ret rfl (by decide) (by decide) ?_
            show jEv _ _ _ _ _ _ _ (_, [(2, 0), (0, a1), (0, a2), (9, 0)], [(0, v37857)], _, _, _)
            exact ev_ret rfl (by decide) (by decide) ⟨_, rfl, by omega, by omega, g37858, k37858⟩
        · refine ev_iconst ?_
          exact ev_ret rfl (by decide) (by decide) ⟨_, rfl, by omega, by omega, g, k0⟩
/-! 206 day -/
set_option maxHeartbeats 4000000 in
theorem s206 {G : GH} {h : JH} (g : Gd G h) {a1 : Int} (la1 : (-2147483648) ≤ a1) (ua1 : a1 ≤ 2147483647) {a2 : Int} (la2 : (-2147483648) ≤ a2) (ua2 : a2 ≤ 2147483647) {a3 : Int} (la3 : (-2147483648) ≤ a3) (ua3 : a3 ≤ 2147483647) {a4 : Int} (la4 : (-2147483648) ≤ a4) (ua4 : a4 ≤ 2147483647) : jOk 2 0 0 206 [(2, 0), (0, a1), (0, a2), (0, a3), (0, a4)] h (PI G [(34, 0), (35, 0), (36, 0)] h 0 (-1) 1) := by
  refine ⟨by decide, by rw [ml206]; exact Nat.le_of_ble_eq_true rfl, ?_⟩
  rw [ml206, pp206]
  show jEv _ none _ c206_0 0 0 _ (c206_0, [(2, 0), (0, a1), (0, a2), (0, a3), (0, a4)], [], h, 0, 0)
  have k0 := Kp.rf [(34, 0), (35, 0), (36, 0)] h
  refine ev_iload_n rfl ?_
  refine ev_iflt f206_20 (fun c37899 => ?_) (fun c37899 => ?_)
  · refine ev_iconst ?_
    exact ev_ret rfl (by decide) (by decide) ⟨_, rfl, by omega, by omega, g, k0⟩
  · refine ev_iload_n rfl ?_
    refine ev_bipush ?_
    refine ev_icmpge f206_20 (fun c37900 => ?_) (fun c37900 => ?_)
    · refine ev_iconst ?_
      exact ev_ret rfl (by decide) (by decide) ⟨_, rfl, by omega, by omega, g, k0⟩
    · refine ev_iload_n rfl ?_
      refine ev_iload_n rfl ?_
      refine ev_iload rfl ?_
      refine ev_in (d := 0) (a := 0) (b := 0) (cd' := c134_0) (m := 3) (L0 := [(0, a2), (0, a3), (0, a4)]) (jcall_s (A := [(0, a4), (0, a3), (0, a2)]) (S' := []) (by decide) rfl (Nat.le_of_ble_eq_true rfl)) (by decide) ml134 pp134 (Nat.le_of_ble_eq_true rfl) rfl (by decide) (by decide) ?_
      refine ev_iload_n rfl ?_
      refine ev_iflt f134_35 (fun c37901 => ?_) (fun c37901 => ?_)
      · refine ev_iconst ?_
        refine ev_ret rfl (by decide) (by decide) ?_
        show jEv _ _ _ _ _ _ _ (_, [(2, 0), (0, a1), (0, a2), (0, a3), (0, a4)], [(0, 0)], _, _, _)
        refine ev_ifne f206_22 (fun c37902 => absurd c37902 (by omega)) (fun c37902 => ?_)
        refine ev_iconst ?_
        exact ev_ret rfl (by decide) (by decide) ⟨_, rfl, by omega, by omega, g, k0⟩
      · refine ev_iload_n rfl ?_
        refine ev_sipush ?_
        refine ev_icmpgt f134_35 (fun c37903 => ?_) (fun c37903 => ?_)
        · refine ev_iconst ?_
          refine ev_ret rfl (by decide) (by decide) ?_
          show jEv _ _ _ _ _ _ _ (_, [(2, 0), (0, a1), (0, a2), (0, a3), (0, a4)], [(0, 0)], _, _, _)
          refine ev_ifne f206_22 (fun c37904 => absurd c37904 (by omega)) (fun c37904 => ?_)
          refine ev_iconst ?_
          exact ev_ret rfl (by decide) (by decide) ⟨_, rfl, by omega, by omega, g, k0⟩
        · refine ev_iload_n rfl ?_
          refine ev_iflt f134_35 (fun c37905 => ?_) (fun c37905 => ?_)
          · refine ev_iconst ?_
            refine ev_ret rfl (by decide) (by decide) ?_
            show jEv _ _ _ _ _ _ _ (_, [(2, 0), (0, a1), (0, a2), (0, a3), (0, a4)], [(0, 0)], _, _, _)
            refine ev_ifne f206_22 (fun c37906 => absurd c37906 (by omega)) (fun c37906 => ?_)
            refine ev_iconst ?_
            exact ev_ret rfl (by decide) (by decide) ⟨_, rfl, by omega, by omega, g, k0⟩
          · refine ev_iload_n rfl ?_
            refine ev_bipush ?_
            refine ev_icmpgt f134_35 (fun c37907 => ?_) (fun c37907 => ?_)
            · refine ev_iconst ?_
              refine ev_ret rfl (by decide) (by decide) ?_
              show jEv _ _ _ _ _ _ _ (_, [(2, 0), (0, a1), (0, a2), (0, a3), (0, a4)], [(0, 0)], _, _, _)
              refine ev_ifne f206_22 (fun c37908 => absurd c37908 (by omega)) (fun c37908 => ?_)
              refine ev_iconst ?_
              exact ev_ret rfl (by decide) (by decide) ⟨_, rfl, by omega, by omega, g, k0⟩
            · refine ev_iload_n rfl ?_
              refine ev_iflt f134_35 (fun c37909 => ?_) (fun c37909 => ?_)
              · refine ev_iconst ?_
                refine ev_ret rfl (by decide) (by decide) ?_
                show jEv _ _ _ _ _ _ _ (_, [(2, 0), (0, a1), (0, a2), (0, a3), (0, a4)], [(0, 0)], _, _, _)
                refine ev_ifne f206_22 (fun c37910 => absurd c37910 (by omega)) (fun c37910 => ?_)
                refine ev_iconst ?_
                exact ev_ret rfl (by decide) (by decide) ⟨_, rfl, by omega, by omega, g, k0⟩
              · refine ev_iload_n rfl ?_
                refine ev_bipush ?_
                refine ev_icmpgt f134_35 (fun c37911 => ?_) (fun c37911 => ?_)
                · refine ev_iconst ?_
                  refine ev_ret rfl (by decide) (by decide) ?_
                  show jEv _ _ _ _ _ _ _ (_, [(2, 0), (0, a1), (0, a2), (0, a3), (0, a4)], [(0, 0)], _, _, _)
                  refine ev_ifne f206_22 (fun c37912 => absurd c37912 (by omega)) (fun c37912 => ?_)
                  refine ev_iconst ?_
                  exact ev_ret rfl (by decide) (by decide) ⟨_, rfl, by omega, by omega, g, k0⟩
                · refine ev_iconst ?_
                  refine ev_goto f134_36 ?_
                  refine ev_ret rfl (by decide) (by decide) ?_
                  show jEv _ _ _ _ _ _ _ (_, [(2, 0), (0, a1), (0, a2), (0, a3), (0, a4)], [(0, 1)], _, _, _)
                  refine ev_ifne f206_22 (fun c37913 => ?_) (fun c37913 => absurd c37913 (by omega))
                  refine ev_aload_n rfl ?_
                  refine g_getp (r := 0) (c := 26) g ad0 (by decide) (by decide) rf0_11 ft11_11 ?_
                  refine ev_iload_n rfl ?_
                  refine ev_iload_n rfl ?_
                  refine ev_iload_n rfl ?_
                  refine ev_iload rfl ?_
                  refine ev_in (d := 0) (a := 0) (b := 0) (cd' := c135_0) (m := 5) (L0 := [(2, 26), (0, a1), (0, a2), (0, a3), (0, a4)]) (jcall_v (A := [(0, a4), (0, a3), (0, a2), (0, a1)]) (S' := []) (r := 26) rfl (g.lt ad26) (g.tg ad26) (Nat.le_of_ble_eq_true rfl)) (by decide) ml135 pp135 (Nat.le_of_ble_eq_true rfl) rfl (by decide) (by decide) ?_
                  refine ev_iload_n rfl ?_
                  refine ev_iflt f135_32 (fun c37914 => absurd c37914 (by omega)) (fun c37914 => ?_)
                  refine ev_iload_n rfl ?_
                  refine ev_bipush ?_
                  refine ev_icmpge f135_32 (fun c37915 => absurd c37915 (by omega)) (fun c37915 => ?_)
                  refine ev_aload_n rfl ?_
                  refine g_getp (r := 26) (c := 34) g ad26 (by decide) (by decide) rf26_12 ft9_12 ?_
                  refine ev_iload_n rfl ?_
                  refine ev_iload_n rfl ?_
                  refine g_iast g ad34 rt34 (fun _ => rfl) (by omega) (by omega) (by omega) (by omega) (fun h37916 e37916 g37916 => ?_)
                  have k37916 := k0.wr e37916 rfl
                  refine ev_aload_n rfl ?_
                  refine g_getp (r := 26) (c := 35) g37916 ad26 (by decide) (by decide) rf26_13 ft9_13 ?_
                  refine ev_iload_n rfl ?_
                  refine ev_iload_n rfl ?_
                  refine g_iast g37916 ad35 rt35 (fun _ => rfl) (by omega) (by omega) (by omega) (by omega) (fun h37917 e37917 g37917 => ?_)
                  have k37917 := k37916.wr e37917 rfl
                  refine ev_aload_n rfl ?_
                  refine g_getp (r := 26) (c := 36) g37917 ad26 (by decide) (by decide) rf26_14 ft9_14 ?_
                  refine ev_iload_n rfl ?_
                  refine ev_iload rfl ?_
                  refine g_iast g37917 ad36 rt36 (fun _ => rfl) (by omega) (by omega) (by omega) (by omega) (fun h37918 e37918 g37918 => ?_)
                  have k37918 := k37917.wr e37918 rfl
                  refine ev_ret rfl (by decide) (by decide) ?_
                  show jEv _ _ _ _ _ _ _ (_, [(2, 0), (0, a1), (0, a2), (0, a3), (0, a4)], [], _, _, _)
                  refine ev_iconst ?_
                  exact ev_ret rfl (by decide) (by decide) ⟨_, rfl, by omega, by omega, g37918, k37918⟩
/-! 238 daysFrom -/
set_option maxHeartbeats 4000000 in
theorem s238_l {G : GH} {h : JH} {a1 : Int} (la1 : 0 ≤ a1) (ua1 : a1 ≤ 5) {a2 : Int} (la2 : (-2147483648) ≤ a2) (ua2 : a2 ≤ 2147483647) {a3 : Int} (la3 : 1 ≤ a3) (ua3 : a3 ≤ 20) : ∀ N : Nat, (∀ (h1 : JH) (x4 x5 : Int) (j6 j7 j8 j9 : AV), Gd G h1 → Kp [(34, 0), (35, 0), (36, 0)] h h1 → 0 ≤ a1 → a1 ≤ 5 → (-2147483648) ≤ a2 → a2 ≤ 2147483647 → 1 ≤ a3 → a3 ≤ 20 → 0 ≤ x4 → x4 ≤ 20 → (-2147483648) ≤ x5 → x5 ≤ 2147483647 → ((-x4) + 20) < N → jEv (jOk 1) none (fun _ => 0) c238_0 0 0 (PI G [(34, 0), (35, 0), (36, 0)] h 0 0 20) (c238_6, [(2, 0), (0, a1), (0, a2), (0, a3), (0, x4), (0, x5), j6, j7, j8, j9], [], h1, 0, 0)) := by
  intro N
  induction N with
  | zero => exact fun h1 x4 x5 j6 j7 j8 j9 g1 k1 b0 b1 b2 b3 b4 b5 b6 b7 b8 b9 hm => absurd hm (by omega)
  | succ N ih =>
    show _
    intro h1 x4 x5 j6 j7 j8 j9 g1 k1 b0 b1 b2 b3 b4 b5 b6 b7 b8 b9 hm
    refine ev_iload rfl ?_
    refine ev_iload_n rfl ?_
    refine ev_icmpge f238_112 (fun c38423 => ?_) (fun c38423 => ?_)
    · refine ev_iload rfl ?_
      exact ev_ret rfl (by decide) (by decide) ⟨_, rfl, by omega, by omega, g1, k1⟩
    · refine ev_iload rfl ?_
      refine ev_iflt f238_112 (fun c38424 => ?_) (fun c38424 => ?_)
      · refine ev_iload rfl ?_
        exact ev_ret rfl (by decide) (by decide) ⟨_, rfl, by omega, by omega, g1, k1⟩
      · refine ev_iload rfl ?_
        refine ev_aload_n rfl ?_
        refine g_getp (r := 0) (c := 38) g1 ad0 (by decide) (by decide) rf0_13 ft11_13 ?_
        refine ev_iload_n rfl ?_
        refine g_iald g1 ad38 rt38 (by omega) (by omega) (fun v38425 ev38425 lv38425 uv38425 => ?_)
        refine ev_iconst ?_
        refine ev_isub (r := (v38425 - 3)) (by unfold w32; omega) ?_
        refine ev_icmpgt f238_112 (fun c38426 => ?_) (fun c38426 => ?_)
        · refine ev_iload rfl ?_
          exact ev_ret rfl (by decide) (by decide) ⟨_, rfl, by omega, by omega, g1, k1⟩
        · refine ev_bipush ?_
          refine ev_iload_n rfl ?_
          refine ev_imul (r := (60 * a1)) (by unfold w32; omega) ?_
          refine ev_iload rfl ?_
          refine ev_iadd (r := (60 * a1 + x5)) (by unfold w32; omega) ?_
          refine ev_istore (L' := [(2, 0), (0, a1), (0, a2), (0, a3), (0, x4), (0, x5), (0, (60 * a1 + x5)), j7, j8, j9]) (Nat.le_of_ble_eq_true rfl) rfl ?_
          refine ev_aload_n rfl ?_
          refine g_getp (r := 0) (c := 39) g1 ad0 (by decide) (by decide) rf0_14 ft11_14 ?_
          refine ev_iload rfl ?_
          refine g_lald g1 ad39 rt39 (by omega) (by omega) (fun v38427 ev38427 lv38427 uv38427 => ?_)
          refine g_l2iG (fun v38428 ev38428 lv38428 uv38428 => ?_)
          refine ev_istore (L' := [(2, 0), (0, a1), (0, a2), (0, a3), (0, x4), (0, x5), (0, (60 * a1 + x5)), (0, v38428), j8, j9]) (Nat.le_of_ble_eq_true rfl) rfl ?_
          refine ev_aload_n rfl ?_
          refine g_getp (r := 0) (c := 39) g1 ad0 (by decide) (by decide) rf0_14 ft11_14 ?_
          refine ev_iload rfl ?_
          refine ev_iconst ?_
          refine ev_iadd (r := (60 * a1 + x5 + 1)) (by unfold w32; omega) ?_
          refine g_lald g1 ad39 rt39 (by omega) (by omega) (fun v38429 ev38429 lv38429 uv38429 => ?_)
          refine g_l2iG (fun v38430 ev38430 lv38430 uv38430 => ?_)
          refine ev_istore (L' := [(2, 0), (0, a1), (0, a2), (0, a3), (0, x4), (0, x5), (0, (60 * a1 + x5)), (0, v38428), (0, v38430), j9]) (Nat.le_of_ble_eq_true rfl) rfl ?_
          refine ev_aload_n rfl ?_
          refine g_getp (r := 0) (c := 39) g1 ad0 (by decide) (by decide) rf0_14 ft11_14 ?_
          refine ev_iload rfl ?_
          refine ev_iconst ?_
          refine ev_iadd (r := (60 * a1 + x5 + 2)) (by unfold w32; omega) ?_
          refine g_lald g1 ad39 rt39 (by omega) (by omega) (fun v38431 ev38431 lv38431 uv38431 => ?_)
          refine g_l2iG (fun v38432 ev38432 lv38432 uv38432 => ?_)
          refine ev_istore (L' := [(2, 0), (0, a1), (0, a2), (0, a3), (0, x4), (0, x5), (0, (60 * a1 + x5)), (0, v38428), (0, v38430), (0, v38432)]) (Nat.le_of_ble_eq_true rfl) rfl ?_
          refine ev_iload rfl ?_
          refine ev_iload rfl ?_
          refine ev_iload rfl ?_
          refine ev_in (d := 0) (a := 0) (b := 0) (cd' := c134_0) (m := 3) (L0 := [(0, v38428), (0, v38430), (0, v38432)]) (jcall_s (A := [(0, v38432), (0, v38430), (0, v38428)]) (S' := []) (by decide) rfl (Nat.le_of_ble_eq_true rfl)) (by decide) ml134 pp134 (Nat.le_of_ble_eq_true rfl) rfl (by decide) (by decide) ?_
          refine ev_iload_n rfl ?_
          refine ev_iflt f134_35 (fun c38433 => ?_) (fun c38433 => ?_)
          · refine ev_iconst ?_
            refine ev_ret rfl (by decide) (by decide) ?_
            show jEv _ _ _ _ _ _ _ (_, [(2, 0), (0, a1), (0, a2), (0, a3), (0, x4), (0, x5), (0, (60 * a1 + x5)), (0, v38428), (0, v38430), (0, v38432)], [(0, 0)], _, _, _)
            refine ev_ifne f238_88 (fun c38434 => absurd c38434 (by omega)) (fun c38434 => ?_)
            refine ev_iload rfl ?_
            exact ev_ret rfl (by decide) (by decide) ⟨_, rfl, by omega, by omega, g1, k1⟩
          · refine ev_iload_n rfl ?_
            refine ev_sipush ?_
            refine ev_icmpgt f134_35 (fun c38435 => ?_) (fun c38435 => ?_)
            · refine ev_iconst ?_
              refine ev_ret rfl (by decide) (by decide) ?_
              show jEv _ _ _ _ _ _ _ (_, [(2, 0), (0, a1), (0, a2), (0, a3), (0, x4), (0, x5), (0, (60 * a1 + x5)), (0, v38428), (0, v38430), (0, v38432)], [(0, 0)], _, _, _)
              refine ev_ifne f238_88 (fun c38436 => absurd c38436 (by omega)) (fun c38436 => ?_)
              refine ev_iload rfl ?_
              exact ev_ret rfl (by decide) (by decide) ⟨_, rfl, by omega, by omega, g1, k1⟩
            · refine ev_iload_n rfl ?_
              refine ev_iflt f134_35 (fun c38437 => ?_) (fun c38437 => ?_)
              · refine ev_iconst ?_
                refine ev_ret rfl (by decide) (by decide) ?_
                show jEv _ _ _ _ _ _ _ (_, [(2, 0), (0, a1), (0, a2), (0, a3), (0, x4), (0, x5), (0, (60 * a1 + x5)), (0, v38428), (0, v38430), (0, v38432)], [(0, 0)], _, _, _)
                refine ev_ifne f238_88 (fun c38438 => absurd c38438 (by omega)) (fun c38438 => ?_)
                refine ev_iload rfl ?_
                exact ev_ret rfl (by decide) (by decide) ⟨_, rfl, by omega, by omega, g1, k1⟩
              · refine ev_iload_n rfl ?_
                refine ev_bipush ?_
                refine ev_icmpgt f134_35 (fun c38439 => ?_) (fun c38439 => ?_)
                · refine ev_iconst ?_
                  refine ev_ret rfl (by decide) (by decide) ?_
                  show jEv _ _ _ _ _ _ _ (_, [(2, 0), (0, a1), (0, a2), (0, a3), (0, x4), (0, x5), (0, (60 * a1 + x5)), (0, v38428), (0, v38430), (0, v38432)], [(0, 0)], _, _, _)
                  refine ev_ifne f238_88 (fun c38440 => absurd c38440 (by omega)) (fun c38440 => ?_)
                  refine ev_iload rfl ?_
                  exact ev_ret rfl (by decide) (by decide) ⟨_, rfl, by omega, by omega, g1, k1⟩
                · refine ev_iload_n rfl ?_
                  refine ev_iflt f134_35 (fun c38441 => ?_) (fun c38441 => ?_)
                  · refine ev_iconst ?_
                    refine ev_ret rfl (by decide) (by decide) ?_
                    show jEv _ _ _ _ _ _ _ (_, [(2, 0), (0, a1), (0, a2), (0, a3), (0, x4), (0, x5), (0, (60 * a1 + x5)), (0, v38428), (0, v38430), (0, v38432)], [(0, 0)], _, _, _)
                    refine ev_ifne f238_88 (fun c38442 => absurd c38442 (by omega)) (fun c38442 => ?_)
                    refine ev_iload rfl ?_
                    exact ev_ret rfl (by decide) (by decide) ⟨_, rfl, by omega, by omega, g1, k1⟩
                  · refine ev_iload_n rfl ?_
                    refine ev_bipush ?_
                    refine ev_icmpgt f134_35 (fun c38443 => ?_) (fun c38443 => ?_)
                    · refine ev_iconst ?_
                      refine ev_ret rfl (by decide) (by decide) ?_
                      show jEv _ _ _ _ _ _ _ (_, [(2, 0), (0, a1), (0, a2), (0, a3), (0, x4), (0, x5), (0, (60 * a1 + x5)), (0, v38428), (0, v38430), (0, v38432)], [(0, 0)], _, _, _)
                      refine ev_ifne f238_88 (fun c38444 => absurd c38444 (by omega)) (fun c38444 => ?_)
                      refine ev_iload rfl ?_
                      exact ev_ret rfl (by decide) (by decide) ⟨_, rfl, by omega, by omega, g1, k1⟩
                    · refine ev_iconst ?_
                      refine ev_goto f134_36 ?_
                      refine ev_ret rfl (by decide) (by decide) ?_
                      show jEv _ _ _ _ _ _ _ (_, [(2, 0), (0, a1), (0, a2), (0, a3), (0, x4), (0, x5), (0, (60 * a1 + x5)), (0, v38428), (0, v38430), (0, v38432)], [(0, 1)], _, _, _)
                      refine ev_ifne f238_88 (fun c38445 => ?_) (fun c38445 => absurd c38445 (by omega))
                      refine ev_aload_n rfl ?_
                      refine g_getp (r := 0) (c := 26) g1 ad0 (by decide) (by decide) rf0_11 ft11_11 ?_
                      refine ev_iload rfl ?_
                      refine ev_iload rfl ?_
                      refine ev_iload rfl ?_
                      refine ev_iload rfl ?_
                      refine ev_in (d := 0) (a := 0) (b := 0) (cd' := c135_0) (m := 5) (L0 := [(2, 26), (0, x4), (0, v38428), (0, v38430), (0, v38432)]) (jcall_v (A := [(0, v38432), (0, v38430), (0, v38428), (0, x4)]) (S' := []) (r := 26) rfl (g1.lt ad26) (g1.tg ad26) (Nat.le_of_ble_eq_true rfl)) (by decide) ml135 pp135 (Nat.le_of_ble_eq_true rfl) rfl (by decide) (by decide) ?_
                      refine ev_iload_n rfl ?_
                      refine ev_iflt f135_32 (fun c38446 => absurd c38446 (by omega)) (fun c38446 => ?_)
                      refine ev_iload_n rfl ?_
                      refine ev_bipush ?_
                      refine ev_icmpge f135_32 (fun c38447 => absurd c38447 (by omega)) (fun c38447 => ?_)
                      refine ev_aload_n rfl ?_
                      refine g_getp (r := 26) (c := 34) g1 ad26 (by decide) (by decide) rf26_12 ft9_12 ?_
                      refine ev_iload_n rfl ?_
                      refine ev_iload_n rfl ?_
                      refine g_iast g1 ad34 rt34 (fun _ => rfl) (by omega) (by omega) (by omega) (by omega) (fun h38448 e38448 g38448 => ?_)
                      have k38448 := k1.wr e38448 rfl
                      refine ev_aload_n rfl ?_
                      refine g_getp (r := 26) (c := 35) g38448 ad26 (by decide) (by decide) rf26_13 ft9_13 ?_
                      refine ev_iload_n rfl ?_
                      refine ev_iload_n rfl ?_
                      refine g_iast g38448 ad35 rt35 (fun _ => rfl) (by omega) (by omega) (by omega) (by omega) (fun h38449 e38449 g38449 => ?_)
                      have k38449 := k38448.wr e38449 rfl
                      refine ev_aload_n rfl ?_
                      refine g_getp (r := 26) (c := 36) g38449 ad26 (by decide) (by decide) rf26_14 ft9_14 ?_
                      refine ev_iload_n rfl ?_
                      refine ev_iload rfl ?_
                      refine g_iast g38449 ad36 rt36 (fun _ => rfl) (by omega) (by omega) (by omega) (by omega) (fun h38450 e38450 g38450 => ?_)
                      have k38450 := k38449.wr e38450 rfl
                      refine ev_ret rfl (by decide) (by decide) ?_
                      show jEv _ _ _ _ _ _ _ (_, [(2, 0), (0, a1), (0, a2), (0, a3), (0, x4), (0, x5), (0, (60 * a1 + x5)), (0, v38428), (0, v38430), (0, v38432)], [], _, _, _)
                      refine ev_iinc (w := (x4 + 1)) (L' := [(2, 0), (0, a1), (0, a2), (0, a3), (0, (x4 + 1)), (0, x5), (0, (60 * a1 + x5)), (0, v38428), (0, v38430), (0, v38432)]) rfl (by unfold w32; omega) rfl ?_
                      refine ev_iinc (w := (x5 + 3)) (L' := [(2, 0), (0, a1), (0, a2), (0, a3), (0, (x4 + 1)), (0, (x5 + 3)), (0, (60 * a1 + x5)), (0, v38428), (0, v38430), (0, v38432)]) rfl (by unfold w32; omega) rfl ?_
                      refine ev_goto f238_6 ?_
                      exact ih _ _ _ _ _ _ _ g38450 k38450 (by omega) (by omega) (by omega) (by omega) (by omega) (by omega) (by omega) (by omega) (by omega) (by omega) (by omega)
set_option maxHeartbeats 4000000 in
theorem s238 {G : GH} {h : JH} (g : Gd G h) {a1 : Int} (la1 : 0 ≤ a1) (ua1 : a1 ≤ 5) {a2 : Int} (la2 : (-2147483648) ≤ a2) (ua2 : a2 ≤ 2147483647) {a3 : Int} (la3 : 1 ≤ a3) (ua3 : a3 ≤ 20) : jOk 2 0 0 238 [(2, 0), (0, a1), (0, a2), (0, a3)] h (PI G [(34, 0), (35, 0), (36, 0)] h 0 0 20) := by
  refine ⟨by decide, by rw [ml238]; exact Nat.le_of_ble_eq_true rfl, ?_⟩
  rw [ml238, pp238]
  show jEv _ none _ c238_0 0 0 _ (c238_0, [(2, 0), (0, a1), (0, a2), (0, a3), (9, 0), (9, 0), (9, 0), (9, 0), (9, 0), (9, 0)], [], h, 0, 0)
  have k0 := Kp.rf [(34, 0), (35, 0), (36, 0)] h
  refine ev_iconst ?_
  refine ev_istore (L' := [(2, 0), (0, a1), (0, a2), (0, a3), (0, 0), (9, 0), (9, 0), (9, 0), (9, 0), (9, 0)]) (Nat.le_of_ble_eq_true rfl) rfl ?_
  refine ev_iload_n rfl ?_
  refine ev_istore (L' := [(2, 0), (0, a1), (0, a2), (0, a3), (0, 0), (0, a2), (9, 0), (9, 0), (9, 0), (9, 0)]) (Nat.le_of_ble_eq_true rfl) rfl ?_
  exact (s238_l la1 ua1 la2 ua2 la3 ua3 42) _ _ _ _ _ _ _ g k0 (by omega) (by omega) (by omega) (by omega) (by omega) (by omega) (by omega) (by omega) (by omega) (by omega) (by omega)
/-! 207 days -/
set_option maxHeartbeats 4000000 in
theorem s207 {G : GH} {h : JH} (g : Gd G h) {a1 : Int} (la1 : (-2147483648) ≤ a1) (ua1 : a1 ≤ 2147483647) {a2 : Int} (la2 : (-2147483648) ≤ a2) (ua2 : a2 ≤ 2147483647) {a3 : Int} (la3 : (-2147483648) ≤ a3) (ua3 : a3 ≤ 2147483647) : jOk 3 0 0 207 [(2, 0), (0, a1), (0, a2), (0, a3)] h (PI G [(34, 0), (35, 0), (36, 0)] h 0 (-12) 20) := by
  refine ⟨by decide, by rw [ml207]; exact Nat.le_of_ble_eq_true rfl, ?_⟩
  rw [ml207, pp207]
  show jEv _ none _ c207_0 0 0 _ (c207_0, [(2, 0), (0, a1), (0, a2), (0, a3)], [], h, 0, 0)
  have k0 := Kp.rf [(34, 0), (35, 0), (36, 0)] h
  refine ev_iload_n rfl ?_
  refine ev_in (d := 1) (a := 0) (b := 0) (cd' := c222_0) (m := 1) (L0 := [(0, a1)]) (jcall_s (A := [(0, a1)]) (S' := []) (by decide) rfl (Nat.le_of_ble_eq_true rfl)) (by decide) ml222 pp222 (Nat.le_of_ble_eq_true rfl) rfl (by decide) (by decide) ?_
  refine ev_iload_n rfl ?_
  refine ev_iflt f222_14 (fun c38475 => ?_) (fun c38475 => ?_)
  · refine ev_iconst ?_
    refine ev_ret rfl (by decide) (by decide) ?_
    show jEv _ _ _ _ _ _ _ (_, [(2, 0), (0, a1), (0, a2), (0, a3)], [(0, 0)], _, _, _)
    refine ev_ifeq f207_18 (fun c38476 => ?_) (fun c38476 => absurd c38476 (by omega))
    refine ev_iconst ?_
    exact ev_ret rfl (by decide) (by decide) ⟨_, rfl, by omega, by omega, g, k0⟩
  · refine ev_iload_n rfl ?_
    refine ev_bipush ?_
    refine ev_icmpge f222_14 (fun c38477 => ?_) (fun c38477 => ?_)
    · refine ev_iconst ?_
      refine ev_ret rfl (by decide) (by decide) ?_
      show jEv _ _ _ _ _ _ _ (_, [(2, 0), (0, a1), (0, a2), (0, a3)], [(0, 0)], _, _, _)
      refine ev_ifeq f207_18 (fun c38478 => ?_) (fun c38478 => absurd c38478 (by omega))
      refine ev_iconst ?_
      exact ev_ret rfl (by decide) (by decide) ⟨_, rfl, by omega, by omega, g, k0⟩
    · refine ev_iconst ?_
      refine ev_goto f222_15 ?_
      refine ev_ret rfl (by decide) (by decide) ?_
      show jEv _ _ _ _ _ _ _ (_, [(2, 0), (0, a1), (0, a2), (0, a3)], [(0, 1)], _, _, _)
      refine ev_ifeq f207_18 (fun c38479 => absurd c38479 (by omega)) (fun c38479 => ?_)
      refine ev_iload_n rfl ?_
      refine ev_iconst ?_
      refine ev_icmplt f207_18 (fun c38480 => ?_) (fun c38480 => ?_)
      · refine ev_iconst ?_
        exact ev_ret rfl (by decide) (by decide) ⟨_, rfl, by omega, by omega, g, k0⟩
      · refine ev_iload_n rfl ?_
        refine ev_bipush ?_
        refine ev_icmple f207_20 (fun c38481 => ?_) (fun c38481 => ?_)
        · refine ev_aload_n rfl ?_
          refine g_getp (r := 0) (c := 37) g ad0 (by decide) (by decide) rf0_12 ft11_12 ?_
          refine ev_iload_n rfl ?_
          refine g_iald g ad37 rt37 (by omega) (by omega) (fun v38482 ev38482 lv38482 uv38482 => ?_)
          refine ev_iconst ?_
          refine ev_icmpne f207_32 (fun c38483 => ?_) (fun c38483 => ?_)
          · refine ev_aload_n rfl ?_
            refine g_getp (r := 0) (c := 37) g ad0 (by decide) (by decide) rf0_12 ft11_12 ?_
            refine ev_iload_n rfl ?_
            refine g_ialdv (v := v38482) g ad37 (by omega) (by omega) (ev38482) ?_
            refine ev_iconst ?_
            refine ev_icmpne f207_52 (fun c38484 => ?_) (fun c38484 => ?_)
            · refine ev_bipush ?_
              exact ev_ret rfl (by decide) (by decide) ⟨_, rfl, by omega, by omega, g, k0⟩
            · refine ev_aload_n rfl ?_
              refine ev_iload_n rfl ?_
              refine ev_iload_n rfl ?_
              refine ev_iload_n rfl ?_
              refine ev_call (jcall_v (A := [(0, a3), (0, a2), (0, a1)]) (S' := []) (r := 0) rfl (g.lt ad0) (g.tg ad0) (Nat.le_of_ble_eq_true rfl)) (jOk_le (by decide) (s238 g (by omega) (by omega) (by omega) (by omega) (by omega) (by omega))) (by decide) (by decide) (fun w38485 h38485 q38485 => ?_)
              obtain ⟨v38486, rfl, lv38486, uv38486, g38485, kk38485⟩ := q38485
              have k38485 := k0.tr kk38485 (by decide)
              show jEv _ _ _ _ _ _ _ (_, [(2, 0), (0, a1), (0, a2), (0, a3)], [(0, v38486)], _, _, _)
              refine ev_goto f207_54 ?_
              exact ev_ret rfl (by decide) (by decide) ⟨_, rfl, by omega, by omega, g38485, k38485⟩
          · refine ev_iconst ?_
            exact ev_ret rfl (by decide) (by decide) ⟨_, rfl, by omega, by omega, g, k0⟩
        · refine ev_iconst ?_
          exact ev_ret rfl (by decide) (by decide) ⟨_, rfl, by omega, by omega, g, k0⟩
/-! 208 waits -/
set_option maxHeartbeats 4000000 in
theorem s208 {G : GH} {h : JH} (g : Gd G h) {a1 : Int} (la1 : (-2147483648) ≤ a1) (ua1 : a1 ≤ 2147483647) {a2 : Int} (la2 : (-2147483648) ≤ a2) (ua2 : a2 ≤ 2147483647) {a3 : Int} (la3 : (-2147483648) ≤ a3) (ua3 : a3 ≤ 2147483647) : jOk 4 0 0 208 [(2, 0), (0, a1), (0, a2), (0, a3)] h (PI G [] h 1 (-9223372036854775808) 9223372036854775807) := by
  refine ⟨by decide, by rw [ml208]; exact Nat.le_of_ble_eq_true rfl, ?_⟩
  rw [ml208, pp208]
  show jEv _ none _ c208_0 0 0 _ (c208_0, [(2, 0), (0, a1), (0, a2), (0, a3), (9, 0)], [], h, 0, 0)
  have k0 := Kp.rf [] h
  refine ev_iload_n rfl ?_
  refine ev_bipush ?_
  refine g_iremC (c := 100) rfl (by decide) (fun v38529 ev38529 lv38529 uv38529 => ?_)
  refine ev_istore (L' := [(2, 0), (0, a1), (0, a2), (0, a3), (0, v38529)]) (Nat.le_of_ble_eq_true rfl) rfl ?_
  refine ev_iload_n rfl ?_
  refine ev_iflt f208_53 (fun c38530 => ?_) (fun c38530 => ?_)
  · refine ev_ldc2_w ?_
    exact ev_ret rfl (by decide) (by decide) ⟨_, rfl, by omega, by omega, g, k0⟩
  · refine ev_iload rfl ?_
    refine ev_iconst ?_
    refine ev_icmplt f208_53 (fun c38531 => ?_) (fun c38531 => ?_)
    · refine ev_ldc2_w ?_
      exact ev_ret rfl (by decide) (by decide) ⟨_, rfl, by omega, by omega, g, k0⟩
    · refine ev_iload rfl ?_
      refine ev_bipush ?_
      refine ev_icmpgt f208_53 (fun c38532 => ?_) (fun c38532 => ?_)
      · refine ev_ldc2_w ?_
        exact ev_ret rfl (by decide) (by decide) ⟨_, rfl, by omega, by omega, g, k0⟩
      · refine ev_iload_n rfl ?_
        refine ev_bipush ?_
        refine g_idivP (c := 100) rfl (by decide) (by omega) (by omega) (fun v38533 ev38533 lv38533 uv38533 => ?_)
        refine ev_iload rfl ?_
        refine ev_icmpge f208_53 (fun c38534 => ?_) (fun c38534 => ?_)
        · refine ev_ldc2_w ?_
          exact ev_ret rfl (by decide) (by decide) ⟨_, rfl, by omega, by omega, g, k0⟩
        · refine ev_iload_n rfl ?_
          refine ev_sipush ?_
          refine ev_icmplt f208_53 (fun c38535 => ?_) (fun c38535 => ?_)
          · refine ev_ldc2_w ?_
            exact ev_ret rfl (by decide) (by decide) ⟨_, rfl, by omega, by omega, g, k0⟩
          · refine ev_iload_n rfl ?_
            refine ev_sipush ?_
            refine ev_icmpgt f208_53 (fun c38536 => ?_) (fun c38536 => ?_)
            · refine ev_ldc2_w ?_
              exact ev_ret rfl (by decide) (by decide) ⟨_, rfl, by omega, by omega, g, k0⟩
            · refine ev_iload_n rfl ?_
              refine ev_in (d := 2) (a := 0) (b := 0) (cd' := c221_0) (m := 1) (L0 := [(0, a3)]) (jcall_s (A := [(0, a3)]) (S' := []) (by decide) rfl (Nat.le_of_ble_eq_true rfl)) (by decide) ml221 pp221 (Nat.le_of_ble_eq_true rfl) rfl (by decide) (by decide) ?_
              refine ev_iload_n rfl ?_
              refine ev_ifeq f221_9 (fun c38537 => ?_) (fun c38537 => ?_)
              · refine ev_iconst ?_
                refine ev_goto f221_14 ?_
                refine ev_ret rfl (by decide) (by decide) ?_
                show jEv _ _ _ _ _ _ _ (_, [(2, 0), (0, a1), (0, a2), (0, a3), (0, v38529)], [(0, 1)], _, _, _)
                refine ev_ifne f208_57 (fun c38538 => ?_) (fun c38538 => absurd c38538 (by omega))
                refine ev_iload_n rfl ?_
                refine ev_ifne f208_78 (fun c38539 => absurd c38539 (by omega)) (fun c38539 => ?_)
                refine ev_aload_n rfl ?_
                refine g_getp (r := 0) (c := 26) g ad0 (by decide) (by decide) rf0_11 ft11_11 ?_
                refine ev_iload_n rfl ?_
                refine ev_bipush ?_
                refine g_idivP (c := 100) rfl (by decide) (by omega) (by omega) (fun v38540 ev38540 lv38540 uv38540 => ?_)
                obtain rfl : v38533 = v38540 := by omega
                refine ev_iload rfl ?_
                refine ev_iload_n rfl ?_
                refine ev_call (jcall_v (A := [(0, a2), (0, v38529), (0, v38533)]) (S' := []) (r := 26) rfl (g.lt ad26) (g.tg ad26) (Nat.le_of_ble_eq_true rfl)) (jOk_le (by decide) (s137 g (by omega) (by omega) (by omega) (by omega) (by omega) (by omega))) (by decide) (by decide) (fun w38541 h38541 q38541 => ?_)
                obtain ⟨v38542, rfl, lv38542, uv38542, g38541, kk38541⟩ := q38541
                have k38541 := k0.tr kk38541 (by decide)
                show jEv _ _ _ _ _ _ _ (_, [(2, 0), (0, a1), (0, a2), (0, a3), (0, v38529)], [(1, v38542)], _, _, _)
                refine ev_goto f208_92 ?_
                exact ev_ret rfl (by decide) (by decide) ⟨_, rfl, by omega, by omega, g38541, k38541⟩
              · refine ev_iload_n rfl ?_
                refine ev_iconst ?_
                refine ev_icmpne f221_13 (fun c38543 => ?_) (fun c38543 => ?_)
                · refine ev_iconst ?_
                  refine ev_ret rfl (by decide) (by decide) ?_
                  show jEv _ _ _ _ _ _ _ (_, [(2, 0), (0, a1), (0, a2), (0, a3), (0, v38529)], [(0, 0)], _, _, _)
                  refine ev_ifne f208_57 (fun c38544 => absurd c38544 (by omega)) (fun c38544 => ?_)
                  refine ev_ldc2_w ?_
                  exact ev_ret rfl (by decide) (by decide) ⟨_, rfl, by omega, by omega, g, k0⟩
                · refine ev_iconst ?_
                  refine ev_goto f221_14 ?_
                  refine ev_ret rfl (by decide) (by decide) ?_
                  show jEv _ _ _ _ _ _ _ (_, [(2, 0), (0, a1), (0, a2), (0, a3), (0, v38529)], [(0, 1)], _, _, _)
                  refine ev_ifne f208_57 (fun c38545 => ?_) (fun c38545 => absurd c38545 (by omega))
                  refine ev_iload_n rfl ?_
                  refine ev_ifne f208_78 (fun c38546 => ?_) (fun c38546 => absurd c38546 (by omega))
                  refine ev_aload_n rfl ?_
                  refine g_getp (r := 0) (c := 26) g ad0 (by decide) (by decide) rf0_11 ft11_11 ?_
                  refine ev_iload_n rfl ?_
                  refine ev_bipush ?_
                  refine g_idivP (c := 100) rfl (by decide) (by omega) (by omega) (fun v38547 ev38547 lv38547 uv38547 => ?_)
                  obtain rfl : v38533 = v38547 := by omega
                  refine ev_iload rfl ?_
                  refine ev_iload_n rfl ?_
                  refine ev_call (jcall_v (A := [(0, a2), (0, v38529), (0, v38533)]) (S' := []) (r := 26) rfl (g.lt ad26) (g.tg ad26) (Nat.le_of_ble_eq_true rfl)) (jOk_le (by decide) (s136 g (by omega) (by omega) (by omega) (by omega) (by omega) (by omega))) (by decide) (by decide) (fun w38548 h38548 q38548 => ?_)
                  obtain ⟨v38549, rfl, lv38549, uv38549, g38548, kk38548⟩ := q38548
                  have k38548 := k0.tr kk38548 (by decide)
                  show jEv _ _ _ _ _ _ _ (_, [(2, 0), (0, a1), (0, a2), (0, a3), (0, v38529)], [(1, v38549)], _, _, _)
                  exact ev_ret rfl (by decide) (by decide) ⟨_, rfl, by omega, by omega, g38548, k38548⟩
/-! 210 act -/
set_option maxHeartbeats 4000000 in
theorem s210 {G : GH} {h : JH} (g : Gd G h) {a1 : Int} (la1 : (-2147483648) ≤ a1) (ua1 : a1 ≤ 2147483647) {a2 : Int} (la2 : (-2147483648) ≤ a2) (ua2 : a2 ≤ 2147483647) {a3 : Int} (la3 : (-2147483648) ≤ a3) (ua3 : a3 ≤ 2147483647) : jOk 10 0 0 210 [(2, 0), (0, a1), (0, a2), (0, a3)] h (PI G [(19, 6), (22, 0)] h 0 (-2147483648) 2147483647) := by
  refine ⟨by decide, by rw [ml210]; exact Nat.le_of_ble_eq_true rfl, ?_⟩
  rw [ml210, pp210]
  show jEv _ none _ c210_0 0 0 _ (c210_0, [(2, 0), (0, a1), (0, a2), (0, a3), (9, 0)], [], h, 0, 0)
  have k0 := Kp.rf [(19, 6), (22, 0)] h
  refine ev_aload_n rfl ?_
  refine ev_iload_n rfl ?_
  refine ev_in (d := 8) (a := 0) (b := 0) (cd' := c220_0) (m := 2) (L0 := [(2, 0), (0, a1)]) (jcall_v (A := [(0, a1)]) (S' := []) (r := 0) rfl (g.lt ad0) (g.tg ad0) (Nat.le_of_ble_eq_true rfl)) (by decide) ml220 pp220 (Nat.le_of_ble_eq_true rfl) rfl (by decide) (by decide) ?_
  refine ev_iload_n rfl ?_
  refine ev_iflt f220_12 (fun c38600 => ?_) (fun c38600 => ?_)
  · refine ev_aconst_null ?_
    refine ev_goto f220_22 ?_
    refine ev_ret rfl (by decide) (by decide) ?_
    show jEv _ _ _ _ _ _ _ (_, [(2, 0), (0, a1), (0, a2), (0, a3), (9, 0)], [(2, (-1))], _, _, _)
    refine ev_astore (L' := [(2, 0), (0, a1), (0, a2), (0, a3), (2, (-1))]) (Nat.le_of_ble_eq_true rfl) rfl ?_
    refine ev_aload_n rfl ?_
    refine g_getp (r := 0) (c := 19) g ad0 (by decide) (by decide) rf0_4 ft11_4 ?_
    refine ev_in (d := 8) (a := 0) (b := 0) (cd' := c93_0) (m := 1) (L0 := [(2, 19)]) (jcall_v (A := []) (S' := []) (r := 19) rfl (g.lt ad19) (g.tg ad19) (Nat.le_of_ble_eq_true rfl)) (by decide) ml93 pp93 (Nat.le_of_ble_eq_true rfl) rfl (by decide) (by decide) ?_
    refine ev_aload_n rfl ?_
    refine ev_iconst ?_
    refine g_putf (r := 19) g ad19 (by decide) ft7_5 (by decide) (fun e => absurd e nz7_5) rf19_5 (by decide) (by omega) (by omega) (fun h38601 e38601 g38601 => ?_)
    have k38601 := k0.wr e38601 rfl
    refine ev_ret rfl (by decide) (by decide) ?_
    show jEv _ _ _ _ _ _ _ (_, [(2, 0), (0, a1), (0, a2), (0, a3), (2, (-1))], [], _, _, _)
    refine ev_aload rfl ?_
    refine ev_ifnull f210_28 (fun c38602 => ?_) (fun c38602 => absurd c38602 (by decide))
    refine ev_iconst ?_
    exact ev_ret rfl (by decide) (by decide) ⟨_, rfl, by omega, by omega, g38601, k38601⟩
  · refine ev_iload_n rfl ?_
    refine ev_aload_n rfl ?_
    obtain ⟨v38603, ev38603, lv38603, uv38603⟩ := g.rd ad0 (show 7 < 17 by decide) rf0_7
    refine g_getv (r := 0) (v := v38603) g ad0 (by decide) ft11_7 ev38603 ?_
    refine ev_icmplt f220_16 (fun c38604 => ?_) (fun c38604 => ?_)
    · refine ev_aload_n rfl ?_
      refine g_getp (r := 0) (c := 24) g ad0 (by decide) (by decide) rf0_6 ft11_6 ?_
      refine ev_iload_n rfl ?_
      refine g_faald (g) (i := a1) (ev38603) (by omega) (by omega) (fun f38605 qf38605 => ?_)
      refine ev_ret rfl (by decide) (by decide) ?_
      show jEv _ _ _ _ _ _ _ (_, [(2, 0), (0, a1), (0, a2), (0, a3), (9, 0)], [(2, (f38605 : Int))], _, _, _)
      refine ev_astore (L' := [(2, 0), (0, a1), (0, a2), (0, a3), (2, (f38605 : Int))]) (Nat.le_of_ble_eq_true rfl) rfl ?_
      refine ev_aload_n rfl ?_
      refine g_getp (r := 0) (c := 19) g ad0 (by decide) (by decide) rf0_4 ft11_4 ?_
      refine ev_in (d := 8) (a := 0) (b := 0) (cd' := c93_0) (m := 1) (L0 := [(2, 19)]) (jcall_v (A := []) (S' := []) (r := 19) rfl (g.lt ad19) (g.tg ad19) (Nat.le_of_ble_eq_true rfl)) (by decide) ml93 pp93 (Nat.le_of_ble_eq_true rfl) rfl (by decide) (by decide) ?_
      refine ev_aload_n rfl ?_
      refine ev_iconst ?_
      refine g_putf (r := 19) g ad19 (by decide) ft7_5 (by decide) (fun e => absurd e nz7_5) rf19_5 (by decide) (by omega) (by omega) (fun h38606 e38606 g38606 => ?_)
      have k38606 := k0.wr e38606 rfl
      refine ev_ret rfl (by decide) (by decide) ?_
      show jEv _ _ _ _ _ _ _ (_, [(2, 0), (0, a1), (0, a2), (0, a3), (2, (f38605 : Int))], [], _, _, _)
      refine ev_aload rfl ?_
      refine ev_ifnull f210_28 (fun c38607 => absurd c38607 (by omega)) (fun c38607 => ?_)
      refine ev_iload_n rfl ?_
      refine ev_iflt f210_28 (fun c38608 => ?_) (fun c38608 => ?_)
      · refine ev_iconst ?_
        exact ev_ret rfl (by decide) (by decide) ⟨_, rfl, by omega, by omega, g38606, k38606⟩
      · refine ev_iload_n rfl ?_
        refine ev_iconst ?_
        refine ev_icmple f210_30 (fun c38609 => ?_) (fun c38609 => ?_)
        · refine ev_iload_n rfl ?_
          rcases (show a2 = 0 ∨ a2 = 1 ∨ a2 = 2 ∨ 2 < a2 by omega) with c38610 | c38610 | c38610 | c38610
          · refine ev_sw (t := 56) (by rw [c38610]; decide) f210_56 ?_
            refine ev_aload rfl ?_
            refine ev_iload_n rfl ?_
            refine ev_callF (A := [(0, a3)]) (S' := []) (r := f38605) rfl (g38606.flt qf38605) (g38606.ffam qf38605) (Nat.le_of_ble_eq_true rfl) (famL (by decide) (fam_pays g38606 qf38605 (by omega) (by omega) ((jw_eq e38606)) (by omega) (by omega))) (by decide) (by decide) (fun w38611 h38611 q38611 => ?_)
            obtain ⟨q38611, fp38611⟩ := q38611
            obtain ⟨v38612, rfl, lv38612, uv38612, g38611, kk38611⟩ := q38611
            have k38611 := k38606.tr kk38611 (by decide)
            obtain ⟨v38613, ev38613, lv38613, uv38613⟩ := g38611.rd ad19 (show 5 < 6 by decide) rf19_5
            rw [ev38613] at fp38611
            show jEv _ _ _ _ _ _ _ (_, [(2, 0), (0, a1), (0, a2), (0, a3), (2, (f38605 : Int))], [(0, v38612)], _, _, _)
            exact ev_ret rfl (by decide) (by decide) ⟨_, rfl, by omega, by omega, g38611, k38611⟩
          · refine ev_sw (t := 63) (by rw [c38610]; decide) f210_63 ?_
            refine ev_aload rfl ?_
            refine ev_iload_n rfl ?_
            refine ev_callF (A := [(0, a3)]) (S' := []) (r := f38605) rfl (g38606.flt qf38605) (g38606.ffam qf38605) (Nat.le_of_ble_eq_true rfl) (famL (by decide) (fam_feels g38606 qf38605 (by omega) (by omega) ((jw_eq e38606)) (by omega) (by omega))) (by decide) (by decide) (fun w38614 h38614 q38614 => ?_)
            obtain ⟨q38614, fp38614⟩ := q38614
            obtain ⟨v38615, rfl, lv38615, uv38615, g38614, kk38614⟩ := q38614
            have k38614 := k38606.tr kk38614 (by decide)
            obtain ⟨v38616, ev38616, lv38616, uv38616⟩ := g38614.rd ad19 (show 5 < 6 by decide) rf19_5
            rw [ev38616] at fp38614
            show jEv _ _ _ _ _ _ _ (_, [(2, 0), (0, a1), (0, a2), (0, a3), (2, (f38605 : Int))], [(0, v38615)], _, _, _)
            exact ev_ret rfl (by decide) (by decide) ⟨_, rfl, by omega, by omega, g38614, k38614⟩
          · refine ev_sw (t := 70) (by rw [c38610]; decide) f210_70 ?_
            refine ev_aload rfl ?_
            refine ev_iload_n rfl ?_
            refine ev_callF (A := [(0, a3)]) (S' := []) (r := f38605) rfl (g38606.flt qf38605) (g38606.ffam qf38605) (Nat.le_of_ble_eq_true rfl) (famL (by decide) (fam_fears g38606 qf38605 (by omega) (by omega) ((jw_eq e38606)) (by omega) (by omega))) (by decide) (by decide) (fun w38617 h38617 q38617 => ?_)
            obtain ⟨q38617, fp38617⟩ := q38617
            obtain ⟨v38618, rfl, lv38618, uv38618, g38617, kk38617⟩ := q38617
            have k38617 := k38606.tr kk38617 (by decide)
            obtain ⟨v38619, ev38619, lv38619, uv38619⟩ := g38617.rd ad19 (show 5 < 6 by decide) rf19_5
            rw [ev38619] at fp38617
            show jEv _ _ _ _ _ _ _ (_, [(2, 0), (0, a1), (0, a2), (0, a3), (2, (f38605 : Int))], [(0, v38618)], _, _, _)
            exact ev_ret rfl (by decide) (by decide) ⟨_, rfl, by omega, by omega, g38617, k38617⟩
          · refine ev_sw (t := 77) (by rw [if_pos (show _ ∨ _ by omega)]; rfl) f210_77 ?_
            refine ev_aload rfl ?_
            refine ev_iload_n rfl ?_
            refine ev_callF (A := [(0, a3)]) (S' := []) (r := f38605) rfl (g38606.flt qf38605) (g38606.ffam qf38605) (Nat.le_of_ble_eq_true rfl) (famL (by decide) (fam_tells g38606 qf38605 (by omega) (by omega) ((jw_eq e38606)) (by omega) (by omega))) (by decide) (by decide) (fun w38620 h38620 q38620 => ?_)
            obtain ⟨q38620, fp38620⟩ := q38620
            obtain ⟨v38621, rfl, lv38621, uv38621, g38620, kk38620⟩ := q38620
            have k38620 := k38606.tr kk38620 (by decide)
            obtain ⟨v38622, ev38622, lv38622, uv38622⟩ := g38620.rd ad19 (show 5 < 6 by decide) rf19_5
            rw [ev38622] at fp38620
            show jEv _ _ _ _ _ _ _ (_, [(2, 0), (0, a1), (0, a2), (0, a3), (2, (f38605 : Int))], [(0, v38621)], _, _, _)
            exact ev_ret rfl (by decide) (by decide) ⟨_, rfl, by omega, by omega, g38620, k38620⟩
        · refine ev_iconst ?_
          exact ev_ret rfl (by decide) (by decide) ⟨_, rfl, by omega, by omega, g38606, k38606⟩
    · refine ev_aconst_null ?_
      refine ev_goto f220_22 ?_
      refine ev_ret rfl (by decide) (by decide) ?_
      show jEv _ _ _ _ _ _ _ (_, [(2, 0), (0, a1), (0, a2), (0, a3), (9, 0)], [(2, (-1))], _, _, _)
      refine ev_astore (L' := [(2, 0), (0, a1), (0, a2), (0, a3), (2, (-1))]) (Nat.le_of_ble_eq_true rfl) rfl ?_
      refine ev_aload_n rfl ?_
      refine g_getp (r := 0) (c := 19) g ad0 (by decide) (by decide) rf0_4 ft11_4 ?_
      refine ev_in (d := 8) (a := 0) (b := 0) (cd' := c93_0) (m := 1) (L0 := [(2, 19)]) (jcall_v (A := []) (S' := []) (r := 19) rfl (g.lt ad19) (g.tg ad19) (Nat.le_of_ble_eq_true rfl)) (by decide) ml93 pp93 (Nat.le_of_ble_eq_true rfl) rfl (by decide) (by decide) ?_
      refine ev_aload_n rfl ?_
      refine ev_iconst ?_
      refine g_putf (r := 19) g ad19 (by decide) ft7_5 (by decide) (fun e => absurd e nz7_5) rf19_5 (by decide) (by omega) (by omega) (fun h38623 e38623 g38623 => ?_)
      have k38623 := k0.wr e38623 rfl
      refine ev_ret rfl (by decide) (by decide) ?_
      show jEv _ _ _ _ _ _ _ (_, [(2, 0), (0, a1), (0, a2), (0, a3), (2, (-1))], [], _, _, _)
      refine ev_aload rfl ?_
      refine ev_ifnull f210_28 (fun c38624 => ?_) (fun c38624 => absurd c38624 (by decide))
      refine ev_iconst ?_
      exact ev_ret rfl (by decide) (by decide) ⟨_, rfl, by omega, by omega, g38623, k38623⟩
/-! 211 trace -/
set_option maxHeartbeats 4000000 in
theorem s211 {G : GH} {h : JH} (g : Gd G h) {a1 : Int} (la1 : (-2147483648) ≤ a1) (ua1 : a1 ≤ 2147483647) : jOk 2 0 0 211 [(2, 0), (0, a1)] h (PI G [] h 0 (-2147483648) 2147483647) := by
  refine ⟨by decide, by rw [ml211]; exact Nat.le_of_ble_eq_true rfl, ?_⟩
  rw [ml211, pp211]
  show jEv _ none _ c211_0 0 0 _ (c211_0, [(2, 0), (0, a1)], [], h, 0, 0)
  have k0 := Kp.rf [] h
  refine ev_aload_n rfl ?_
  refine g_getp (r := 0) (c := 19) g ad0 (by decide) (by decide) rf0_4 ft11_4 ?_
  refine ev_iload_n rfl ?_
  refine ev_in (d := 0) (a := 0) (b := 0) (cd' := c95_0) (m := 2) (L0 := [(2, 19), (0, a1)]) (jcall_v (A := [(0, a1)]) (S' := []) (r := 19) rfl (g.lt ad19) (g.tg ad19) (Nat.le_of_ble_eq_true rfl)) (by decide) ml95 pp95 (Nat.le_of_ble_eq_true rfl) rfl (by decide) (by decide) ?_
  refine ev_iload_n rfl ?_
  refine ev_iflt f95_22 (fun c38643 => ?_) (fun c38643 => ?_)
  · refine ev_iconst ?_
    refine ev_ret rfl (by decide) (by decide) ?_
    show jEv _ _ _ _ _ _ _ (_, [(2, 0), (0, a1)], [(0, 0)], _, _, _)
    refine ev_ifeq f211_22 (fun c38644 => ?_) (fun c38644 => absurd c38644 (by omega))
    refine ev_iconst ?_
    exact ev_ret rfl (by decide) (by decide) ⟨_, rfl, by omega, by omega, g, k0⟩
  · refine ev_iload_n rfl ?_
    refine ev_aload_n rfl ?_
    obtain ⟨v38645, ev38645, lv38645, uv38645⟩ := g.rd ad19 (show 5 < 6 by decide) rf19_5
    refine g_getv (r := 19) (v := v38645) g ad19 (by decide) ft7_5 ev38645 ?_
    refine ev_icmpge f95_22 (fun c38646 => ?_) (fun c38646 => ?_)
    · refine ev_iconst ?_
      refine ev_ret rfl (by decide) (by decide) ?_
      show jEv _ _ _ _ _ _ _ (_, [(2, 0), (0, a1)], [(0, 0)], _, _, _)
      refine ev_ifeq f211_22 (fun c38647 => ?_) (fun c38647 => absurd c38647 (by omega))
      refine ev_iconst ?_
      exact ev_ret rfl (by decide) (by decide) ⟨_, rfl, by omega, by omega, g, k0⟩
    · refine ev_iload_n rfl ?_
      refine ev_bipush ?_
      refine ev_icmpge f95_22 (fun c38648 => ?_) (fun c38648 => ?_)
      · refine ev_iconst ?_
        refine ev_ret rfl (by decide) (by decide) ?_
        show jEv _ _ _ _ _ _ _ (_, [(2, 0), (0, a1)], [(0, 0)], _, _, _)
        refine ev_ifeq f211_22 (fun c38649 => ?_) (fun c38649 => absurd c38649 (by omega))
        refine ev_iconst ?_
        exact ev_ret rfl (by decide) (by decide) ⟨_, rfl, by omega, by omega, g, k0⟩
      · refine ev_iconst ?_
        refine ev_goto f95_23 ?_
        refine ev_ret rfl (by decide) (by decide) ?_
        show jEv _ _ _ _ _ _ _ (_, [(2, 0), (0, a1)], [(0, 1)], _, _, _)
        refine ev_ifeq f211_22 (fun c38650 => absurd c38650 (by omega)) (fun c38650 => ?_)
        refine ev_aload_n rfl ?_
        refine g_getp (r := 0) (c := 19) g ad0 (by decide) (by decide) rf0_4 ft11_4 ?_
        refine ev_iload_n rfl ?_
        refine ev_in (d := 0) (a := 0) (b := 0) (cd' := c96_0) (m := 2) (L0 := [(2, 19), (0, a1)]) (jcall_v (A := [(0, a1)]) (S' := []) (r := 19) rfl (g.lt ad19) (g.tg ad19) (Nat.le_of_ble_eq_true rfl)) (by decide) ml96 pp96 (Nat.le_of_ble_eq_true rfl) rfl (by decide) (by decide) ?_
        refine ev_aload_n rfl ?_
        refine g_getp (r := 19) (c := 22) g ad19 (by decide) (by decide) rf19_2 ft7_2 ?_
        refine ev_iload_n rfl ?_
        refine g_iald g ad22 rt22 (by omega) (by omega) (fun v38651 ev38651 lv38651 uv38651 => ?_)
        refine ev_ret rfl (by decide) (by decide) ?_
        show jEv _ _ _ _ _ _ _ (_, [(2, 0), (0, a1)], [(0, v38651)], _, _, _)
        refine ev_goto f211_23 ?_
        exact ev_ret rfl (by decide) (by decide) ⟨_, rfl, by omega, by omega, g, k0⟩
/-! 212 keep -/
set_option maxHeartbeats 4000000 in
theorem s212 {G : GH} {h : JH} (g : Gd G h) {a1 : Int} (la1 : (-2147483648) ≤ a1) (ua1 : a1 ≤ 2147483647) {a2 : Int} (la2 : (-2147483648) ≤ a2) (ua2 : a2 ≤ 2147483647) : jOk 2 0 0 212 [(2, 0), (0, a1), (0, a2)] h (PI G [(37, 0), (38, 0)] h 0 (-1) 1) := by
  refine ⟨by decide, by rw [ml212]; exact Nat.le_of_ble_eq_true rfl, ?_⟩
  rw [ml212, pp212]
  show jEv _ none _ c212_0 0 0 _ (c212_0, [(2, 0), (0, a1), (0, a2)], [], h, 0, 0)
  have k0 := Kp.rf [(37, 0), (38, 0)] h
  refine ev_iload_n rfl ?_
  refine ev_in (d := 0) (a := 0) (b := 0) (cd' := c222_0) (m := 1) (L0 := [(0, a1)]) (jcall_s (A := [(0, a1)]) (S' := []) (by decide) rfl (Nat.le_of_ble_eq_true rfl)) (by decide) ml222 pp222 (Nat.le_of_ble_eq_true rfl) rfl (by decide) (by decide) ?_
  refine ev_iload_n rfl ?_
  refine ev_iflt f222_14 (fun c38690 => ?_) (fun c38690 => ?_)
  · refine ev_iconst ?_
    refine ev_ret rfl (by decide) (by decide) ?_
    show jEv _ _ _ _ _ _ _ (_, [(2, 0), (0, a1), (0, a2)], [(0, 0)], _, _, _)
    refine ev_ifeq f212_20 (fun c38691 => ?_) (fun c38691 => absurd c38691 (by omega))
    refine ev_iconst ?_
    exact ev_ret rfl (by decide) (by decide) ⟨_, rfl, by omega, by omega, g, k0⟩
  · refine ev_iload_n rfl ?_
    refine ev_bipush ?_
    refine ev_icmpge f222_14 (fun c38692 => ?_) (fun c38692 => ?_)
    · refine ev_iconst ?_
      refine ev_ret rfl (by decide) (by decide) ?_
      show jEv _ _ _ _ _ _ _ (_, [(2, 0), (0, a1), (0, a2)], [(0, 0)], _, _, _)
      refine ev_ifeq f212_20 (fun c38693 => ?_) (fun c38693 => absurd c38693 (by omega))
      refine ev_iconst ?_
      exact ev_ret rfl (by decide) (by decide) ⟨_, rfl, by omega, by omega, g, k0⟩
    · refine ev_iconst ?_
      refine ev_goto f222_15 ?_
      refine ev_ret rfl (by decide) (by decide) ?_
      show jEv _ _ _ _ _ _ _ (_, [(2, 0), (0, a1), (0, a2)], [(0, 1)], _, _, _)
      refine ev_ifeq f212_20 (fun c38694 => absurd c38694 (by omega)) (fun c38694 => ?_)
      refine ev_iload_n rfl ?_
      refine ev_iconst ?_
      refine ev_icmpeq f212_22 (fun c38695 => ?_) (fun c38695 => ?_)
      · refine ev_aload_n rfl ?_
        refine g_getp (r := 0) (c := 37) g ad0 (by decide) (by decide) rf0_12 ft11_12 ?_
        refine ev_iload_n rfl ?_
        refine ev_iload_n rfl ?_
        refine ev_iconst ?_
        refine ev_icmpne f212_36 (fun c38696 => absurd c38696 (by omega)) (fun c38696 => ?_)
        refine ev_iconst ?_
        refine ev_goto f212_40 ?_
        refine g_iast g ad37 rt37 (fun _ => rfl) (by omega) (by omega) (by omega) (by omega) (fun h38697 e38697 g38697 => ?_)
        have k38697 := k0.wr e38697 rfl
        refine ev_aload_n rfl ?_
        refine g_getp (r := 0) (c := 38) g38697 ad0 (by decide) (by decide) rf0_13 ft11_13 ?_
        refine ev_iload_n rfl ?_
        refine ev_iconst ?_
        refine g_iast g38697 ad38 rt38 (fun _ => rfl) (by omega) (by omega) (by omega) (by omega) (fun h38698 e38698 g38698 => ?_)
        have k38698 := k38697.wr e38698 rfl
        refine ev_iconst ?_
        exact ev_ret rfl (by decide) (by decide) ⟨_, rfl, by omega, by omega, g38698, k38698⟩
      · refine ev_aload_n rfl ?_
        refine ev_iload_n rfl ?_
        refine ev_in (d := 0) (a := 0) (b := 0) (cd' := c220_0) (m := 2) (L0 := [(2, 0), (0, a2)]) (jcall_v (A := [(0, a2)]) (S' := []) (r := 0) rfl (g.lt ad0) (g.tg ad0) (Nat.le_of_ble_eq_true rfl)) (by decide) ml220 pp220 (Nat.le_of_ble_eq_true rfl) rfl (by decide) (by decide) ?_
        refine ev_iload_n rfl ?_
        refine ev_iflt f220_12 (fun c38699 => ?_) (fun c38699 => ?_)
        · refine ev_aconst_null ?_
          refine ev_goto f220_22 ?_
          refine ev_ret rfl (by decide) (by decide) ?_
          show jEv _ _ _ _ _ _ _ (_, [(2, 0), (0, a1), (0, a2)], [(2, (-1))], _, _, _)
          refine ev_ifnonnull f212_22 (fun c38700 => absurd c38700 (by decide)) (fun c38700 => ?_)
          refine ev_iconst ?_
          exact ev_ret rfl (by decide) (by decide) ⟨_, rfl, by omega, by omega, g, k0⟩
        · refine ev_iload_n rfl ?_
          refine ev_aload_n rfl ?_
          obtain ⟨v38701, ev38701, lv38701, uv38701⟩ := g.rd ad0 (show 7 < 17 by decide) rf0_7
          refine g_getv (r := 0) (v := v38701) g ad0 (by decide) ft11_7 ev38701 ?_
          refine ev_icmplt f220_16 (fun c38702 => ?_) (fun c38702 => ?_)
          · refine ev_aload_n rfl ?_
            refine g_getp (r := 0) (c := 24) g ad0 (by decide) (by decide) rf0_6 ft11_6 ?_
            refine ev_iload_n rfl ?_
            refine g_faald (g) (i := a2) (ev38701) (by omega) (by omega) (fun f38703 qf38703 => ?_)
            refine ev_ret rfl (by decide) (by decide) ?_
            show jEv _ _ _ _ _ _ _ (_, [(2, 0), (0, a1), (0, a2)], [(2, (f38703 : Int))], _, _, _)
            refine ev_ifnonnull f212_22 (fun c38704 => ?_) (fun c38704 => absurd c38704 (by omega))
            refine ev_aload_n rfl ?_
            refine g_getp (r := 0) (c := 37) g ad0 (by decide) (by decide) rf0_12 ft11_12 ?_
            refine ev_iload_n rfl ?_
            refine ev_iload_n rfl ?_
            refine ev_iconst ?_
            refine ev_icmpne f212_36 (fun c38705 => ?_) (fun c38705 => absurd c38705 (by omega))
            refine ev_bipush ?_
            refine ev_iload_n rfl ?_
            refine ev_iadd (r := (a2 + 10)) (by unfold w32; omega) ?_
            refine g_iast g ad37 rt37 (fun _ => rfl) (by omega) (by omega) (by omega) (by omega) (fun h38706 e38706 g38706 => ?_)
            have k38706 := k0.wr e38706 rfl
            refine ev_aload_n rfl ?_
            refine g_getp (r := 0) (c := 38) g38706 ad0 (by decide) (by decide) rf0_13 ft11_13 ?_
            refine ev_iload_n rfl ?_
            refine ev_iconst ?_
            refine g_iast g38706 ad38 rt38 (fun _ => rfl) (by omega) (by omega) (by omega) (by omega) (fun h38707 e38707 g38707 => ?_)
            have k38707 := k38706.wr e38707 rfl
            refine ev_iconst ?_
            exact ev_ret rfl (by decide) (by decide) ⟨_, rfl, by omega, by omega, g38707, k38707⟩
          · refine ev_aconst_null ?_
            refine ev_goto f220_22 ?_
            refine ev_ret rfl (by decide) (by decide) ?_
            show jEv _ _ _ _ _ _ _ (_, [(2, 0), (0, a1), (0, a2)], [(2, (-1))], _, _, _)
            refine ev_ifnonnull f212_22 (fun c38708 => absurd c38708 (by decide)) (fun c38708 => ?_)
            refine ev_iconst ?_
            exact ev_ret rfl (by decide) (by decide) ⟨_, rfl, by omega, by omega, g, k0⟩
/-! 213 row -/
set_option maxHeartbeats 4000000 in
theorem s213_l {G : GH} {h : JH} {a1 : Int} (la1 : (-2147483648) ≤ a1) (ua1 : a1 ≤ 2147483647) {a2 : Int} (la2 : (-2147483648) ≤ a2) (ua2 : a2 ≤ 2147483647) {a3 : Int} (la3 : (-2147483648) ≤ a3) (ua3 : a3 ≤ 2147483647) : ∀ N : Nat, (∀ (h1 : JH) (x4 : Int), Gd G h1 → Kp [(37, 0), (38, 0), (39, 0)] h h1 → 0 ≤ a1 → a1 ≤ 5 → 0 ≤ a2 → a2 ≤ 4 → 0 ≤ a3 → a3 ≤ 60 → 0 ≤ x4 → x4 ≤ 60 → ((-x4) + 60) < N → jEv (jOk 1) none (fun _ => 0) c213_0 0 0 (PI G [(37, 0), (38, 0), (39, 0)] h 0 (-14) 1) (c213_48, [(2, 0), (0, a1), (0, a2), (0, a3), (0, x4)], [], h1, 0, 0)) := by
  intro N
  induction N with
  | zero => exact fun h1 x4 g1 k1 b0 b1 b2 b3 b4 b5 b6 b7 hm => absurd hm (by omega)
  | succ N ih =>
    show _
    intro h1 x4 g1 k1 b0 b1 b2 b3 b4 b5 b6 b7 hm
    refine ev_iload rfl ?_
    refine ev_iload_n rfl ?_
    refine ev_icmpge f213_73 (fun c38791 => ?_) (fun c38791 => ?_)
    · refine ev_iconst ?_
      exact ev_ret rfl (by decide) (by decide) ⟨_, rfl, by omega, by omega, g1, k1⟩
    · refine ev_aload_n rfl ?_
      refine g_getp (r := 0) (c := 39) g1 ad0 (by decide) (by decide) rf0_14 ft11_14 ?_
      refine ev_bipush ?_
      refine ev_iload_n rfl ?_
      refine ev_imul (r := (60 * a1)) (by unfold w32; omega) ?_
      refine ev_iload rfl ?_
      refine ev_iadd (r := (60 * a1 + x4)) (by unfold w32; omega) ?_
      refine ev_lconst ?_
      refine g_last g1 ad39 rt39 (fun _ => rfl) (by omega) (by omega) (by omega) (by omega) (fun h38792 e38792 g38792 => ?_)
      have k38792 := k1.wr e38792 rfl
      refine ev_iinc (w := (x4 + 1)) (L' := [(2, 0), (0, a1), (0, a2), (0, a3), (0, (x4 + 1))]) rfl (by unfold w32; omega) rfl ?_
      refine ev_goto f213_48 ?_
      exact ih _ _ g38792 k38792 (by omega) (by omega) (by omega) (by omega) (by omega) (by omega) (by omega) (by omega) (by omega)
set_option maxHeartbeats 4000000 in
theorem s213 {G : GH} {h : JH} (g : Gd G h) {a1 : Int} (la1 : (-2147483648) ≤ a1) (ua1 : a1 ≤ 2147483647) {a2 : Int} (la2 : (-2147483648) ≤ a2) (ua2 : a2 ≤ 2147483647) {a3 : Int} (la3 : (-2147483648) ≤ a3) (ua3 : a3 ≤ 2147483647) : jOk 2 0 0 213 [(2, 0), (0, a1), (0, a2), (0, a3)] h (PI G [(37, 0), (38, 0), (39, 0)] h 0 (-14) 1) := by
  refine ⟨by decide, by rw [ml213]; exact Nat.le_of_ble_eq_true rfl, ?_⟩
  rw [ml213, pp213]
  show jEv _ none _ c213_0 0 0 _ (c213_0, [(2, 0), (0, a1), (0, a2), (0, a3), (9, 0)], [], h, 0, 0)
  have k0 := Kp.rf [(37, 0), (38, 0), (39, 0)] h
  refine ev_iload_n rfl ?_
  refine ev_in (d := 0) (a := 0) (b := 0) (cd' := c222_0) (m := 1) (L0 := [(0, a1)]) (jcall_s (A := [(0, a1)]) (S' := []) (by decide) rfl (Nat.le_of_ble_eq_true rfl)) (by decide) ml222 pp222 (Nat.le_of_ble_eq_true rfl) rfl (by decide) (by decide) ?_
  refine ev_iload_n rfl ?_
  refine ev_iflt f222_14 (fun c38793 => ?_) (fun c38793 => ?_)
  · refine ev_iconst ?_
    refine ev_ret rfl (by decide) (by decide) ?_
    show jEv _ _ _ _ _ _ _ (_, [(2, 0), (0, a1), (0, a2), (0, a3), (9, 0)], [(0, 0)], _, _, _)
    refine ev_ifeq f213_22 (fun c38794 => ?_) (fun c38794 => absurd c38794 (by omega))
    refine ev_iconst ?_
    exact ev_ret rfl (by decide) (by decide) ⟨_, rfl, by omega, by omega, g, k0⟩
  · refine ev_iload_n rfl ?_
    refine ev_bipush ?_
    refine ev_icmpge f222_14 (fun c38795 => ?_) (fun c38795 => ?_)
    · refine ev_iconst ?_
      refine ev_ret rfl (by decide) (by decide) ?_
      show jEv _ _ _ _ _ _ _ (_, [(2, 0), (0, a1), (0, a2), (0, a3), (9, 0)], [(0, 0)], _, _, _)
      refine ev_ifeq f213_22 (fun c38796 => ?_) (fun c38796 => absurd c38796 (by omega))
      refine ev_iconst ?_
      exact ev_ret rfl (by decide) (by decide) ⟨_, rfl, by omega, by omega, g, k0⟩
    · refine ev_iconst ?_
      refine ev_goto f222_15 ?_
      refine ev_ret rfl (by decide) (by decide) ?_
      show jEv _ _ _ _ _ _ _ (_, [(2, 0), (0, a1), (0, a2), (0, a3), (9, 0)], [(0, 1)], _, _, _)
      refine ev_ifeq f213_22 (fun c38797 => absurd c38797 (by omega)) (fun c38797 => ?_)
      refine ev_iload_n rfl ?_
      refine ev_iflt f213_22 (fun c38798 => ?_) (fun c38798 => ?_)
      · refine ev_iconst ?_
        exact ev_ret rfl (by decide) (by decide) ⟨_, rfl, by omega, by omega, g, k0⟩
      · refine ev_iload_n rfl ?_
        refine ev_iconst ?_
        refine ev_icmpge f213_22 (fun c38799 => ?_) (fun c38799 => ?_)
        · refine ev_iconst ?_
          exact ev_ret rfl (by decide) (by decide) ⟨_, rfl, by omega, by omega, g, k0⟩
        · refine ev_iload_n rfl ?_
          refine ev_bipush ?_
          refine ev_icmple f213_24 (fun c38800 => ?_) (fun c38800 => ?_)
          · refine ev_iload_n rfl ?_
            refine ev_ifge f213_31 (fun c38801 => ?_) (fun c38801 => ?_)
            · refine ev_aload_n rfl ?_
              refine g_getp (r := 0) (c := 37) g ad0 (by decide) (by decide) rf0_12 ft11_12 ?_
              refine ev_iload_n rfl ?_
              refine ev_iload_n rfl ?_
              refine g_iast g ad37 rt37 (fun _ => rfl) (by omega) (by omega) (by omega) (by omega) (fun h38802 e38802 g38802 => ?_)
              have k38802 := k0.wr e38802 rfl
              refine ev_aload_n rfl ?_
              refine g_getp (r := 0) (c := 38) g38802 ad0 (by decide) (by decide) rf0_13 ft11_13 ?_
              refine ev_iload_n rfl ?_
              refine ev_iload_n rfl ?_
              refine g_iast g38802 ad38 rt38 (fun _ => rfl) (by omega) (by omega) (by omega) (by omega) (fun h38803 e38803 g38803 => ?_)
              have k38803 := k38802.wr e38803 rfl
              refine ev_iconst ?_
              refine ev_istore (L' := [(2, 0), (0, a1), (0, a2), (0, a3), (0, 0)]) (Nat.le_of_ble_eq_true rfl) rfl ?_
              exact (s213_l la1 ua1 la2 ua2 la3 ua3 122) _ _ g38803 k38803 (by omega) (by omega) (by omega) (by omega) (by omega) (by omega) (by omega) (by omega) (by omega)
            · refine ev_bipush ?_
              exact ev_ret rfl (by decide) (by decide) ⟨_, rfl, by omega, by omega, g, k0⟩
          · refine ev_iconst ?_
            exact ev_ret rfl (by decide) (by decide) ⟨_, rfl, by omega, by omega, g, k0⟩
/-! 240 lowestBits -/
set_option maxHeartbeats 4000000 in
theorem s240 {G : GH} {h : JH} (g : Gd G h) {a0 : Int} (la0 : (-2147483648) ≤ a0) (ua0 : a0 ≤ 2147483647) {a1 : Int} (la1 : (-9223372036854775808) ≤ a1) (ua1 : a1 ≤ 9223372036854775807) : jOk 1 0 0 240 [(0, a0), (1, a1)] h (PI G [] h 1 (-9223372036854775808) 9223372036854775807) := by
  refine ⟨by decide, by rw [ml240]; exact Nat.le_of_ble_eq_true rfl, ?_⟩
  rw [ml240, pp240]
  show jEv _ none _ c240_0 0 0 _ (c240_0, [(0, a0), (1, a1), (9, 0)], [], h, 0, 0)
  have k0 := Kp.rf [] h
  refine ev_iload_n rfl ?_
  rcases (show a0 = 0 ∨ a0 = 1 ∨ a0 = 2 ∨ a0 = 3 ∨ a0 < 0 ∨ 3 < a0 by omega) with c38820 | c38820 | c38820 | c38820 | c38820 | c38820
  · refine ev_sw (t := 32) (by rw [c38820]; decide) f240_32 ?_
    refine ev_lload_n rfl ?_
    refine g_l2iG (fun v38821 ev38821 lv38821 uv38821 => ?_)
    refine g_i2bG (fun v38822 ev38822 lv38822 uv38822 => ?_)
    refine ev_i2l ?_
    exact ev_ret rfl (by decide) (by decide) ⟨_, rfl, by omega, by omega, g, k0⟩
  · refine ev_sw (t := 37) (by rw [c38820]; decide) f240_37 ?_
    refine ev_lload_n rfl ?_
    refine g_l2iG (fun v38823 ev38823 lv38823 uv38823 => ?_)
    refine g_i2sG (fun v38824 ev38824 lv38824 uv38824 => ?_)
    refine ev_i2l ?_
    exact ev_ret rfl (by decide) (by decide) ⟨_, rfl, by omega, by omega, g, k0⟩
  · refine ev_sw (t := 42) (by rw [c38820]; decide) f240_42 ?_
    refine ev_lload_n rfl ?_
    refine g_l2iG (fun v38825 ev38825 lv38825 uv38825 => ?_)
    refine ev_i2l ?_
    exact ev_ret rfl (by decide) (by decide) ⟨_, rfl, by omega, by omega, g, k0⟩
  · refine ev_sw (t := 46) (by rw [c38820]; decide) f240_46 ?_
    refine ev_lload_n rfl ?_
    exact ev_ret rfl (by decide) (by decide) ⟨_, rfl, by omega, by omega, g, k0⟩
  · refine ev_sw (t := 48) (by rw [if_pos (show _ ∨ _ by omega)]; rfl) f240_48 ?_
    refine ev_lload_n rfl ?_
    refine ev_lconst ?_
    refine ev_lcmp ?_
    refine ev_ifeq f240_58 (fun c38826 => ?_) (fun c38826 => ?_)
    · have c38826b := jcmpL_eq c38826
      refine ev_lconst ?_
      exact ev_ret rfl (by decide) (by decide) ⟨_, rfl, by omega, by omega, g, k0⟩
    · have c38826b := jcmpL_eqN c38826
      refine ev_lconst ?_
      refine ev_goto f240_59 ?_
      exact ev_ret rfl (by decide) (by decide) ⟨_, rfl, by omega, by omega, g, k0⟩
  · refine ev_sw (t := 48) (by rw [if_pos (show _ ∨ _ by omega)]; rfl) f240_48 ?_
    refine ev_lload_n rfl ?_
    refine ev_lconst ?_
    refine ev_lcmp ?_
    refine ev_ifeq f240_58 (fun c38827 => ?_) (fun c38827 => ?_)
    · have c38827b := jcmpL_eq c38827
      refine ev_lconst ?_
      exact ev_ret rfl (by decide) (by decide) ⟨_, rfl, by omega, by omega, g, k0⟩
    · have c38827b := jcmpL_eqN c38827
      refine ev_lconst ?_
      refine ev_goto f240_59 ?_
      exact ev_ret rfl (by decide) (by decide) ⟨_, rfl, by omega, by omega, g, k0⟩
/-! 214 put -/
set_option maxHeartbeats 4000000 in
theorem s214 {G : GH} {h : JH} (g : Gd G h) {a1 : Int} (la1 : (-2147483648) ≤ a1) (ua1 : a1 ≤ 2147483647) {a2 : Int} (la2 : (-2147483648) ≤ a2) (ua2 : a2 ≤ 2147483647) {a3 : Int} (la3 : (-9223372036854775808) ≤ a3) (ua3 : a3 ≤ 9223372036854775807) : jOk 3 0 0 214 [(2, 0), (0, a1), (0, a2), (1, a3)] h (PI G [(39, 0)] h 0 (-13) 1) := by
  refine ⟨by decide, by rw [ml214]; exact Nat.le_of_ble_eq_true rfl, ?_⟩
  rw [ml214, pp214]
  show jEv _ none _ c214_0 0 0 _ (c214_0, [(2, 0), (0, a1), (0, a2), (1, a3), (9, 0), (9, 0)], [], h, 0, 0)
  have k0 := Kp.rf [(39, 0)] h
  refine ev_aload_n rfl ?_
  refine ev_iload_n rfl ?_
  refine ev_iload_n rfl ?_
  refine ev_in (d := 1) (a := 0) (b := 0) (cd' := c239_0) (m := 3) (L0 := [(2, 0), (0, a1), (0, a2)]) (jcall_v (A := [(0, a2), (0, a1)]) (S' := []) (r := 0) rfl (g.lt ad0) (g.tg ad0) (Nat.le_of_ble_eq_true rfl)) (by decide) ml239 pp239 (Nat.le_of_ble_eq_true rfl) rfl (by decide) (by decide) ?_
  refine ev_iload_n rfl ?_
  refine ev_in (d := 0) (a := 0) (b := 0) (cd' := c222_0) (m := 1) (L0 := [(0, a1)]) (jcall_s (A := [(0, a1)]) (S' := []) (by decide) rfl (Nat.le_of_ble_eq_true rfl)) (by decide) ml222 pp222 (Nat.le_of_ble_eq_true rfl) rfl (by decide) (by decide) ?_
  refine ev_iload_n rfl ?_
  refine ev_iflt f222_14 (fun c38870 => ?_) (fun c38870 => ?_)
  · refine ev_iconst ?_
    refine ev_ret rfl (by decide) (by decide) ?_
    show jEv _ _ _ _ _ _ _ (_, [(2, 0), (0, a1), (0, a2)], [(0, 0)], _, _, _)
    refine ev_ifne f239_9 (fun c38871 => absurd c38871 (by omega)) (fun c38871 => ?_)
    refine ev_iconst ?_
    refine ev_ret rfl (by decide) (by decide) ?_
    show jEv _ _ _ _ _ _ _ (_, [(2, 0), (0, a1), (0, a2), (1, a3), (9, 0), (9, 0)], [(0, (-1))], _, _, _)
    refine ev_istore (L' := [(2, 0), (0, a1), (0, a2), (1, a3), (9, 0), (0, (-1))]) (Nat.le_of_ble_eq_true rfl) rfl ?_
    refine ev_iload rfl ?_
    refine ev_ifeq f214_16 (fun c38872 => absurd c38872 (by omega)) (fun c38872 => ?_)
    refine ev_iload rfl ?_
    exact ev_ret rfl (by decide) (by decide) ⟨_, rfl, by omega, by omega, g, k0⟩
  · refine ev_iload_n rfl ?_
    refine ev_bipush ?_
    refine ev_icmpge f222_14 (fun c38873 => ?_) (fun c38873 => ?_)
    · refine ev_iconst ?_
      refine ev_ret rfl (by decide) (by decide) ?_
      show jEv _ _ _ _ _ _ _ (_, [(2, 0), (0, a1), (0, a2)], [(0, 0)], _, _, _)
      refine ev_ifne f239_9 (fun c38874 => absurd c38874 (by omega)) (fun c38874 => ?_)
      refine ev_iconst ?_
      refine ev_ret rfl (by decide) (by decide) ?_
      show jEv _ _ _ _ _ _ _ (_, [(2, 0), (0, a1), (0, a2), (1, a3), (9, 0), (9, 0)], [(0, (-1))], _, _, _)
      refine ev_istore (L' := [(2, 0), (0, a1), (0, a2), (1, a3), (9, 0), (0, (-1))]) (Nat.le_of_ble_eq_true rfl) rfl ?_
      refine ev_iload rfl ?_
      refine ev_ifeq f214_16 (fun c38875 => absurd c38875 (by omega)) (fun c38875 => ?_)
      refine ev_iload rfl ?_
      exact ev_ret rfl (by decide) (by decide) ⟨_, rfl, by omega, by omega, g, k0⟩
    · refine ev_iconst ?_
      refine ev_goto f222_15 ?_
      refine ev_ret rfl (by decide) (by decide) ?_
      show jEv _ _ _ _ _ _ _ (_, [(2, 0), (0, a1), (0, a2)], [(0, 1)], _, _, _)
      refine ev_ifne f239_9 (fun c38876 => ?_) (fun c38876 => absurd c38876 (by omega))
      refine ev_aload_n rfl ?_
      refine g_getp (r := 0) (c := 37) g ad0 (by decide) (by decide) rf0_12 ft11_12 ?_
      refine ev_iload_n rfl ?_
      refine g_iald g ad37 rt37 (by omega) (by omega) (fun v38877 ev38877 lv38877 uv38877 => ?_)
      refine ev_iconst ?_
      refine ev_icmpne f239_22 (fun c38878 => ?_) (fun c38878 => ?_)
      · refine ev_aload_n rfl ?_
        refine g_getp (r := 0) (c := 37) g ad0 (by decide) (by decide) rf0_12 ft11_12 ?_
        refine ev_iload_n rfl ?_
        refine g_ialdv (v := v38877) g ad37 (by omega) (by omega) (ev38877) ?_
        refine ev_bipush ?_
        refine ev_icmplt f239_36 (fun c38879 => ?_) (fun c38879 => ?_)
        · refine ev_iload_n rfl ?_
          refine ev_iflt f239_50 (fun c38880 => ?_) (fun c38880 => ?_)
          · refine ev_bipush ?_
            refine ev_goto f239_56 ?_
            refine ev_ret rfl (by decide) (by decide) ?_
            show jEv _ _ _ _ _ _ _ (_, [(2, 0), (0, a1), (0, a2), (1, a3), (9, 0), (9, 0)], [(0, (-13))], _, _, _)
            refine ev_istore (L' := [(2, 0), (0, a1), (0, a2), (1, a3), (9, 0), (0, (-13))]) (Nat.le_of_ble_eq_true rfl) rfl ?_
            refine ev_iload rfl ?_
            refine ev_ifeq f214_16 (fun c38881 => absurd c38881 (by omega)) (fun c38881 => ?_)
            refine ev_iload rfl ?_
            exact ev_ret rfl (by decide) (by decide) ⟨_, rfl, by omega, by omega, g, k0⟩
          · refine ev_iload_n rfl ?_
            refine ev_aload_n rfl ?_
            refine g_getp (r := 0) (c := 38) g ad0 (by decide) (by decide) rf0_13 ft11_13 ?_
            refine ev_iload_n rfl ?_
            refine g_iald g ad38 rt38 (by omega) (by omega) (fun v38882 ev38882 lv38882 uv38882 => ?_)
            refine ev_icmplt f239_55 (fun c38883 => ?_) (fun c38883 => ?_)
            · refine ev_iconst ?_
              refine ev_ret rfl (by decide) (by decide) ?_
              show jEv _ _ _ _ _ _ _ (_, [(2, 0), (0, a1), (0, a2), (1, a3), (9, 0), (9, 0)], [(0, 0)], _, _, _)
              refine ev_istore (L' := [(2, 0), (0, a1), (0, a2), (1, a3), (9, 0), (0, 0)]) (Nat.le_of_ble_eq_true rfl) rfl ?_
              refine ev_iload rfl ?_
              refine ev_ifeq f214_16 (fun c38884 => ?_) (fun c38884 => absurd c38884 (by omega))
              refine ev_aload_n rfl ?_
              refine g_getp (r := 0) (c := 39) g ad0 (by decide) (by decide) rf0_14 ft11_14 ?_
              refine ev_bipush ?_
              refine ev_iload_n rfl ?_
              refine ev_imul (r := (60 * a1)) (by unfold w32; omega) ?_
              refine ev_iload_n rfl ?_
              refine ev_iadd (r := (60 * a1 + a2)) (by unfold w32; omega) ?_
              refine ev_aload_n rfl ?_
              refine g_getp (r := 0) (c := 37) g ad0 (by decide) (by decide) rf0_12 ft11_12 ?_
              refine ev_iload_n rfl ?_
              refine g_ialdv (v := v38877) g ad37 (by omega) (by omega) (ev38877) ?_
              refine ev_lload_n rfl ?_
              refine ev_call (jcall_s (A := [(1, a3), (0, v38877)]) (S' := [(0, (60 * a1 + a2)), (2, 39)]) (by decide) rfl (Nat.le_of_ble_eq_true rfl)) (jOk_le (by decide) (s240 g (by omega) (by omega) (by omega) (by omega))) (by decide) (by decide) (fun w38885 h38885 q38885 => ?_)
              obtain ⟨v38886, rfl, lv38886, uv38886, g38885, kk38885⟩ := q38885
              have k38885 := k0.tr kk38885 (by decide)
              show jEv _ _ _ _ _ _ _ (_, [(2, 0), (0, a1), (0, a2), (1, a3), (9, 0), (0, 0)], [(1, v38886), (0, (60 * a1 + a2)), (2, 39)], _, _, _)
              refine g_last g38885 ad39 rt39 (fun _ => rfl) (by omega) (by omega) (by omega) (by omega) (fun h38887 e38887 g38887 => ?_)
              have k38887 := k38885.wr e38887 rfl
              refine ev_iconst ?_
              exact ev_ret rfl (by decide) (by decide) ⟨_, rfl, by omega, by omega, g38887, k38887⟩
            · refine ev_bipush ?_
              refine ev_goto f239_56 ?_
              refine ev_ret rfl (by decide) (by decide) ?_
              show jEv _ _ _ _ _ _ _ (_, [(2, 0), (0, a1), (0, a2), (1, a3), (9, 0), (9, 0)], [(0, (-13))], _, _, _)
              refine ev_istore (L' := [(2, 0), (0, a1), (0, a2), (1, a3), (9, 0), (0, (-13))]) (Nat.le_of_ble_eq_true rfl) rfl ?_
              refine ev_iload rfl ?_
              refine ev_ifeq f214_16 (fun c38888 => absurd c38888 (by omega)) (fun c38888 => ?_)
              refine ev_iload rfl ?_
              exact ev_ret rfl (by decide) (by decide) ⟨_, rfl, by omega, by omega, g, k0⟩
        · refine ev_bipush ?_
          refine ev_ret rfl (by decide) (by decide) ?_
          show jEv _ _ _ _ _ _ _ (_, [(2, 0), (0, a1), (0, a2), (1, a3), (9, 0), (9, 0)], [(0, (-12))], _, _, _)
          refine ev_istore (L' := [(2, 0), (0, a1), (0, a2), (1, a3), (9, 0), (0, (-12))]) (Nat.le_of_ble_eq_true rfl) rfl ?_
          refine ev_iload rfl ?_
          refine ev_ifeq f214_16 (fun c38889 => absurd c38889 (by omega)) (fun c38889 => ?_)
          refine ev_iload rfl ?_
          exact ev_ret rfl (by decide) (by decide) ⟨_, rfl, by omega, by omega, g, k0⟩
      · refine ev_bipush ?_
        refine ev_ret rfl (by decide) (by decide) ?_
        show jEv _ _ _ _ _ _ _ (_, [(2, 0), (0, a1), (0, a2), (1, a3), (9, 0), (9, 0)], [(0, (-11))], _, _, _)
        refine ev_istore (L' := [(2, 0), (0, a1), (0, a2), (1, a3), (9, 0), (0, (-11))]) (Nat.le_of_ble_eq_true rfl) rfl ?_
        refine ev_iload rfl ?_
        refine ev_ifeq f214_16 (fun c38890 => absurd c38890 (by omega)) (fun c38890 => ?_)
        refine ev_iload rfl ?_
        exact ev_ret rfl (by decide) (by decide) ⟨_, rfl, by omega, by omega, g, k0⟩
/-! 215 element -/
set_option maxHeartbeats 4000000 in
theorem s215 {G : GH} {h : JH} (g : Gd G h) {a1 : Int} (la1 : (-2147483648) ≤ a1) (ua1 : a1 ≤ 2147483647) {a2 : Int} (la2 : (-2147483648) ≤ a2) (ua2 : a2 ≤ 2147483647) : jOk 3 0 0 215 [(2, 0), (0, a1), (0, a2)] h (PI G [] h 1 (-9223372036854775808) 9223372036854775807) := by
  refine ⟨by decide, by rw [ml215]; exact Nat.le_of_ble_eq_true rfl, ?_⟩
  rw [ml215, pp215]
  show jEv _ none _ c215_0 0 0 _ (c215_0, [(2, 0), (0, a1), (0, a2)], [], h, 0, 0)
  have k0 := Kp.rf [] h
  refine ev_aload_n rfl ?_
  refine ev_iload_n rfl ?_
  refine ev_iload_n rfl ?_
  refine ev_in (d := 1) (a := 0) (b := 0) (cd' := c239_0) (m := 3) (L0 := [(2, 0), (0, a1), (0, a2)]) (jcall_v (A := [(0, a2), (0, a1)]) (S' := []) (r := 0) rfl (g.lt ad0) (g.tg ad0) (Nat.le_of_ble_eq_true rfl)) (by decide) ml239 pp239 (Nat.le_of_ble_eq_true rfl) rfl (by decide) (by decide) ?_
  refine ev_iload_n rfl ?_
  refine ev_in (d := 0) (a := 0) (b := 0) (cd' := c222_0) (m := 1) (L0 := [(0, a1)]) (jcall_s (A := [(0, a1)]) (S' := []) (by decide) rfl (Nat.le_of_ble_eq_true rfl)) (by decide) ml222 pp222 (Nat.le_of_ble_eq_true rfl) rfl (by decide) (by decide) ?_
  refine ev_iload_n rfl ?_
  refine ev_iflt f222_14 (fun c38929 => ?_) (fun c38929 => ?_)
  · refine ev_iconst ?_
    refine ev_ret rfl (by decide) (by decide) ?_
    show jEv _ _ _ _ _ _ _ (_, [(2, 0), (0, a1), (0, a2)], [(0, 0)], _, _, _)
    refine ev_ifne f239_9 (fun c38930 => absurd c38930 (by omega)) (fun c38930 => ?_)
    refine ev_iconst ?_
    refine ev_ret rfl (by decide) (by decide) ?_
    show jEv _ _ _ _ _ _ _ (_, [(2, 0), (0, a1), (0, a2)], [(0, (-1))], _, _, _)
    refine ev_ifeq f215_15 (fun c38931 => absurd c38931 (by omega)) (fun c38931 => ?_)
    refine ev_ldc2_w ?_
    refine ev_goto f215_26 ?_
    exact ev_ret rfl (by decide) (by decide) ⟨_, rfl, by omega, by omega, g, k0⟩
  · refine ev_iload_n rfl ?_
    refine ev_bipush ?_
    refine ev_icmpge f222_14 (fun c38932 => ?_) (fun c38932 => ?_)
    · refine ev_iconst ?_
      refine ev_ret rfl (by decide) (by decide) ?_
      show jEv _ _ _ _ _ _ _ (_, [(2, 0), (0, a1), (0, a2)], [(0, 0)], _, _, _)
      refine ev_ifne f239_9 (fun c38933 => absurd c38933 (by omega)) (fun c38933 => ?_)
      refine ev_iconst ?_
      refine ev_ret rfl (by decide) (by decide) ?_
      show jEv _ _ _ _ _ _ _ (_, [(2, 0), (0, a1), (0, a2)], [(0, (-1))], _, _, _)
      refine ev_ifeq f215_15 (fun c38934 => absurd c38934 (by omega)) (fun c38934 => ?_)
      refine ev_ldc2_w ?_
      refine ev_goto f215_26 ?_
      exact ev_ret rfl (by decide) (by decide) ⟨_, rfl, by omega, by omega, g, k0⟩
    · refine ev_iconst ?_
      refine ev_goto f222_15 ?_
      refine ev_ret rfl (by decide) (by decide) ?_
      show jEv _ _ _ _ _ _ _ (_, [(2, 0), (0, a1), (0, a2)], [(0, 1)], _, _, _)
      refine ev_ifne f239_9 (fun c38935 => ?_) (fun c38935 => absurd c38935 (by omega))
      refine ev_aload_n rfl ?_
      refine g_getp (r := 0) (c := 37) g ad0 (by decide) (by decide) rf0_12 ft11_12 ?_
      refine ev_iload_n rfl ?_
      refine g_iald g ad37 rt37 (by omega) (by omega) (fun v38936 ev38936 lv38936 uv38936 => ?_)
      refine ev_iconst ?_
      refine ev_icmpne f239_22 (fun c38937 => ?_) (fun c38937 => ?_)
      · refine ev_aload_n rfl ?_
        refine g_getp (r := 0) (c := 37) g ad0 (by decide) (by decide) rf0_12 ft11_12 ?_
        refine ev_iload_n rfl ?_
        refine g_ialdv (v := v38936) g ad37 (by omega) (by omega) (ev38936) ?_
        refine ev_bipush ?_
        refine ev_icmplt f239_36 (fun c38938 => ?_) (fun c38938 => ?_)
        · refine ev_iload_n rfl ?_
          refine ev_iflt f239_50 (fun c38939 => ?_) (fun c38939 => ?_)
          · refine ev_bipush ?_
            refine ev_goto f239_56 ?_
            refine ev_ret rfl (by decide) (by decide) ?_
            show jEv _ _ _ _ _ _ _ (_, [(2, 0), (0, a1), (0, a2)], [(0, (-13))], _, _, _)
            refine ev_ifeq f215_15 (fun c38940 => absurd c38940 (by omega)) (fun c38940 => ?_)
            refine ev_ldc2_w ?_
            refine ev_goto f215_26 ?_
            exact ev_ret rfl (by decide) (by decide) ⟨_, rfl, by omega, by omega, g, k0⟩
          · refine ev_iload_n rfl ?_
            refine ev_aload_n rfl ?_
            refine g_getp (r := 0) (c := 38) g ad0 (by decide) (by decide) rf0_13 ft11_13 ?_
            refine ev_iload_n rfl ?_
            refine g_iald g ad38 rt38 (by omega) (by omega) (fun v38941 ev38941 lv38941 uv38941 => ?_)
            refine ev_icmplt f239_55 (fun c38942 => ?_) (fun c38942 => ?_)
            · refine ev_iconst ?_
              refine ev_ret rfl (by decide) (by decide) ?_
              show jEv _ _ _ _ _ _ _ (_, [(2, 0), (0, a1), (0, a2)], [(0, 0)], _, _, _)
              refine ev_ifeq f215_15 (fun c38943 => ?_) (fun c38943 => absurd c38943 (by omega))
              refine ev_aload_n rfl ?_
              refine g_getp (r := 0) (c := 39) g ad0 (by decide) (by decide) rf0_14 ft11_14 ?_
              refine ev_bipush ?_
              refine ev_iload_n rfl ?_
              refine ev_imul (r := (60 * a1)) (by unfold w32; omega) ?_
              refine ev_iload_n rfl ?_
              refine ev_iadd (r := (60 * a1 + a2)) (by unfold w32; omega) ?_
              refine g_lald g ad39 rt39 (by omega) (by omega) (fun v38944 ev38944 lv38944 uv38944 => ?_)
              exact ev_ret rfl (by decide) (by decide) ⟨_, rfl, by omega, by omega, g, k0⟩
            · refine ev_bipush ?_
              refine ev_goto f239_56 ?_
              refine ev_ret rfl (by decide) (by decide) ?_
              show jEv _ _ _ _ _ _ _ (_, [(2, 0), (0, a1), (0, a2)], [(0, (-13))], _, _, _)
              refine ev_ifeq f215_15 (fun c38945 => absurd c38945 (by omega)) (fun c38945 => ?_)
              refine ev_ldc2_w ?_
              refine ev_goto f215_26 ?_
              exact ev_ret rfl (by decide) (by decide) ⟨_, rfl, by omega, by omega, g, k0⟩
        · refine ev_bipush ?_
          refine ev_ret rfl (by decide) (by decide) ?_
          show jEv _ _ _ _ _ _ _ (_, [(2, 0), (0, a1), (0, a2)], [(0, (-12))], _, _, _)
          refine ev_ifeq f215_15 (fun c38946 => absurd c38946 (by omega)) (fun c38946 => ?_)
          refine ev_ldc2_w ?_
          refine ev_goto f215_26 ?_
          exact ev_ret rfl (by decide) (by decide) ⟨_, rfl, by omega, by omega, g, k0⟩
      · refine ev_bipush ?_
        refine ev_ret rfl (by decide) (by decide) ?_
        show jEv _ _ _ _ _ _ _ (_, [(2, 0), (0, a1), (0, a2)], [(0, (-11))], _, _, _)
        refine ev_ifeq f215_15 (fun c38947 => absurd c38947 (by omega)) (fun c38947 => ?_)
        refine ev_ldc2_w ?_
        refine ev_goto f215_26 ?_
        exact ev_ret rfl (by decide) (by decide) ⟨_, rfl, by omega, by omega, g, k0⟩
/-! 216 shift -/
set_option maxHeartbeats 4000000 in
theorem s216 {G : GH} {h : JH} (g : Gd G h) {a1 : Int} (la1 : (-2147483648) ≤ a1) (ua1 : a1 ≤ 2147483647) {a2 : Int} (la2 : (-2147483648) ≤ a2) (ua2 : a2 ≤ 2147483647) {a3 : Int} (la3 : (-2147483648) ≤ a3) (ua3 : a3 ≤ 2147483647) {a4 : Int} (la4 : (-2147483648) ≤ a4) (ua4 : a4 ≤ 2147483647) {a5 : Int} (la5 : (-2147483648) ≤ a5) (ua5 : a5 ≤ 2147483647) : jOk 2 0 0 216 [(2, 0), (0, a1), (0, a2), (0, a3), (0, a4), (0, a5)] h (PI G [(39, 0)] h 0 (-13) 60) := by
  refine ⟨by decide, by rw [ml216]; exact Nat.le_of_ble_eq_true rfl, ?_⟩
  rw [ml216, pp216]
  show jEv _ none _ c216_0 0 0 _ (c216_0, [(2, 0), (0, a1), (0, a2), (0, a3), (0, a4), (0, a5)], [], h, 0, 0)
  have k0 := Kp.rf [(39, 0)] h
  refine ev_iload_n rfl ?_
  refine ev_in (d := 0) (a := 0) (b := 0) (cd' := c222_0) (m := 1) (L0 := [(0, a1)]) (jcall_s (A := [(0, a1)]) (S' := []) (by decide) rfl (Nat.le_of_ble_eq_true rfl)) (by decide) ml222 pp222 (Nat.le_of_ble_eq_true rfl) rfl (by decide) (by decide) ?_
  refine ev_iload_n rfl ?_
  refine ev_iflt f222_14 (fun c38996 => ?_) (fun c38996 => ?_)
  · refine ev_iconst ?_
    refine ev_ret rfl (by decide) (by decide) ?_
    show jEv _ _ _ _ _ _ _ (_, [(2, 0), (0, a1), (0, a2), (0, a3), (0, a4), (0, a5)], [(0, 0)], _, _, _)
    refine ev_ifeq f216_14 (fun c38997 => ?_) (fun c38997 => absurd c38997 (by omega))
    refine ev_iconst ?_
    exact ev_ret rfl (by decide) (by decide) ⟨_, rfl, by omega, by omega, g, k0⟩
  · refine ev_iload_n rfl ?_
    refine ev_bipush ?_
    refine ev_icmpge f222_14 (fun c38998 => ?_) (fun c38998 => ?_)
    · refine ev_iconst ?_
      refine ev_ret rfl (by decide) (by decide) ?_
      show jEv _ _ _ _ _ _ _ (_, [(2, 0), (0, a1), (0, a2), (0, a3), (0, a4), (0, a5)], [(0, 0)], _, _, _)
      refine ev_ifeq f216_14 (fun c38999 => ?_) (fun c38999 => absurd c38999 (by omega))
      refine ev_iconst ?_
      exact ev_ret rfl (by decide) (by decide) ⟨_, rfl, by omega, by omega, g, k0⟩
    · refine ev_iconst ?_
      refine ev_goto f222_15 ?_
      refine ev_ret rfl (by decide) (by decide) ?_
      show jEv _ _ _ _ _ _ _ (_, [(2, 0), (0, a1), (0, a2), (0, a3), (0, a4), (0, a5)], [(0, 1)], _, _, _)
      refine ev_ifeq f216_14 (fun c39000 => absurd c39000 (by omega)) (fun c39000 => ?_)
      refine ev_iload_n rfl ?_
      refine ev_in (d := 0) (a := 0) (b := 0) (cd' := c222_0) (m := 1) (L0 := [(0, a3)]) (jcall_s (A := [(0, a3)]) (S' := []) (by decide) rfl (Nat.le_of_ble_eq_true rfl)) (by decide) ml222 pp222 (Nat.le_of_ble_eq_true rfl) rfl (by decide) (by decide) ?_
      refine ev_iload_n rfl ?_
      refine ev_iflt f222_14 (fun c39001 => ?_) (fun c39001 => ?_)
      · refine ev_iconst ?_
        refine ev_ret rfl (by decide) (by decide) ?_
        show jEv _ _ _ _ _ _ _ (_, [(2, 0), (0, a1), (0, a2), (0, a3), (0, a4), (0, a5)], [(0, 0)], _, _, _)
        refine ev_ifne f216_16 (fun c39002 => absurd c39002 (by omega)) (fun c39002 => ?_)
        refine ev_iconst ?_
        exact ev_ret rfl (by decide) (by decide) ⟨_, rfl, by omega, by omega, g, k0⟩
      · refine ev_iload_n rfl ?_
        refine ev_bipush ?_
        refine ev_icmpge f222_14 (fun c39003 => ?_) (fun c39003 => ?_)
        · refine ev_iconst ?_
          refine ev_ret rfl (by decide) (by decide) ?_
          show jEv _ _ _ _ _ _ _ (_, [(2, 0), (0, a1), (0, a2), (0, a3), (0, a4), (0, a5)], [(0, 0)], _, _, _)
          refine ev_ifne f216_16 (fun c39004 => absurd c39004 (by omega)) (fun c39004 => ?_)
          refine ev_iconst ?_
          exact ev_ret rfl (by decide) (by decide) ⟨_, rfl, by omega, by omega, g, k0⟩
        · refine ev_iconst ?_
          refine ev_goto f222_15 ?_
          refine ev_ret rfl (by decide) (by decide) ?_
          show jEv _ _ _ _ _ _ _ (_, [(2, 0), (0, a1), (0, a2), (0, a3), (0, a4), (0, a5)], [(0, 1)], _, _, _)
          refine ev_ifne f216_16 (fun c39005 => ?_) (fun c39005 => absurd c39005 (by omega))
          refine ev_aload_n rfl ?_
          refine g_getp (r := 0) (c := 37) g ad0 (by decide) (by decide) rf0_12 ft11_12 ?_
          refine ev_iload_n rfl ?_
          refine g_iald g ad37 rt37 (by omega) (by omega) (fun v39006 ev39006 lv39006 uv39006 => ?_)
          refine ev_iconst ?_
          refine ev_icmpeq f216_36 (fun c39007 => ?_) (fun c39007 => ?_)
          · refine ev_bipush ?_
            exact ev_ret rfl (by decide) (by decide) ⟨_, rfl, by omega, by omega, g, k0⟩
          · refine ev_aload_n rfl ?_
            refine g_getp (r := 0) (c := 37) g ad0 (by decide) (by decide) rf0_12 ft11_12 ?_
            refine ev_iload_n rfl ?_
            refine g_iald g ad37 rt37 (by omega) (by omega) (fun v39008 ev39008 lv39008 uv39008 => ?_)
            refine ev_iconst ?_
            refine ev_icmpne f216_39 (fun c39009 => ?_) (fun c39009 => ?_)
            · refine ev_aload_n rfl ?_
              refine g_getp (r := 0) (c := 37) g ad0 (by decide) (by decide) rf0_12 ft11_12 ?_
              refine ev_iload_n rfl ?_
              refine g_ialdv (v := v39006) g ad37 (by omega) (by omega) (ev39006) ?_
              refine ev_bipush ?_
              refine ev_icmpge f216_65 (fun c39010 => ?_) (fun c39010 => ?_)
              · refine ev_bipush ?_
                exact ev_ret rfl (by decide) (by decide) ⟨_, rfl, by omega, by omega, g, k0⟩
              · refine ev_aload_n rfl ?_
                refine g_getp (r := 0) (c := 37) g ad0 (by decide) (by decide) rf0_12 ft11_12 ?_
                refine ev_iload_n rfl ?_
                refine g_ialdv (v := v39006) g ad37 (by omega) (by omega) (ev39006) ?_
                refine ev_aload_n rfl ?_
                refine g_getp (r := 0) (c := 37) g ad0 (by decide) (by decide) rf0_12 ft11_12 ?_
                refine ev_iload_n rfl ?_
                refine g_ialdv (v := v39008) g ad37 (by omega) (by omega) (ev39008) ?_
                refine ev_icmpeq f216_68 (fun c39011 => ?_) (fun c39011 => ?_)
                · refine ev_iload rfl ?_
                  refine ev_iflt f216_109 (fun c39012 => ?_) (fun c39012 => ?_)
                  · refine ev_bipush ?_
                    exact ev_ret rfl (by decide) (by decide) ⟨_, rfl, by omega, by omega, g, k0⟩
                  · refine ev_iload_n rfl ?_
                    refine ev_iflt f216_109 (fun c39013 => ?_) (fun c39013 => ?_)
                    · refine ev_bipush ?_
                      exact ev_ret rfl (by decide) (by decide) ⟨_, rfl, by omega, by omega, g, k0⟩
                    · refine ev_iload rfl ?_
                      refine ev_iflt f216_109 (fun c39014 => ?_) (fun c39014 => ?_)
                      · refine ev_bipush ?_
                        exact ev_ret rfl (by decide) (by decide) ⟨_, rfl, by omega, by omega, g, k0⟩
                      · refine ev_iload_n rfl ?_
                        refine ev_aload_n rfl ?_
                        refine g_getp (r := 0) (c := 38) g ad0 (by decide) (by decide) rf0_13 ft11_13 ?_
                        refine ev_iload_n rfl ?_
                        refine g_iald g ad38 rt38 (by omega) (by omega) (fun v39015 ev39015 lv39015 uv39015 => ?_)
                        refine ev_iload rfl ?_
                        refine ev_isub (r := ((-a5) + v39015)) (by unfold w32; omega) ?_
                        refine ev_icmpgt f216_109 (fun c39016 => ?_) (fun c39016 => ?_)
                        · refine ev_bipush ?_
                          exact ev_ret rfl (by decide) (by decide) ⟨_, rfl, by omega, by omega, g, k0⟩
                        · refine ev_iload rfl ?_
                          refine ev_aload_n rfl ?_
                          refine g_getp (r := 0) (c := 38) g ad0 (by decide) (by decide) rf0_13 ft11_13 ?_
                          refine ev_iload_n rfl ?_
                          refine g_iald g ad38 rt38 (by omega) (by omega) (fun v39017 ev39017 lv39017 uv39017 => ?_)
                          refine ev_iload rfl ?_
                          refine ev_isub (r := ((-a5) + v39017)) (by unfold w32; omega) ?_
                          refine ev_icmple f216_112 (fun c39018 => ?_) (fun c39018 => ?_)
                          · refine ev_aload_n rfl ?_
                            refine g_getp (r := 0) (c := 39) g ad0 (by decide) (by decide) rf0_14 ft11_14 ?_
                            refine ev_bipush ?_
                            refine ev_iload_n rfl ?_
                            refine ev_imul (r := (60 * a1)) (by unfold w32; omega) ?_
                            refine ev_iload_n rfl ?_
                            refine ev_iadd (r := (60 * a1 + a2)) (by unfold w32; omega) ?_
                            refine ev_aload_n rfl ?_
                            refine g_getp (r := 0) (c := 39) g ad0 (by decide) (by decide) rf0_14 ft11_14 ?_
                            refine ev_bipush ?_
                            refine ev_iload_n rfl ?_
                            refine ev_imul (r := (60 * a3)) (by unfold w32; omega) ?_
                            refine ev_iload rfl ?_
                            refine ev_iadd (r := (60 * a3 + a4)) (by unfold w32; omega) ?_
                            refine ev_iload rfl ?_
                            refine g_copyS g ad39 (by decide) rt39 (fun _ => rfl) (by omega) (by omega) (by omega) (by omega) (by omega) (Nat.le_of_ble_eq_true rfl) (fun h39019 g39019 kk39019 => ?_)
                            have k39019 := k0.tr kk39019 (by decide)
                            refine ev_iload rfl ?_
                            exact ev_ret rfl (by decide) (by decide) ⟨_, rfl, by omega, by omega, g39019, k39019⟩
                          · refine ev_bipush ?_
                            exact ev_ret rfl (by decide) (by decide) ⟨_, rfl, by omega, by omega, g, k0⟩
                · refine ev_bipush ?_
                  exact ev_ret rfl (by decide) (by decide) ⟨_, rfl, by omega, by omega, g, k0⟩
            · refine ev_bipush ?_
              exact ev_ret rfl (by decide) (by decide) ⟨_, rfl, by omega, by omega, g, k0⟩
/-! 217 taken -/
set_option maxHeartbeats 4000000 in
theorem s217 {G : GH} {h : JH} (g : Gd G h) {a1 : Int} (la1 : (-2147483648) ≤ a1) (ua1 : a1 ≤ 2147483647) {a2 : Int} (la2 : (-2147483648) ≤ a2) (ua2 : a2 ≤ 2147483647) : jOk 2 0 0 217 [(2, 0), (0, a1), (0, a2)] h (PI G [] h 0 (-12) 5) := by
  refine ⟨by decide, by rw [ml217]; exact Nat.le_of_ble_eq_true rfl, ?_⟩
  rw [ml217, pp217]
  show jEv _ none _ c217_0 0 0 _ (c217_0, [(2, 0), (0, a1), (0, a2), (9, 0)], [], h, 0, 0)
  have k0 := Kp.rf [] h
  refine ev_iload_n rfl ?_
  refine ev_in (d := 0) (a := 0) (b := 0) (cd' := c222_0) (m := 1) (L0 := [(0, a1)]) (jcall_s (A := [(0, a1)]) (S' := []) (by decide) rfl (Nat.le_of_ble_eq_true rfl)) (by decide) ml222 pp222 (Nat.le_of_ble_eq_true rfl) rfl (by decide) (by decide) ?_
  refine ev_iload_n rfl ?_
  refine ev_iflt f222_14 (fun c39062 => ?_) (fun c39062 => ?_)
  · refine ev_iconst ?_
    refine ev_ret rfl (by decide) (by decide) ?_
    show jEv _ _ _ _ _ _ _ (_, [(2, 0), (0, a1), (0, a2), (9, 0)], [(0, 0)], _, _, _)
    refine ev_ifeq f217_16 (fun c39063 => ?_) (fun c39063 => absurd c39063 (by omega))
    refine ev_iconst ?_
    exact ev_ret rfl (by decide) (by decide) ⟨_, rfl, by omega, by omega, g, k0⟩
  · refine ev_iload_n rfl ?_
    refine ev_bipush ?_
    refine ev_icmpge f222_14 (fun c39064 => ?_) (fun c39064 => ?_)
    · refine ev_iconst ?_
      refine ev_ret rfl (by decide) (by decide) ?_
      show jEv _ _ _ _ _ _ _ (_, [(2, 0), (0, a1), (0, a2), (9, 0)], [(0, 0)], _, _, _)
      refine ev_ifeq f217_16 (fun c39065 => ?_) (fun c39065 => absurd c39065 (by omega))
      refine ev_iconst ?_
      exact ev_ret rfl (by decide) (by decide) ⟨_, rfl, by omega, by omega, g, k0⟩
    · refine ev_iconst ?_
      refine ev_goto f222_15 ?_
      refine ev_ret rfl (by decide) (by decide) ?_
      show jEv _ _ _ _ _ _ _ (_, [(2, 0), (0, a1), (0, a2), (9, 0)], [(0, 1)], _, _, _)
      refine ev_ifeq f217_16 (fun c39066 => absurd c39066 (by omega)) (fun c39066 => ?_)
      refine ev_iload_n rfl ?_
      refine ev_iflt f217_16 (fun c39067 => ?_) (fun c39067 => ?_)
      · refine ev_iconst ?_
        exact ev_ret rfl (by decide) (by decide) ⟨_, rfl, by omega, by omega, g, k0⟩
      · refine ev_iload_n rfl ?_
        refine ev_iconst ?_
        refine ev_icmple f217_18 (fun c39068 => ?_) (fun c39068 => ?_)
        · refine ev_aload_n rfl ?_
          refine g_getp (r := 0) (c := 37) g ad0 (by decide) (by decide) rf0_12 ft11_12 ?_
          refine ev_iload_n rfl ?_
          refine g_iald g ad37 rt37 (by omega) (by omega) (fun v39069 ev39069 lv39069 uv39069 => ?_)
          refine ev_iconst ?_
          refine ev_icmpne f217_31 (fun c39070 => ?_) (fun c39070 => ?_)
          · refine ev_aload_n rfl ?_
            refine ev_aload_n rfl ?_
            refine g_getp (r := 0) (c := 37) g ad0 (by decide) (by decide) rf0_12 ft11_12 ?_
            refine ev_iload_n rfl ?_
            refine g_ialdv (v := v39069) g ad37 (by omega) (by omega) (ev39069) ?_
            refine ev_bipush ?_
            refine ev_isub (r := (v39069 - 10)) (by unfold w32; omega) ?_
            refine ev_in (d := 0) (a := 0) (b := 0) (cd' := c220_0) (m := 2) (L0 := [(2, 0), (0, (v39069 - 10))]) (jcall_v (A := [(0, (v39069 - 10))]) (S' := []) (r := 0) rfl (g.lt ad0) (g.tg ad0) (Nat.le_of_ble_eq_true rfl)) (by decide) ml220 pp220 (Nat.le_of_ble_eq_true rfl) rfl (by decide) (by decide) ?_
            refine ev_iload_n rfl ?_
            refine ev_iflt f220_12 (fun c39071 => ?_) (fun c39071 => ?_)
            · refine ev_aconst_null ?_
              refine ev_goto f220_22 ?_
              refine ev_ret rfl (by decide) (by decide) ?_
              show jEv _ _ _ _ _ _ _ (_, [(2, 0), (0, a1), (0, a2), (9, 0)], [(2, (-1))], _, _, _)
              refine ev_astore_n (L' := [(2, 0), (0, a1), (0, a2), (2, (-1))]) (Nat.le_of_ble_eq_true rfl) rfl ?_
              refine ev_aload_n rfl ?_
              refine ev_ifnull f217_57 (fun c39072 => ?_) (fun c39072 => absurd c39072 (by decide))
              refine ev_bipush ?_
              refine ev_goto f217_66 ?_
              exact ev_ret rfl (by decide) (by decide) ⟨_, rfl, by omega, by omega, g, k0⟩
            · refine ev_iload_n rfl ?_
              refine ev_aload_n rfl ?_
              obtain ⟨v39073, ev39073, lv39073, uv39073⟩ := g.rd ad0 (show 7 < 17 by decide) rf0_7
              refine g_getv (r := 0) (v := v39073) g ad0 (by decide) ft11_7 ev39073 ?_
              refine ev_icmplt f220_16 (fun c39074 => ?_) (fun c39074 => ?_)
              · refine ev_aload_n rfl ?_
                refine g_getp (r := 0) (c := 24) g ad0 (by decide) (by decide) rf0_6 ft11_6 ?_
                refine ev_iload_n rfl ?_
                refine g_faald (g) (i := (v39069 - 10)) (ev39073) (by omega) (by omega) (fun f39075 qf39075 => ?_)
                refine ev_ret rfl (by decide) (by decide) ?_
                show jEv _ _ _ _ _ _ _ (_, [(2, 0), (0, a1), (0, a2), (9, 0)], [(2, (f39075 : Int))], _, _, _)
                refine ev_astore_n (L' := [(2, 0), (0, a1), (0, a2), (2, (f39075 : Int))]) (Nat.le_of_ble_eq_true rfl) rfl ?_
                refine ev_aload_n rfl ?_
                refine ev_ifnull f217_57 (fun c39076 => absurd c39076 (by omega)) (fun c39076 => ?_)
                refine ev_aload_n rfl ?_
                refine ev_iload_n rfl ?_
                refine ev_call (jcall_s (A := [(0, a2), (2, (f39075 : Int))]) (S' := []) (by decide) rfl (Nat.le_of_ble_eq_true rfl)) (jOk_le (by decide) (s226 g qf39075 (by omega) (by omega))) (by decide) (by decide) (fun w39077 h39077 q39077 => ?_)
                obtain ⟨v39078, rfl, lv39078, uv39078, g39077, kk39077⟩ := q39077
                have k39077 := k0.tr kk39077 (by decide)
                show jEv _ _ _ _ _ _ _ (_, [(2, 0), (0, a1), (0, a2), (2, (f39075 : Int))], [(0, v39078)], _, _, _)
                refine ev_ifne f217_62 (fun c39079 => ?_) (fun c39079 => ?_)
                · refine ev_aload_n rfl ?_
                  refine ev_callF (A := []) (S' := []) (r := f39075) rfl (g39077.flt qf39075) (g39077.ffam qf39075) (Nat.le_of_ble_eq_true rfl) (famL (by decide) (fam_kind g39077 qf39075)) (by decide) (by decide) (fun w39080 h39080 q39080 => ?_)
                  obtain ⟨v39081, rfl, lv39081, uv39081, g39080, kk39080⟩ := q39080
                  have k39080 := k39077.tr kk39080 (by decide)
                  show jEv _ _ _ _ _ _ _ (_, [(2, 0), (0, a1), (0, a2), (2, (f39075 : Int))], [(0, v39081)], _, _, _)
                  exact ev_ret rfl (by decide) (by decide) ⟨_, rfl, by omega, by omega, g39080, k39080⟩
                · refine ev_bipush ?_
                  refine ev_goto f217_66 ?_
                  exact ev_ret rfl (by decide) (by decide) ⟨_, rfl, by omega, by omega, g39077, k39077⟩
              · refine ev_aconst_null ?_
                refine ev_goto f220_22 ?_
                refine ev_ret rfl (by decide) (by decide) ?_
                show jEv _ _ _ _ _ _ _ (_, [(2, 0), (0, a1), (0, a2), (9, 0)], [(2, (-1))], _, _, _)
                refine ev_astore_n (L' := [(2, 0), (0, a1), (0, a2), (2, (-1))]) (Nat.le_of_ble_eq_true rfl) rfl ?_
                refine ev_aload_n rfl ?_
                refine ev_ifnull f217_57 (fun c39082 => ?_) (fun c39082 => absurd c39082 (by decide))
                refine ev_bipush ?_
                refine ev_goto f217_66 ?_
                exact ev_ret rfl (by decide) (by decide) ⟨_, rfl, by omega, by omega, g, k0⟩
          · refine ev_bipush ?_
            exact ev_ret rfl (by decide) (by decide) ⟨_, rfl, by omega, by omega, g, k0⟩
        · refine ev_iconst ?_
          exact ev_ret rfl (by decide) (by decide) ⟨_, rfl, by omega, by omega, g, k0⟩
/-! 218 count -/
set_option maxHeartbeats 4000000 in
theorem s218 {G : GH} {h : JH} (g : Gd G h) {a1 : Int} (la1 : (-2147483648) ≤ a1) (ua1 : a1 ≤ 2147483647) : jOk 1 0 0 218 [(2, 0), (0, a1)] h (PI G [] h 0 (-1) 1000) := by
  refine ⟨by decide, by rw [ml218]; exact Nat.le_of_ble_eq_true rfl, ?_⟩
  rw [ml218, pp218]
  show jEv _ none _ c218_0 0 0 _ (c218_0, [(2, 0), (0, a1)], [], h, 0, 0)
  have k0 := Kp.rf [] h
  refine ev_iload_n rfl ?_
  rcases (show a1 = 0 ∨ a1 = 1 ∨ a1 = 2 ∨ a1 = 3 ∨ a1 = 4 ∨ a1 = 5 ∨ a1 < 0 ∨ 5 < a1 by omega) with c39097 | c39097 | c39097 | c39097 | c39097 | c39097 | c39097 | c39097
  · refine ev_sw (t := 40) (by rw [c39097]; decide) f218_40 ?_
    refine ev_aload_n rfl ?_
    refine g_getp (r := 0) (c := 1) g ad0 (by decide) (by decide) rf0_0 ft11_0 ?_
    obtain ⟨v39098, ev39098, lv39098, uv39098⟩ := g.rd ad1 (show 0 < 8 by decide) rf1_0
    refine g_getv (r := 1) (v := v39098) g ad1 (by decide) ft10_0 ev39098 ?_
    exact ev_ret rfl (by decide) (by decide) ⟨_, rfl, by omega, by omega, g, k0⟩
  · refine ev_sw (t := 48) (by rw [c39097]; decide) f218_48 ?_
    refine ev_aload_n rfl ?_
    obtain ⟨v39099, ev39099, lv39099, uv39099⟩ := g.rd ad0 (show 3 < 17 by decide) rf0_3
    refine g_getv (r := 0) (v := v39099) g ad0 (by decide) ft11_3 ev39099 ?_
    exact ev_ret rfl (by decide) (by decide) ⟨_, rfl, by omega, by omega, g, k0⟩
  · refine ev_sw (t := 53) (by rw [c39097]; decide) f218_53 ?_
    refine ev_aload_n rfl ?_
    refine g_getp (r := 0) (c := 7) g ad0 (by decide) (by decide) rf0_1 ft11_1 ?_
    obtain ⟨v39100, ev39100, lv39100, uv39100⟩ := g.rd ad7 (show 0 < 15 by decide) rf7_0
    refine g_getv (r := 7) (v := v39100) g ad7 (by decide) ft5_0 ev39100 ?_
    exact ev_ret rfl (by decide) (by decide) ⟨_, rfl, by omega, by omega, g, k0⟩
  · refine ev_sw (t := 61) (by rw [c39097]; decide) f218_61 ?_
    refine ev_aload_n rfl ?_
    obtain ⟨v39101, ev39101, lv39101, uv39101⟩ := g.rd ad0 (show 7 < 17 by decide) rf0_7
    refine g_getv (r := 0) (v := v39101) g ad0 (by decide) ft11_7 ev39101 ?_
    exact ev_ret rfl (by decide) (by decide) ⟨_, rfl, by omega, by omega, g, k0⟩
  · refine ev_sw (t := 66) (by rw [c39097]; decide) f218_66 ?_
    refine ev_aload_n rfl ?_
    obtain ⟨v39102, ev39102, lv39102, uv39102⟩ := g.rd ad0 (show 9 < 17 by decide) rf0_9
    refine g_getv (r := 0) (v := v39102) g ad0 (by decide) ft11_9 ev39102 ?_
    exact ev_ret rfl (by decide) (by decide) ⟨_, rfl, by omega, by omega, g, k0⟩
  · refine ev_sw (t := 71) (by rw [c39097]; decide) f218_71 ?_
    refine ev_aload_n rfl ?_
    refine g_getp (r := 0) (c := 19) g ad0 (by decide) (by decide) rf0_4 ft11_4 ?_
    obtain ⟨v39103, ev39103, lv39103, uv39103⟩ := g.rd ad19 (show 5 < 6 by decide) rf19_5
    refine g_getv (r := 19) (v := v39103) g ad19 (by decide) ft7_5 ev39103 ?_
    exact ev_ret rfl (by decide) (by decide) ⟨_, rfl, by omega, by omega, g, k0⟩
  · refine ev_sw (t := 79) (by rw [if_pos (show _ ∨ _ by omega)]; rfl) f218_79 ?_
    refine ev_iconst ?_
    exact ev_ret rfl (by decide) (by decide) ⟨_, rfl, by omega, by omega, g, k0⟩
  · refine ev_sw (t := 79) (by rw [if_pos (show _ ∨ _ by omega)]; rfl) f218_79 ?_
    refine ev_iconst ?_
    exact ev_ret rfl (by decide) (by decide) ⟨_, rfl, by omega, by omega, g, k0⟩
