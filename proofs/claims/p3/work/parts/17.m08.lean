/-! 184 shortOf -/
set_option maxHeartbeats 4000000 in
theorem s184 {G : GH} {h : JH} (g : Gd G h) {a1 : Int} (la1 : (-2147483648) ≤ a1) (ua1 : a1 ≤ 2147483647) {a2 : Int} (la2 : (-2147483648) ≤ a2) (ua2 : a2 ≤ 2147483647) : jOk 7 0 0 184 [(2, 0), (0, a1), (0, a2)] h (PI G [(1, 2), (1, 3), (5, 0), (6, 0), (1000000, 0)] h 0 (-4) 99) := by
  refine ⟨by decide, by rw [ml184]; exact Nat.le_of_ble_eq_true rfl, ?_⟩
  rw [ml184, pp184]
  show jEv _ none _ c184_0 0 0 _ (c184_0, [(2, 0), (0, a1), (0, a2), (9, 0), (9, 0)], [], h, 0, 0)
  have k0 := Kp.rf [(1, 2), (1, 3), (5, 0), (6, 0), (1000000, 0)] h
  refine ev_aload_n rfl ?_
  refine ev_iload_n rfl ?_
  refine ev_in (d := 5) (a := 0) (b := 0) (cd' := c219_0) (m := 2) (L0 := [(2, 0), (0, a1)]) (jcall_v (A := [(0, a1)]) (S' := []) (r := 0) rfl (g.lt ad0) (g.tg ad0) (Nat.le_of_ble_eq_true rfl)) (by decide) ml219 pp219 (Nat.le_of_ble_eq_true rfl) rfl (by decide) (by decide) ?_
  refine ev_iload_n rfl ?_
  refine ev_iflt f219_12 (fun c31182 => ?_) (fun c31182 => ?_)
  · refine ev_aconst_null ?_
    refine ev_goto f219_22 ?_
    refine ev_ret rfl (by decide) (by decide) ?_
    show jEv _ _ _ _ _ _ _ (_, [(2, 0), (0, a1), (0, a2), (9, 0), (9, 0)], [(2, (-1))], _, _, _)
    refine ev_astore_n (L' := [(2, 0), (0, a1), (0, a2), (2, (-1)), (9, 0)]) (Nat.le_of_ble_eq_true rfl) rfl ?_
    refine ev_aload_n rfl ?_
    refine ev_iload_n rfl ?_
    refine ev_in (d := 5) (a := 0) (b := 0) (cd' := c220_0) (m := 2) (L0 := [(2, 0), (0, a2)]) (jcall_v (A := [(0, a2)]) (S' := []) (r := 0) rfl (g.lt ad0) (g.tg ad0) (Nat.le_of_ble_eq_true rfl)) (by decide) ml220 pp220 (Nat.le_of_ble_eq_true rfl) rfl (by decide) (by decide) ?_
    refine ev_iload_n rfl ?_
    refine ev_iflt f220_12 (fun c31183 => ?_) (fun c31183 => ?_)
    · refine ev_aconst_null ?_
      refine ev_goto f220_22 ?_
      refine ev_ret rfl (by decide) (by decide) ?_
      show jEv _ _ _ _ _ _ _ (_, [(2, 0), (0, a1), (0, a2), (2, (-1)), (9, 0)], [(2, (-1))], _, _, _)
      refine ev_astore (L' := [(2, 0), (0, a1), (0, a2), (2, (-1)), (2, (-1))]) (Nat.le_of_ble_eq_true rfl) rfl ?_
      refine ev_aload_n rfl ?_
      refine ev_ifnull f184_22 (fun c31184 => ?_) (fun c31184 => absurd c31184 (by decide))
      refine ev_iconst ?_
      exact ev_ret rfl (by decide) (by decide) ⟨_, rfl, by omega, by omega, g, k0⟩
    · refine ev_iload_n rfl ?_
      refine ev_aload_n rfl ?_
      obtain ⟨v31185, ev31185, lv31185, uv31185⟩ := g.rd ad0 (show 7 < 17 by decide) rf0_7
      refine g_getv (r := 0) (v := v31185) g ad0 (by decide) ft11_7 ev31185 ?_
      refine ev_icmplt f220_16 (fun c31186 => ?_) (fun c31186 => ?_)
      · refine ev_aload_n rfl ?_
        refine g_getp (r := 0) (c := 24) g ad0 (by decide) (by decide) rf0_6 ft11_6 ?_
        refine ev_iload_n rfl ?_
        refine g_faald (g) (i := a2) (ev31185) (by omega) (by omega) (fun f31187 qf31187 => ?_)
        refine ev_ret rfl (by decide) (by decide) ?_
        show jEv _ _ _ _ _ _ _ (_, [(2, 0), (0, a1), (0, a2), (2, (-1)), (9, 0)], [(2, (f31187 : Int))], _, _, _)
        refine ev_astore (L' := [(2, 0), (0, a1), (0, a2), (2, (-1)), (2, (f31187 : Int))]) (Nat.le_of_ble_eq_true rfl) rfl ?_
        refine ev_aload_n rfl ?_
        refine ev_ifnull f184_22 (fun c31188 => ?_) (fun c31188 => absurd c31188 (by decide))
        refine ev_iconst ?_
        exact ev_ret rfl (by decide) (by decide) ⟨_, rfl, by omega, by omega, g, k0⟩
      · refine ev_aconst_null ?_
        refine ev_goto f220_22 ?_
        refine ev_ret rfl (by decide) (by decide) ?_
        show jEv _ _ _ _ _ _ _ (_, [(2, 0), (0, a1), (0, a2), (2, (-1)), (9, 0)], [(2, (-1))], _, _, _)
        refine ev_astore (L' := [(2, 0), (0, a1), (0, a2), (2, (-1)), (2, (-1))]) (Nat.le_of_ble_eq_true rfl) rfl ?_
        refine ev_aload_n rfl ?_
        refine ev_ifnull f184_22 (fun c31189 => ?_) (fun c31189 => absurd c31189 (by decide))
        refine ev_iconst ?_
        exact ev_ret rfl (by decide) (by decide) ⟨_, rfl, by omega, by omega, g, k0⟩
  · refine ev_iload_n rfl ?_
    refine ev_aload_n rfl ?_
    obtain ⟨v31190, ev31190, lv31190, uv31190⟩ := g.rd ad0 (show 3 < 17 by decide) rf0_3
    refine g_getv (r := 0) (v := v31190) g ad0 (by decide) ft11_3 ev31190 ?_
    refine ev_icmplt f219_16 (fun c31191 => ?_) (fun c31191 => ?_)
    · refine ev_aload_n rfl ?_
      refine g_getp (r := 0) (c := 18) g ad0 (by decide) (by decide) rf0_2 ft11_2 ?_
      refine ev_iload_n rfl ?_
      refine g_qaald (g) (i := a1) (ev31190) (by omega) (by omega) (fun r31192 m31193 qr31192 => ?_)
      have wr31192 := g.qb qr31192
      have zr31192 := qr31192.1
      refine ev_ret rfl (by decide) (by decide) ?_
      show jEv _ _ _ _ _ _ _ (_, [(2, 0), (0, a1), (0, a2), (9, 0), (9, 0)], [(2, (r31192 : Int))], _, _, _)
      refine ev_astore_n (L' := [(2, 0), (0, a1), (0, a2), (2, (r31192 : Int)), (9, 0)]) (Nat.le_of_ble_eq_true rfl) rfl ?_
      refine ev_aload_n rfl ?_
      refine ev_iload_n rfl ?_
      refine ev_in (d := 5) (a := 0) (b := 0) (cd' := c220_0) (m := 2) (L0 := [(2, 0), (0, a2)]) (jcall_v (A := [(0, a2)]) (S' := []) (r := 0) rfl (g.lt ad0) (g.tg ad0) (Nat.le_of_ble_eq_true rfl)) (by decide) ml220 pp220 (Nat.le_of_ble_eq_true rfl) rfl (by decide) (by decide) ?_
      refine ev_iload_n rfl ?_
      refine ev_iflt f220_12 (fun c31194 => ?_) (fun c31194 => ?_)
      · refine ev_aconst_null ?_
        refine ev_goto f220_22 ?_
        refine ev_ret rfl (by decide) (by decide) ?_
        show jEv _ _ _ _ _ _ _ (_, [(2, 0), (0, a1), (0, a2), (2, (r31192 : Int)), (9, 0)], [(2, (-1))], _, _, _)
        refine ev_astore (L' := [(2, 0), (0, a1), (0, a2), (2, (r31192 : Int)), (2, (-1))]) (Nat.le_of_ble_eq_true rfl) rfl ?_
        refine ev_aload_n rfl ?_
        refine ev_ifnull f184_22 (fun c31195 => absurd c31195 (by omega)) (fun c31195 => ?_)
        refine ev_aload rfl ?_
        refine ev_ifnonnull f184_24 (fun c31196 => absurd c31196 (by decide)) (fun c31196 => ?_)
        refine ev_iconst ?_
        exact ev_ret rfl (by decide) (by decide) ⟨_, rfl, by omega, by omega, g, k0⟩
      · refine ev_iload_n rfl ?_
        refine ev_aload_n rfl ?_
        obtain ⟨v31197, ev31197, lv31197, uv31197⟩ := g.rd ad0 (show 7 < 17 by decide) rf0_7
        refine g_getv (r := 0) (v := v31197) g ad0 (by decide) ft11_7 ev31197 ?_
        refine ev_icmplt f220_16 (fun c31198 => ?_) (fun c31198 => ?_)
        · refine ev_aload_n rfl ?_
          refine g_getp (r := 0) (c := 24) g ad0 (by decide) (by decide) rf0_6 ft11_6 ?_
          refine ev_iload_n rfl ?_
          refine g_faald (g) (i := a2) (ev31197) (by omega) (by omega) (fun f31199 qf31199 => ?_)
          refine ev_ret rfl (by decide) (by decide) ?_
          show jEv _ _ _ _ _ _ _ (_, [(2, 0), (0, a1), (0, a2), (2, (r31192 : Int)), (9, 0)], [(2, (f31199 : Int))], _, _, _)
          refine ev_astore (L' := [(2, 0), (0, a1), (0, a2), (2, (r31192 : Int)), (2, (f31199 : Int))]) (Nat.le_of_ble_eq_true rfl) rfl ?_
          refine ev_aload_n rfl ?_
          refine ev_ifnull f184_22 (fun c31200 => absurd c31200 (by omega)) (fun c31200 => ?_)
          refine ev_aload rfl ?_
          refine ev_ifnonnull f184_24 (fun c31201 => ?_) (fun c31201 => absurd c31201 (by omega))
          refine ev_aload_n rfl ?_
          refine g_getp (r := 0) (c := 1) g ad0 (by decide) (by decide) rf0_0 ft11_0 ?_
          refine ev_call (jcall_v (A := []) (S' := []) (r := 1) rfl (g.lt ad1) (g.tg ad1) (Nat.le_of_ble_eq_true rfl)) (jOk_le (by decide) (s153 g )) (by decide) (by decide) (fun w31202 h31202 q31202 => ?_)
          obtain ⟨v31203, rfl, lv31203, uv31203, g31202, kk31202⟩ := q31202
          have k31202 := k0.tr kk31202 (by decide)
          show jEv _ _ _ _ _ _ _ (_, [(2, 0), (0, a1), (0, a2), (2, (r31192 : Int)), (2, (f31199 : Int))], [(0, v31203)], _, _, _)
          refine ev_ifeq f184_47 (fun c31204 => ?_) (fun c31204 => ?_)
          · refine ev_bipush ?_
            exact ev_ret rfl (by decide) (by decide) ⟨_, rfl, by omega, by omega, g31202, k31202⟩
          · refine ev_aload_n rfl ?_
            refine ev_aload_n rfl ?_
            refine g_getp (r := 0) (c := 1) g31202 ad0 (by decide) (by decide) rf0_0 ft11_0 ?_
            refine ev_aload rfl ?_
            refine ev_call (jcall_v (A := [(2, (f31199 : Int)), (2, 1)]) (S' := []) (r := r31192) rfl (g31202.qlt qr31192) (g31202.qtg qr31192) (Nat.le_of_ble_eq_true rfl)) (jOk_le (by decide) (s56 g31202 qr31192 qf31199)) (by decide) (by decide) (fun w31205 h31205 q31205 => ?_)
            obtain ⟨v31206, rfl, lv31206, uv31206, g31205, kk31205⟩ := q31205
            have k31205 := k31202.tr kk31205 (by decide)
            show jEv _ _ _ _ _ _ _ (_, [(2, 0), (0, a1), (0, a2), (2, (r31192 : Int)), (2, (f31199 : Int))], [(0, v31206)], _, _, _)
            refine ev_goto f184_49 ?_
            exact ev_ret rfl (by decide) (by decide) ⟨_, rfl, by omega, by omega, g31205, k31205⟩
        · refine ev_aconst_null ?_
          refine ev_goto f220_22 ?_
          refine ev_ret rfl (by decide) (by decide) ?_
          show jEv _ _ _ _ _ _ _ (_, [(2, 0), (0, a1), (0, a2), (2, (r31192 : Int)), (9, 0)], [(2, (-1))], _, _, _)
          refine ev_astore (L' := [(2, 0), (0, a1), (0, a2), (2, (r31192 : Int)), (2, (-1))]) (Nat.le_of_ble_eq_true rfl) rfl ?_
          refine ev_aload_n rfl ?_
          refine ev_ifnull f184_22 (fun c31207 => absurd c31207 (by omega)) (fun c31207 => ?_)
          refine ev_aload rfl ?_
          refine ev_ifnonnull f184_24 (fun c31208 => absurd c31208 (by decide)) (fun c31208 => ?_)
          refine ev_iconst ?_
          exact ev_ret rfl (by decide) (by decide) ⟨_, rfl, by omega, by omega, g, k0⟩
    · refine ev_aconst_null ?_
      refine ev_goto f219_22 ?_
      refine ev_ret rfl (by decide) (by decide) ?_
      show jEv _ _ _ _ _ _ _ (_, [(2, 0), (0, a1), (0, a2), (9, 0), (9, 0)], [(2, (-1))], _, _, _)
      refine ev_astore_n (L' := [(2, 0), (0, a1), (0, a2), (2, (-1)), (9, 0)]) (Nat.le_of_ble_eq_true rfl) rfl ?_
      refine ev_aload_n rfl ?_
      refine ev_iload_n rfl ?_
      refine ev_in (d := 5) (a := 0) (b := 0) (cd' := c220_0) (m := 2) (L0 := [(2, 0), (0, a2)]) (jcall_v (A := [(0, a2)]) (S' := []) (r := 0) rfl (g.lt ad0) (g.tg ad0) (Nat.le_of_ble_eq_true rfl)) (by decide) ml220 pp220 (Nat.le_of_ble_eq_true rfl) rfl (by decide) (by decide) ?_
      refine ev_iload_n rfl ?_
      refine ev_iflt f220_12 (fun c31209 => ?_) (fun c31209 => ?_)
      · refine ev_aconst_null ?_
        refine ev_goto f220_22 ?_
        refine ev_ret rfl (by decide) (by decide) ?_
        show jEv _ _ _ _ _ _ _ (_, [(2, 0), (0, a1), (0, a2), (2, (-1)), (9, 0)], [(2, (-1))], _, _, _)
        refine ev_astore (L' := [(2, 0), (0, a1), (0, a2), (2, (-1)), (2, (-1))]) (Nat.le_of_ble_eq_true rfl) rfl ?_
        refine ev_aload_n rfl ?_
        refine ev_ifnull f184_22 (fun c31210 => ?_) (fun c31210 => absurd c31210 (by decide))
        refine ev_iconst ?_
        exact ev_ret rfl (by decide) (by decide) ⟨_, rfl, by omega, by omega, g, k0⟩
      · refine ev_iload_n rfl ?_
        refine ev_aload_n rfl ?_
        obtain ⟨v31211, ev31211, lv31211, uv31211⟩ := g.rd ad0 (show 7 < 17 by decide) rf0_7
        refine g_getv (r := 0) (v := v31211) g ad0 (by decide) ft11_7 ev31211 ?_
        refine ev_icmplt f220_16 (fun c31212 => ?_) (fun c31212 => ?_)
        · refine ev_aload_n rfl ?_
          refine g_getp (r := 0) (c := 24) g ad0 (by decide) (by decide) rf0_6 ft11_6 ?_
          refine ev_iload_n rfl ?_
          refine g_faald (g) (i := a2) (ev31211) (by omega) (by omega) (fun f31213 qf31213 => ?_)
          refine ev_ret rfl (by decide) (by decide) ?_
          show jEv _ _ _ _ _ _ _ (_, [(2, 0), (0, a1), (0, a2), (2, (-1)), (9, 0)], [(2, (f31213 : Int))], _, _, _)
          refine ev_astore (L' := [(2, 0), (0, a1), (0, a2), (2, (-1)), (2, (f31213 : Int))]) (Nat.le_of_ble_eq_true rfl) rfl ?_
          refine ev_aload_n rfl ?_
          refine ev_ifnull f184_22 (fun c31214 => ?_) (fun c31214 => absurd c31214 (by decide))
          refine ev_iconst ?_
          exact ev_ret rfl (by decide) (by decide) ⟨_, rfl, by omega, by omega, g, k0⟩
        · refine ev_aconst_null ?_
          refine ev_goto f220_22 ?_
          refine ev_ret rfl (by decide) (by decide) ?_
          show jEv _ _ _ _ _ _ _ (_, [(2, 0), (0, a1), (0, a2), (2, (-1)), (9, 0)], [(2, (-1))], _, _, _)
          refine ev_astore (L' := [(2, 0), (0, a1), (0, a2), (2, (-1)), (2, (-1))]) (Nat.le_of_ble_eq_true rfl) rfl ?_
          refine ev_aload_n rfl ?_
          refine ev_ifnull f184_22 (fun c31215 => ?_) (fun c31215 => absurd c31215 (by decide))
          refine ev_iconst ?_
          exact ev_ret rfl (by decide) (by decide) ⟨_, rfl, by omega, by omega, g, k0⟩
/-! 185 fork -/
set_option maxHeartbeats 4000000 in
theorem s185 {G : GH} {h : JH} (g : Gd G h) {a1 : Int} (la1 : (-2147483648) ≤ a1) (ua1 : a1 ≤ 2147483647) {a2 : Int} (la2 : (-2147483648) ≤ a2) (ua2 : a2 ≤ 2147483647) {a3 : Int} (la3 : (-2147483648) ≤ a3) (ua3 : a3 ≤ 2147483647) {a4 : Int} (la4 : (-2147483648) ≤ a4) (ua4 : a4 ≤ 2147483647) : jOk 6 0 0 185 [(2, 0), (0, a1), (0, a2), (0, a3), (0, a4)] h (PI G [(1, 2), (1, 3), (5, 0), (6, 0), (1000000, 0)] h 1 (-9223372036854775808) 9223372036854775807) := by
  refine ⟨by decide, by rw [ml185]; exact Nat.le_of_ble_eq_true rfl, ?_⟩
  rw [ml185, pp185]
  show jEv _ none _ c185_0 0 0 _ (c185_0, [(2, 0), (0, a1), (0, a2), (0, a3), (0, a4), (9, 0)], [], h, 0, 0)
  have k0 := Kp.rf [(1, 2), (1, 3), (5, 0), (6, 0), (1000000, 0)] h
  refine ev_aload_n rfl ?_
  refine ev_iload_n rfl ?_
  refine ev_in (d := 4) (a := 0) (b := 0) (cd' := c219_0) (m := 2) (L0 := [(2, 0), (0, a1)]) (jcall_v (A := [(0, a1)]) (S' := []) (r := 0) rfl (g.lt ad0) (g.tg ad0) (Nat.le_of_ble_eq_true rfl)) (by decide) ml219 pp219 (Nat.le_of_ble_eq_true rfl) rfl (by decide) (by decide) ?_
  refine ev_iload_n rfl ?_
  refine ev_iflt f219_12 (fun c31366 => ?_) (fun c31366 => ?_)
  · refine ev_aconst_null ?_
    refine ev_goto f219_22 ?_
    refine ev_ret rfl (by decide) (by decide) ?_
    show jEv _ _ _ _ _ _ _ (_, [(2, 0), (0, a1), (0, a2), (0, a3), (0, a4), (9, 0)], [(2, (-1))], _, _, _)
    refine ev_astore (L' := [(2, 0), (0, a1), (0, a2), (0, a3), (0, a4), (2, (-1))]) (Nat.le_of_ble_eq_true rfl) rfl ?_
    refine ev_aload rfl ?_
    refine ev_ifnull f185_40 (fun c31367 => ?_) (fun c31367 => absurd c31367 (by decide))
    refine ev_ldc2_w ?_
    exact ev_ret rfl (by decide) (by decide) ⟨_, rfl, by omega, by omega, g, k0⟩
  · refine ev_iload_n rfl ?_
    refine ev_aload_n rfl ?_
    obtain ⟨v31368, ev31368, lv31368, uv31368⟩ := g.rd ad0 (show 3 < 17 by decide) rf0_3
    refine g_getv (r := 0) (v := v31368) g ad0 (by decide) ft11_3 ev31368 ?_
    refine ev_icmplt f219_16 (fun c31369 => ?_) (fun c31369 => ?_)
    · refine ev_aload_n rfl ?_
      refine g_getp (r := 0) (c := 18) g ad0 (by decide) (by decide) rf0_2 ft11_2 ?_
      refine ev_iload_n rfl ?_
      refine g_qaald (g) (i := a1) (ev31368) (by omega) (by omega) (fun r31370 m31371 qr31370 => ?_)
      have wr31370 := g.qb qr31370
      have zr31370 := qr31370.1
      refine ev_ret rfl (by decide) (by decide) ?_
      show jEv _ _ _ _ _ _ _ (_, [(2, 0), (0, a1), (0, a2), (0, a3), (0, a4), (9, 0)], [(2, (r31370 : Int))], _, _, _)
      refine ev_astore (L' := [(2, 0), (0, a1), (0, a2), (0, a3), (0, a4), (2, (r31370 : Int))]) (Nat.le_of_ble_eq_true rfl) rfl ?_
      refine ev_aload rfl ?_
      refine ev_ifnull f185_40 (fun c31372 => absurd c31372 (by omega)) (fun c31372 => ?_)
      refine ev_aload rfl ?_
      refine ev_iload_n rfl ?_
      refine ev_iload_n rfl ?_
      refine ev_in (d := 4) (a := 0) (b := 0) (cd' := c26_0) (m := 3) (L0 := [(2, (r31370 : Int)), (0, a2), (0, a3)]) (jcall_v (A := [(0, a3), (0, a2)]) (S' := []) (r := r31370) rfl (g.qlt qr31370) (g.qtg qr31370) (Nat.le_of_ble_eq_true rfl)) (by decide) ml26 pp26 (Nat.le_of_ble_eq_true rfl) rfl (by decide) (by decide) ?_
      refine ev_aload_n rfl ?_
      refine ev_iload_n rfl ?_
      refine ev_iload_n rfl ?_
      refine ev_in (d := 3) (a := 0) (b := 0) (cd' := c25_0) (m := 3) (L0 := [(2, (r31370 : Int)), (0, a2), (0, a3)]) (jcall_v (A := [(0, a3), (0, a2)]) (S' := []) (r := r31370) rfl (g.qlt qr31370) (g.qtg qr31370) (Nat.le_of_ble_eq_true rfl)) (by decide) ml25 pp25 (Nat.le_of_ble_eq_true rfl) rfl (by decide) (by decide) ?_
      refine ev_aload_n rfl ?_
      refine ev_iload_n rfl ?_
      refine ev_in (d := 2) (a := 0) (b := 0) (cd' := c24_0) (m := 2) (L0 := [(2, (r31370 : Int)), (0, a2)]) (jcall_v (A := [(0, a2)]) (S' := []) (r := r31370) rfl (g.qlt qr31370) (g.qtg qr31370) (Nat.le_of_ble_eq_true rfl)) (by decide) ml24 pp24 (Nat.le_of_ble_eq_true rfl) rfl (by decide) (by decide) ?_
      refine ev_iload_n rfl ?_
      refine ev_iflt f24_16 (fun c31373 => ?_) (fun c31373 => ?_)
      · refine ev_iconst ?_
        refine ev_ret rfl (by decide) (by decide) ?_
        show jEv _ _ _ _ _ _ _ (_, [(2, (r31370 : Int)), (0, a2), (0, a3)], [(0, 0)], _, _, _)
        refine ev_ifeq f25_26 (fun c31374 => ?_) (fun c31374 => absurd c31374 (by omega))
        refine ev_iconst ?_
        refine ev_ret rfl (by decide) (by decide) ?_
        show jEv _ _ _ _ _ _ _ (_, [(2, (r31370 : Int)), (0, a2), (0, a3)], [(0, 0)], _, _, _)
        refine ev_ifeq f26_23 (fun c31375 => ?_) (fun c31375 => absurd c31375 (by omega))
        refine ev_iconst ?_
        refine ev_ret rfl (by decide) (by decide) ?_
        show jEv _ _ _ _ _ _ _ (_, [(2, 0), (0, a1), (0, a2), (0, a3), (0, a4), (2, (r31370 : Int))], [(0, 0)], _, _, _)
        refine ev_ifeq f185_40 (fun c31376 => ?_) (fun c31376 => absurd c31376 (by omega))
        refine ev_ldc2_w ?_
        exact ev_ret rfl (by decide) (by decide) ⟨_, rfl, by omega, by omega, g, k0⟩
      · refine ev_iload_n rfl ?_
        refine ev_aload_n rfl ?_
        obtain ⟨v31377, ev31377, lv31377, uv31377⟩ := g.q0 qr31370
        refine g_qgetv (v := v31377) g qr31370 ft4_0 ev31377 ?_
        refine ev_icmpge f24_16 (fun c31378 => ?_) (fun c31378 => ?_)
        · refine ev_iconst ?_
          refine ev_ret rfl (by decide) (by decide) ?_
          show jEv _ _ _ _ _ _ _ (_, [(2, (r31370 : Int)), (0, a2), (0, a3)], [(0, 0)], _, _, _)
          refine ev_ifeq f25_26 (fun c31379 => ?_) (fun c31379 => absurd c31379 (by omega))
          refine ev_iconst ?_
          refine ev_ret rfl (by decide) (by decide) ?_
          show jEv _ _ _ _ _ _ _ (_, [(2, (r31370 : Int)), (0, a2), (0, a3)], [(0, 0)], _, _, _)
          refine ev_ifeq f26_23 (fun c31380 => ?_) (fun c31380 => absurd c31380 (by omega))
          refine ev_iconst ?_
          refine ev_ret rfl (by decide) (by decide) ?_
          show jEv _ _ _ _ _ _ _ (_, [(2, 0), (0, a1), (0, a2), (0, a3), (0, a4), (2, (r31370 : Int))], [(0, 0)], _, _, _)
          refine ev_ifeq f185_40 (fun c31381 => ?_) (fun c31381 => absurd c31381 (by omega))
          refine ev_ldc2_w ?_
          exact ev_ret rfl (by decide) (by decide) ⟨_, rfl, by omega, by omega, g, k0⟩
        · refine ev_iconst ?_
          refine ev_goto f24_17 ?_
          refine ev_ret rfl (by decide) (by decide) ?_
          show jEv _ _ _ _ _ _ _ (_, [(2, (r31370 : Int)), (0, a2), (0, a3)], [(0, 1)], _, _, _)
          refine ev_ifeq f25_26 (fun c31382 => absurd c31382 (by omega)) (fun c31382 => ?_)
          refine ev_iload_n rfl ?_
          refine ev_iflt f25_26 (fun c31383 => ?_) (fun c31383 => ?_)
          · refine ev_iconst ?_
            refine ev_ret rfl (by decide) (by decide) ?_
            show jEv _ _ _ _ _ _ _ (_, [(2, (r31370 : Int)), (0, a2), (0, a3)], [(0, 0)], _, _, _)
            refine ev_ifeq f26_23 (fun c31384 => ?_) (fun c31384 => absurd c31384 (by omega))
            refine ev_iconst ?_
            refine ev_ret rfl (by decide) (by decide) ?_
            show jEv _ _ _ _ _ _ _ (_, [(2, 0), (0, a1), (0, a2), (0, a3), (0, a4), (2, (r31370 : Int))], [(0, 0)], _, _, _)
            refine ev_ifeq f185_40 (fun c31385 => ?_) (fun c31385 => absurd c31385 (by omega))
            refine ev_ldc2_w ?_
            exact ev_ret rfl (by decide) (by decide) ⟨_, rfl, by omega, by omega, g, k0⟩
          · refine ev_iload_n rfl ?_
            refine ev_aload_n rfl ?_
            refine g_qgetp g qr31370 (c := 4) (by decide) (by decide) ft4_4 ?_
            refine ev_iload_n rfl ?_
            refine g_qiald g qr31370 (c := 4) (by decide) (by decide) (by decide) (by omega) (by show a2 < m31371; omega) rfl (fun v31386 ev31386 lv31386 uv31386 => ?_)
            refine ev_icmpge f25_26 (fun c31387 => ?_) (fun c31387 => ?_)
            · refine ev_iconst ?_
              refine ev_ret rfl (by decide) (by decide) ?_
              show jEv _ _ _ _ _ _ _ (_, [(2, (r31370 : Int)), (0, a2), (0, a3)], [(0, 0)], _, _, _)
              refine ev_ifeq f26_23 (fun c31388 => ?_) (fun c31388 => absurd c31388 (by omega))
              refine ev_iconst ?_
              refine ev_ret rfl (by decide) (by decide) ?_
              show jEv _ _ _ _ _ _ _ (_, [(2, 0), (0, a1), (0, a2), (0, a3), (0, a4), (2, (r31370 : Int))], [(0, 0)], _, _, _)
              refine ev_ifeq f185_40 (fun c31389 => ?_) (fun c31389 => absurd c31389 (by omega))
              refine ev_ldc2_w ?_
              exact ev_ret rfl (by decide) (by decide) ⟨_, rfl, by omega, by omega, g, k0⟩
            · refine ev_iconst ?_
              refine ev_goto f25_27 ?_
              refine ev_ret rfl (by decide) (by decide) ?_
              show jEv _ _ _ _ _ _ _ (_, [(2, (r31370 : Int)), (0, a2), (0, a3)], [(0, 1)], _, _, _)
              refine ev_ifeq f26_23 (fun c31390 => absurd c31390 (by omega)) (fun c31390 => ?_)
              refine ev_aload_n rfl ?_
              refine g_qgetp g qr31370 (c := 2) (by decide) (by decide) ft4_2 ?_
              refine ev_iload_n rfl ?_
              refine g_qiald g qr31370 (c := 2) (by decide) (by decide) (by decide) (by omega) (by show a2 < m31371; omega) rfl (fun v31391 ev31391 lv31391 uv31391 => ?_)
              refine ev_iconst ?_
              refine ev_icmpne f26_23 (fun c31392 => ?_) (fun c31392 => ?_)
              · refine ev_iconst ?_
                refine ev_ret rfl (by decide) (by decide) ?_
                show jEv _ _ _ _ _ _ _ (_, [(2, 0), (0, a1), (0, a2), (0, a3), (0, a4), (2, (r31370 : Int))], [(0, 0)], _, _, _)
                refine ev_ifeq f185_40 (fun c31393 => ?_) (fun c31393 => absurd c31393 (by omega))
                refine ev_ldc2_w ?_
                exact ev_ret rfl (by decide) (by decide) ⟨_, rfl, by omega, by omega, g, k0⟩
              · refine ev_iconst ?_
                refine ev_goto f26_24 ?_
                refine ev_ret rfl (by decide) (by decide) ?_
                show jEv _ _ _ _ _ _ _ (_, [(2, 0), (0, a1), (0, a2), (0, a3), (0, a4), (2, (r31370 : Int))], [(0, 1)], _, _, _)
                refine ev_ifeq f185_40 (fun c31394 => absurd c31394 (by omega)) (fun c31394 => ?_)
                refine ev_iload rfl ?_
                refine ev_in (d := 4) (a := 0) (b := 0) (cd' := c221_0) (m := 1) (L0 := [(0, a4)]) (jcall_s (A := [(0, a4)]) (S' := []) (by decide) rfl (Nat.le_of_ble_eq_true rfl)) (by decide) ml221 pp221 (Nat.le_of_ble_eq_true rfl) rfl (by decide) (by decide) ?_
                refine ev_iload_n rfl ?_
                refine ev_ifeq f221_9 (fun c31395 => ?_) (fun c31395 => ?_)
                · refine ev_iconst ?_
                  refine ev_goto f221_14 ?_
                  refine ev_ret rfl (by decide) (by decide) ?_
                  show jEv _ _ _ _ _ _ _ (_, [(2, 0), (0, a1), (0, a2), (0, a3), (0, a4), (2, (r31370 : Int))], [(0, 1)], _, _, _)
                  refine ev_ifeq f185_40 (fun c31396 => absurd c31396 (by omega)) (fun c31396 => ?_)
                  refine ev_aload_n rfl ?_
                  refine g_getp (r := 0) (c := 1) g ad0 (by decide) (by decide) rf0_0 ft11_0 ?_
                  refine ev_call (jcall_v (A := []) (S' := []) (r := 1) rfl (g.lt ad1) (g.tg ad1) (Nat.le_of_ble_eq_true rfl)) (jOk_le (by decide) (s153 g )) (by decide) (by decide) (fun w31397 h31397 q31397 => ?_)
                  obtain ⟨v31398, rfl, lv31398, uv31398, g31397, kk31397⟩ := q31397
                  have k31397 := k0.tr kk31397 (by decide)
                  show jEv _ _ _ _ _ _ _ (_, [(2, 0), (0, a1), (0, a2), (0, a3), (0, a4), (2, (r31370 : Int))], [(0, v31398)], _, _, _)
                  refine ev_ifne f185_44 (fun c31399 => ?_) (fun c31399 => ?_)
                  · refine ev_aload rfl ?_
                    refine ev_aload_n rfl ?_
                    refine g_getp (r := 0) (c := 1) g31397 ad0 (by decide) (by decide) rf0_0 ft11_0 ?_
                    refine ev_aload_n rfl ?_
                    refine g_getp (r := 0) (c := 23) g31397 ad0 (by decide) (by decide) rf0_5 ft11_5 ?_
                    refine ev_iconst ?_
                    refine ev_call (jcall_v (A := [(0, 0), (2, 23), (2, 1)]) (S' := []) (r := r31370) rfl (g31397.qlt qr31370) (g31397.qtg qr31370) (Nat.le_of_ble_eq_true rfl)) (jOk_le (by decide) (s47 g31397 qr31370 (Or.inl rfl) (by omega) (by omega))) (by decide) (by decide) (fun w31400 h31400 q31400 => ?_)
                    obtain ⟨v31401, rfl, lv31401, uv31401, g31400, kk31400⟩ := q31400
                    have k31400 := k31397.tr kk31400 (by decide)
                    show jEv _ _ _ _ _ _ _ (_, [(2, 0), (0, a1), (0, a2), (0, a3), (0, a4), (2, (r31370 : Int))], [(1, v31401)], _, _, _)
                    refine ev_pop2 ?_
                    refine ev_aload rfl ?_
                    refine ev_aload_n rfl ?_
                    refine g_getp (r := 0) (c := 1) g31400 ad0 (by decide) (by decide) rf0_0 ft11_0 ?_
                    refine ev_iload_n rfl ?_
                    refine ev_iload_n rfl ?_
                    refine ev_call (jcall_v (A := [(0, a3), (0, a2), (2, 1)]) (S' := []) (r := r31370) rfl (g31400.qlt qr31370) (g31400.qtg qr31370) (Nat.le_of_ble_eq_true rfl)) (jOk_le (by decide) (s59 g31400 qr31370 (by omega) (by omega) (by omega) (by omega))) (by decide) (by decide) (fun w31402 h31402 q31402 => ?_)
                    obtain ⟨v31403, rfl, lv31403, uv31403, g31402, kk31402⟩ := q31402
                    have k31402 := k31400.tr kk31402 (by decide)
                    show jEv _ _ _ _ _ _ _ (_, [(2, 0), (0, a1), (0, a2), (0, a3), (0, a4), (2, (r31370 : Int))], [(1, v31403)], _, _, _)
                    refine ev_ldc2_w ?_
                    refine ev_aload rfl ?_
                    refine ev_aload_n rfl ?_
                    refine g_getp (r := 0) (c := 1) g31402 ad0 (by decide) (by decide) rf0_0 ft11_0 ?_
                    refine ev_iload_n rfl ?_
                    refine ev_in (d := 4) (a := 0) (b := 0) (cd' := c58_0) (m := 3) (L0 := [(2, (r31370 : Int)), (2, 1), (0, a2)]) (jcall_v (A := [(0, a2), (2, 1)]) (S' := [(1, 100), (1, v31403)]) (r := r31370) rfl (g31402.qlt qr31370) (g31402.qtg qr31370) (Nat.le_of_ble_eq_true rfl)) (by decide) ml58 pp58 (Nat.le_of_ble_eq_true rfl) rfl (by decide) (by decide) ?_
                    refine ev_aload_n rfl ?_
                    refine ev_aload_n rfl ?_
                    refine g_qgetp g31402 qr31370 (c := 8) (by decide) (by decide) ft4_8 ?_
                    refine ev_iload_n rfl ?_
                    refine g_qiald g31402 qr31370 (c := 8) (by decide) (by decide) (by decide) (by omega) (by show a2 < m31371; omega) rfl (fun v31404 ev31404 lv31404 uv31404 => ?_)
                    refine ev_in (d := 3) (a := 0) (b := 0) (cd' := c161_0) (m := 2) (L0 := [(2, 1), (0, v31404)]) (jcall_v (A := [(0, v31404)]) (S' := []) (r := 1) rfl (g31402.lt ad1) (g31402.tg ad1) (Nat.le_of_ble_eq_true rfl)) (by decide) ml161 pp161 (Nat.le_of_ble_eq_true rfl) rfl (by decide) (by decide) ?_
                    refine ev_iload_n rfl ?_
                    refine ev_iflt f161_12 (fun c31405 => ?_) (fun c31405 => ?_)
                    · refine ev_lconst ?_
                      refine ev_goto f161_22 ?_
                      refine ev_ret rfl (by decide) (by decide) ?_
                      show jEv _ _ _ _ _ _ _ (_, [(2, (r31370 : Int)), (2, 1), (0, a2)], [(1, 0)], _, _, _)
                      refine ev_ret rfl (by decide) (by decide) ?_
                      show jEv _ _ _ _ _ _ _ (_, [(2, 0), (0, a1), (0, a2), (0, a3), (0, a4), (2, (r31370 : Int))], [(1, 0), (1, 100), (1, v31403)], _, _, _)
                      refine ev_lmul (r := 0) (by decide) ?_
                      refine ev_iload rfl ?_
                      refine ev_call (jcall_s (A := [(0, a4), (1, 0), (1, v31403)]) (S' := []) (by decide) rfl (Nat.le_of_ble_eq_true rfl)) (jOk_le (by decide) (s223 g31402 (by omega) (by omega) (by omega) (by omega) (by omega) (by omega))) (by decide) (by decide) (fun w31406 h31406 q31406 => ?_)
                      obtain ⟨v31407, rfl, lv31407, uv31407, g31406, kk31406⟩ := q31406
                      have k31406 := k31402.tr kk31406 (by decide)
                      show jEv _ _ _ _ _ _ _ (_, [(2, 0), (0, a1), (0, a2), (0, a3), (0, a4), (2, (r31370 : Int))], [(1, v31407)], _, _, _)
                      exact ev_ret rfl (by decide) (by decide) ⟨_, rfl, by omega, by omega, g31406, k31406⟩
                    · refine ev_iload_n rfl ?_
                      refine ev_aload_n rfl ?_
                      refine ev_in (d := 2) (a := 0) (b := 0) (cd' := c157_0) (m := 1) (L0 := [(2, 1)]) (jcall_v (A := []) (S' := [(0, v31404)]) (r := 1) rfl (g31402.lt ad1) (g31402.tg ad1) (Nat.le_of_ble_eq_true rfl)) (by decide) ml157 pp157 (Nat.le_of_ble_eq_true rfl) rfl (by decide) (by decide) ?_
                      refine ev_iconst ?_
                      refine ev_iconst ?_
                      refine ev_aload_n rfl ?_
                      obtain ⟨v31408, ev31408, lv31408, uv31408⟩ := g31402.rd ad1 (show 0 < 8 by decide) rf1_0
                      refine g_getv (r := 1) (v := v31408) g31402 ad1 (by decide) ft10_0 ev31408 ?_
                      refine ev_imul (r := (2 * v31408)) (by unfold w32; omega) ?_
                      refine g_ishlB (a' := 1) (a := 1) (b := 8) (hi := 256) (by omega) (by omega) (by omega) (by omega) (by decide) (by decide) (fun v31409 ev31409 lv31409 uv31409 => ?_)
                      refine ev_ret rfl (by decide) (by decide) ?_
                      show jEv _ _ _ _ _ _ _ (_, [(2, 1), (0, v31404)], [(0, v31409), (0, v31404)], _, _, _)
                      refine ev_icmplt f161_16 (fun c31410 => ?_) (fun c31410 => ?_)
                      · refine ev_aload_n rfl ?_
                        refine g_getp (r := 1) (c := 6) g31402 ad1 (by decide) (by decide) rf1_7 ft10_7 ?_
                        refine ev_iload_n rfl ?_
                        refine g_lald g31402 ad6 rt6 (by omega) (by omega) (fun v31411 ev31411 lv31411 uv31411 => ?_)
                        refine ev_ret rfl (by decide) (by decide) ?_
                        show jEv _ _ _ _ _ _ _ (_, [(2, (r31370 : Int)), (2, 1), (0, a2)], [(1, v31411)], _, _, _)
                        refine ev_ret rfl (by decide) (by decide) ?_
                        show jEv _ _ _ _ _ _ _ (_, [(2, 0), (0, a1), (0, a2), (0, a3), (0, a4), (2, (r31370 : Int))], [(1, v31411), (1, 100), (1, v31403)], _, _, _)
                        refine g_lmulG (fun v31412 ev31412 lv31412 uv31412 => ?_)
                        refine ev_iload rfl ?_
                        refine ev_call (jcall_s (A := [(0, a4), (1, v31412), (1, v31403)]) (S' := []) (by decide) rfl (Nat.le_of_ble_eq_true rfl)) (jOk_le (by decide) (s223 g31402 (by omega) (by omega) (by omega) (by omega) (by omega) (by omega))) (by decide) (by decide) (fun w31413 h31413 q31413 => ?_)
                        obtain ⟨v31414, rfl, lv31414, uv31414, g31413, kk31413⟩ := q31413
                        have k31413 := k31402.tr kk31413 (by decide)
                        show jEv _ _ _ _ _ _ _ (_, [(2, 0), (0, a1), (0, a2), (0, a3), (0, a4), (2, (r31370 : Int))], [(1, v31414)], _, _, _)
                        exact ev_ret rfl (by decide) (by decide) ⟨_, rfl, by omega, by omega, g31413, k31413⟩
                      · refine ev_lconst ?_
                        refine ev_goto f161_22 ?_
                        refine ev_ret rfl (by decide) (by decide) ?_
                        show jEv _ _ _ _ _ _ _ (_, [(2, (r31370 : Int)), (2, 1), (0, a2)], [(1, 0)], _, _, _)
                        refine ev_ret rfl (by decide) (by decide) ?_
                        show jEv _ _ _ _ _ _ _ (_, [(2, 0), (0, a1), (0, a2), (0, a3), (0, a4), (2, (r31370 : Int))], [(1, 0), (1, 100), (1, v31403)], _, _, _)
                        refine ev_lmul (r := 0) (by decide) ?_
                        refine ev_iload rfl ?_
                        refine ev_call (jcall_s (A := [(0, a4), (1, 0), (1, v31403)]) (S' := []) (by decide) rfl (Nat.le_of_ble_eq_true rfl)) (jOk_le (by decide) (s223 g31402 (by omega) (by omega) (by omega) (by omega) (by omega) (by omega))) (by decide) (by decide) (fun w31415 h31415 q31415 => ?_)
                        obtain ⟨v31416, rfl, lv31416, uv31416, g31415, kk31415⟩ := q31415
                        have k31415 := k31402.tr kk31415 (by decide)
                        show jEv _ _ _ _ _ _ _ (_, [(2, 0), (0, a1), (0, a2), (0, a3), (0, a4), (2, (r31370 : Int))], [(1, v31416)], _, _, _)
                        exact ev_ret rfl (by decide) (by decide) ⟨_, rfl, by omega, by omega, g31415, k31415⟩
                  · refine ev_ldc2_w ?_
                    exact ev_ret rfl (by decide) (by decide) ⟨_, rfl, by omega, by omega, g31397, k31397⟩
                · refine ev_iload_n rfl ?_
                  refine ev_iconst ?_
                  refine ev_icmpne f221_13 (fun c31417 => ?_) (fun c31417 => ?_)
                  · refine ev_iconst ?_
                    refine ev_ret rfl (by decide) (by decide) ?_
                    show jEv _ _ _ _ _ _ _ (_, [(2, 0), (0, a1), (0, a2), (0, a3), (0, a4), (2, (r31370 : Int))], [(0, 0)], _, _, _)
                    refine ev_ifeq f185_40 (fun c31418 => ?_) (fun c31418 => absurd c31418 (by omega))
                    refine ev_ldc2_w ?_
                    exact ev_ret rfl (by decide) (by decide) ⟨_, rfl, by omega, by omega, g, k0⟩
                  · refine ev_iconst ?_
                    refine ev_goto f221_14 ?_
                    refine ev_ret rfl (by decide) (by decide) ?_
                    show jEv _ _ _ _ _ _ _ (_, [(2, 0), (0, a1), (0, a2), (0, a3), (0, a4), (2, (r31370 : Int))], [(0, 1)], _, _, _)
                    refine ev_ifeq f185_40 (fun c31419 => absurd c31419 (by omega)) (fun c31419 => ?_)
                    refine ev_aload_n rfl ?_
                    refine g_getp (r := 0) (c := 1) g ad0 (by decide) (by decide) rf0_0 ft11_0 ?_
                    refine ev_call (jcall_v (A := []) (S' := []) (r := 1) rfl (g.lt ad1) (g.tg ad1) (Nat.le_of_ble_eq_true rfl)) (jOk_le (by decide) (s153 g )) (by decide) (by decide) (fun w31420 h31420 q31420 => ?_)
                    obtain ⟨v31421, rfl, lv31421, uv31421, g31420, kk31420⟩ := q31420
                    have k31420 := k0.tr kk31420 (by decide)
                    show jEv _ _ _ _ _ _ _ (_, [(2, 0), (0, a1), (0, a2), (0, a3), (0, a4), (2, (r31370 : Int))], [(0, v31421)], _, _, _)
                    refine ev_ifne f185_44 (fun c31422 => ?_) (fun c31422 => ?_)
                    · refine ev_aload rfl ?_
                      refine ev_aload_n rfl ?_
                      refine g_getp (r := 0) (c := 1) g31420 ad0 (by decide) (by decide) rf0_0 ft11_0 ?_
                      refine ev_aload_n rfl ?_
                      refine g_getp (r := 0) (c := 23) g31420 ad0 (by decide) (by decide) rf0_5 ft11_5 ?_
                      refine ev_iconst ?_
                      refine ev_call (jcall_v (A := [(0, 0), (2, 23), (2, 1)]) (S' := []) (r := r31370) rfl (g31420.qlt qr31370) (g31420.qtg qr31370) (Nat.le_of_ble_eq_true rfl)) (jOk_le (by decide) (s47 g31420 qr31370 (Or.inl rfl) (by omega) (by omega))) (by decide) (by decide) (fun w31423 h31423 q31423 => ?_)
                      obtain ⟨v31424, rfl, lv31424, uv31424, g31423, kk31423⟩ := q31423
                      have k31423 := k31420.tr kk31423 (by decide)
                      show jEv _ _ _ _ _ _ _ (_, [(2, 0), (0, a1), (0, a2), (0, a3), (0, a4), (2, (r31370 : Int))], [(1, v31424)], _, _, _)
                      refine ev_pop2 ?_
                      refine ev_aload rfl ?_
                      refine ev_aload_n rfl ?_
                      refine g_getp (r := 0) (c := 1) g31423 ad0 (by decide) (by decide) rf0_0 ft11_0 ?_
                      refine ev_iload_n rfl ?_
                      refine ev_iload_n rfl ?_
                      refine ev_call (jcall_v (A := [(0, a3), (0, a2), (2, 1)]) (S' := []) (r := r31370) rfl (g31423.qlt qr31370) (g31423.qtg qr31370) (Nat.le_of_ble_eq_true rfl)) (jOk_le (by decide) (s59 g31423 qr31370 (by omega) (by omega) (by omega) (by omega))) (by decide) (by decide) (fun w31425 h31425 q31425 => ?_)
                      obtain ⟨v31426, rfl, lv31426, uv31426, g31425, kk31425⟩ := q31425
                      have k31425 := k31423.tr kk31425 (by decide)
                      show jEv _ _ _ _ _ _ _ (_, [(2, 0), (0, a1), (0, a2), (0, a3), (0, a4), (2, (r31370 : Int))], [(1, v31426)], _, _, _)
                      refine ev_ldc2_w ?_
                      refine ev_aload rfl ?_
                      refine ev_aload_n rfl ?_
                      refine g_getp (r := 0) (c := 1) g31425 ad0 (by decide) (by decide) rf0_0 ft11_0 ?_
                      refine ev_iload_n rfl ?_
                      refine ev_in (d := 4) (a := 0) (b := 0) (cd' := c58_0) (m := 3) (L0 := [(2, (r31370 : Int)), (2, 1), (0, a2)]) (jcall_v (A := [(0, a2), (2, 1)]) (S' := [(1, 100), (1, v31426)]) (r := r31370) rfl (g31425.qlt qr31370) (g31425.qtg qr31370) (Nat.le_of_ble_eq_true rfl)) (by decide) ml58 pp58 (Nat.le_of_ble_eq_true rfl) rfl (by decide) (by decide) ?_
                      refine ev_aload_n rfl ?_
                      refine ev_aload_n rfl ?_
                      refine g_qgetp g31425 qr31370 (c := 8) (by decide) (by decide) ft4_8 ?_
                      refine ev_iload_n rfl ?_
                      refine g_qiald g31425 qr31370 (c := 8) (by decide) (by decide) (by decide) (by omega) (by show a2 < m31371; omega) rfl (fun v31427 ev31427 lv31427 uv31427 => ?_)
                      refine ev_in (d := 3) (a := 0) (b := 0) (cd' := c161_0) (m := 2) (L0 := [(2, 1), (0, v31427)]) (jcall_v (A := [(0, v31427)]) (S' := []) (r := 1) rfl (g31425.lt ad1) (g31425.tg ad1) (Nat.le_of_ble_eq_true rfl)) (by decide) ml161 pp161 (Nat.le_of_ble_eq_true rfl) rfl (by decide) (by decide) ?_
                      refine ev_iload_n rfl ?_
                      refine ev_iflt f161_12 (fun c31428 => ?_) (fun c31428 => ?_)
                      · refine ev_lconst ?_
                        refine ev_goto f161_22 ?_
                        refine ev_ret rfl (by decide) (by decide) ?_
                        show jEv _ _ _ _ _ _ _ (_, [(2, (r31370 : Int)), (2, 1), (0, a2)], [(1, 0)], _, _, _)
                        refine ev_ret rfl (by decide) (by decide) ?_
                        show jEv _ _ _ _ _ _ _ (_, [(2, 0), (0, a1), (0, a2), (0, a3), (0, a4), (2, (r31370 : Int))], [(1, 0), (1, 100), (1, v31426)], _, _, _)
                        refine ev_lmul (r := 0) (by decide) ?_
                        refine ev_iload rfl ?_
                        refine ev_call (jcall_s (A := [(0, a4), (1, 0), (1, v31426)]) (S' := []) (by decide) rfl (Nat.le_of_ble_eq_true rfl)) (jOk_le (by decide) (s223 g31425 (by omega) (by omega) (by omega) (by omega) (by omega) (by omega))) (by decide) (by decide) (fun w31429 h31429 q31429 => ?_)
                        obtain ⟨v31430, rfl, lv31430, uv31430, g31429, kk31429⟩ := q31429
                        have k31429 := k31425.tr kk31429 (by decide)
                        show jEv _ _ _ _ _ _ _ (_, [(2, 0), (0, a1), (0, a2), (0, a3), (0, a4), (2, (r31370 : Int))], [(1, v31430)], _, _, _)
                        exact ev_ret rfl (by decide) (by decide) ⟨_, rfl, by omega, by omega, g31429, k31429⟩
                      · refine ev_iload_n rfl ?_
                        refine ev_aload_n rfl ?_
                        refine ev_in (d := 2) (a := 0) (b := 0) (cd' := c157_0) (m := 1) (L0 := [(2, 1)]) (jcall_v (A := []) (S' := [(0, v31427)]) (r := 1) rfl (g31425.lt ad1) (g31425.tg ad1) (Nat.le_of_ble_eq_true rfl)) (by decide) ml157 pp157 (Nat.le_of_ble_eq_true rfl) rfl (by decide) (by decide) ?_
                        refine ev_iconst ?_
                        refine ev_iconst ?_
                        refine ev_aload_n rfl ?_
                        obtain ⟨v31431, ev31431, lv31431, uv31431⟩ := g31425.rd ad1 (show 0 < 8 by decide) rf1_0
                        refine g_getv (r := 1) (v := v31431) g31425 ad1 (by decide) ft10_0 ev31431 ?_
                        refine ev_imul (r := (2 * v31431)) (by unfold w32; omega) ?_
                        refine g_ishlB (a' := 1) (a := 1) (b := 8) (hi := 256) (by omega) (by omega) (by omega) (by omega) (by decide) (by decide) (fun v31432 ev31432 lv31432 uv31432 => ?_)
                        refine ev_ret rfl (by decide) (by decide) ?_
                        show jEv _ _ _ _ _ _ _ (_, [(2, 1), (0, v31427)], [(0, v31432), (0, v31427)], _, _, _)
                        refine ev_icmplt f161_16 (fun c31433 => ?_) (fun c31433 => ?_)
                        · refine ev_aload_n rfl ?_
                          refine g_getp (r := 1) (c := 6) g31425 ad1 (by decide) (by decide) rf1_7 ft10_7 ?_
                          refine ev_iload_n rfl ?_
                          refine g_lald g31425 ad6 rt6 (by omega) (by omega) (fun v31434 ev31434 lv31434 uv31434 => ?_)
                          refine ev_ret rfl (by decide) (by decide) ?_
                          show jEv _ _ _ _ _ _ _ (_, [(2, (r31370 : Int)), (2, 1), (0, a2)], [(1, v31434)], _, _, _)
                          refine ev_ret rfl (by decide) (by decide) ?_
                          show jEv _ _ _ _ _ _ _ (_, [(2, 0), (0, a1), (0, a2), (0, a3), (0, a4), (2, (r31370 : Int))], [(1, v31434), (1, 100), (1, v31426)], _, _, _)
                          refine g_lmulG (fun v31435 ev31435 lv31435 uv31435 => ?_)
                          refine ev_iload rfl ?_
                          refine ev_call (jcall_s (A := [(0, a4), (1, v31435), (1, v31426)]) (S' := []) (by decide) rfl (Nat.le_of_ble_eq_true rfl)) (jOk_le (by decide) (s223 g31425 (by omega) (by omega) (by omega) (by omega) (by omega) (by omega))) (by decide) (by decide) (fun w31436 h31436 q31436 => ?_)
                          obtain ⟨v31437, rfl, lv31437, uv31437, g31436, kk31436⟩ := q31436
                          have k31436 := k31425.tr kk31436 (by decide)
                          show jEv _ _ _ _ _ _ _ (_, [(2, 0), (0, a1), (0, a2), (0, a3), (0, a4), (2, (r31370 : Int))], [(1, v31437)], _, _, _)
                          exact ev_ret rfl (by decide) (by decide) ⟨_, rfl, by omega, by omega, g31436, k31436⟩
                        · refine ev_lconst ?_
                          refine ev_goto f161_22 ?_
                          refine ev_ret rfl (by decide) (by decide) ?_
                          show jEv _ _ _ _ _ _ _ (_, [(2, (r31370 : Int)), (2, 1), (0, a2)], [(1, 0)], _, _, _)
                          refine ev_ret rfl (by decide) (by decide) ?_
                          show jEv _ _ _ _ _ _ _ (_, [(2, 0), (0, a1), (0, a2), (0, a3), (0, a4), (2, (r31370 : Int))], [(1, 0), (1, 100), (1, v31426)], _, _, _)
                          refine ev_lmul (r := 0) (by decide) ?_
                          refine ev_iload rfl ?_
                          refine ev_call (jcall_s (A := [(0, a4), (1, 0), (1, v31426)]) (S' := []) (by decide) rfl (Nat.le_of_ble_eq_true rfl)) (jOk_le (by decide) (s223 g31425 (by omega) (by omega) (by omega) (by omega) (by omega) (by omega))) (by decide) (by decide) (fun w31438 h31438 q31438 => ?_)
                          obtain ⟨v31439, rfl, lv31439, uv31439, g31438, kk31438⟩ := q31438
                          have k31438 := k31425.tr kk31438 (by decide)
                          show jEv _ _ _ _ _ _ _ (_, [(2, 0), (0, a1), (0, a2), (0, a3), (0, a4), (2, (r31370 : Int))], [(1, v31439)], _, _, _)
                          exact ev_ret rfl (by decide) (by decide) ⟨_, rfl, by omega, by omega, g31438, k31438⟩
                    · refine ev_ldc2_w ?_
                      exact ev_ret rfl (by decide) (by decide) ⟨_, rfl, by omega, by omega, g31420, k31420⟩
    · refine ev_aconst_null ?_
      refine ev_goto f219_22 ?_
      refine ev_ret rfl (by decide) (by decide) ?_
      show jEv _ _ _ _ _ _ _ (_, [(2, 0), (0, a1), (0, a2), (0, a3), (0, a4), (9, 0)], [(2, (-1))], _, _, _)
      refine ev_astore (L' := [(2, 0), (0, a1), (0, a2), (0, a3), (0, a4), (2, (-1))]) (Nat.le_of_ble_eq_true rfl) rfl ?_
      refine ev_aload rfl ?_
      refine ev_ifnull f185_40 (fun c31440 => ?_) (fun c31440 => absurd c31440 (by decide))
      refine ev_ldc2_w ?_
      exact ev_ret rfl (by decide) (by decide) ⟨_, rfl, by omega, by omega, g, k0⟩
/-! 186 tell -/
set_option maxHeartbeats 4000000 in
theorem s186 {G : GH} {h : JH} (g : Gd G h) {a1 : Int} (la1 : (-2147483648) ≤ a1) (ua1 : a1 ≤ 2147483647) {a2 : Int} (la2 : (-2147483648) ≤ a2) (ua2 : a2 ≤ 2147483647) : jOk 4 0 0 186 [(2, 0), (0, a1), (0, a2)] h (PI G [(1000000, 0)] h 0 (-2147483648) 2147483647) := by
  refine ⟨by decide, by rw [ml186]; exact Nat.le_of_ble_eq_true rfl, ?_⟩
  rw [ml186, pp186]
  show jEv _ none _ c186_0 0 0 _ (c186_0, [(2, 0), (0, a1), (0, a2), (9, 0)], [], h, 0, 0)
  have k0 := Kp.rf [(1000000, 0)] h
  refine ev_aload_n rfl ?_
  refine ev_iload_n rfl ?_
  refine ev_in (d := 2) (a := 0) (b := 0) (cd' := c219_0) (m := 2) (L0 := [(2, 0), (0, a1)]) (jcall_v (A := [(0, a1)]) (S' := []) (r := 0) rfl (g.lt ad0) (g.tg ad0) (Nat.le_of_ble_eq_true rfl)) (by decide) ml219 pp219 (Nat.le_of_ble_eq_true rfl) rfl (by decide) (by decide) ?_
  refine ev_iload_n rfl ?_
  refine ev_iflt f219_12 (fun c31463 => ?_) (fun c31463 => ?_)
  · refine ev_aconst_null ?_
    refine ev_goto f219_22 ?_
    refine ev_ret rfl (by decide) (by decide) ?_
    show jEv _ _ _ _ _ _ _ (_, [(2, 0), (0, a1), (0, a2), (9, 0)], [(2, (-1))], _, _, _)
    refine ev_astore_n (L' := [(2, 0), (0, a1), (0, a2), (2, (-1))]) (Nat.le_of_ble_eq_true rfl) rfl ?_
    refine ev_aload_n rfl ?_
    refine ev_ifnull f186_15 (fun c31464 => ?_) (fun c31464 => absurd c31464 (by decide))
    refine ev_iconst ?_
    refine ev_goto f186_24 ?_
    exact ev_ret rfl (by decide) (by decide) ⟨_, rfl, by omega, by omega, g, k0⟩
  · refine ev_iload_n rfl ?_
    refine ev_aload_n rfl ?_
    obtain ⟨v31465, ev31465, lv31465, uv31465⟩ := g.rd ad0 (show 3 < 17 by decide) rf0_3
    refine g_getv (r := 0) (v := v31465) g ad0 (by decide) ft11_3 ev31465 ?_
    refine ev_icmplt f219_16 (fun c31466 => ?_) (fun c31466 => ?_)
    · refine ev_aload_n rfl ?_
      refine g_getp (r := 0) (c := 18) g ad0 (by decide) (by decide) rf0_2 ft11_2 ?_
      refine ev_iload_n rfl ?_
      refine g_qaald (g) (i := a1) (ev31465) (by omega) (by omega) (fun r31467 m31468 qr31467 => ?_)
      have wr31467 := g.qb qr31467
      have zr31467 := qr31467.1
      refine ev_ret rfl (by decide) (by decide) ?_
      show jEv _ _ _ _ _ _ _ (_, [(2, 0), (0, a1), (0, a2), (9, 0)], [(2, (r31467 : Int))], _, _, _)
      refine ev_astore_n (L' := [(2, 0), (0, a1), (0, a2), (2, (r31467 : Int))]) (Nat.le_of_ble_eq_true rfl) rfl ?_
      refine ev_aload_n rfl ?_
      refine ev_ifnull f186_15 (fun c31469 => absurd c31469 (by omega)) (fun c31469 => ?_)
      refine ev_iload_n rfl ?_
      refine ev_iconst ?_
      refine ev_icmpge f186_19 (fun c31470 => ?_) (fun c31470 => ?_)
      · refine ev_aload_n rfl ?_
        refine ev_iload_n rfl ?_
        refine ev_call (jcall_v (A := [(0, a2)]) (S' := []) (r := r31467) rfl (g.qlt qr31467) (g.qtg qr31467) (Nat.le_of_ble_eq_true rfl)) (jOk_le (by decide) (s55 g qr31467 (by omega) (by omega))) (by decide) (by decide) (fun w31471 h31471 q31471 => ?_)
        obtain ⟨v31472, rfl, lv31472, uv31472, g31471, kk31471⟩ := q31471
        have k31471 := k0.tr kk31471 (by decide)
        show jEv _ _ _ _ _ _ _ (_, [(2, 0), (0, a1), (0, a2), (2, (r31467 : Int))], [(0, v31472)], _, _, _)
        exact ev_ret rfl (by decide) (by decide) ⟨_, rfl, by omega, by omega, g31471, k31471⟩
      · refine ev_iconst ?_
        refine ev_goto f186_24 ?_
        exact ev_ret rfl (by decide) (by decide) ⟨_, rfl, by omega, by omega, g, k0⟩
    · refine ev_aconst_null ?_
      refine ev_goto f219_22 ?_
      refine ev_ret rfl (by decide) (by decide) ?_
      show jEv _ _ _ _ _ _ _ (_, [(2, 0), (0, a1), (0, a2), (9, 0)], [(2, (-1))], _, _, _)
      refine ev_astore_n (L' := [(2, 0), (0, a1), (0, a2), (2, (-1))]) (Nat.le_of_ble_eq_true rfl) rfl ?_
      refine ev_aload_n rfl ?_
      refine ev_ifnull f186_15 (fun c31473 => ?_) (fun c31473 => absurd c31473 (by decide))
      refine ev_iconst ?_
      refine ev_goto f186_24 ?_
      exact ev_ret rfl (by decide) (by decide) ⟨_, rfl, by omega, by omega, g, k0⟩
/-! 187 ask -/
set_option maxHeartbeats 4000000 in
theorem s187 {G : GH} {h : JH} (g : Gd G h) {a1 : Int} (la1 : (-2147483648) ≤ a1) (ua1 : a1 ≤ 2147483647) {a2 : Int} (la2 : (-2147483648) ≤ a2) (ua2 : a2 ≤ 2147483647) {a3 : Int} (la3 : (-2147483648) ≤ a3) (ua3 : a3 ≤ 2147483647) : jOk 7 0 0 187 [(2, 0), (0, a1), (0, a2), (0, a3)] h (PI G [(1, 2), (1, 3), (5, 0), (6, 0), (1000000, 0)] h 1 (-9223372036854775808) 9223372036854775807) := by
  refine ⟨by decide, by rw [ml187]; exact Nat.le_of_ble_eq_true rfl, ?_⟩
  rw [ml187, pp187]
  show jEv _ none _ c187_0 0 0 _ (c187_0, [(2, 0), (0, a1), (0, a2), (0, a3), (9, 0), (9, 0), (9, 0), (9, 0), (9, 0)], [], h, 0, 0)
  have k0 := Kp.rf [(1, 2), (1, 3), (5, 0), (6, 0), (1000000, 0)] h
  refine ev_aload_n rfl ?_
  refine ev_iload_n rfl ?_
  refine ev_in (d := 5) (a := 0) (b := 0) (cd' := c219_0) (m := 2) (L0 := [(2, 0), (0, a1)]) (jcall_v (A := [(0, a1)]) (S' := []) (r := 0) rfl (g.lt ad0) (g.tg ad0) (Nat.le_of_ble_eq_true rfl)) (by decide) ml219 pp219 (Nat.le_of_ble_eq_true rfl) rfl (by decide) (by decide) ?_
  refine ev_iload_n rfl ?_
  refine ev_iflt f219_12 (fun c31628 => ?_) (fun c31628 => ?_)
  · refine ev_aconst_null ?_
    refine ev_goto f219_22 ?_
    refine ev_ret rfl (by decide) (by decide) ?_
    show jEv _ _ _ _ _ _ _ (_, [(2, 0), (0, a1), (0, a2), (0, a3), (9, 0), (9, 0), (9, 0), (9, 0), (9, 0)], [(2, (-1))], _, _, _)
    refine ev_astore (L' := [(2, 0), (0, a1), (0, a2), (0, a3), (2, (-1)), (9, 0), (9, 0), (9, 0), (9, 0)]) (Nat.le_of_ble_eq_true rfl) rfl ?_
    refine ev_aload rfl ?_
    refine ev_ifnull f187_45 (fun c31629 => ?_) (fun c31629 => absurd c31629 (by decide))
    refine ev_ldc2_w ?_
    exact ev_ret rfl (by decide) (by decide) ⟨_, rfl, by omega, by omega, g, k0⟩
  · refine ev_iload_n rfl ?_
    refine ev_aload_n rfl ?_
    obtain ⟨v31630, ev31630, lv31630, uv31630⟩ := g.rd ad0 (show 3 < 17 by decide) rf0_3
    refine g_getv (r := 0) (v := v31630) g ad0 (by decide) ft11_3 ev31630 ?_
    refine ev_icmplt f219_16 (fun c31631 => ?_) (fun c31631 => ?_)
    · refine ev_aload_n rfl ?_
      refine g_getp (r := 0) (c := 18) g ad0 (by decide) (by decide) rf0_2 ft11_2 ?_
      refine ev_iload_n rfl ?_
      refine g_qaald (g) (i := a1) (ev31630) (by omega) (by omega) (fun r31632 m31633 qr31632 => ?_)
      have wr31632 := g.qb qr31632
      have zr31632 := qr31632.1
      refine ev_ret rfl (by decide) (by decide) ?_
      show jEv _ _ _ _ _ _ _ (_, [(2, 0), (0, a1), (0, a2), (0, a3), (9, 0), (9, 0), (9, 0), (9, 0), (9, 0)], [(2, (r31632 : Int))], _, _, _)
      refine ev_astore (L' := [(2, 0), (0, a1), (0, a2), (0, a3), (2, (r31632 : Int)), (9, 0), (9, 0), (9, 0), (9, 0)]) (Nat.le_of_ble_eq_true rfl) rfl ?_
      refine ev_aload rfl ?_
      refine ev_ifnull f187_45 (fun c31634 => absurd c31634 (by omega)) (fun c31634 => ?_)
      refine ev_iload_n rfl ?_
      refine ev_iconst ?_
      refine ev_icmpeq f187_28 (fun c31635 => ?_) (fun c31635 => ?_)
      · refine ev_iload_n rfl ?_
        refine ev_in (d := 5) (a := 0) (b := 0) (cd' := c221_0) (m := 1) (L0 := [(0, a3)]) (jcall_s (A := [(0, a3)]) (S' := []) (by decide) rfl (Nat.le_of_ble_eq_true rfl)) (by decide) ml221 pp221 (Nat.le_of_ble_eq_true rfl) rfl (by decide) (by decide) ?_
        refine ev_iload_n rfl ?_
        refine ev_ifeq f221_9 (fun c31636 => ?_) (fun c31636 => ?_)
        · refine ev_iconst ?_
          refine ev_goto f221_14 ?_
          refine ev_ret rfl (by decide) (by decide) ?_
          show jEv _ _ _ _ _ _ _ (_, [(2, 0), (0, a1), (0, a2), (0, a3), (2, (r31632 : Int)), (9, 0), (9, 0), (9, 0), (9, 0)], [(0, 1)], _, _, _)
          refine ev_ifeq f187_45 (fun c31637 => absurd c31637 (by omega)) (fun c31637 => ?_)
          refine ev_aload_n rfl ?_
          refine g_getp (r := 0) (c := 1) g ad0 (by decide) (by decide) rf0_0 ft11_0 ?_
          refine ev_call (jcall_v (A := []) (S' := []) (r := 1) rfl (g.lt ad1) (g.tg ad1) (Nat.le_of_ble_eq_true rfl)) (jOk_le (by decide) (s153 g )) (by decide) (by decide) (fun w31638 h31638 q31638 => ?_)
          obtain ⟨v31639, rfl, lv31639, uv31639, g31638, kk31638⟩ := q31638
          have k31638 := k0.tr kk31638 (by decide)
          show jEv _ _ _ _ _ _ _ (_, [(2, 0), (0, a1), (0, a2), (0, a3), (2, (r31632 : Int)), (9, 0), (9, 0), (9, 0), (9, 0)], [(0, v31639)], _, _, _)
          refine ev_ifne f187_49 (fun c31640 => ?_) (fun c31640 => ?_)
          · refine ev_aload rfl ?_
            refine ev_aload_n rfl ?_
            refine g_getp (r := 0) (c := 1) g31638 ad0 (by decide) (by decide) rf0_0 ft11_0 ?_
            refine ev_aload_n rfl ?_
            refine g_getp (r := 0) (c := 23) g31638 ad0 (by decide) (by decide) rf0_5 ft11_5 ?_
            refine ev_iconst ?_
            refine ev_call (jcall_v (A := [(0, 0), (2, 23), (2, 1)]) (S' := []) (r := r31632) rfl (g31638.qlt qr31632) (g31638.qtg qr31632) (Nat.le_of_ble_eq_true rfl)) (jOk_le (by decide) (s47 g31638 qr31632 (Or.inl rfl) (by omega) (by omega))) (by decide) (by decide) (fun w31641 h31641 q31641 => ?_)
            obtain ⟨v31642, rfl, lv31642, uv31642, g31641, kk31641⟩ := q31641
            have k31641 := k31638.tr kk31641 (by decide)
            show jEv _ _ _ _ _ _ _ (_, [(2, 0), (0, a1), (0, a2), (0, a3), (2, (r31632 : Int)), (9, 0), (9, 0), (9, 0), (9, 0)], [(1, v31642)], _, _, _)
            refine ev_lstore (L' := [(2, 0), (0, a1), (0, a2), (0, a3), (2, (r31632 : Int)), (1, v31642), (9, 0), (9, 0), (9, 0)]) (Nat.le_of_ble_eq_true rfl) rfl ?_
            refine ev_iload_n rfl ?_
            refine ev_ifge f187_85 (fun c31643 => absurd c31643 (by omega)) (fun c31643 => ?_)
            refine ev_aload rfl ?_
            refine ev_aload_n rfl ?_
            refine g_getp (r := 0) (c := 1) g31641 ad0 (by decide) (by decide) rf0_0 ft11_0 ?_
            refine ev_aload_n rfl ?_
            refine g_getp (r := 0) (c := 23) g31641 ad0 (by decide) (by decide) rf0_5 ft11_5 ?_
            refine ev_call (jcall_v (A := [(2, 23), (2, 1)]) (S' := []) (r := r31632) rfl (g31641.qlt qr31632) (g31641.qtg qr31632) (Nat.le_of_ble_eq_true rfl)) (jOk_le (by decide) (s51 g31641 qr31632 (Or.inl rfl))) (by decide) (by decide) (fun w31644 h31644 q31644 => ?_)
            obtain ⟨v31645, rfl, lv31645, uv31645, g31644, kk31644⟩ := q31644
            have k31644 := k31641.tr kk31644 (by decide)
            show jEv _ _ _ _ _ _ _ (_, [(2, 0), (0, a1), (0, a2), (0, a3), (2, (r31632 : Int)), (1, v31642), (9, 0), (9, 0), (9, 0)], [(1, v31645)], _, _, _)
            refine ev_goto f187_100 ?_
            refine ev_lstore (L' := [(2, 0), (0, a1), (0, a2), (0, a3), (2, (r31632 : Int)), (1, v31642), (9, 0), (1, v31645), (9, 0)]) (Nat.le_of_ble_eq_true rfl) rfl ?_
            refine ev_lload rfl ?_
            refine ev_lload rfl ?_
            refine g_lsubG (fun v31646 ev31646 lv31646 uv31646 => ?_)
            refine ev_ldc2_w ?_
            refine ev_aload_n rfl ?_
            refine g_getp (r := 0) (c := 1) g31644 ad0 (by decide) (by decide) rf0_0 ft11_0 ?_
            obtain ⟨v31647, ev31647, lv31647, uv31647⟩ := g31644.rd ad1 (show 1 < 8 by decide) rf1_1
            refine g_getv (r := 1) (v := v31647) g31644 ad1 (by decide) ft10_1 ev31647 ?_
            refine g_lmulG (fun v31648 ev31648 lv31648 uv31648 => ?_)
            refine ev_iload_n rfl ?_
            refine ev_call (jcall_s (A := [(0, a3), (1, v31648), (1, v31646)]) (S' := []) (by decide) rfl (Nat.le_of_ble_eq_true rfl)) (jOk_le (by decide) (s223 g31644 (by omega) (by omega) (by omega) (by omega) (by omega) (by omega))) (by decide) (by decide) (fun w31649 h31649 q31649 => ?_)
            obtain ⟨v31650, rfl, lv31650, uv31650, g31649, kk31649⟩ := q31649
            have k31649 := k31644.tr kk31649 (by decide)
            show jEv _ _ _ _ _ _ _ (_, [(2, 0), (0, a1), (0, a2), (0, a3), (2, (r31632 : Int)), (1, v31642), (9, 0), (1, v31645), (9, 0)], [(1, v31650)], _, _, _)
            exact ev_ret rfl (by decide) (by decide) ⟨_, rfl, by omega, by omega, g31649, k31649⟩
          · refine ev_ldc2_w ?_
            exact ev_ret rfl (by decide) (by decide) ⟨_, rfl, by omega, by omega, g31638, k31638⟩
        · refine ev_iload_n rfl ?_
          refine ev_iconst ?_
          refine ev_icmpne f221_13 (fun c31651 => ?_) (fun c31651 => ?_)
          · refine ev_iconst ?_
            refine ev_ret rfl (by decide) (by decide) ?_
            show jEv _ _ _ _ _ _ _ (_, [(2, 0), (0, a1), (0, a2), (0, a3), (2, (r31632 : Int)), (9, 0), (9, 0), (9, 0), (9, 0)], [(0, 0)], _, _, _)
            refine ev_ifeq f187_45 (fun c31652 => ?_) (fun c31652 => absurd c31652 (by omega))
            refine ev_ldc2_w ?_
            exact ev_ret rfl (by decide) (by decide) ⟨_, rfl, by omega, by omega, g, k0⟩
          · refine ev_iconst ?_
            refine ev_goto f221_14 ?_
            refine ev_ret rfl (by decide) (by decide) ?_
            show jEv _ _ _ _ _ _ _ (_, [(2, 0), (0, a1), (0, a2), (0, a3), (2, (r31632 : Int)), (9, 0), (9, 0), (9, 0), (9, 0)], [(0, 1)], _, _, _)
            refine ev_ifeq f187_45 (fun c31653 => absurd c31653 (by omega)) (fun c31653 => ?_)
            refine ev_aload_n rfl ?_
            refine g_getp (r := 0) (c := 1) g ad0 (by decide) (by decide) rf0_0 ft11_0 ?_
            refine ev_call (jcall_v (A := []) (S' := []) (r := 1) rfl (g.lt ad1) (g.tg ad1) (Nat.le_of_ble_eq_true rfl)) (jOk_le (by decide) (s153 g )) (by decide) (by decide) (fun w31654 h31654 q31654 => ?_)
            obtain ⟨v31655, rfl, lv31655, uv31655, g31654, kk31654⟩ := q31654
            have k31654 := k0.tr kk31654 (by decide)
            show jEv _ _ _ _ _ _ _ (_, [(2, 0), (0, a1), (0, a2), (0, a3), (2, (r31632 : Int)), (9, 0), (9, 0), (9, 0), (9, 0)], [(0, v31655)], _, _, _)
            refine ev_ifne f187_49 (fun c31656 => ?_) (fun c31656 => ?_)
            · refine ev_aload rfl ?_
              refine ev_aload_n rfl ?_
              refine g_getp (r := 0) (c := 1) g31654 ad0 (by decide) (by decide) rf0_0 ft11_0 ?_
              refine ev_aload_n rfl ?_
              refine g_getp (r := 0) (c := 23) g31654 ad0 (by decide) (by decide) rf0_5 ft11_5 ?_
              refine ev_iconst ?_
              refine ev_call (jcall_v (A := [(0, 0), (2, 23), (2, 1)]) (S' := []) (r := r31632) rfl (g31654.qlt qr31632) (g31654.qtg qr31632) (Nat.le_of_ble_eq_true rfl)) (jOk_le (by decide) (s47 g31654 qr31632 (Or.inl rfl) (by omega) (by omega))) (by decide) (by decide) (fun w31657 h31657 q31657 => ?_)
              obtain ⟨v31658, rfl, lv31658, uv31658, g31657, kk31657⟩ := q31657
              have k31657 := k31654.tr kk31657 (by decide)
              show jEv _ _ _ _ _ _ _ (_, [(2, 0), (0, a1), (0, a2), (0, a3), (2, (r31632 : Int)), (9, 0), (9, 0), (9, 0), (9, 0)], [(1, v31658)], _, _, _)
              refine ev_lstore (L' := [(2, 0), (0, a1), (0, a2), (0, a3), (2, (r31632 : Int)), (1, v31658), (9, 0), (9, 0), (9, 0)]) (Nat.le_of_ble_eq_true rfl) rfl ?_
              refine ev_iload_n rfl ?_
              refine ev_ifge f187_85 (fun c31659 => absurd c31659 (by omega)) (fun c31659 => ?_)
              refine ev_aload rfl ?_
              refine ev_aload_n rfl ?_
              refine g_getp (r := 0) (c := 1) g31657 ad0 (by decide) (by decide) rf0_0 ft11_0 ?_
              refine ev_aload_n rfl ?_
              refine g_getp (r := 0) (c := 23) g31657 ad0 (by decide) (by decide) rf0_5 ft11_5 ?_
              refine ev_call (jcall_v (A := [(2, 23), (2, 1)]) (S' := []) (r := r31632) rfl (g31657.qlt qr31632) (g31657.qtg qr31632) (Nat.le_of_ble_eq_true rfl)) (jOk_le (by decide) (s51 g31657 qr31632 (Or.inl rfl))) (by decide) (by decide) (fun w31660 h31660 q31660 => ?_)
              obtain ⟨v31661, rfl, lv31661, uv31661, g31660, kk31660⟩ := q31660
              have k31660 := k31657.tr kk31660 (by decide)
              show jEv _ _ _ _ _ _ _ (_, [(2, 0), (0, a1), (0, a2), (0, a3), (2, (r31632 : Int)), (1, v31658), (9, 0), (9, 0), (9, 0)], [(1, v31661)], _, _, _)
              refine ev_goto f187_100 ?_
              refine ev_lstore (L' := [(2, 0), (0, a1), (0, a2), (0, a3), (2, (r31632 : Int)), (1, v31658), (9, 0), (1, v31661), (9, 0)]) (Nat.le_of_ble_eq_true rfl) rfl ?_
              refine ev_lload rfl ?_
              refine ev_lload rfl ?_
              refine g_lsubG (fun v31662 ev31662 lv31662 uv31662 => ?_)
              refine ev_ldc2_w ?_
              refine ev_aload_n rfl ?_
              refine g_getp (r := 0) (c := 1) g31660 ad0 (by decide) (by decide) rf0_0 ft11_0 ?_
              obtain ⟨v31663, ev31663, lv31663, uv31663⟩ := g31660.rd ad1 (show 1 < 8 by decide) rf1_1
              refine g_getv (r := 1) (v := v31663) g31660 ad1 (by decide) ft10_1 ev31663 ?_
              refine g_lmulG (fun v31664 ev31664 lv31664 uv31664 => ?_)
              refine ev_iload_n rfl ?_
              refine ev_call (jcall_s (A := [(0, a3), (1, v31664), (1, v31662)]) (S' := []) (by decide) rfl (Nat.le_of_ble_eq_true rfl)) (jOk_le (by decide) (s223 g31660 (by omega) (by omega) (by omega) (by omega) (by omega) (by omega))) (by decide) (by decide) (fun w31665 h31665 q31665 => ?_)
              obtain ⟨v31666, rfl, lv31666, uv31666, g31665, kk31665⟩ := q31665
              have k31665 := k31660.tr kk31665 (by decide)
              show jEv _ _ _ _ _ _ _ (_, [(2, 0), (0, a1), (0, a2), (0, a3), (2, (r31632 : Int)), (1, v31658), (9, 0), (1, v31661), (9, 0)], [(1, v31666)], _, _, _)
              exact ev_ret rfl (by decide) (by decide) ⟨_, rfl, by omega, by omega, g31665, k31665⟩
            · refine ev_ldc2_w ?_
              exact ev_ret rfl (by decide) (by decide) ⟨_, rfl, by omega, by omega, g31654, k31654⟩
      · refine ev_aload_n rfl ?_
        refine g_getp (r := 0) (c := 1) g ad0 (by decide) (by decide) rf0_0 ft11_0 ?_
        refine ev_iload_n rfl ?_
        refine ev_in (d := 5) (a := 0) (b := 0) (cd' := c140_0) (m := 2) (L0 := [(2, 1), (0, a2)]) (jcall_v (A := [(0, a2)]) (S' := []) (r := 1) rfl (g.lt ad1) (g.tg ad1) (Nat.le_of_ble_eq_true rfl)) (by decide) ml140 pp140 (Nat.le_of_ble_eq_true rfl) rfl (by decide) (by decide) ?_
        refine ev_iload_n rfl ?_
        refine ev_iflt f140_16 (fun c31667 => ?_) (fun c31667 => ?_)
        · refine ev_iconst ?_
          refine ev_ret rfl (by decide) (by decide) ?_
          show jEv _ _ _ _ _ _ _ (_, [(2, 0), (0, a1), (0, a2), (0, a3), (2, (r31632 : Int)), (9, 0), (9, 0), (9, 0), (9, 0)], [(0, 0)], _, _, _)
          refine ev_ifeq f187_45 (fun c31668 => ?_) (fun c31668 => absurd c31668 (by omega))
          refine ev_ldc2_w ?_
          exact ev_ret rfl (by decide) (by decide) ⟨_, rfl, by omega, by omega, g, k0⟩
        · refine ev_iload_n rfl ?_
          refine ev_aload_n rfl ?_
          obtain ⟨v31669, ev31669, lv31669, uv31669⟩ := g.rd ad1 (show 0 < 8 by decide) rf1_0
          refine g_getv (r := 1) (v := v31669) g ad1 (by decide) ft10_0 ev31669 ?_
          refine ev_icmpge f140_16 (fun c31670 => ?_) (fun c31670 => ?_)
          · refine ev_iconst ?_
            refine ev_ret rfl (by decide) (by decide) ?_
            show jEv _ _ _ _ _ _ _ (_, [(2, 0), (0, a1), (0, a2), (0, a3), (2, (r31632 : Int)), (9, 0), (9, 0), (9, 0), (9, 0)], [(0, 0)], _, _, _)
            refine ev_ifeq f187_45 (fun c31671 => ?_) (fun c31671 => absurd c31671 (by omega))
            refine ev_ldc2_w ?_
            exact ev_ret rfl (by decide) (by decide) ⟨_, rfl, by omega, by omega, g, k0⟩
          · refine ev_iconst ?_
            refine ev_goto f140_17 ?_
            refine ev_ret rfl (by decide) (by decide) ?_
            show jEv _ _ _ _ _ _ _ (_, [(2, 0), (0, a1), (0, a2), (0, a3), (2, (r31632 : Int)), (9, 0), (9, 0), (9, 0), (9, 0)], [(0, 1)], _, _, _)
            refine ev_ifeq f187_45 (fun c31672 => absurd c31672 (by omega)) (fun c31672 => ?_)
            refine ev_iload_n rfl ?_
            refine ev_in (d := 5) (a := 0) (b := 0) (cd' := c221_0) (m := 1) (L0 := [(0, a3)]) (jcall_s (A := [(0, a3)]) (S' := []) (by decide) rfl (Nat.le_of_ble_eq_true rfl)) (by decide) ml221 pp221 (Nat.le_of_ble_eq_true rfl) rfl (by decide) (by decide) ?_
            refine ev_iload_n rfl ?_
            refine ev_ifeq f221_9 (fun c31673 => ?_) (fun c31673 => ?_)
            · refine ev_iconst ?_
              refine ev_goto f221_14 ?_
              refine ev_ret rfl (by decide) (by decide) ?_
              show jEv _ _ _ _ _ _ _ (_, [(2, 0), (0, a1), (0, a2), (0, a3), (2, (r31632 : Int)), (9, 0), (9, 0), (9, 0), (9, 0)], [(0, 1)], _, _, _)
              refine ev_ifeq f187_45 (fun c31674 => absurd c31674 (by omega)) (fun c31674 => ?_)
              refine ev_aload_n rfl ?_
              refine g_getp (r := 0) (c := 1) g ad0 (by decide) (by decide) rf0_0 ft11_0 ?_
              refine ev_call (jcall_v (A := []) (S' := []) (r := 1) rfl (g.lt ad1) (g.tg ad1) (Nat.le_of_ble_eq_true rfl)) (jOk_le (by decide) (s153 g )) (by decide) (by decide) (fun w31675 h31675 q31675 => ?_)
              obtain ⟨v31676, rfl, lv31676, uv31676, g31675, kk31675⟩ := q31675
              have k31675 := k0.tr kk31675 (by decide)
              show jEv _ _ _ _ _ _ _ (_, [(2, 0), (0, a1), (0, a2), (0, a3), (2, (r31632 : Int)), (9, 0), (9, 0), (9, 0), (9, 0)], [(0, v31676)], _, _, _)
              refine ev_ifne f187_49 (fun c31677 => ?_) (fun c31677 => ?_)
              · refine ev_aload rfl ?_
                refine ev_aload_n rfl ?_
                refine g_getp (r := 0) (c := 1) g31675 ad0 (by decide) (by decide) rf0_0 ft11_0 ?_
                refine ev_aload_n rfl ?_
                refine g_getp (r := 0) (c := 23) g31675 ad0 (by decide) (by decide) rf0_5 ft11_5 ?_
                refine ev_iconst ?_
                refine ev_call (jcall_v (A := [(0, 0), (2, 23), (2, 1)]) (S' := []) (r := r31632) rfl (g31675.qlt qr31632) (g31675.qtg qr31632) (Nat.le_of_ble_eq_true rfl)) (jOk_le (by decide) (s47 g31675 qr31632 (Or.inl rfl) (by omega) (by omega))) (by decide) (by decide) (fun w31678 h31678 q31678 => ?_)
                obtain ⟨v31679, rfl, lv31679, uv31679, g31678, kk31678⟩ := q31678
                have k31678 := k31675.tr kk31678 (by decide)
                show jEv _ _ _ _ _ _ _ (_, [(2, 0), (0, a1), (0, a2), (0, a3), (2, (r31632 : Int)), (9, 0), (9, 0), (9, 0), (9, 0)], [(1, v31679)], _, _, _)
                refine ev_lstore (L' := [(2, 0), (0, a1), (0, a2), (0, a3), (2, (r31632 : Int)), (1, v31679), (9, 0), (9, 0), (9, 0)]) (Nat.le_of_ble_eq_true rfl) rfl ?_
                refine ev_iload_n rfl ?_
                refine ev_ifge f187_85 (fun c31680 => ?_) (fun c31680 => absurd c31680 (by omega))
                refine ev_aload rfl ?_
                refine ev_aload_n rfl ?_
                refine g_getp (r := 0) (c := 1) g31678 ad0 (by decide) (by decide) rf0_0 ft11_0 ?_
                refine ev_aload_n rfl ?_
                refine g_getp (r := 0) (c := 23) g31678 ad0 (by decide) (by decide) rf0_5 ft11_5 ?_
                refine ev_iload_n rfl ?_
                refine ev_iconst ?_
                refine ev_call (jcall_v (A := [(0, (-1)), (0, a2), (2, 23), (2, 1)]) (S' := []) (r := r31632) rfl (g31678.qlt qr31632) (g31678.qtg qr31632) (Nat.le_of_ble_eq_true rfl)) (jOk_le (by decide) (s50 g31678 qr31632 (Or.inl rfl) (by omega) (by omega) (by omega) (by omega))) (by decide) (by decide) (fun w31681 h31681 q31681 => ?_)
                obtain ⟨v31682, rfl, lv31682, uv31682, g31681, kk31681⟩ := q31681
                have k31681 := k31678.tr kk31681 (by decide)
                show jEv _ _ _ _ _ _ _ (_, [(2, 0), (0, a1), (0, a2), (0, a3), (2, (r31632 : Int)), (1, v31679), (9, 0), (9, 0), (9, 0)], [(1, v31682)], _, _, _)
                refine ev_lstore (L' := [(2, 0), (0, a1), (0, a2), (0, a3), (2, (r31632 : Int)), (1, v31679), (9, 0), (1, v31682), (9, 0)]) (Nat.le_of_ble_eq_true rfl) rfl ?_
                refine ev_lload rfl ?_
                refine ev_lload rfl ?_
                refine g_lsubG (fun v31683 ev31683 lv31683 uv31683 => ?_)
                refine ev_ldc2_w ?_
                refine ev_aload_n rfl ?_
                refine g_getp (r := 0) (c := 1) g31681 ad0 (by decide) (by decide) rf0_0 ft11_0 ?_
                obtain ⟨v31684, ev31684, lv31684, uv31684⟩ := g31681.rd ad1 (show 1 < 8 by decide) rf1_1
                refine g_getv (r := 1) (v := v31684) g31681 ad1 (by decide) ft10_1 ev31684 ?_
                refine g_lmulG (fun v31685 ev31685 lv31685 uv31685 => ?_)
                refine ev_iload_n rfl ?_
                refine ev_call (jcall_s (A := [(0, a3), (1, v31685), (1, v31683)]) (S' := []) (by decide) rfl (Nat.le_of_ble_eq_true rfl)) (jOk_le (by decide) (s223 g31681 (by omega) (by omega) (by omega) (by omega) (by omega) (by omega))) (by decide) (by decide) (fun w31686 h31686 q31686 => ?_)
                obtain ⟨v31687, rfl, lv31687, uv31687, g31686, kk31686⟩ := q31686
                have k31686 := k31681.tr kk31686 (by decide)
                show jEv _ _ _ _ _ _ _ (_, [(2, 0), (0, a1), (0, a2), (0, a3), (2, (r31632 : Int)), (1, v31679), (9, 0), (1, v31682), (9, 0)], [(1, v31687)], _, _, _)
                exact ev_ret rfl (by decide) (by decide) ⟨_, rfl, by omega, by omega, g31686, k31686⟩
              · refine ev_ldc2_w ?_
                exact ev_ret rfl (by decide) (by decide) ⟨_, rfl, by omega, by omega, g31675, k31675⟩
            · refine ev_iload_n rfl ?_
              refine ev_iconst ?_
              refine ev_icmpne f221_13 (fun c31688 => ?_) (fun c31688 => ?_)
              · refine ev_iconst ?_
                refine ev_ret rfl (by decide) (by decide) ?_
                show jEv _ _ _ _ _ _ _ (_, [(2, 0), (0, a1), (0, a2), (0, a3), (2, (r31632 : Int)), (9, 0), (9, 0), (9, 0), (9, 0)], [(0, 0)], _, _, _)
                refine ev_ifeq f187_45 (fun c31689 => ?_) (fun c31689 => absurd c31689 (by omega))
                refine ev_ldc2_w ?_
                exact ev_ret rfl (by decide) (by decide) ⟨_, rfl, by omega, by omega, g, k0⟩
              · refine ev_iconst ?_
                refine ev_goto f221_14 ?_
                refine ev_ret rfl (by decide) (by decide) ?_
                show jEv _ _ _ _ _ _ _ (_, [(2, 0), (0, a1), (0, a2), (0, a3), (2, (r31632 : Int)), (9, 0), (9, 0), (9, 0), (9, 0)], [(0, 1)], _, _, _)
                refine ev_ifeq f187_45 (fun c31690 => absurd c31690 (by omega)) (fun c31690 => ?_)
                refine ev_aload_n rfl ?_
                refine g_getp (r := 0) (c := 1) g ad0 (by decide) (by decide) rf0_0 ft11_0 ?_
                refine ev_call (jcall_v (A := []) (S' := []) (r := 1) rfl (g.lt ad1) (g.tg ad1) (Nat.le_of_ble_eq_true rfl)) (jOk_le (by decide) (s153 g )) (by decide) (by decide) (fun w31691 h31691 q31691 => ?_)
                obtain ⟨v31692, rfl, lv31692, uv31692, g31691, kk31691⟩ := q31691
                have k31691 := k0.tr kk31691 (by decide)
                show jEv _ _ _ _ _ _ _ (_, [(2, 0), (0, a1), (0, a2), (0, a3), (2, (r31632 : Int)), (9, 0), (9, 0), (9, 0), (9, 0)], [(0, v31692)], _, _, _)
                refine ev_ifne f187_49 (fun c31693 => ?_) (fun c31693 => ?_)
                · refine ev_aload rfl ?_
                  refine ev_aload_n rfl ?_
                  refine g_getp (r := 0) (c := 1) g31691 ad0 (by decide) (by decide) rf0_0 ft11_0 ?_
                  refine ev_aload_n rfl ?_
                  refine g_getp (r := 0) (c := 23) g31691 ad0 (by decide) (by decide) rf0_5 ft11_5 ?_
                  refine ev_iconst ?_
                  refine ev_call (jcall_v (A := [(0, 0), (2, 23), (2, 1)]) (S' := []) (r := r31632) rfl (g31691.qlt qr31632) (g31691.qtg qr31632) (Nat.le_of_ble_eq_true rfl)) (jOk_le (by decide) (s47 g31691 qr31632 (Or.inl rfl) (by omega) (by omega))) (by decide) (by decide) (fun w31694 h31694 q31694 => ?_)
                  obtain ⟨v31695, rfl, lv31695, uv31695, g31694, kk31694⟩ := q31694
                  have k31694 := k31691.tr kk31694 (by decide)
                  show jEv _ _ _ _ _ _ _ (_, [(2, 0), (0, a1), (0, a2), (0, a3), (2, (r31632 : Int)), (9, 0), (9, 0), (9, 0), (9, 0)], [(1, v31695)], _, _, _)
                  refine ev_lstore (L' := [(2, 0), (0, a1), (0, a2), (0, a3), (2, (r31632 : Int)), (1, v31695), (9, 0), (9, 0), (9, 0)]) (Nat.le_of_ble_eq_true rfl) rfl ?_
                  refine ev_iload_n rfl ?_
                  refine ev_ifge f187_85 (fun c31696 => ?_) (fun c31696 => absurd c31696 (by omega))
                  refine ev_aload rfl ?_
                  refine ev_aload_n rfl ?_
                  refine g_getp (r := 0) (c := 1) g31694 ad0 (by decide) (by decide) rf0_0 ft11_0 ?_
                  refine ev_aload_n rfl ?_
                  refine g_getp (r := 0) (c := 23) g31694 ad0 (by decide) (by decide) rf0_5 ft11_5 ?_
                  refine ev_iload_n rfl ?_
                  refine ev_iconst ?_
                  refine ev_call (jcall_v (A := [(0, (-1)), (0, a2), (2, 23), (2, 1)]) (S' := []) (r := r31632) rfl (g31694.qlt qr31632) (g31694.qtg qr31632) (Nat.le_of_ble_eq_true rfl)) (jOk_le (by decide) (s50 g31694 qr31632 (Or.inl rfl) (by omega) (by omega) (by omega) (by omega))) (by decide) (by decide) (fun w31697 h31697 q31697 => ?_)
                  obtain ⟨v31698, rfl, lv31698, uv31698, g31697, kk31697⟩ := q31697
                  have k31697 := k31694.tr kk31697 (by decide)
                  show jEv _ _ _ _ _ _ _ (_, [(2, 0), (0, a1), (0, a2), (0, a3), (2, (r31632 : Int)), (1, v31695), (9, 0), (9, 0), (9, 0)], [(1, v31698)], _, _, _)
                  refine ev_lstore (L' := [(2, 0), (0, a1), (0, a2), (0, a3), (2, (r31632 : Int)), (1, v31695), (9, 0), (1, v31698), (9, 0)]) (Nat.le_of_ble_eq_true rfl) rfl ?_
                  refine ev_lload rfl ?_
                  refine ev_lload rfl ?_
                  refine g_lsubG (fun v31699 ev31699 lv31699 uv31699 => ?_)
                  refine ev_ldc2_w ?_
                  refine ev_aload_n rfl ?_
                  refine g_getp (r := 0) (c := 1) g31697 ad0 (by decide) (by decide) rf0_0 ft11_0 ?_
                  obtain ⟨v31700, ev31700, lv31700, uv31700⟩ := g31697.rd ad1 (show 1 < 8 by decide) rf1_1
                  refine g_getv (r := 1) (v := v31700) g31697 ad1 (by decide) ft10_1 ev31700 ?_
                  refine g_lmulG (fun v31701 ev31701 lv31701 uv31701 => ?_)
                  refine ev_iload_n rfl ?_
                  refine ev_call (jcall_s (A := [(0, a3), (1, v31701), (1, v31699)]) (S' := []) (by decide) rfl (Nat.le_of_ble_eq_true rfl)) (jOk_le (by decide) (s223 g31697 (by omega) (by omega) (by omega) (by omega) (by omega) (by omega))) (by decide) (by decide) (fun w31702 h31702 q31702 => ?_)
                  obtain ⟨v31703, rfl, lv31703, uv31703, g31702, kk31702⟩ := q31702
                  have k31702 := k31697.tr kk31702 (by decide)
                  show jEv _ _ _ _ _ _ _ (_, [(2, 0), (0, a1), (0, a2), (0, a3), (2, (r31632 : Int)), (1, v31695), (9, 0), (1, v31698), (9, 0)], [(1, v31703)], _, _, _)
                  exact ev_ret rfl (by decide) (by decide) ⟨_, rfl, by omega, by omega, g31702, k31702⟩
                · refine ev_ldc2_w ?_
                  exact ev_ret rfl (by decide) (by decide) ⟨_, rfl, by omega, by omega, g31691, k31691⟩
    · refine ev_aconst_null ?_
      refine ev_goto f219_22 ?_
      refine ev_ret rfl (by decide) (by decide) ?_
      show jEv _ _ _ _ _ _ _ (_, [(2, 0), (0, a1), (0, a2), (0, a3), (9, 0), (9, 0), (9, 0), (9, 0), (9, 0)], [(2, (-1))], _, _, _)
      refine ev_astore (L' := [(2, 0), (0, a1), (0, a2), (0, a3), (2, (-1)), (9, 0), (9, 0), (9, 0), (9, 0)]) (Nat.le_of_ble_eq_true rfl) rfl ?_
      refine ev_aload rfl ?_
      refine ev_ifnull f187_45 (fun c31704 => ?_) (fun c31704 => absurd c31704 (by decide))
      refine ev_ldc2_w ?_
      exact ev_ret rfl (by decide) (by decide) ⟨_, rfl, by omega, by omega, g, k0⟩
/-! 188 together -/
set_option maxHeartbeats 4000000 in
theorem s188 {G : GH} {h : JH} (g : Gd G h) {a1 : Int} (la1 : (-2147483648) ≤ a1) (ua1 : a1 ≤ 2147483647) {a2 : Int} (la2 : (-2147483648) ≤ a2) (ua2 : a2 ≤ 2147483647) {a3 : Int} (la3 : (-2147483648) ≤ a3) (ua3 : a3 ≤ 2147483647) {a4 : Int} (la4 : (-2147483648) ≤ a4) (ua4 : a4 ≤ 2147483647) : jOk 7 0 0 188 [(2, 0), (0, a1), (0, a2), (0, a3), (0, a4)] h (PI G [(1, 2), (1, 3), (5, 0), (6, 0), (1000000, 0)] h 1 (-9223372036854775808) 9223372036854775807) := by
  refine ⟨by decide, by rw [ml188]; exact Nat.le_of_ble_eq_true rfl, ?_⟩
  rw [ml188, pp188]
  show jEv _ none _ c188_0 0 0 _ (c188_0, [(2, 0), (0, a1), (0, a2), (0, a3), (0, a4), (9, 0), (9, 0), (9, 0), (9, 0), (9, 0), (9, 0), (9, 0), (9, 0), (9, 0)], [], h, 0, 0)
  have k0 := Kp.rf [(1, 2), (1, 3), (5, 0), (6, 0), (1000000, 0)] h
  refine ev_aload_n rfl ?_
  refine ev_iload_n rfl ?_
  refine ev_in (d := 5) (a := 0) (b := 0) (cd' := c219_0) (m := 2) (L0 := [(2, 0), (0, a1)]) (jcall_v (A := [(0, a1)]) (S' := []) (r := 0) rfl (g.lt ad0) (g.tg ad0) (Nat.le_of_ble_eq_true rfl)) (by decide) ml219 pp219 (Nat.le_of_ble_eq_true rfl) rfl (by decide) (by decide) ?_
  refine ev_iload_n rfl ?_
  refine ev_iflt f219_12 (fun c31827 => ?_) (fun c31827 => ?_)
  · refine ev_aconst_null ?_
    refine ev_goto f219_22 ?_
    refine ev_ret rfl (by decide) (by decide) ?_
    show jEv _ _ _ _ _ _ _ (_, [(2, 0), (0, a1), (0, a2), (0, a3), (0, a4), (9, 0), (9, 0), (9, 0), (9, 0), (9, 0), (9, 0), (9, 0), (9, 0), (9, 0)], [(2, (-1))], _, _, _)
    refine ev_astore (L' := [(2, 0), (0, a1), (0, a2), (0, a3), (0, a4), (2, (-1)), (9, 0), (9, 0), (9, 0), (9, 0), (9, 0), (9, 0), (9, 0), (9, 0)]) (Nat.le_of_ble_eq_true rfl) rfl ?_
    refine ev_aload rfl ?_
    refine ev_ifnull f188_57 (fun c31828 => ?_) (fun c31828 => absurd c31828 (by decide))
    refine ev_ldc2_w ?_
    exact ev_ret rfl (by decide) (by decide) ⟨_, rfl, by omega, by omega, g, k0⟩
  · refine ev_iload_n rfl ?_
    refine ev_aload_n rfl ?_
    obtain ⟨v31829, ev31829, lv31829, uv31829⟩ := g.rd ad0 (show 3 < 17 by decide) rf0_3
    refine g_getv (r := 0) (v := v31829) g ad0 (by decide) ft11_3 ev31829 ?_
    refine ev_icmplt f219_16 (fun c31830 => ?_) (fun c31830 => ?_)
    · refine ev_aload_n rfl ?_
      refine g_getp (r := 0) (c := 18) g ad0 (by decide) (by decide) rf0_2 ft11_2 ?_
      refine ev_iload_n rfl ?_
      refine g_qaald (g) (i := a1) (ev31829) (by omega) (by omega) (fun r31831 m31832 qr31831 => ?_)
      have wr31831 := g.qb qr31831
      have zr31831 := qr31831.1
      refine ev_ret rfl (by decide) (by decide) ?_
      show jEv _ _ _ _ _ _ _ (_, [(2, 0), (0, a1), (0, a2), (0, a3), (0, a4), (9, 0), (9, 0), (9, 0), (9, 0), (9, 0), (9, 0), (9, 0), (9, 0), (9, 0)], [(2, (r31831 : Int))], _, _, _)
      refine ev_astore (L' := [(2, 0), (0, a1), (0, a2), (0, a3), (0, a4), (2, (r31831 : Int)), (9, 0), (9, 0), (9, 0), (9, 0), (9, 0), (9, 0), (9, 0), (9, 0)]) (Nat.le_of_ble_eq_true rfl) rfl ?_
      refine ev_aload rfl ?_
      refine ev_ifnull f188_57 (fun c31833 => absurd c31833 (by omega)) (fun c31833 => ?_)
      refine ev_aload_n rfl ?_
      refine g_getp (r := 0) (c := 1) g ad0 (by decide) (by decide) rf0_0 ft11_0 ?_
      refine ev_iload_n rfl ?_
      refine ev_in (d := 5) (a := 0) (b := 0) (cd' := c140_0) (m := 2) (L0 := [(2, 1), (0, a2)]) (jcall_v (A := [(0, a2)]) (S' := []) (r := 1) rfl (g.lt ad1) (g.tg ad1) (Nat.le_of_ble_eq_true rfl)) (by decide) ml140 pp140 (Nat.le_of_ble_eq_true rfl) rfl (by decide) (by decide) ?_
      refine ev_iload_n rfl ?_
      refine ev_iflt f140_16 (fun c31834 => ?_) (fun c31834 => ?_)
      · refine ev_iconst ?_
        refine ev_ret rfl (by decide) (by decide) ?_
        show jEv _ _ _ _ _ _ _ (_, [(2, 0), (0, a1), (0, a2), (0, a3), (0, a4), (2, (r31831 : Int)), (9, 0), (9, 0), (9, 0), (9, 0), (9, 0), (9, 0), (9, 0), (9, 0)], [(0, 0)], _, _, _)
        refine ev_ifeq f188_57 (fun c31835 => ?_) (fun c31835 => absurd c31835 (by omega))
        refine ev_ldc2_w ?_
        exact ev_ret rfl (by decide) (by decide) ⟨_, rfl, by omega, by omega, g, k0⟩
      · refine ev_iload_n rfl ?_
        refine ev_aload_n rfl ?_
        obtain ⟨v31836, ev31836, lv31836, uv31836⟩ := g.rd ad1 (show 0 < 8 by decide) rf1_0
        refine g_getv (r := 1) (v := v31836) g ad1 (by decide) ft10_0 ev31836 ?_
        refine ev_icmpge f140_16 (fun c31837 => ?_) (fun c31837 => ?_)
        · refine ev_iconst ?_
          refine ev_ret rfl (by decide) (by decide) ?_
          show jEv _ _ _ _ _ _ _ (_, [(2, 0), (0, a1), (0, a2), (0, a3), (0, a4), (2, (r31831 : Int)), (9, 0), (9, 0), (9, 0), (9, 0), (9, 0), (9, 0), (9, 0), (9, 0)], [(0, 0)], _, _, _)
          refine ev_ifeq f188_57 (fun c31838 => ?_) (fun c31838 => absurd c31838 (by omega))
          refine ev_ldc2_w ?_
          exact ev_ret rfl (by decide) (by decide) ⟨_, rfl, by omega, by omega, g, k0⟩
        · refine ev_iconst ?_
          refine ev_goto f140_17 ?_
          refine ev_ret rfl (by decide) (by decide) ?_
          show jEv _ _ _ _ _ _ _ (_, [(2, 0), (0, a1), (0, a2), (0, a3), (0, a4), (2, (r31831 : Int)), (9, 0), (9, 0), (9, 0), (9, 0), (9, 0), (9, 0), (9, 0), (9, 0)], [(0, 1)], _, _, _)
          refine ev_ifeq f188_57 (fun c31839 => absurd c31839 (by omega)) (fun c31839 => ?_)
          refine ev_aload_n rfl ?_
          refine g_getp (r := 0) (c := 1) g ad0 (by decide) (by decide) rf0_0 ft11_0 ?_
          refine ev_iload_n rfl ?_
          refine ev_in (d := 5) (a := 0) (b := 0) (cd' := c140_0) (m := 2) (L0 := [(2, 1), (0, a3)]) (jcall_v (A := [(0, a3)]) (S' := []) (r := 1) rfl (g.lt ad1) (g.tg ad1) (Nat.le_of_ble_eq_true rfl)) (by decide) ml140 pp140 (Nat.le_of_ble_eq_true rfl) rfl (by decide) (by decide) ?_
          refine ev_iload_n rfl ?_
          refine ev_iflt f140_16 (fun c31840 => ?_) (fun c31840 => ?_)
          · refine ev_iconst ?_
            refine ev_ret rfl (by decide) (by decide) ?_
            show jEv _ _ _ _ _ _ _ (_, [(2, 0), (0, a1), (0, a2), (0, a3), (0, a4), (2, (r31831 : Int)), (9, 0), (9, 0), (9, 0), (9, 0), (9, 0), (9, 0), (9, 0), (9, 0)], [(0, 0)], _, _, _)
            refine ev_ifeq f188_57 (fun c31841 => ?_) (fun c31841 => absurd c31841 (by omega))
            refine ev_ldc2_w ?_
            exact ev_ret rfl (by decide) (by decide) ⟨_, rfl, by omega, by omega, g, k0⟩
          · refine ev_iload_n rfl ?_
            refine ev_aload_n rfl ?_
            refine g_getv (r := 1) (v := v31836) g ad1 (by decide) ft10_0 (ev31836) ?_
            refine ev_icmpge f140_16 (fun c31842 => ?_) (fun c31842 => ?_)
            · refine ev_iconst ?_
              refine ev_ret rfl (by decide) (by decide) ?_
              show jEv _ _ _ _ _ _ _ (_, [(2, 0), (0, a1), (0, a2), (0, a3), (0, a4), (2, (r31831 : Int)), (9, 0), (9, 0), (9, 0), (9, 0), (9, 0), (9, 0), (9, 0), (9, 0)], [(0, 0)], _, _, _)
              refine ev_ifeq f188_57 (fun c31843 => ?_) (fun c31843 => absurd c31843 (by omega))
              refine ev_ldc2_w ?_
              exact ev_ret rfl (by decide) (by decide) ⟨_, rfl, by omega, by omega, g, k0⟩
            · refine ev_iconst ?_
              refine ev_goto f140_17 ?_
              refine ev_ret rfl (by decide) (by decide) ?_
              show jEv _ _ _ _ _ _ _ (_, [(2, 0), (0, a1), (0, a2), (0, a3), (0, a4), (2, (r31831 : Int)), (9, 0), (9, 0), (9, 0), (9, 0), (9, 0), (9, 0), (9, 0), (9, 0)], [(0, 1)], _, _, _)
              refine ev_ifeq f188_57 (fun c31844 => absurd c31844 (by omega)) (fun c31844 => ?_)
              refine ev_iload_n rfl ?_
              refine ev_iload_n rfl ?_
              refine ev_icmpeq f188_57 (fun c31845 => ?_) (fun c31845 => ?_)
              · refine ev_ldc2_w ?_
                exact ev_ret rfl (by decide) (by decide) ⟨_, rfl, by omega, by omega, g, k0⟩
              · refine ev_iload rfl ?_
                refine ev_in (d := 5) (a := 0) (b := 0) (cd' := c221_0) (m := 1) (L0 := [(0, a4)]) (jcall_s (A := [(0, a4)]) (S' := []) (by decide) rfl (Nat.le_of_ble_eq_true rfl)) (by decide) ml221 pp221 (Nat.le_of_ble_eq_true rfl) rfl (by decide) (by decide) ?_
                refine ev_iload_n rfl ?_
                refine ev_ifeq f221_9 (fun c31846 => ?_) (fun c31846 => ?_)
                · refine ev_iconst ?_
                  refine ev_goto f221_14 ?_
                  refine ev_ret rfl (by decide) (by decide) ?_
                  show jEv _ _ _ _ _ _ _ (_, [(2, 0), (0, a1), (0, a2), (0, a3), (0, a4), (2, (r31831 : Int)), (9, 0), (9, 0), (9, 0), (9, 0), (9, 0), (9, 0), (9, 0), (9, 0)], [(0, 1)], _, _, _)
                  refine ev_ifeq f188_57 (fun c31847 => absurd c31847 (by omega)) (fun c31847 => ?_)
                  refine ev_aload_n rfl ?_
                  refine g_getp (r := 0) (c := 1) g ad0 (by decide) (by decide) rf0_0 ft11_0 ?_
                  refine ev_call (jcall_v (A := []) (S' := []) (r := 1) rfl (g.lt ad1) (g.tg ad1) (Nat.le_of_ble_eq_true rfl)) (jOk_le (by decide) (s153 g )) (by decide) (by decide) (fun w31848 h31848 q31848 => ?_)
                  obtain ⟨v31849, rfl, lv31849, uv31849, g31848, kk31848⟩ := q31848
                  have k31848 := k0.tr kk31848 (by decide)
                  show jEv _ _ _ _ _ _ _ (_, [(2, 0), (0, a1), (0, a2), (0, a3), (0, a4), (2, (r31831 : Int)), (9, 0), (9, 0), (9, 0), (9, 0), (9, 0), (9, 0), (9, 0), (9, 0)], [(0, v31849)], _, _, _)
                  refine ev_ifne f188_61 (fun c31850 => ?_) (fun c31850 => ?_)
                  · refine ev_aload rfl ?_
                    refine ev_aload_n rfl ?_
                    refine g_getp (r := 0) (c := 1) g31848 ad0 (by decide) (by decide) rf0_0 ft11_0 ?_
                    refine ev_aload_n rfl ?_
                    refine g_getp (r := 0) (c := 23) g31848 ad0 (by decide) (by decide) rf0_5 ft11_5 ?_
                    refine ev_iload_n rfl ?_
                    refine ev_iload_n rfl ?_
                    refine ev_call (jcall_v (A := [(0, a3), (0, a2), (2, 23), (2, 1)]) (S' := []) (r := r31831) rfl (g31848.qlt qr31831) (g31848.qtg qr31831) (Nat.le_of_ble_eq_true rfl)) (jOk_le (by decide) (s50 g31848 qr31831 (Or.inl rfl) (by omega) (by omega) (by omega) (by omega))) (by decide) (by decide) (fun w31851 h31851 q31851 => ?_)
                    obtain ⟨v31852, rfl, lv31852, uv31852, g31851, kk31851⟩ := q31851
                    have k31851 := k31848.tr kk31851 (by decide)
                    show jEv _ _ _ _ _ _ _ (_, [(2, 0), (0, a1), (0, a2), (0, a3), (0, a4), (2, (r31831 : Int)), (9, 0), (9, 0), (9, 0), (9, 0), (9, 0), (9, 0), (9, 0), (9, 0)], [(1, v31852)], _, _, _)
                    refine ev_lstore (L' := [(2, 0), (0, a1), (0, a2), (0, a3), (0, a4), (2, (r31831 : Int)), (1, v31852), (9, 0), (9, 0), (9, 0), (9, 0), (9, 0), (9, 0), (9, 0)]) (Nat.le_of_ble_eq_true rfl) rfl ?_
                    refine ev_aload rfl ?_
                    refine ev_aload_n rfl ?_
                    refine g_getp (r := 0) (c := 1) g31851 ad0 (by decide) (by decide) rf0_0 ft11_0 ?_
                    refine ev_aload_n rfl ?_
                    refine g_getp (r := 0) (c := 23) g31851 ad0 (by decide) (by decide) rf0_5 ft11_5 ?_
                    refine ev_iload_n rfl ?_
                    refine ev_iconst ?_
                    refine ev_call (jcall_v (A := [(0, (-1)), (0, a2), (2, 23), (2, 1)]) (S' := []) (r := r31831) rfl (g31851.qlt qr31831) (g31851.qtg qr31831) (Nat.le_of_ble_eq_true rfl)) (jOk_le (by decide) (s50 g31851 qr31831 (Or.inl rfl) (by omega) (by omega) (by omega) (by omega))) (by decide) (by decide) (fun w31853 h31853 q31853 => ?_)
                    obtain ⟨v31854, rfl, lv31854, uv31854, g31853, kk31853⟩ := q31853
                    have k31853 := k31851.tr kk31853 (by decide)
                    show jEv _ _ _ _ _ _ _ (_, [(2, 0), (0, a1), (0, a2), (0, a3), (0, a4), (2, (r31831 : Int)), (1, v31852), (9, 0), (9, 0), (9, 0), (9, 0), (9, 0), (9, 0), (9, 0)], [(1, v31854)], _, _, _)
                    refine ev_lstore (L' := [(2, 0), (0, a1), (0, a2), (0, a3), (0, a4), (2, (r31831 : Int)), (1, v31852), (9, 0), (1, v31854), (9, 0), (9, 0), (9, 0), (9, 0), (9, 0)]) (Nat.le_of_ble_eq_true rfl) rfl ?_
                    refine ev_aload rfl ?_
                    refine ev_aload_n rfl ?_
                    refine g_getp (r := 0) (c := 1) g31853 ad0 (by decide) (by decide) rf0_0 ft11_0 ?_
                    refine ev_aload_n rfl ?_
                    refine g_getp (r := 0) (c := 23) g31853 ad0 (by decide) (by decide) rf0_5 ft11_5 ?_
                    refine ev_iload_n rfl ?_
                    refine ev_iconst ?_
                    refine ev_call (jcall_v (A := [(0, (-1)), (0, a3), (2, 23), (2, 1)]) (S' := []) (r := r31831) rfl (g31853.qlt qr31831) (g31853.qtg qr31831) (Nat.le_of_ble_eq_true rfl)) (jOk_le (by decide) (s50 g31853 qr31831 (Or.inl rfl) (by omega) (by omega) (by omega) (by omega))) (by decide) (by decide) (fun w31855 h31855 q31855 => ?_)
                    obtain ⟨v31856, rfl, lv31856, uv31856, g31855, kk31855⟩ := q31855
                    have k31855 := k31853.tr kk31855 (by decide)
                    show jEv _ _ _ _ _ _ _ (_, [(2, 0), (0, a1), (0, a2), (0, a3), (0, a4), (2, (r31831 : Int)), (1, v31852), (9, 0), (1, v31854), (9, 0), (9, 0), (9, 0), (9, 0), (9, 0)], [(1, v31856)], _, _, _)
                    refine ev_lstore (L' := [(2, 0), (0, a1), (0, a2), (0, a3), (0, a4), (2, (r31831 : Int)), (1, v31852), (9, 0), (1, v31854), (9, 0), (1, v31856), (9, 0), (9, 0), (9, 0)]) (Nat.le_of_ble_eq_true rfl) rfl ?_
                    refine ev_aload rfl ?_
                    refine ev_aload_n rfl ?_
                    refine g_getp (r := 0) (c := 1) g31855 ad0 (by decide) (by decide) rf0_0 ft11_0 ?_
                    refine ev_aload_n rfl ?_
                    refine g_getp (r := 0) (c := 23) g31855 ad0 (by decide) (by decide) rf0_5 ft11_5 ?_
                    refine ev_iconst ?_
                    refine ev_call (jcall_v (A := [(0, 0), (2, 23), (2, 1)]) (S' := []) (r := r31831) rfl (g31855.qlt qr31831) (g31855.qtg qr31831) (Nat.le_of_ble_eq_true rfl)) (jOk_le (by decide) (s47 g31855 qr31831 (Or.inl rfl) (by omega) (by omega))) (by decide) (by decide) (fun w31857 h31857 q31857 => ?_)
                    obtain ⟨v31858, rfl, lv31858, uv31858, g31857, kk31857⟩ := q31857
                    have k31857 := k31855.tr kk31857 (by decide)
                    show jEv _ _ _ _ _ _ _ (_, [(2, 0), (0, a1), (0, a2), (0, a3), (0, a4), (2, (r31831 : Int)), (1, v31852), (9, 0), (1, v31854), (9, 0), (1, v31856), (9, 0), (9, 0), (9, 0)], [(1, v31858)], _, _, _)
                    refine ev_lstore (L' := [(2, 0), (0, a1), (0, a2), (0, a3), (0, a4), (2, (r31831 : Int)), (1, v31852), (9, 0), (1, v31854), (9, 0), (1, v31856), (9, 0), (1, v31858), (9, 0)]) (Nat.le_of_ble_eq_true rfl) rfl ?_
                    refine ev_lload rfl ?_
                    refine ev_lload rfl ?_
                    refine g_lsubG (fun v31859 ev31859 lv31859 uv31859 => ?_)
                    refine ev_lload rfl ?_
                    refine g_lsubG (fun v31860 ev31860 lv31860 uv31860 => ?_)
                    refine ev_lload rfl ?_
                    refine g_laddG (fun v31861 ev31861 lv31861 uv31861 => ?_)
                    refine ev_ldc2_w ?_
                    refine ev_aload_n rfl ?_
                    refine g_getp (r := 0) (c := 1) g31857 ad0 (by decide) (by decide) rf0_0 ft11_0 ?_
                    obtain ⟨v31862, ev31862, lv31862, uv31862⟩ := g31857.rd ad1 (show 1 < 8 by decide) rf1_1
                    refine g_getv (r := 1) (v := v31862) g31857 ad1 (by decide) ft10_1 ev31862 ?_
                    refine g_lmulG (fun v31863 ev31863 lv31863 uv31863 => ?_)
                    refine ev_iload rfl ?_
                    refine ev_call (jcall_s (A := [(0, a4), (1, v31863), (1, v31861)]) (S' := []) (by decide) rfl (Nat.le_of_ble_eq_true rfl)) (jOk_le (by decide) (s223 g31857 (by omega) (by omega) (by omega) (by omega) (by omega) (by omega))) (by decide) (by decide) (fun w31864 h31864 q31864 => ?_)
                    obtain ⟨v31865, rfl, lv31865, uv31865, g31864, kk31864⟩ := q31864
                    have k31864 := k31857.tr kk31864 (by decide)
                    show jEv _ _ _ _ _ _ _ (_, [(2, 0), (0, a1), (0, a2), (0, a3), (0, a4), (2, (r31831 : Int)), (1, v31852), (9, 0), (1, v31854), (9, 0), (1, v31856), (9, 0), (1, v31858), (9, 0)], [(1, v31865)], _, _, _)
                    exact ev_ret rfl (by decide) (by decide) ⟨_, rfl, by omega, by omega, g31864, k31864⟩
                  · refine ev_ldc2_w ?_
                    exact ev_ret rfl (by decide) (by decide) ⟨_, rfl, by omega, by omega, g31848, k31848⟩
                · refine ev_iload_n rfl ?_
                  refine ev_iconst ?_
                  refine ev_icmpne f221_13 (fun c31866 => ?_) (fun c31866 => ?_)
                  · refine ev_iconst ?_
                    refine ev_ret rfl (by decide) (by decide) ?_
                    show jEv _ _ _ _ _ _ _ (_, [(2, 0), (0, a1), (0, a2), (0, a3), (0, a4), (2, (r31831 : Int)), (9, 0), (9, 0), (9, 0), (9, 0), (9, 0), (9, 0), (9, 0), (9, 0)], [(0, 0)], _, _, _)
                    refine ev_ifeq f188_57 (fun c31867 => ?_) (fun c31867 => absurd c31867 (by omega))
                    refine ev_ldc2_w ?_
                    exact ev_ret rfl (by decide) (by decide) ⟨_, rfl, by omega, by omega, g, k0⟩
                  · refine ev_iconst ?_
                    refine ev_goto f221_14 ?_
                    refine ev_ret rfl (by decide) (by decide) ?_
                    show jEv _ _ _ _ _ _ _ (_, [(2, 0), (0, a1), (0, a2), (0, a3), (0, a4), (2, (r31831 : Int)), (9, 0), (9, 0), (9, 0), (9, 0), (9, 0), (9, 0), (9, 0), (9, 0)], [(0, 1)], _, _, _)
                    refine ev_ifeq f188_57 (fun c31868 => absurd c31868 (by omega)) (fun c31868 => ?_)
                    refine ev_aload_n rfl ?_
                    refine g_getp (r := 0) (c := 1) g ad0 (by decide) (by decide) rf0_0 ft11_0 ?_
                    refine ev_call (jcall_v (A := []) (S' := []) (r := 1) rfl (g.lt ad1) (g.tg ad1) (Nat.le_of_ble_eq_true rfl)) (jOk_le (by decide) (s153 g )) (by decide) (by decide) (fun w31869 h31869 q31869 => ?_)
                    obtain ⟨v31870, rfl, lv31870, uv31870, g31869, kk31869⟩ := q31869
                    have k31869 := k0.tr kk31869 (by decide)
                    show jEv _ _ _ _ _ _ _ (_, [(2, 0), (0, a1), (0, a2), (0, a3), (0, a4), (2, (r31831 : Int)), (9, 0), (9, 0), (9, 0), (9, 0), (9, 0), (9, 0), (9, 0), (9, 0)], [(0, v31870)], _, _, _)
                    refine ev_ifne f188_61 (fun c31871 => ?_) (fun c31871 => ?_)
                    · refine ev_aload rfl ?_
                      refine ev_aload_n rfl ?_
                      refine g_getp (r := 0) (c := 1) g31869 ad0 (by decide) (by decide) rf0_0 ft11_0 ?_
                      refine ev_aload_n rfl ?_
                      refine g_getp (r := 0) (c := 23) g31869 ad0 (by decide) (by decide) rf0_5 ft11_5 ?_
                      refine ev_iload_n rfl ?_
                      refine ev_iload_n rfl ?_
                      refine ev_call (jcall_v (A := [(0, a3), (0, a2), (2, 23), (2, 1)]) (S' := []) (r := r31831) rfl (g31869.qlt qr31831) (g31869.qtg qr31831) (Nat.le_of_ble_eq_true rfl)) (jOk_le (by decide) (s50 g31869 qr31831 (Or.inl rfl) (by omega) (by omega) (by omega) (by omega))) (by decide) (by decide) (fun w31872 h31872 q31872 => ?_)
                      obtain ⟨v31873, rfl, lv31873, uv31873, g31872, kk31872⟩ := q31872
                      have k31872 := k31869.tr kk31872 (by decide)
                      show jEv _ _ _ _ _ _ _ (_, [(2, 0), (0, a1), (0, a2), (0, a3), (0, a4), (2, (r31831 : Int)), (9, 0), (9, 0), (9, 0), (9, 0), (9, 0), (9, 0), (9, 0), (9, 0)], [(1, v31873)], _, _, _)
                      refine ev_lstore (L' := [(2, 0), (0, a1), (0, a2), (0, a3), (0, a4), (2, (r31831 : Int)), (1, v31873), (9, 0), (9, 0), (9, 0), (9, 0), (9, 0), (9, 0), (9, 0)]) (Nat.le_of_ble_eq_true rfl) rfl ?_
                      refine ev_aload rfl ?_
                      refine ev_aload_n rfl ?_
                      refine g_getp (r := 0) (c := 1) g31872 ad0 (by decide) (by decide) rf0_0 ft11_0 ?_
                      refine ev_aload_n rfl ?_
                      refine g_getp (r := 0) (c := 23) g31872 ad0 (by decide) (by decide) rf0_5 ft11_5 ?_
                      refine ev_iload_n rfl ?_
                      refine ev_iconst ?_
                      refine ev_call (jcall_v (A := [(0, (-1)), (0, a2), (2, 23), (2, 1)]) (S' := []) (r := r31831) rfl (g31872.qlt qr31831) (g31872.qtg qr31831) (Nat.le_of_ble_eq_true rfl)) (jOk_le (by decide) (s50 g31872 qr31831 (Or.inl rfl) (by omega) (by omega) (by omega) (by omega))) (by decide) (by decide) (fun w31874 h31874 q31874 => ?_)
                      obtain ⟨v31875, rfl, lv31875, uv31875, g31874, kk31874⟩ := q31874
                      have k31874 := k31872.tr kk31874 (by decide)
                      show jEv _ _ _ _ _ _ _ (_, [(2, 0), (0, a1), (0, a2), (0, a3), (0, a4), (2, (r31831 : Int)), (1, v31873), (9, 0), (9, 0), (9, 0), (9, 0), (9, 0), (9, 0), (9, 0)], [(1, v31875)], _, _, _)
                      refine ev_lstore (L' := [(2, 0), (0, a1), (0, a2), (0, a3), (0, a4), (2, (r31831 : Int)), (1, v31873), (9, 0), (1, v31875), (9, 0), (9, 0), (9, 0), (9, 0), (9, 0)]) (Nat.le_of_ble_eq_true rfl) rfl ?_
                      refine ev_aload rfl ?_
                      refine ev_aload_n rfl ?_
                      refine g_getp (r := 0) (c := 1) g31874 ad0 (by decide) (by decide) rf0_0 ft11_0 ?_
                      refine ev_aload_n rfl ?_
                      refine g_getp (r := 0) (c := 23) g31874 ad0 (by decide) (by decide) rf0_5 ft11_5 ?_
                      refine ev_iload_n rfl ?_
                      refine ev_iconst ?_
                      refine ev_call (jcall_v (A := [(0, (-1)), (0, a3), (2, 23), (2, 1)]) (S' := []) (r := r31831) rfl (g31874.qlt qr31831) (g31874.qtg qr31831) (Nat.le_of_ble_eq_true rfl)) (jOk_le (by decide) (s50 g31874 qr31831 (Or.inl rfl) (by omega) (by omega) (by omega) (by omega))) (by decide) (by decide) (fun w31876 h31876 q31876 => ?_)
                      obtain ⟨v31877, rfl, lv31877, uv31877, g31876, kk31876⟩ := q31876
                      have k31876 := k31874.tr kk31876 (by decide)
                      show jEv _ _ _ _ _ _ _ (_, [(2, 0), (0, a1), (0, a2), (0, a3), (0, a4), (2, (r31831 : Int)), (1, v31873), (9, 0), (1, v31875), (9, 0), (9, 0), (9, 0), (9, 0), (9, 0)], [(1, v31877)], _, _, _)
                      refine ev_lstore (L' := [(2, 0), (0, a1), (0, a2), (0, a3), (0, a4), (2, (r31831 : Int)), (1, v31873), (9, 0), (1, v31875), (9, 0), (1, v31877), (9, 0), (9, 0), (9, 0)]) (Nat.le_of_ble_eq_true rfl) rfl ?_
                      refine ev_aload rfl ?_
                      refine ev_aload_n rfl ?_
                      refine g_getp (r := 0) (c := 1) g31876 ad0 (by decide) (by decide) rf0_0 ft11_0 ?_
                      refine ev_aload_n rfl ?_
                      refine g_getp (r := 0) (c := 23) g31876 ad0 (by decide) (by decide) rf0_5 ft11_5 ?_
                      refine ev_iconst ?_
                      refine ev_call (jcall_v (A := [(0, 0), (2, 23), (2, 1)]) (S' := []) (r := r31831) rfl (g31876.qlt qr31831) (g31876.qtg qr31831) (Nat.le_of_ble_eq_true rfl)) (jOk_le (by decide) (s47 g31876 qr31831 (Or.inl rfl) (by omega) (by omega))) (by decide) (by decide) (fun w31878 h31878 q31878 => ?_)
                      obtain ⟨v31879, rfl, lv31879, uv31879, g31878, kk31878⟩ := q31878
                      have k31878 := k31876.tr kk31878 (by decide)
                      show jEv _ _ _ _ _ _ _ (_, [(2, 0), (0, a1), (0, a2), (0, a3), (0, a4), (2, (r31831 : Int)), (1, v31873), (9, 0), (1, v31875), (9, 0), (1, v31877), (9, 0), (9, 0), (9, 0)], [(1, v31879)], _, _, _)
                      refine ev_lstore (L' := [(2, 0), (0, a1), (0, a2), (0, a3), (0, a4), (2, (r31831 : Int)), (1, v31873), (9, 0), (1, v31875), (9, 0), (1, v31877), (9, 0), (1, v31879), (9, 0)]) (Nat.le_of_ble_eq_true rfl) rfl ?_
                      refine ev_lload rfl ?_
                      refine ev_lload rfl ?_
                      refine g_lsubG (fun v31880 ev31880 lv31880 uv31880 => ?_)
                      refine ev_lload rfl ?_
                      refine g_lsubG (fun v31881 ev31881 lv31881 uv31881 => ?_)
                      refine ev_lload rfl ?_
                      refine g_laddG (fun v31882 ev31882 lv31882 uv31882 => ?_)
                      refine ev_ldc2_w ?_
                      refine ev_aload_n rfl ?_
                      refine g_getp (r := 0) (c := 1) g31878 ad0 (by decide) (by decide) rf0_0 ft11_0 ?_
                      obtain ⟨v31883, ev31883, lv31883, uv31883⟩ := g31878.rd ad1 (show 1 < 8 by decide) rf1_1
                      refine g_getv (r := 1) (v := v31883) g31878 ad1 (by decide) ft10_1 ev31883 ?_
                      refine g_lmulG (fun v31884 ev31884 lv31884 uv31884 => ?_)
                      refine ev_iload rfl ?_
                      refine ev_call (jcall_s (A := [(0, a4), (1, v31884), (1, v31882)]) (S' := []) (by decide) rfl (Nat.le_of_ble_eq_true rfl)) (jOk_le (by decide) (s223 g31878 (by omega) (by omega) (by omega) (by omega) (by omega) (by omega))) (by decide) (by decide) (fun w31885 h31885 q31885 => ?_)
                      obtain ⟨v31886, rfl, lv31886, uv31886, g31885, kk31885⟩ := q31885
                      have k31885 := k31878.tr kk31885 (by decide)
                      show jEv _ _ _ _ _ _ _ (_, [(2, 0), (0, a1), (0, a2), (0, a3), (0, a4), (2, (r31831 : Int)), (1, v31873), (9, 0), (1, v31875), (9, 0), (1, v31877), (9, 0), (1, v31879), (9, 0)], [(1, v31886)], _, _, _)
                      exact ev_ret rfl (by decide) (by decide) ⟨_, rfl, by omega, by omega, g31885, k31885⟩
                    · refine ev_ldc2_w ?_
                      exact ev_ret rfl (by decide) (by decide) ⟨_, rfl, by omega, by omega, g31869, k31869⟩
    · refine ev_aconst_null ?_
      refine ev_goto f219_22 ?_
      refine ev_ret rfl (by decide) (by decide) ?_
      show jEv _ _ _ _ _ _ _ (_, [(2, 0), (0, a1), (0, a2), (0, a3), (0, a4), (9, 0), (9, 0), (9, 0), (9, 0), (9, 0), (9, 0), (9, 0), (9, 0), (9, 0)], [(2, (-1))], _, _, _)
      refine ev_astore (L' := [(2, 0), (0, a1), (0, a2), (0, a3), (0, a4), (2, (-1)), (9, 0), (9, 0), (9, 0), (9, 0), (9, 0), (9, 0), (9, 0), (9, 0)]) (Nat.le_of_ble_eq_true rfl) rfl ?_
      refine ev_aload rfl ?_
      refine ev_ifnull f188_57 (fun c31887 => ?_) (fun c31887 => absurd c31887 (by decide))
      refine ev_ldc2_w ?_
      exact ev_ret rfl (by decide) (by decide) ⟨_, rfl, by omega, by omega, g, k0⟩
/-! 189 first -/
set_option maxHeartbeats 4000000 in
theorem s189_l {G : GH} {h : JH} {a1 : Int} (la1 : (-2147483648) ≤ a1) (ua1 : a1 ≤ 2147483647) : ∀ N : Nat, (∀ (h1 : JH) (R2 : Nat) (M2 : Int) (x3 x4 x6 : Int) (j7 : AV), IsQ G R2 M2 → Gd G h1 → Kp [(1, 2), (1, 3), (5, 0), (6, 0), (1000000, 0)] h h1 → 0 ≤ a1 → a1 ≤ 5 → 0 ≤ x3 → x3 ≤ 3 → (-9223372036854775808) ≤ x4 → x4 ≤ 9223372036854775807 → 1 ≤ x6 → x6 ≤ 4 → ((-x6) + 4) < N → jEv (jOk 6) none (fun _ => 0) c189_0 0 0 (PI G [(1, 2), (1, 3), (5, 0), (6, 0), (1000000, 0)] h 0 (-4) 3) (c189_56, [(2, 0), (0, a1), (2, (R2 : Int)), (0, x3), (1, x4), (9, 0), (0, x6), j7, (9, 0)], [], h1, 0, 0)) := by
  intro N
  induction N with
  | zero => exact fun h1 R2 M2 x3 x4 x6 j7 Q2 g1 k1 b0 b1 b2 b3 b4 b5 b6 b7 hm => absurd hm (by omega)
  | succ N ih =>
    show _
    intro h1 R2 M2 x3 x4 x6 j7 Q2 g1 k1 b0 b1 b2 b3 b4 b5 b6 b7 hm
    have wR2 := g1.qb Q2
    have zR2 := Q2.1
    refine ev_iload rfl ?_
    refine ev_aload_n rfl ?_
    refine g_getp (r := 0) (c := 1) g1 ad0 (by decide) (by decide) rf0_0 ft11_0 ?_
    obtain ⟨v31943, ev31943, lv31943, uv31943⟩ := g1.rd ad1 (show 0 < 8 by decide) rf1_0
    refine g_getv (r := 1) (v := v31943) g1 ad1 (by decide) ft10_0 ev31943 ?_
    refine ev_icmpge f189_106 (fun c31944 => ?_) (fun c31944 => ?_)
    · refine ev_iload_n rfl ?_
      exact ev_ret rfl (by decide) (by decide) ⟨_, rfl, by omega, by omega, g1, k1⟩
    · refine ev_aload_n rfl ?_
      refine ev_aload_n rfl ?_
      refine g_getp (r := 0) (c := 1) g1 ad0 (by decide) (by decide) rf0_0 ft11_0 ?_
      refine ev_aload_n rfl ?_
      refine g_getp (r := 0) (c := 23) g1 ad0 (by decide) (by decide) rf0_5 ft11_5 ?_
      refine ev_iload rfl ?_
      refine ev_iconst ?_
      refine ev_call (jcall_v (A := [(0, (-1)), (0, x6), (2, 23), (2, 1)]) (S' := []) (r := R2) rfl (g1.qlt Q2) (g1.qtg Q2) (Nat.le_of_ble_eq_true rfl)) (jOk_le (by decide) (s50 g1 Q2 (Or.inl rfl) (by omega) (by omega) (by omega) (by omega))) (by decide) (by decide) (fun w31945 h31945 q31945 => ?_)
      obtain ⟨v31946, rfl, lv31946, uv31946, g31945, kk31945⟩ := q31945
      have k31945 := k1.tr kk31945 (by decide)
      show jEv _ _ _ _ _ _ _ (_, [(2, 0), (0, a1), (2, (R2 : Int)), (0, x3), (1, x4), (9, 0), (0, x6), j7, (9, 0)], [(1, v31946)], _, _, _)
      refine ev_lstore (L' := [(2, 0), (0, a1), (2, (R2 : Int)), (0, x3), (1, x4), (9, 0), (0, x6), (1, v31946), (9, 0)]) (Nat.le_of_ble_eq_true rfl) rfl ?_
      refine ev_lload rfl ?_
      refine ev_lload rfl ?_
      refine ev_lcmp ?_
      refine ev_ifle f189_100 (fun c31947 => ?_) (fun c31947 => ?_)
      · have c31947b := jcmpL_le c31947
        refine ev_iinc (w := (x6 + 1)) (L' := [(2, 0), (0, a1), (2, (R2 : Int)), (0, x3), (1, x4), (9, 0), (0, (x6 + 1)), (1, v31946), (9, 0)]) rfl (by unfold w32; omega) rfl ?_
        refine ev_goto f189_56 ?_
        exact ih _ _ _ _ _ _ _ Q2 g31945 k31945 (by omega) (by omega) (by omega) (by omega) (by omega) (by omega) (by omega) (by omega) (by omega)
      · have c31947b := jcmpL_leN c31947
        refine ev_lload rfl ?_
        refine ev_lstore (L' := [(2, 0), (0, a1), (2, (R2 : Int)), (0, x3), (1, v31946), (9, 0), (0, x6), (1, v31946), (9, 0)]) (Nat.le_of_ble_eq_true rfl) rfl ?_
        refine ev_iload rfl ?_
        refine ev_istore_n (L' := [(2, 0), (0, a1), (2, (R2 : Int)), (0, x6), (1, v31946), (9, 0), (0, x6), (1, v31946), (9, 0)]) (Nat.le_of_ble_eq_true rfl) rfl ?_
        refine ev_iinc (w := (x6 + 1)) (L' := [(2, 0), (0, a1), (2, (R2 : Int)), (0, x6), (1, v31946), (9, 0), (0, (x6 + 1)), (1, v31946), (9, 0)]) rfl (by unfold w32; omega) rfl ?_
        refine ev_goto f189_56 ?_
        exact ih _ _ _ _ _ _ _ Q2 g31945 k31945 (by omega) (by omega) (by omega) (by omega) (by omega) (by omega) (by omega) (by omega) (by omega)
set_option maxHeartbeats 4000000 in
theorem s189 {G : GH} {h : JH} (g : Gd G h) {a1 : Int} (la1 : (-2147483648) ≤ a1) (ua1 : a1 ≤ 2147483647) : jOk 7 0 0 189 [(2, 0), (0, a1)] h (PI G [(1, 2), (1, 3), (5, 0), (6, 0), (1000000, 0)] h 0 (-4) 3) := by
  refine ⟨by decide, by rw [ml189]; exact Nat.le_of_ble_eq_true rfl, ?_⟩
  rw [ml189, pp189]
  show jEv _ none _ c189_0 0 0 _ (c189_0, [(2, 0), (0, a1), (9, 0), (9, 0), (9, 0), (9, 0), (9, 0), (9, 0), (9, 0)], [], h, 0, 0)
  have k0 := Kp.rf [(1, 2), (1, 3), (5, 0), (6, 0), (1000000, 0)] h
  refine ev_aload_n rfl ?_
  refine ev_iload_n rfl ?_
  refine ev_in (d := 5) (a := 0) (b := 0) (cd' := c219_0) (m := 2) (L0 := [(2, 0), (0, a1)]) (jcall_v (A := [(0, a1)]) (S' := []) (r := 0) rfl (g.lt ad0) (g.tg ad0) (Nat.le_of_ble_eq_true rfl)) (by decide) ml219 pp219 (Nat.le_of_ble_eq_true rfl) rfl (by decide) (by decide) ?_
  refine ev_iload_n rfl ?_
  refine ev_iflt f219_12 (fun c31948 => ?_) (fun c31948 => ?_)
  · refine ev_aconst_null ?_
    refine ev_goto f219_22 ?_
    refine ev_ret rfl (by decide) (by decide) ?_
    show jEv _ _ _ _ _ _ _ (_, [(2, 0), (0, a1), (9, 0), (9, 0), (9, 0), (9, 0), (9, 0), (9, 0), (9, 0)], [(2, (-1))], _, _, _)
    refine ev_astore_n (L' := [(2, 0), (0, a1), (2, (-1)), (9, 0), (9, 0), (9, 0), (9, 0), (9, 0), (9, 0)]) (Nat.le_of_ble_eq_true rfl) rfl ?_
    refine ev_aload_n rfl ?_
    refine ev_ifnull f189_20 (fun c31949 => ?_) (fun c31949 => absurd c31949 (by decide))
    refine ev_iconst ?_
    exact ev_ret rfl (by decide) (by decide) ⟨_, rfl, by omega, by omega, g, k0⟩
  · refine ev_iload_n rfl ?_
    refine ev_aload_n rfl ?_
    obtain ⟨v31950, ev31950, lv31950, uv31950⟩ := g.rd ad0 (show 3 < 17 by decide) rf0_3
    refine g_getv (r := 0) (v := v31950) g ad0 (by decide) ft11_3 ev31950 ?_
    refine ev_icmplt f219_16 (fun c31951 => ?_) (fun c31951 => ?_)
    · refine ev_aload_n rfl ?_
      refine g_getp (r := 0) (c := 18) g ad0 (by decide) (by decide) rf0_2 ft11_2 ?_
      refine ev_iload_n rfl ?_
      refine g_qaald (g) (i := a1) (ev31950) (by omega) (by omega) (fun r31952 m31953 qr31952 => ?_)
      have wr31952 := g.qb qr31952
      have zr31952 := qr31952.1
      refine ev_ret rfl (by decide) (by decide) ?_
      show jEv _ _ _ _ _ _ _ (_, [(2, 0), (0, a1), (9, 0), (9, 0), (9, 0), (9, 0), (9, 0), (9, 0), (9, 0)], [(2, (r31952 : Int))], _, _, _)
      refine ev_astore_n (L' := [(2, 0), (0, a1), (2, (r31952 : Int)), (9, 0), (9, 0), (9, 0), (9, 0), (9, 0), (9, 0)]) (Nat.le_of_ble_eq_true rfl) rfl ?_
      refine ev_aload_n rfl ?_
      refine ev_ifnull f189_20 (fun c31954 => absurd c31954 (by omega)) (fun c31954 => ?_)
      refine ev_aload_n rfl ?_
      refine g_getp (r := 0) (c := 1) g ad0 (by decide) (by decide) rf0_0 ft11_0 ?_
      obtain ⟨v31955, ev31955, lv31955, uv31955⟩ := g.rd ad1 (show 0 < 8 by decide) rf1_0
      refine g_getv (r := 1) (v := v31955) g ad1 (by decide) ft10_0 ev31955 ?_
      refine ev_ifne f189_22 (fun c31956 => ?_) (fun c31956 => ?_)
      · refine ev_aload_n rfl ?_
        refine g_getp (r := 0) (c := 1) g ad0 (by decide) (by decide) rf0_0 ft11_0 ?_
        refine ev_call (jcall_v (A := []) (S' := []) (r := 1) rfl (g.lt ad1) (g.tg ad1) (Nat.le_of_ble_eq_true rfl)) (jOk_le (by decide) (s153 g )) (by decide) (by decide) (fun w31957 h31957 q31957 => ?_)
        obtain ⟨v31958, rfl, lv31958, uv31958, g31957, kk31957⟩ := q31957
        have k31957 := k0.tr kk31957 (by decide)
        show jEv _ _ _ _ _ _ _ (_, [(2, 0), (0, a1), (2, (r31952 : Int)), (9, 0), (9, 0), (9, 0), (9, 0), (9, 0), (9, 0)], [(0, v31958)], _, _, _)
        refine ev_ifne f189_35 (fun c31959 => ?_) (fun c31959 => ?_)
        · refine ev_iconst ?_
          refine ev_istore_n (L' := [(2, 0), (0, a1), (2, (r31952 : Int)), (0, 0), (9, 0), (9, 0), (9, 0), (9, 0), (9, 0)]) (Nat.le_of_ble_eq_true rfl) rfl ?_
          refine ev_aload_n rfl ?_
          refine ev_aload_n rfl ?_
          refine g_getp (r := 0) (c := 1) g31957 ad0 (by decide) (by decide) rf0_0 ft11_0 ?_
          refine ev_aload_n rfl ?_
          refine g_getp (r := 0) (c := 23) g31957 ad0 (by decide) (by decide) rf0_5 ft11_5 ?_
          refine ev_iconst ?_
          refine ev_iconst ?_
          refine ev_call (jcall_v (A := [(0, (-1)), (0, 0), (2, 23), (2, 1)]) (S' := []) (r := r31952) rfl (g31957.qlt qr31952) (g31957.qtg qr31952) (Nat.le_of_ble_eq_true rfl)) (jOk_le (by decide) (s50 g31957 qr31952 (Or.inl rfl) (by omega) (by omega) (by omega) (by omega))) (by decide) (by decide) (fun w31960 h31960 q31960 => ?_)
          obtain ⟨v31961, rfl, lv31961, uv31961, g31960, kk31960⟩ := q31960
          have k31960 := k31957.tr kk31960 (by decide)
          show jEv _ _ _ _ _ _ _ (_, [(2, 0), (0, a1), (2, (r31952 : Int)), (0, 0), (9, 0), (9, 0), (9, 0), (9, 0), (9, 0)], [(1, v31961)], _, _, _)
          refine ev_lstore (L' := [(2, 0), (0, a1), (2, (r31952 : Int)), (0, 0), (1, v31961), (9, 0), (9, 0), (9, 0), (9, 0)]) (Nat.le_of_ble_eq_true rfl) rfl ?_
          refine ev_iconst ?_
          refine ev_istore (L' := [(2, 0), (0, a1), (2, (r31952 : Int)), (0, 0), (1, v31961), (9, 0), (0, 1), (9, 0), (9, 0)]) (Nat.le_of_ble_eq_true rfl) rfl ?_
          exact (s189_l la1 ua1 8) _ _ _ _ _ _ _ qr31952 g31960 k31960 (by omega) (by omega) (by omega) (by omega) (by omega) (by omega) (by omega) (by omega) (by omega)
        · refine ev_bipush ?_
          exact ev_ret rfl (by decide) (by decide) ⟨_, rfl, by omega, by omega, g31957, k31957⟩
      · refine ev_iconst ?_
        exact ev_ret rfl (by decide) (by decide) ⟨_, rfl, by omega, by omega, g, k0⟩
    · refine ev_aconst_null ?_
      refine ev_goto f219_22 ?_
      refine ev_ret rfl (by decide) (by decide) ?_
      show jEv _ _ _ _ _ _ _ (_, [(2, 0), (0, a1), (9, 0), (9, 0), (9, 0), (9, 0), (9, 0), (9, 0), (9, 0)], [(2, (-1))], _, _, _)
      refine ev_astore_n (L' := [(2, 0), (0, a1), (2, (-1)), (9, 0), (9, 0), (9, 0), (9, 0), (9, 0), (9, 0)]) (Nat.le_of_ble_eq_true rfl) rfl ?_
      refine ev_aload_n rfl ?_
      refine ev_ifnull f189_20 (fun c31962 => ?_) (fun c31962 => absurd c31962 (by decide))
      refine ev_iconst ?_
      exact ev_ret rfl (by decide) (by decide) ⟨_, rfl, by omega, by omega, g, k0⟩
/-! 231 edgeOfWeight -/
set_option maxHeartbeats 4000000 in
theorem s231_l {G : GH} {h : JH} {r1 : Nat} {m1 : Int} (q1 : IsQ G r1 m1) {a2 : Int} (la2 : 0 ≤ a2) (ua2 : a2 ≤ 35) {a3 : Int} (la3 : 0 ≤ a3) (ua3 : a3 ≤ 1) : ∀ N : Nat, (∀ (h1 : JH) (x4 x5 x6 x7 x8 : Int), Gd G h1 → Kp [(1, 2), (1, 3), (5, 0), (6, 0), (4, 0), (1000000, 0)] h h1 → 0 ≤ a2 → a2 ≤ 35 → 0 ≤ a3 → a3 ≤ 1 → (-2147483648) ≤ x4 → x4 ≤ 2147483647 → (-1) ≤ x5 → x5 ≤ 3 → (-2) ≤ x6 → x6 ≤ 40 → (-2147483648) ≤ x7 → x7 ≤ 40 → 1 ≤ x8 → x8 ≤ 41 → ((-x8) + 41) < N → jEv (jOk 5) none (fun _ => 0) c231_0 0 0 (PI G [(1, 2), (1, 3), (5, 0), (6, 0), (4, 0), (1000000, 0)] h 0 (-2) 40) (c231_65, [(2, 0), (2, (r1 : Int)), (0, a2), (0, a3), (0, x4), (0, x5), (0, x6), (0, x7), (0, x8)], [], h1, 0, 0)) := by
  intro N
  induction N with
  | zero => exact fun h1 x4 x5 x6 x7 x8 g1 k1 b0 b1 b2 b3 b4 b5 b6 b7 b8 b9 b10 b11 b12 b13 hm => absurd hm (by omega)
  | succ N ih =>
    show _
    intro h1 x4 x5 x6 x7 x8 g1 k1 b0 b1 b2 b3 b4 b5 b6 b7 b8 b9 b10 b11 b12 b13 hm
    have wr1 := g1.qb q1
    have zr1 := q1.1
    refine ev_iload rfl ?_
    refine ev_iload rfl ?_
    refine ev_icmpgt f231_155 (fun c35064 => ?_) (fun c35064 => ?_)
    · refine ev_aload_n rfl ?_
      refine g_getp (r := 0) (c := 1) g1 ad0 (by decide) (by decide) rf0_0 ft11_0 ?_
      refine ev_iload_n rfl ?_
      refine ev_iload rfl ?_
      refine ev_in (d := 4) (a := 0) (b := 0) (cd' := c149_0) (m := 3) (L0 := [(2, 1), (0, a2), (0, x4)]) (jcall_v (A := [(0, x4), (0, a2)]) (S' := []) (r := 1) rfl (g1.lt ad1) (g1.tg ad1) (Nat.le_of_ble_eq_true rfl)) (by decide) ml149 pp149 (Nat.le_of_ble_eq_true rfl) rfl (by decide) (by decide) ?_
      refine ev_iload_n rfl ?_
      refine ev_iflt f149_32 (fun c35065 => absurd c35065 (by omega)) (fun c35065 => ?_)
      refine ev_iload_n rfl ?_
      refine ev_bipush ?_
      refine ev_icmpge f149_32 (fun c35066 => absurd c35066 (by omega)) (fun c35066 => ?_)
      refine ev_aload_n rfl ?_
      refine g_getp (r := 1) (c := 4) g1 ad1 (by decide) (by decide) rf1_5 ft10_5 ?_
      refine ev_iload_n rfl ?_
      refine g_iald g1 ad4 rt4 (by omega) (by omega) (fun v35067 ev35067 lv35067 uv35067 => ?_)
      refine ev_iload_n rfl ?_
      refine ev_icmpeq f149_32 (fun c35068 => ?_) (fun c35068 => ?_)
      · refine ev_ret rfl (by decide) (by decide) ?_
        show jEv _ _ _ _ _ _ _ (_, [(2, 0), (2, (r1 : Int)), (0, a2), (0, a3), (0, x4), (0, x5), (0, x6), (0, x7), (0, x8)], [], _, _, _)
        refine ev_iload rfl ?_
        exact ev_ret rfl (by decide) (by decide) ⟨_, rfl, by omega, by omega, g1, k1⟩
      · refine ev_aload_n rfl ?_
        refine g_getp (r := 1) (c := 4) g1 ad1 (by decide) (by decide) rf1_5 ft10_5 ?_
        refine ev_iload_n rfl ?_
        refine ev_iload_n rfl ?_
        refine g_iast g1 ad4 rt4 (fun _ => rfl) (by omega) (by omega) (by omega) (by omega) (fun h35069 e35069 g35069 => ?_)
        have k35069 := k1.wr e35069 rfl
        refine ev_aload_n rfl ?_
        refine ev_iconst ?_
        refine g_putf (r := 1) g35069 ad1 (by decide) ft10_2 (by decide) (fun _ => by omega) rf1_2 (by decide) (by omega) (by omega) (fun h35070 e35070 g35070 => ?_)
        have k35070 := k35069.wr e35070 rfl
        refine ev_ret rfl (by decide) (by decide) ?_
        show jEv _ _ _ _ _ _ _ (_, [(2, 0), (2, (r1 : Int)), (0, a2), (0, a3), (0, x4), (0, x5), (0, x6), (0, x7), (0, x8)], [], _, _, _)
        refine ev_iload rfl ?_
        exact ev_ret rfl (by decide) (by decide) ⟨_, rfl, by omega, by omega, g35070, k35070⟩
    · refine ev_iload rfl ?_
      refine ev_bipush ?_
      refine ev_icmpne f231_155 (fun c35071 => ?_) (fun c35071 => ?_)
      · refine ev_aload_n rfl ?_
        refine g_getp (r := 0) (c := 1) g1 ad0 (by decide) (by decide) rf0_0 ft11_0 ?_
        refine ev_iload_n rfl ?_
        refine ev_iload rfl ?_
        refine ev_in (d := 4) (a := 0) (b := 0) (cd' := c149_0) (m := 3) (L0 := [(2, 1), (0, a2), (0, x4)]) (jcall_v (A := [(0, x4), (0, a2)]) (S' := []) (r := 1) rfl (g1.lt ad1) (g1.tg ad1) (Nat.le_of_ble_eq_true rfl)) (by decide) ml149 pp149 (Nat.le_of_ble_eq_true rfl) rfl (by decide) (by decide) ?_
        refine ev_iload_n rfl ?_
        refine ev_iflt f149_32 (fun c35072 => absurd c35072 (by omega)) (fun c35072 => ?_)
        refine ev_iload_n rfl ?_
        refine ev_bipush ?_
        refine ev_icmpge f149_32 (fun c35073 => absurd c35073 (by omega)) (fun c35073 => ?_)
        refine ev_aload_n rfl ?_
        refine g_getp (r := 1) (c := 4) g1 ad1 (by decide) (by decide) rf1_5 ft10_5 ?_
        refine ev_iload_n rfl ?_
        refine g_iald g1 ad4 rt4 (by omega) (by omega) (fun v35074 ev35074 lv35074 uv35074 => ?_)
        refine ev_iload_n rfl ?_
        refine ev_icmpeq f149_32 (fun c35075 => ?_) (fun c35075 => ?_)
        · refine ev_ret rfl (by decide) (by decide) ?_
          show jEv _ _ _ _ _ _ _ (_, [(2, 0), (2, (r1 : Int)), (0, a2), (0, a3), (0, x4), (0, x5), (0, x6), (0, x7), (0, x8)], [], _, _, _)
          refine ev_iload rfl ?_
          exact ev_ret rfl (by decide) (by decide) ⟨_, rfl, by omega, by omega, g1, k1⟩
        · refine ev_aload_n rfl ?_
          refine g_getp (r := 1) (c := 4) g1 ad1 (by decide) (by decide) rf1_5 ft10_5 ?_
          refine ev_iload_n rfl ?_
          refine ev_iload_n rfl ?_
          refine g_iast g1 ad4 rt4 (fun _ => rfl) (by omega) (by omega) (by omega) (by omega) (fun h35076 e35076 g35076 => ?_)
          have k35076 := k1.wr e35076 rfl
          refine ev_aload_n rfl ?_
          refine ev_iconst ?_
          refine g_putf (r := 1) g35076 ad1 (by decide) ft10_2 (by decide) (fun _ => by omega) rf1_2 (by decide) (by omega) (by omega) (fun h35077 e35077 g35077 => ?_)
          have k35077 := k35076.wr e35077 rfl
          refine ev_ret rfl (by decide) (by decide) ?_
          show jEv _ _ _ _ _ _ _ (_, [(2, 0), (2, (r1 : Int)), (0, a2), (0, a3), (0, x4), (0, x5), (0, x6), (0, x7), (0, x8)], [], _, _, _)
          refine ev_iload rfl ?_
          exact ev_ret rfl (by decide) (by decide) ⟨_, rfl, by omega, by omega, g35077, k35077⟩
      · refine ev_aload_n rfl ?_
        refine g_getp (r := 0) (c := 1) g1 ad0 (by decide) (by decide) rf0_0 ft11_0 ?_
        refine ev_iload_n rfl ?_
        refine ev_iload_n rfl ?_
        refine ev_iconst ?_
        refine ev_icmpne f231_97 (fun c35078 => ?_) (fun c35078 => ?_)
        · refine ev_iload rfl ?_
          refine ev_iload rfl ?_
          refine g_isubG (fun v35079 ev35079 lv35079 uv35079 => ?_)
          refine ev_in (d := 4) (a := 0) (b := 0) (cd' := c149_0) (m := 3) (L0 := [(2, 1), (0, a2), (0, v35079)]) (jcall_v (A := [(0, v35079), (0, a2)]) (S' := []) (r := 1) rfl (g1.lt ad1) (g1.tg ad1) (Nat.le_of_ble_eq_true rfl)) (by decide) ml149 pp149 (Nat.le_of_ble_eq_true rfl) rfl (by decide) (by decide) ?_
          refine ev_iload_n rfl ?_
          refine ev_iflt f149_32 (fun c35080 => absurd c35080 (by omega)) (fun c35080 => ?_)
          refine ev_iload_n rfl ?_
          refine ev_bipush ?_
          refine ev_icmpge f149_32 (fun c35081 => absurd c35081 (by omega)) (fun c35081 => ?_)
          refine ev_aload_n rfl ?_
          refine g_getp (r := 1) (c := 4) g1 ad1 (by decide) (by decide) rf1_5 ft10_5 ?_
          refine ev_iload_n rfl ?_
          refine g_iald g1 ad4 rt4 (by omega) (by omega) (fun v35082 ev35082 lv35082 uv35082 => ?_)
          refine ev_iload_n rfl ?_
          refine ev_icmpeq f149_32 (fun c35083 => ?_) (fun c35083 => ?_)
          · refine ev_ret rfl (by decide) (by decide) ?_
            show jEv _ _ _ _ _ _ _ (_, [(2, 0), (2, (r1 : Int)), (0, a2), (0, a3), (0, x4), (0, x5), (0, x6), (0, x7), (0, x8)], [], _, _, _)
            refine ev_aload_n rfl ?_
            refine g_getp (r := 0) (c := 1) g1 ad0 (by decide) (by decide) rf0_0 ft11_0 ?_
            refine ev_call (jcall_v (A := []) (S' := []) (r := 1) rfl (g1.lt ad1) (g1.tg ad1) (Nat.le_of_ble_eq_true rfl)) (jOk_le (by decide) (s153 g1 )) (by decide) (by decide) (fun w35084 h35084 q35084 => ?_)
            obtain ⟨v35085, rfl, lv35085, uv35085, g35084, kk35084⟩ := q35084
            have k35084 := k1.tr kk35084 (by decide)
            show jEv _ _ _ _ _ _ _ (_, [(2, 0), (2, (r1 : Int)), (0, a2), (0, a3), (0, x4), (0, x5), (0, x6), (0, x7), (0, x8)], [(0, v35085)], _, _, _)
            refine ev_ifne f231_118 (fun c35086 => ?_) (fun c35086 => ?_)
            · refine ev_aload_n rfl ?_
              refine ev_aload_n rfl ?_
              refine g_getp (r := 0) (c := 1) g35084 ad0 (by decide) (by decide) rf0_0 ft11_0 ?_
              refine ev_aload_n rfl ?_
              refine g_getp (r := 0) (c := 23) g35084 ad0 (by decide) (by decide) rf0_5 ft11_5 ?_
              refine ev_iconst ?_
              refine ev_call (jcall_v (A := [(0, 0), (2, 23), (2, 1)]) (S' := []) (r := r1) rfl (g35084.qlt q1) (g35084.qtg q1) (Nat.le_of_ble_eq_true rfl)) (jOk_le (by decide) (s47 g35084 q1 (Or.inl rfl) (by omega) (by omega))) (by decide) (by decide) (fun w35087 h35087 q35087 => ?_)
              obtain ⟨v35088, rfl, lv35088, uv35088, g35087, kk35087⟩ := q35087
              have k35087 := k35084.tr kk35087 (by decide)
              show jEv _ _ _ _ _ _ _ (_, [(2, 0), (2, (r1 : Int)), (0, a2), (0, a3), (0, x4), (0, x5), (0, x6), (0, x7), (0, x8)], [(1, v35088)], _, _, _)
              refine ev_pop2 ?_
              refine ev_aload_n rfl ?_
              refine ev_aload_n rfl ?_
              obtain ⟨v35089, ev35089, lv35089, uv35089⟩ := g35087.q1 q1
              refine g_qgetv (v := v35089) g35087 q1 ft4_1 ev35089 ?_
              refine ev_in (d := 4) (a := 0) (b := 0) (cd' := c38_0) (m := 2) (L0 := [(2, (r1 : Int)), (0, v35089)]) (jcall_v (A := [(0, v35089)]) (S' := []) (r := r1) rfl (g35087.qlt q1) (g35087.qtg q1) (Nat.le_of_ble_eq_true rfl)) (by decide) ml38 pp38 (Nat.le_of_ble_eq_true rfl) rfl (by decide) (by decide) ?_
              refine ev_aload_n rfl ?_
              refine ev_iload_n rfl ?_
              refine ev_in (d := 3) (a := 0) (b := 0) (cd' := c24_0) (m := 2) (L0 := [(2, (r1 : Int)), (0, v35089)]) (jcall_v (A := [(0, v35089)]) (S' := []) (r := r1) rfl (g35087.qlt q1) (g35087.qtg q1) (Nat.le_of_ble_eq_true rfl)) (by decide) ml24 pp24 (Nat.le_of_ble_eq_true rfl) rfl (by decide) (by decide) ?_
              refine ev_iload_n rfl ?_
              refine ev_iflt f24_16 (fun c35090 => ?_) (fun c35090 => ?_)
              · refine ev_iconst ?_
                refine ev_ret rfl (by decide) (by decide) ?_
                show jEv _ _ _ _ _ _ _ (_, [(2, (r1 : Int)), (0, v35089)], [(0, 0)], _, _, _)
                refine ev_ifeq f38_17 (fun c35091 => ?_) (fun c35091 => absurd c35091 (by omega))
                refine ev_iconst ?_
                refine ev_ret rfl (by decide) (by decide) ?_
                show jEv _ _ _ _ _ _ _ (_, [(2, 0), (2, (r1 : Int)), (0, a2), (0, a3), (0, x4), (0, x5), (0, x6), (0, x7), (0, x8)], [(0, (-1))], _, _, _)
                refine ev_iload rfl ?_
                refine ev_icmpeq f231_149 (fun c35092 => ?_) (fun c35092 => ?_)
                · refine ev_iinc (w := (x8 + 1)) (L' := [(2, 0), (2, (r1 : Int)), (0, a2), (0, a3), (0, x4), (0, x5), (0, x6), (0, x7), (0, (x8 + 1))]) rfl (by unfold w32; omega) rfl ?_
                  refine ev_goto f231_65 ?_
                  exact ih _ _ _ _ _ _ g35087 k35087 (by omega) (by omega) (by omega) (by omega) (by omega) (by omega) (by omega) (by omega) (by omega) (by omega) (by omega) (by omega) (by omega) (by omega) (by omega)
                · refine ev_iload rfl ?_
                  refine ev_istore (L' := [(2, 0), (2, (r1 : Int)), (0, a2), (0, a3), (0, x4), (0, x5), (0, x8), (0, x7), (0, x8)]) (Nat.le_of_ble_eq_true rfl) rfl ?_
                  refine ev_iinc (w := (x8 + 1)) (L' := [(2, 0), (2, (r1 : Int)), (0, a2), (0, a3), (0, x4), (0, x5), (0, x8), (0, x7), (0, (x8 + 1))]) rfl (by unfold w32; omega) rfl ?_
                  refine ev_goto f231_65 ?_
                  exact ih _ _ _ _ _ _ g35087 k35087 (by omega) (by omega) (by omega) (by omega) (by omega) (by omega) (by omega) (by omega) (by omega) (by omega) (by omega) (by omega) (by omega) (by omega) (by omega)
              · refine ev_iload_n rfl ?_
                refine ev_aload_n rfl ?_
                obtain ⟨v35093, ev35093, lv35093, uv35093⟩ := g35087.q0 q1
                refine g_qgetv (v := v35093) g35087 q1 ft4_0 ev35093 ?_
                refine ev_icmpge f24_16 (fun c35094 => ?_) (fun c35094 => ?_)
                · refine ev_iconst ?_
                  refine ev_ret rfl (by decide) (by decide) ?_
                  show jEv _ _ _ _ _ _ _ (_, [(2, (r1 : Int)), (0, v35089)], [(0, 0)], _, _, _)
                  refine ev_ifeq f38_17 (fun c35095 => ?_) (fun c35095 => absurd c35095 (by omega))
                  refine ev_iconst ?_
                  refine ev_ret rfl (by decide) (by decide) ?_
                  show jEv _ _ _ _ _ _ _ (_, [(2, 0), (2, (r1 : Int)), (0, a2), (0, a3), (0, x4), (0, x5), (0, x6), (0, x7), (0, x8)], [(0, (-1))], _, _, _)
                  refine ev_iload rfl ?_
                  refine ev_icmpeq f231_149 (fun c35096 => ?_) (fun c35096 => ?_)
                  · refine ev_iinc (w := (x8 + 1)) (L' := [(2, 0), (2, (r1 : Int)), (0, a2), (0, a3), (0, x4), (0, x5), (0, x6), (0, x7), (0, (x8 + 1))]) rfl (by unfold w32; omega) rfl ?_
                    refine ev_goto f231_65 ?_
                    exact ih _ _ _ _ _ _ g35087 k35087 (by omega) (by omega) (by omega) (by omega) (by omega) (by omega) (by omega) (by omega) (by omega) (by omega) (by omega) (by omega) (by omega) (by omega) (by omega)
                  · refine ev_iload rfl ?_
                    refine ev_istore (L' := [(2, 0), (2, (r1 : Int)), (0, a2), (0, a3), (0, x4), (0, x5), (0, x8), (0, x7), (0, x8)]) (Nat.le_of_ble_eq_true rfl) rfl ?_
                    refine ev_iinc (w := (x8 + 1)) (L' := [(2, 0), (2, (r1 : Int)), (0, a2), (0, a3), (0, x4), (0, x5), (0, x8), (0, x7), (0, (x8 + 1))]) rfl (by unfold w32; omega) rfl ?_
                    refine ev_goto f231_65 ?_
                    exact ih _ _ _ _ _ _ g35087 k35087 (by omega) (by omega) (by omega) (by omega) (by omega) (by omega) (by omega) (by omega) (by omega) (by omega) (by omega) (by omega) (by omega) (by omega) (by omega)
                · refine ev_iconst ?_
                  refine ev_goto f24_17 ?_
                  refine ev_ret rfl (by decide) (by decide) ?_
                  show jEv _ _ _ _ _ _ _ (_, [(2, (r1 : Int)), (0, v35089)], [(0, 1)], _, _, _)
                  refine ev_ifeq f38_17 (fun c35097 => absurd c35097 (by omega)) (fun c35097 => ?_)
                  refine ev_aload_n rfl ?_
                  refine g_qgetp g35087 q1 (c := 10) (by decide) (by decide) ft4_10 ?_
                  refine ev_iload_n rfl ?_
                  refine g_qiald g35087 q1 (c := 10) (by decide) (by decide) (by decide) (by omega) (by show v35089 < m1; omega) rfl (fun v35098 ev35098 lv35098 uv35098 => ?_)
                  refine ev_goto f38_18 ?_
                  refine ev_ret rfl (by decide) (by decide) ?_
                  show jEv _ _ _ _ _ _ _ (_, [(2, 0), (2, (r1 : Int)), (0, a2), (0, a3), (0, x4), (0, x5), (0, x6), (0, x7), (0, x8)], [(0, v35098)], _, _, _)
                  refine ev_iload rfl ?_
                  refine ev_icmpeq f231_149 (fun c35099 => ?_) (fun c35099 => ?_)
                  · refine ev_iinc (w := (x8 + 1)) (L' := [(2, 0), (2, (r1 : Int)), (0, a2), (0, a3), (0, x4), (0, x5), (0, x6), (0, x7), (0, (x8 + 1))]) rfl (by unfold w32; omega) rfl ?_
                    refine ev_goto f231_65 ?_
                    exact ih _ _ _ _ _ _ g35087 k35087 (by omega) (by omega) (by omega) (by omega) (by omega) (by omega) (by omega) (by omega) (by omega) (by omega) (by omega) (by omega) (by omega) (by omega) (by omega)
                  · refine ev_iload rfl ?_
                    refine ev_istore (L' := [(2, 0), (2, (r1 : Int)), (0, a2), (0, a3), (0, x4), (0, x5), (0, x8), (0, x7), (0, x8)]) (Nat.le_of_ble_eq_true rfl) rfl ?_
                    refine ev_iinc (w := (x8 + 1)) (L' := [(2, 0), (2, (r1 : Int)), (0, a2), (0, a3), (0, x4), (0, x5), (0, x8), (0, x7), (0, (x8 + 1))]) rfl (by unfold w32; omega) rfl ?_
                    refine ev_goto f231_65 ?_
                    exact ih _ _ _ _ _ _ g35087 k35087 (by omega) (by omega) (by omega) (by omega) (by omega) (by omega) (by omega) (by omega) (by omega) (by omega) (by omega) (by omega) (by omega) (by omega) (by omega)
            · refine ev_goto f231_155 ?_
              refine ev_aload_n rfl ?_
              refine g_getp (r := 0) (c := 1) g35084 ad0 (by decide) (by decide) rf0_0 ft11_0 ?_
              refine ev_iload_n rfl ?_
              refine ev_iload rfl ?_
              refine ev_in (d := 4) (a := 0) (b := 0) (cd' := c149_0) (m := 3) (L0 := [(2, 1), (0, a2), (0, x4)]) (jcall_v (A := [(0, x4), (0, a2)]) (S' := []) (r := 1) rfl (g35084.lt ad1) (g35084.tg ad1) (Nat.le_of_ble_eq_true rfl)) (by decide) ml149 pp149 (Nat.le_of_ble_eq_true rfl) rfl (by decide) (by decide) ?_
              refine ev_iload_n rfl ?_
              refine ev_iflt f149_32 (fun c35100 => absurd c35100 (by omega)) (fun c35100 => ?_)
              refine ev_iload_n rfl ?_
              refine ev_bipush ?_
              refine ev_icmpge f149_32 (fun c35101 => absurd c35101 (by omega)) (fun c35101 => ?_)
              refine ev_aload_n rfl ?_
              refine g_getp (r := 1) (c := 4) g35084 ad1 (by decide) (by decide) rf1_5 ft10_5 ?_
              refine ev_iload_n rfl ?_
              refine g_ialdv (v := v35082) g35084 ad4 (by omega) (by omega) (((kk35084.v rfl).trans ev35082)) ?_
              refine ev_iload_n rfl ?_
              refine ev_icmpeq f149_32 (fun c35102 => ?_) (fun c35102 => ?_)
              · refine ev_ret rfl (by decide) (by decide) ?_
                show jEv _ _ _ _ _ _ _ (_, [(2, 0), (2, (r1 : Int)), (0, a2), (0, a3), (0, x4), (0, x5), (0, x6), (0, x7), (0, x8)], [], _, _, _)
                refine ev_iload rfl ?_
                exact ev_ret rfl (by decide) (by decide) ⟨_, rfl, by omega, by omega, g35084, k35084⟩
              · refine ev_aload_n rfl ?_
                refine g_getp (r := 1) (c := 4) g35084 ad1 (by decide) (by decide) rf1_5 ft10_5 ?_
                refine ev_iload_n rfl ?_
                refine ev_iload_n rfl ?_
                refine g_iast g35084 ad4 rt4 (fun _ => rfl) (by omega) (by omega) (by omega) (by omega) (fun h35103 e35103 g35103 => ?_)
                have k35103 := k35084.wr e35103 rfl
                refine ev_aload_n rfl ?_
                refine ev_iconst ?_
                refine g_putf (r := 1) g35103 ad1 (by decide) ft10_2 (by decide) (fun _ => by omega) rf1_2 (by decide) (by omega) (by omega) (fun h35104 e35104 g35104 => ?_)
                have k35104 := k35103.wr e35104 rfl
                refine ev_ret rfl (by decide) (by decide) ?_
                show jEv _ _ _ _ _ _ _ (_, [(2, 0), (2, (r1 : Int)), (0, a2), (0, a3), (0, x4), (0, x5), (0, x6), (0, x7), (0, x8)], [], _, _, _)
                refine ev_iload rfl ?_
                exact ev_ret rfl (by decide) (by decide) ⟨_, rfl, by omega, by omega, g35104, k35104⟩
          · refine ev_aload_n rfl ?_
            refine g_getp (r := 1) (c := 4) g1 ad1 (by decide) (by decide) rf1_5 ft10_5 ?_
            refine ev_iload_n rfl ?_
            refine ev_iload_n rfl ?_
            refine g_iast g1 ad4 rt4 (fun _ => rfl) (by omega) (by omega) (by omega) (by omega) (fun h35105 e35105 g35105 => ?_)
            have k35105 := k1.wr e35105 rfl
            refine ev_aload_n rfl ?_
            refine ev_iconst ?_
            refine g_putf (r := 1) g35105 ad1 (by decide) ft10_2 (by decide) (fun _ => by omega) rf1_2 (by decide) (by omega) (by omega) (fun h35106 e35106 g35106 => ?_)
            have k35106 := k35105.wr e35106 rfl
            refine ev_ret rfl (by decide) (by decide) ?_
            show jEv _ _ _ _ _ _ _ (_, [(2, 0), (2, (r1 : Int)), (0, a2), (0, a3), (0, x4), (0, x5), (0, x6), (0, x7), (0, x8)], [], _, _, _)
            refine ev_aload_n rfl ?_
            refine g_getp (r := 0) (c := 1) g35106 ad0 (by decide) (by decide) rf0_0 ft11_0 ?_
            refine ev_call (jcall_v (A := []) (S' := []) (r := 1) rfl (g35106.lt ad1) (g35106.tg ad1) (Nat.le_of_ble_eq_true rfl)) (jOk_le (by decide) (s153 g35106 )) (by decide) (by decide) (fun w35107 h35107 q35107 => ?_)
            obtain ⟨v35108, rfl, lv35108, uv35108, g35107, kk35107⟩ := q35107
            have k35107 := k35106.tr kk35107 (by decide)
            show jEv _ _ _ _ _ _ _ (_, [(2, 0), (2, (r1 : Int)), (0, a2), (0, a3), (0, x4), (0, x5), (0, x6), (0, x7), (0, x8)], [(0, v35108)], _, _, _)
            refine ev_ifne f231_118 (fun c35109 => ?_) (fun c35109 => ?_)
            · refine ev_aload_n rfl ?_
              refine ev_aload_n rfl ?_
              refine g_getp (r := 0) (c := 1) g35107 ad0 (by decide) (by decide) rf0_0 ft11_0 ?_
              refine ev_aload_n rfl ?_
              refine g_getp (r := 0) (c := 23) g35107 ad0 (by decide) (by decide) rf0_5 ft11_5 ?_
              refine ev_iconst ?_
              refine ev_call (jcall_v (A := [(0, 0), (2, 23), (2, 1)]) (S' := []) (r := r1) rfl (g35107.qlt q1) (g35107.qtg q1) (Nat.le_of_ble_eq_true rfl)) (jOk_le (by decide) (s47 g35107 q1 (Or.inl rfl) (by omega) (by omega))) (by decide) (by decide) (fun w35110 h35110 q35110 => ?_)
              obtain ⟨v35111, rfl, lv35111, uv35111, g35110, kk35110⟩ := q35110
              have k35110 := k35107.tr kk35110 (by decide)
              show jEv _ _ _ _ _ _ _ (_, [(2, 0), (2, (r1 : Int)), (0, a2), (0, a3), (0, x4), (0, x5), (0, x6), (0, x7), (0, x8)], [(1, v35111)], _, _, _)
              refine ev_pop2 ?_
              refine ev_aload_n rfl ?_
              refine ev_aload_n rfl ?_
              obtain ⟨v35112, ev35112, lv35112, uv35112⟩ := g35110.q1 q1
              refine g_qgetv (v := v35112) g35110 q1 ft4_1 ev35112 ?_
              refine ev_in (d := 4) (a := 0) (b := 0) (cd' := c38_0) (m := 2) (L0 := [(2, (r1 : Int)), (0, v35112)]) (jcall_v (A := [(0, v35112)]) (S' := []) (r := r1) rfl (g35110.qlt q1) (g35110.qtg q1) (Nat.le_of_ble_eq_true rfl)) (by decide) ml38 pp38 (Nat.le_of_ble_eq_true rfl) rfl (by decide) (by decide) ?_
              refine ev_aload_n rfl ?_
              refine ev_iload_n rfl ?_
              refine ev_in (d := 3) (a := 0) (b := 0) (cd' := c24_0) (m := 2) (L0 := [(2, (r1 : Int)), (0, v35112)]) (jcall_v (A := [(0, v35112)]) (S' := []) (r := r1) rfl (g35110.qlt q1) (g35110.qtg q1) (Nat.le_of_ble_eq_true rfl)) (by decide) ml24 pp24 (Nat.le_of_ble_eq_true rfl) rfl (by decide) (by decide) ?_
              refine ev_iload_n rfl ?_
              refine ev_iflt f24_16 (fun c35113 => ?_) (fun c35113 => ?_)
              · refine ev_iconst ?_
                refine ev_ret rfl (by decide) (by decide) ?_
                show jEv _ _ _ _ _ _ _ (_, [(2, (r1 : Int)), (0, v35112)], [(0, 0)], _, _, _)
                refine ev_ifeq f38_17 (fun c35114 => ?_) (fun c35114 => absurd c35114 (by omega))
                refine ev_iconst ?_
                refine ev_ret rfl (by decide) (by decide) ?_
                show jEv _ _ _ _ _ _ _ (_, [(2, 0), (2, (r1 : Int)), (0, a2), (0, a3), (0, x4), (0, x5), (0, x6), (0, x7), (0, x8)], [(0, (-1))], _, _, _)
                refine ev_iload rfl ?_
                refine ev_icmpeq f231_149 (fun c35115 => ?_) (fun c35115 => ?_)
                · refine ev_iinc (w := (x8 + 1)) (L' := [(2, 0), (2, (r1 : Int)), (0, a2), (0, a3), (0, x4), (0, x5), (0, x6), (0, x7), (0, (x8 + 1))]) rfl (by unfold w32; omega) rfl ?_
                  refine ev_goto f231_65 ?_
                  exact ih _ _ _ _ _ _ g35110 k35110 (by omega) (by omega) (by omega) (by omega) (by omega) (by omega) (by omega) (by omega) (by omega) (by omega) (by omega) (by omega) (by omega) (by omega) (by omega)
                · refine ev_iload rfl ?_
                  refine ev_istore (L' := [(2, 0), (2, (r1 : Int)), (0, a2), (0, a3), (0, x4), (0, x5), (0, x8), (0, x7), (0, x8)]) (Nat.le_of_ble_eq_true rfl) rfl ?_
                  refine ev_iinc (w := (x8 + 1)) (L' := [(2, 0), (2, (r1 : Int)), (0, a2), (0, a3), (0, x4), (0, x5), (0, x8), (0, x7), (0, (x8 + 1))]) rfl (by unfold w32; omega) rfl ?_
                  refine ev_goto f231_65 ?_
                  exact ih _ _ _ _ _ _ g35110 k35110 (by omega) (by omega) (by omega) (by omega) (by omega) (by omega) (by omega) (by omega) (by omega) (by omega) (by omega) (by omega) (by omega) (by omega) (by omega)
              · refine ev_iload_n rfl ?_
                refine ev_aload_n rfl ?_
                obtain ⟨v35116, ev35116, lv35116, uv35116⟩ := g35110.q0 q1
                refine g_qgetv (v := v35116) g35110 q1 ft4_0 ev35116 ?_
                refine ev_icmpge f24_16 (fun c35117 => ?_) (fun c35117 => ?_)
                · refine ev_iconst ?_
                  refine ev_ret rfl (by decide) (by decide) ?_
                  show jEv _ _ _ _ _ _ _ (_, [(2, (r1 : Int)), (0, v35112)], [(0, 0)], _, _, _)
                  refine ev_ifeq f38_17 (fun c35118 => ?_) (fun c35118 => absurd c35118 (by omega))
                  refine ev_iconst ?_
                  refine ev_ret rfl (by decide) (by decide) ?_
                  show jEv _ _ _ _ _ _ _ (_, [(2, 0), (2, (r1 : Int)), (0, a2), (0, a3), (0, x4), (0, x5), (0, x6), (0, x7), (0, x8)], [(0, (-1))], _, _, _)
                  refine ev_iload rfl ?_
                  refine ev_icmpeq f231_149 (fun c35119 => ?_) (fun c35119 => ?_)
                  · refine ev_iinc (w := (x8 + 1)) (L' := [(2, 0), (2, (r1 : Int)), (0, a2), (0, a3), (0, x4), (0, x5), (0, x6), (0, x7), (0, (x8 + 1))]) rfl (by unfold w32; omega) rfl ?_
                    refine ev_goto f231_65 ?_
                    exact ih _ _ _ _ _ _ g35110 k35110 (by omega) (by omega) (by omega) (by omega) (by omega) (by omega) (by omega) (by omega) (by omega) (by omega) (by omega) (by omega) (by omega) (by omega) (by omega)
                  · refine ev_iload rfl ?_
                    refine ev_istore (L' := [(2, 0), (2, (r1 : Int)), (0, a2), (0, a3), (0, x4), (0, x5), (0, x8), (0, x7), (0, x8)]) (Nat.le_of_ble_eq_true rfl) rfl ?_
                    refine ev_iinc (w := (x8 + 1)) (L' := [(2, 0), (2, (r1 : Int)), (0, a2), (0, a3), (0, x4), (0, x5), (0, x8), (0, x7), (0, (x8 + 1))]) rfl (by unfold w32; omega) rfl ?_
                    refine ev_goto f231_65 ?_
                    exact ih _ _ _ _ _ _ g35110 k35110 (by omega) (by omega) (by omega) (by omega) (by omega) (by omega) (by omega) (by omega) (by omega) (by omega) (by omega) (by omega) (by omega) (by omega) (by omega)
                · refine ev_iconst ?_
                  refine ev_goto f24_17 ?_
                  refine ev_ret rfl (by decide) (by decide) ?_
                  show jEv _ _ _ _ _ _ _ (_, [(2, (r1 : Int)), (0, v35112)], [(0, 1)], _, _, _)
                  refine ev_ifeq f38_17 (fun c35120 => absurd c35120 (by omega)) (fun c35120 => ?_)
                  refine ev_aload_n rfl ?_
                  refine g_qgetp g35110 q1 (c := 10) (by decide) (by decide) ft4_10 ?_
                  refine ev_iload_n rfl ?_
                  refine g_qiald g35110 q1 (c := 10) (by decide) (by decide) (by decide) (by omega) (by show v35112 < m1; omega) rfl (fun v35121 ev35121 lv35121 uv35121 => ?_)
                  refine ev_goto f38_18 ?_
                  refine ev_ret rfl (by decide) (by decide) ?_
                  show jEv _ _ _ _ _ _ _ (_, [(2, 0), (2, (r1 : Int)), (0, a2), (0, a3), (0, x4), (0, x5), (0, x6), (0, x7), (0, x8)], [(0, v35121)], _, _, _)
                  refine ev_iload rfl ?_
                  refine ev_icmpeq f231_149 (fun c35122 => ?_) (fun c35122 => ?_)
                  · refine ev_iinc (w := (x8 + 1)) (L' := [(2, 0), (2, (r1 : Int)), (0, a2), (0, a3), (0, x4), (0, x5), (0, x6), (0, x7), (0, (x8 + 1))]) rfl (by unfold w32; omega) rfl ?_
                    refine ev_goto f231_65 ?_
                    exact ih _ _ _ _ _ _ g35110 k35110 (by omega) (by omega) (by omega) (by omega) (by omega) (by omega) (by omega) (by omega) (by omega) (by omega) (by omega) (by omega) (by omega) (by omega) (by omega)
                  · refine ev_iload rfl ?_
                    refine ev_istore (L' := [(2, 0), (2, (r1 : Int)), (0, a2), (0, a3), (0, x4), (0, x5), (0, x8), (0, x7), (0, x8)]) (Nat.le_of_ble_eq_true rfl) rfl ?_
                    refine ev_iinc (w := (x8 + 1)) (L' := [(2, 0), (2, (r1 : Int)), (0, a2), (0, a3), (0, x4), (0, x5), (0, x8), (0, x7), (0, (x8 + 1))]) rfl (by unfold w32; omega) rfl ?_
                    refine ev_goto f231_65 ?_
                    exact ih _ _ _ _ _ _ g35110 k35110 (by omega) (by omega) (by omega) (by omega) (by omega) (by omega) (by omega) (by omega) (by omega) (by omega) (by omega) (by omega) (by omega) (by omega) (by omega)
            · refine ev_goto f231_155 ?_
              refine ev_aload_n rfl ?_
              refine g_getp (r := 0) (c := 1) g35107 ad0 (by decide) (by decide) rf0_0 ft11_0 ?_
              refine ev_iload_n rfl ?_
              refine ev_iload rfl ?_
              refine ev_in (d := 4) (a := 0) (b := 0) (cd' := c149_0) (m := 3) (L0 := [(2, 1), (0, a2), (0, x4)]) (jcall_v (A := [(0, x4), (0, a2)]) (S' := []) (r := 1) rfl (g35107.lt ad1) (g35107.tg ad1) (Nat.le_of_ble_eq_true rfl)) (by decide) ml149 pp149 (Nat.le_of_ble_eq_true rfl) rfl (by decide) (by decide) ?_
              refine ev_iload_n rfl ?_
              refine ev_iflt f149_32 (fun c35123 => absurd c35123 (by omega)) (fun c35123 => ?_)
              refine ev_iload_n rfl ?_
              refine ev_bipush ?_
              refine ev_icmpge f149_32 (fun c35124 => absurd c35124 (by omega)) (fun c35124 => ?_)
              refine ev_aload_n rfl ?_
              refine g_getp (r := 1) (c := 4) g35107 ad1 (by decide) (by decide) rf1_5 ft10_5 ?_
              refine ev_iload_n rfl ?_
              refine g_ialdv (v := v35079) g35107 ad4 (by omega) (by omega) (((kk35107.v rfl).trans ((jw_ne e35106 (Or.inl (by decide))).trans (jw_eq e35105)))) ?_
              refine ev_iload_n rfl ?_
              refine ev_icmpeq f149_32 (fun c35125 => ?_) (fun c35125 => ?_)
              · refine ev_ret rfl (by decide) (by decide) ?_
                show jEv _ _ _ _ _ _ _ (_, [(2, 0), (2, (r1 : Int)), (0, a2), (0, a3), (0, x4), (0, x5), (0, x6), (0, x7), (0, x8)], [], _, _, _)
                refine ev_iload rfl ?_
                exact ev_ret rfl (by decide) (by decide) ⟨_, rfl, by omega, by omega, g35107, k35107⟩
              · refine ev_aload_n rfl ?_
                refine g_getp (r := 1) (c := 4) g35107 ad1 (by decide) (by decide) rf1_5 ft10_5 ?_
                refine ev_iload_n rfl ?_
                refine ev_iload_n rfl ?_
                refine g_iast g35107 ad4 rt4 (fun _ => rfl) (by omega) (by omega) (by omega) (by omega) (fun h35126 e35126 g35126 => ?_)
                have k35126 := k35107.wr e35126 rfl
                refine ev_aload_n rfl ?_
                refine ev_iconst ?_
                refine g_putf (r := 1) g35126 ad1 (by decide) ft10_2 (by decide) (fun _ => by omega) rf1_2 (by decide) (by omega) (by omega) (fun h35127 e35127 g35127 => ?_)
                have k35127 := k35126.wr e35127 rfl
                refine ev_ret rfl (by decide) (by decide) ?_
                show jEv _ _ _ _ _ _ _ (_, [(2, 0), (2, (r1 : Int)), (0, a2), (0, a3), (0, x4), (0, x5), (0, x6), (0, x7), (0, x8)], [], _, _, _)
                refine ev_iload rfl ?_
                exact ev_ret rfl (by decide) (by decide) ⟨_, rfl, by omega, by omega, g35127, k35127⟩
        · refine ev_iload rfl ?_
          refine ev_iload rfl ?_
          refine g_iaddG (fun v35128 ev35128 lv35128 uv35128 => ?_)
          refine ev_goto f231_102 ?_
          refine ev_in (d := 4) (a := 0) (b := 0) (cd' := c149_0) (m := 3) (L0 := [(2, 1), (0, a2), (0, v35128)]) (jcall_v (A := [(0, v35128), (0, a2)]) (S' := []) (r := 1) rfl (g1.lt ad1) (g1.tg ad1) (Nat.le_of_ble_eq_true rfl)) (by decide) ml149 pp149 (Nat.le_of_ble_eq_true rfl) rfl (by decide) (by decide) ?_
          refine ev_iload_n rfl ?_
          refine ev_iflt f149_32 (fun c35129 => absurd c35129 (by omega)) (fun c35129 => ?_)
          refine ev_iload_n rfl ?_
          refine ev_bipush ?_
          refine ev_icmpge f149_32 (fun c35130 => absurd c35130 (by omega)) (fun c35130 => ?_)
          refine ev_aload_n rfl ?_
          refine g_getp (r := 1) (c := 4) g1 ad1 (by decide) (by decide) rf1_5 ft10_5 ?_
          refine ev_iload_n rfl ?_
          refine g_iald g1 ad4 rt4 (by omega) (by omega) (fun v35131 ev35131 lv35131 uv35131 => ?_)
          refine ev_iload_n rfl ?_
          refine ev_icmpeq f149_32 (fun c35132 => ?_) (fun c35132 => ?_)
          · refine ev_ret rfl (by decide) (by decide) ?_
            show jEv _ _ _ _ _ _ _ (_, [(2, 0), (2, (r1 : Int)), (0, a2), (0, a3), (0, x4), (0, x5), (0, x6), (0, x7), (0, x8)], [], _, _, _)
            refine ev_aload_n rfl ?_
            refine g_getp (r := 0) (c := 1) g1 ad0 (by decide) (by decide) rf0_0 ft11_0 ?_
            refine ev_call (jcall_v (A := []) (S' := []) (r := 1) rfl (g1.lt ad1) (g1.tg ad1) (Nat.le_of_ble_eq_true rfl)) (jOk_le (by decide) (s153 g1 )) (by decide) (by decide) (fun w35133 h35133 q35133 => ?_)
            obtain ⟨v35134, rfl, lv35134, uv35134, g35133, kk35133⟩ := q35133
            have k35133 := k1.tr kk35133 (by decide)
            show jEv _ _ _ _ _ _ _ (_, [(2, 0), (2, (r1 : Int)), (0, a2), (0, a3), (0, x4), (0, x5), (0, x6), (0, x7), (0, x8)], [(0, v35134)], _, _, _)
            refine ev_ifne f231_118 (fun c35135 => ?_) (fun c35135 => ?_)
            · refine ev_aload_n rfl ?_
              refine ev_aload_n rfl ?_
              refine g_getp (r := 0) (c := 1) g35133 ad0 (by decide) (by decide) rf0_0 ft11_0 ?_
              refine ev_aload_n rfl ?_
              refine g_getp (r := 0) (c := 23) g35133 ad0 (by decide) (by decide) rf0_5 ft11_5 ?_
              refine ev_iconst ?_
              refine ev_call (jcall_v (A := [(0, 0), (2, 23), (2, 1)]) (S' := []) (r := r1) rfl (g35133.qlt q1) (g35133.qtg q1) (Nat.le_of_ble_eq_true rfl)) (jOk_le (by decide) (s47 g35133 q1 (Or.inl rfl) (by omega) (by omega))) (by decide) (by decide) (fun w35136 h35136 q35136 => ?_)
              obtain ⟨v35137, rfl, lv35137, uv35137, g35136, kk35136⟩ := q35136
              have k35136 := k35133.tr kk35136 (by decide)
              show jEv _ _ _ _ _ _ _ (_, [(2, 0), (2, (r1 : Int)), (0, a2), (0, a3), (0, x4), (0, x5), (0, x6), (0, x7), (0, x8)], [(1, v35137)], _, _, _)
              refine ev_pop2 ?_
              refine ev_aload_n rfl ?_
              refine ev_aload_n rfl ?_
              obtain ⟨v35138, ev35138, lv35138, uv35138⟩ := g35136.q1 q1
              refine g_qgetv (v := v35138) g35136 q1 ft4_1 ev35138 ?_
              refine ev_in (d := 4) (a := 0) (b := 0) (cd' := c38_0) (m := 2) (L0 := [(2, (r1 : Int)), (0, v35138)]) (jcall_v (A := [(0, v35138)]) (S' := []) (r := r1) rfl (g35136.qlt q1) (g35136.qtg q1) (Nat.le_of_ble_eq_true rfl)) (by decide) ml38 pp38 (Nat.le_of_ble_eq_true rfl) rfl (by decide) (by decide) ?_
              refine ev_aload_n rfl ?_
              refine ev_iload_n rfl ?_
              refine ev_in (d := 3) (a := 0) (b := 0) (cd' := c24_0) (m := 2) (L0 := [(2, (r1 : Int)), (0, v35138)]) (jcall_v (A := [(0, v35138)]) (S' := []) (r := r1) rfl (g35136.qlt q1) (g35136.qtg q1) (Nat.le_of_ble_eq_true rfl)) (by decide) ml24 pp24 (Nat.le_of_ble_eq_true rfl) rfl (by decide) (by decide) ?_
              refine ev_iload_n rfl ?_
              refine ev_iflt f24_16 (fun c35139 => ?_) (fun c35139 => ?_)
              · refine ev_iconst ?_
                refine ev_ret rfl (by decide) (by decide) ?_
                show jEv _ _ _ _ _ _ _ (_, [(2, (r1 : Int)), (0, v35138)], [(0, 0)], _, _, _)
                refine ev_ifeq f38_17 (fun c35140 => ?_) (fun c35140 => absurd c35140 (by omega))
                refine ev_iconst ?_
                refine ev_ret rfl (by decide) (by decide) ?_
                show jEv _ _ _ _ _ _ _ (_, [(2, 0), (2, (r1 : Int)), (0, a2), (0, a3), (0, x4), (0, x5), (0, x6), (0, x7), (0, x8)], [(0, (-1))], _, _, _)
                refine ev_iload rfl ?_
                refine ev_icmpeq f231_149 (fun c35141 => ?_) (fun c35141 => ?_)
                · refine ev_iinc (w := (x8 + 1)) (L' := [(2, 0), (2, (r1 : Int)), (0, a2), (0, a3), (0, x4), (0, x5), (0, x6), (0, x7), (0, (x8 + 1))]) rfl (by unfold w32; omega) rfl ?_
                  refine ev_goto f231_65 ?_
                  exact ih _ _ _ _ _ _ g35136 k35136 (by omega) (by omega) (by omega) (by omega) (by omega) (by omega) (by omega) (by omega) (by omega) (by omega) (by omega) (by omega) (by omega) (by omega) (by omega)
                · refine ev_iload rfl ?_
                  refine ev_istore (L' := [(2, 0), (2, (r1 : Int)), (0, a2), (0, a3), (0, x4), (0, x5), (0, x8), (0, x7), (0, x8)]) (Nat.le_of_ble_eq_true rfl) rfl ?_
                  refine ev_iinc (w := (x8 + 1)) (L' := [(2, 0), (2, (r1 : Int)), (0, a2), (0, a3), (0, x4), (0, x5), (0, x8), (0, x7), (0, (x8 + 1))]) rfl (by unfold w32; omega) rfl ?_
                  refine ev_goto f231_65 ?_
                  exact ih _ _ _ _ _ _ g35136 k35136 (by omega) (by omega) (by omega) (by omega) (by omega) (by omega) (by omega) (by omega) (by omega) (by omega) (by omega) (by omega) (by omega) (by omega) (by omega)
              · refine ev_iload_n rfl ?_
                refine ev_aload_n rfl ?_
                obtain ⟨v35142, ev35142, lv35142, uv35142⟩ := g35136.q0 q1
                refine g_qgetv (v := v35142) g35136 q1 ft4_0 ev35142 ?_
                refine ev_icmpge f24_16 (fun c35143 => ?_) (fun c35143 => ?_)
                · refine ev_iconst ?_
                  refine ev_ret rfl (by decide) (by decide) ?_
                  show jEv _ _ _ _ _ _ _ (_, [(2, (r1 : Int)), (0, v35138)], [(0, 0)], _, _, _)
                  refine ev_ifeq f38_17 (fun c35144 => ?_) (fun c35144 => absurd c35144 (by omega))
                  refine ev_iconst ?_
                  refine ev_ret rfl (by decide) (by decide) ?_
                  show jEv _ _ _ _ _ _ _ (_, [(2, 0), (2, (r1 : Int)), (0, a2), (0, a3), (0, x4), (0, x5), (0, x6), (0, x7), (0, x8)], [(0, (-1))], _, _, _)
                  refine ev_iload rfl ?_
                  refine ev_icmpeq f231_149 (fun c35145 => ?_) (fun c35145 => ?_)
                  · refine ev_iinc (w := (x8 + 1)) (L' := [(2, 0), (2, (r1 : Int)), (0, a2), (0, a3), (0, x4), (0, x5), (0, x6), (0, x7), (0, (x8 + 1))]) rfl (by unfold w32; omega) rfl ?_
                    refine ev_goto f231_65 ?_
                    exact ih _ _ _ _ _ _ g35136 k35136 (by omega) (by omega) (by omega) (by omega) (by omega) (by omega) (by omega) (by omega) (by omega) (by omega) (by omega) (by omega) (by omega) (by omega) (by omega)
                  · refine ev_iload rfl ?_
                    refine ev_istore (L' := [(2, 0), (2, (r1 : Int)), (0, a2), (0, a3), (0, x4), (0, x5), (0, x8), (0, x7), (0, x8)]) (Nat.le_of_ble_eq_true rfl) rfl ?_
                    refine ev_iinc (w := (x8 + 1)) (L' := [(2, 0), (2, (r1 : Int)), (0, a2), (0, a3), (0, x4), (0, x5), (0, x8), (0, x7), (0, (x8 + 1))]) rfl (by unfold w32; omega) rfl ?_
                    refine ev_goto f231_65 ?_
                    exact ih _ _ _ _ _ _ g35136 k35136 (by omega) (by omega) (by omega) (by omega) (by omega) (by omega) (by omega) (by omega) (by omega) (by omega) (by omega) (by omega) (by omega) (by omega) (by omega)
                · refine ev_iconst ?_
                  refine ev_goto f24_17 ?_
                  refine ev_ret rfl (by decide) (by decide) ?_
                  show jEv _ _ _ _ _ _ _ (_, [(2, (r1 : Int)), (0, v35138)], [(0, 1)], _, _, _)
                  refine ev_ifeq f38_17 (fun c35146 => absurd c35146 (by omega)) (fun c35146 => ?_)
                  refine ev_aload_n rfl ?_
                  refine g_qgetp g35136 q1 (c := 10) (by decide) (by decide) ft4_10 ?_
                  refine ev_iload_n rfl ?_
                  refine g_qiald g35136 q1 (c := 10) (by decide) (by decide) (by decide) (by omega) (by show v35138 < m1; omega) rfl (fun v35147 ev35147 lv35147 uv35147 => ?_)
                  refine ev_goto f38_18 ?_
                  refine ev_ret rfl (by decide) (by decide) ?_
                  show jEv _ _ _ _ _ _ _ (_, [(2, 0), (2, (r1 : Int)), (0, a2), (0, a3), (0, x4), (0, x5), (0, x6), (0, x7), (0, x8)], [(0, v35147)], _, _, _)
                  refine ev_iload rfl ?_
                  refine ev_icmpeq f231_149 (fun c35148 => ?_) (fun c35148 => ?_)
                  · refine ev_iinc (w := (x8 + 1)) (L' := [(2, 0), (2, (r1 : Int)), (0, a2), (0, a3), (0, x4), (0, x5), (0, x6), (0, x7), (0, (x8 + 1))]) rfl (by unfold w32; omega) rfl ?_
                    refine ev_goto f231_65 ?_
                    exact ih _ _ _ _ _ _ g35136 k35136 (by omega) (by omega) (by omega) (by omega) (by omega) (by omega) (by omega) (by omega) (by omega) (by omega) (by omega) (by omega) (by omega) (by omega) (by omega)
                  · refine ev_iload rfl ?_
                    refine ev_istore (L' := [(2, 0), (2, (r1 : Int)), (0, a2), (0, a3), (0, x4), (0, x5), (0, x8), (0, x7), (0, x8)]) (Nat.le_of_ble_eq_true rfl) rfl ?_
                    refine ev_iinc (w := (x8 + 1)) (L' := [(2, 0), (2, (r1 : Int)), (0, a2), (0, a3), (0, x4), (0, x5), (0, x8), (0, x7), (0, (x8 + 1))]) rfl (by unfold w32; omega) rfl ?_
                    refine ev_goto f231_65 ?_
                    exact ih _ _ _ _ _ _ g35136 k35136 (by omega) (by omega) (by omega) (by omega) (by omega) (by omega) (by omega) (by omega) (by omega) (by omega) (by omega) (by omega) (by omega) (by omega) (by omega)
            · refine ev_goto f231_155 ?_
              refine ev_aload_n rfl ?_
              refine g_getp (r := 0) (c := 1) g35133 ad0 (by decide) (by decide) rf0_0 ft11_0 ?_
              refine ev_iload_n rfl ?_
              refine ev_iload rfl ?_
              refine ev_in (d := 4) (a := 0) (b := 0) (cd' := c149_0) (m := 3) (L0 := [(2, 1), (0, a2), (0, x4)]) (jcall_v (A := [(0, x4), (0, a2)]) (S' := []) (r := 1) rfl (g35133.lt ad1) (g35133.tg ad1) (Nat.le_of_ble_eq_true rfl)) (by decide) ml149 pp149 (Nat.le_of_ble_eq_true rfl) rfl (by decide) (by decide) ?_
              refine ev_iload_n rfl ?_
              refine ev_iflt f149_32 (fun c35149 => absurd c35149 (by omega)) (fun c35149 => ?_)
              refine ev_iload_n rfl ?_
              refine ev_bipush ?_
              refine ev_icmpge f149_32 (fun c35150 => absurd c35150 (by omega)) (fun c35150 => ?_)
              refine ev_aload_n rfl ?_
              refine g_getp (r := 1) (c := 4) g35133 ad1 (by decide) (by decide) rf1_5 ft10_5 ?_
              refine ev_iload_n rfl ?_
              refine g_ialdv (v := v35131) g35133 ad4 (by omega) (by omega) (((kk35133.v rfl).trans ev35131)) ?_
              refine ev_iload_n rfl ?_
              refine ev_icmpeq f149_32 (fun c35151 => ?_) (fun c35151 => ?_)
              · refine ev_ret rfl (by decide) (by decide) ?_
                show jEv _ _ _ _ _ _ _ (_, [(2, 0), (2, (r1 : Int)), (0, a2), (0, a3), (0, x4), (0, x5), (0, x6), (0, x7), (0, x8)], [], _, _, _)
                refine ev_iload rfl ?_
                exact ev_ret rfl (by decide) (by decide) ⟨_, rfl, by omega, by omega, g35133, k35133⟩
              · refine ev_aload_n rfl ?_
                refine g_getp (r := 1) (c := 4) g35133 ad1 (by decide) (by decide) rf1_5 ft10_5 ?_
                refine ev_iload_n rfl ?_
                refine ev_iload_n rfl ?_
                refine g_iast g35133 ad4 rt4 (fun _ => rfl) (by omega) (by omega) (by omega) (by omega) (fun h35152 e35152 g35152 => ?_)
                have k35152 := k35133.wr e35152 rfl
                refine ev_aload_n rfl ?_
                refine ev_iconst ?_
                refine g_putf (r := 1) g35152 ad1 (by decide) ft10_2 (by decide) (fun _ => by omega) rf1_2 (by decide) (by omega) (by omega) (fun h35153 e35153 g35153 => ?_)
                have k35153 := k35152.wr e35153 rfl
                refine ev_ret rfl (by decide) (by decide) ?_
                show jEv _ _ _ _ _ _ _ (_, [(2, 0), (2, (r1 : Int)), (0, a2), (0, a3), (0, x4), (0, x5), (0, x6), (0, x7), (0, x8)], [], _, _, _)
                refine ev_iload rfl ?_
                exact ev_ret rfl (by decide) (by decide) ⟨_, rfl, by omega, by omega, g35153, k35153⟩
          · refine ev_aload_n rfl ?_
            refine g_getp (r := 1) (c := 4) g1 ad1 (by decide) (by decide) rf1_5 ft10_5 ?_
            refine ev_iload_n rfl ?_
            refine ev_iload_n rfl ?_
            refine g_iast g1 ad4 rt4 (fun _ => rfl) (by omega) (by omega) (by omega) (by omega) (fun h35154 e35154 g35154 => ?_)
            have k35154 := k1.wr e35154 rfl
            refine ev_aload_n rfl ?_
            refine ev_iconst ?_
            refine g_putf (r := 1) g35154 ad1 (by decide) ft10_2 (by decide) (fun _ => by omega) rf1_2 (by decide) (by omega) (by omega) (fun h35155 e35155 g35155 => ?_)
            have k35155 := k35154.wr e35155 rfl
            refine ev_ret rfl (by decide) (by decide) ?_
            show jEv _ _ _ _ _ _ _ (_, [(2, 0), (2, (r1 : Int)), (0, a2), (0, a3), (0, x4), (0, x5), (0, x6), (0, x7), (0, x8)], [], _, _, _)
            refine ev_aload_n rfl ?_
            refine g_getp (r := 0) (c := 1) g35155 ad0 (by decide) (by decide) rf0_0 ft11_0 ?_
            refine ev_call (jcall_v (A := []) (S' := []) (r := 1) rfl (g35155.lt ad1) (g35155.tg ad1) (Nat.le_of_ble_eq_true rfl)) (jOk_le (by decide) (s153 g35155 )) (by decide) (by decide) (fun w35156 h35156 q35156 => ?_)
            obtain ⟨v35157, rfl, lv35157, uv35157, g35156, kk35156⟩ := q35156
            have k35156 := k35155.tr kk35156 (by decide)
            show jEv _ _ _ _ _ _ _ (_, [(2, 0), (2, (r1 : Int)), (0, a2), (0, a3), (0, x4), (0, x5), (0, x6), (0, x7), (0, x8)], [(0, v35157)], _, _, _)
            refine ev_ifne f231_118 (fun c35158 => ?_) (fun c35158 => ?_)
            · refine ev_aload_n rfl ?_
              refine ev_aload_n rfl ?_
              refine g_getp (r := 0) (c := 1) g35156 ad0 (by decide) (by decide) rf0_0 ft11_0 ?_
              refine ev_aload_n rfl ?_
              refine g_getp (r := 0) (c := 23) g35156 ad0 (by decide) (by decide) rf0_5 ft11_5 ?_
              refine ev_iconst ?_
              refine ev_call (jcall_v (A := [(0, 0), (2, 23), (2, 1)]) (S' := []) (r := r1) rfl (g35156.qlt q1) (g35156.qtg q1) (Nat.le_of_ble_eq_true rfl)) (jOk_le (by decide) (s47 g35156 q1 (Or.inl rfl) (by omega) (by omega))) (by decide) (by decide) (fun w35159 h35159 q35159 => ?_)
              obtain ⟨v35160, rfl, lv35160, uv35160, g35159, kk35159⟩ := q35159
              have k35159 := k35156.tr kk35159 (by decide)
              show jEv _ _ _ _ _ _ _ (_, [(2, 0), (2, (r1 : Int)), (0, a2), (0, a3), (0, x4), (0, x5), (0, x6), (0, x7), (0, x8)], [(1, v35160)], _, _, _)
              refine ev_pop2 ?_
              refine ev_aload_n rfl ?_
              refine ev_aload_n rfl ?_
              obtain ⟨v35161, ev35161, lv35161, uv35161⟩ := g35159.q1 q1
              refine g_qgetv (v := v35161) g35159 q1 ft4_1 ev35161 ?_
              refine ev_in (d := 4) (a := 0) (b := 0) (cd' := c38_0) (m := 2) (L0 := [(2, (r1 : Int)), (0, v35161)]) (jcall_v (A := [(0, v35161)]) (S' := []) (r := r1) rfl (g35159.qlt q1) (g35159.qtg q1) (Nat.le_of_ble_eq_true rfl)) (by decide) ml38 pp38 (Nat.le_of_ble_eq_true rfl) rfl (by decide) (by decide) ?_
              refine ev_aload_n rfl ?_
              refine ev_iload_n rfl ?_
              refine ev_in (d := 3) (a := 0) (b := 0) (cd' := c24_0) (m := 2) (L0 := [(2, (r1 : Int)), (0, v35161)]) (jcall_v (A := [(0, v35161)]) (S' := []) (r := r1) rfl (g35159.qlt q1) (g35159.qtg q1) (Nat.le_of_ble_eq_true rfl)) (by decide) ml24 pp24 (Nat.le_of_ble_eq_true rfl) rfl (by decide) (by decide) ?_
              refine ev_iload_n rfl ?_
              refine ev_iflt f24_16 (fun c35162 => ?_) (fun c35162 => ?_)
              · refine ev_iconst ?_
                refine ev_ret rfl (by decide) (by decide) ?_
                show jEv _ _ _ _ _ _ _ (_, [(2, (r1 : Int)), (0, v35161)], [(0, 0)], _, _, _)
                refine ev_ifeq f38_17 (fun c35163 => ?_) (fun c35163 => absurd c35163 (by omega))
                refine ev_iconst ?_
                refine ev_ret rfl (by decide) (by decide) ?_
                show jEv _ _ _ _ _ _ _ (_, [(2, 0), (2, (r1 : Int)), (0, a2), (0, a3), (0, x4), (0, x5), (0, x6), (0, x7), (0, x8)], [(0, (-1))], _, _, _)
                refine ev_iload rfl ?_
                refine ev_icmpeq f231_149 (fun c35164 => ?_) (fun c35164 => ?_)
                · refine ev_iinc (w := (x8 + 1)) (L' := [(2, 0), (2, (r1 : Int)), (0, a2), (0, a3), (0, x4), (0, x5), (0, x6), (0, x7), (0, (x8 + 1))]) rfl (by unfold w32; omega) rfl ?_
                  refine ev_goto f231_65 ?_
                  exact ih _ _ _ _ _ _ g35159 k35159 (by omega) (by omega) (by omega) (by omega) (by omega) (by omega) (by omega) (by omega) (by omega) (by omega) (by omega) (by omega) (by omega) (by omega) (by omega)
                · refine ev_iload rfl ?_
                  refine ev_istore (L' := [(2, 0), (2, (r1 : Int)), (0, a2), (0, a3), (0, x4), (0, x5), (0, x8), (0, x7), (0, x8)]) (Nat.le_of_ble_eq_true rfl) rfl ?_
                  refine ev_iinc (w := (x8 + 1)) (L' := [(2, 0), (2, (r1 : Int)), (0, a2), (0, a3), (0, x4), (0, x5), (0, x8), (0, x7), (0, (x8 + 1))]) rfl (by unfold w32; omega) rfl ?_
                  refine ev_goto f231_65 ?_
                  exact ih _ _ _ _ _ _ g35159 k35159 (by omega) (by omega) (by omega) (by omega) (by omega) (by omega) (by omega) (by omega) (by omega) (by omega) (by omega) (by omega) (by omega) (by omega) (by omega)
              · refine ev_iload_n rfl ?_
                refine ev_aload_n rfl ?_
                obtain ⟨v35165, ev35165, lv35165, uv35165⟩ := g35159.q0 q1
                refine g_qgetv (v := v35165) g35159 q1 ft4_0 ev35165 ?_
                refine ev_icmpge f24_16 (fun c35166 => ?_) (fun c35166 => ?_)
                · refine ev_iconst ?_
                  refine ev_ret rfl (by decide) (by decide) ?_
                  show jEv _ _ _ _ _ _ _ (_, [(2, (r1 : Int)), (0, v35161)], [(0, 0)], _, _, _)
                  refine ev_ifeq f38_17 (fun c35167 => ?_) (fun c35167 => absurd c35167 (by omega))
                  refine ev_iconst ?_
                  refine ev_ret rfl (by decide) (by decide) ?_
                  show jEv _ _ _ _ _ _ _ (_, [(2, 0), (2, (r1 : Int)), (0, a2), (0, a3), (0, x4), (0, x5), (0, x6), (0, x7), (0, x8)], [(0, (-1))], _, _, _)
                  refine ev_iload rfl ?_
                  refine ev_icmpeq f231_149 (fun c35168 => ?_) (fun c35168 => ?_)
                  · refine ev_iinc (w := (x8 + 1)) (L' := [(2, 0), (2, (r1 : Int)), (0, a2), (0, a3), (0, x4), (0, x5), (0, x6), (0, x7), (0, (x8 + 1))]) rfl (by unfold w32; omega) rfl ?_
                    refine ev_goto f231_65 ?_
                    exact ih _ _ _ _ _ _ g35159 k35159 (by omega) (by omega) (by omega) (by omega) (by omega) (by omega) (by omega) (by omega) (by omega) (by omega) (by omega) (by omega) (by omega) (by omega) (by omega)
                  · refine ev_iload rfl ?_
                    refine ev_istore (L' := [(2, 0), (2, (r1 : Int)), (0, a2), (0, a3), (0, x4), (0, x5), (0, x8), (0, x7), (0, x8)]) (Nat.le_of_ble_eq_true rfl) rfl ?_
                    refine ev_iinc (w := (x8 + 1)) (L' := [(2, 0), (2, (r1 : Int)), (0, a2), (0, a3), (0, x4), (0, x5), (0, x8), (0, x7), (0, (x8 + 1))]) rfl (by unfold w32; omega) rfl ?_
                    refine ev_goto f231_65 ?_
                    exact ih _ _ _ _ _ _ g35159 k35159 (by omega) (by omega) (by omega) (by omega) (by omega) (by omega) (by omega) (by omega) (by omega) (by omega) (by omega) (by omega) (by omega) (by omega) (by omega)
                · refine ev_iconst ?_
                  refine ev_goto f24_17 ?_
                  refine ev_ret rfl (by decide) (by decide) ?_
                  show jEv _ _ _ _ _ _ _ (_, [(2, (r1 : Int)), (0, v35161)], [(0, 1)], _, _, _)
                  refine ev_ifeq f38_17 (fun c35169 => absurd c35169 (by omega)) (fun c35169 => ?_)
                  refine ev_aload_n rfl ?_
                  refine g_qgetp g35159 q1 (c := 10) (by decide) (by decide) ft4_10 ?_
                  refine ev_iload_n rfl ?_
                  refine g_qiald g35159 q1 (c := 10) (by decide) (by decide) (by decide) (by omega) (by show v35161 < m1; omega) rfl (fun v35170 ev35170 lv35170 uv35170 => ?_)
                  refine ev_goto f38_18 ?_
                  refine ev_ret rfl (by decide) (by decide) ?_
                  show jEv _ _ _ _ _ _ _ (_, [(2, 0), (2, (r1 : Int)), (0, a2), (0, a3), (0, x4), (0, x5), (0, x6), (0, x7), (0, x8)], [(0, v35170)], _, _, _)
                  refine ev_iload rfl ?_
                  refine ev_icmpeq f231_149 (fun c35171 => ?_) (fun c35171 => ?_)
                  · refine ev_iinc (w := (x8 + 1)) (L' := [(2, 0), (2, (r1 : Int)), (0, a2), (0, a3), (0, x4), (0, x5), (0, x6), (0, x7), (0, (x8 + 1))]) rfl (by unfold w32; omega) rfl ?_
                    refine ev_goto f231_65 ?_
                    exact ih _ _ _ _ _ _ g35159 k35159 (by omega) (by omega) (by omega) (by omega) (by omega) (by omega) (by omega) (by omega) (by omega) (by omega) (by omega) (by omega) (by omega) (by omega) (by omega)
                  · refine ev_iload rfl ?_
                    refine ev_istore (L' := [(2, 0), (2, (r1 : Int)), (0, a2), (0, a3), (0, x4), (0, x5), (0, x8), (0, x7), (0, x8)]) (Nat.le_of_ble_eq_true rfl) rfl ?_
                    refine ev_iinc (w := (x8 + 1)) (L' := [(2, 0), (2, (r1 : Int)), (0, a2), (0, a3), (0, x4), (0, x5), (0, x8), (0, x7), (0, (x8 + 1))]) rfl (by unfold w32; omega) rfl ?_
                    refine ev_goto f231_65 ?_
                    exact ih _ _ _ _ _ _ g35159 k35159 (by omega) (by omega) (by omega) (by omega) (by omega) (by omega) (by omega) (by omega) (by omega) (by omega) (by omega) (by omega) (by omega) (by omega) (by omega)
            · refine ev_goto f231_155 ?_
              refine ev_aload_n rfl ?_
              refine g_getp (r := 0) (c := 1) g35156 ad0 (by decide) (by decide) rf0_0 ft11_0 ?_
              refine ev_iload_n rfl ?_
              refine ev_iload rfl ?_
              refine ev_in (d := 4) (a := 0) (b := 0) (cd' := c149_0) (m := 3) (L0 := [(2, 1), (0, a2), (0, x4)]) (jcall_v (A := [(0, x4), (0, a2)]) (S' := []) (r := 1) rfl (g35156.lt ad1) (g35156.tg ad1) (Nat.le_of_ble_eq_true rfl)) (by decide) ml149 pp149 (Nat.le_of_ble_eq_true rfl) rfl (by decide) (by decide) ?_
              refine ev_iload_n rfl ?_
              refine ev_iflt f149_32 (fun c35172 => absurd c35172 (by omega)) (fun c35172 => ?_)
              refine ev_iload_n rfl ?_
              refine ev_bipush ?_
              refine ev_icmpge f149_32 (fun c35173 => absurd c35173 (by omega)) (fun c35173 => ?_)
              refine ev_aload_n rfl ?_
              refine g_getp (r := 1) (c := 4) g35156 ad1 (by decide) (by decide) rf1_5 ft10_5 ?_
              refine ev_iload_n rfl ?_
              refine g_ialdv (v := v35128) g35156 ad4 (by omega) (by omega) (((kk35156.v rfl).trans ((jw_ne e35155 (Or.inl (by decide))).trans (jw_eq e35154)))) ?_
              refine ev_iload_n rfl ?_
              refine ev_icmpeq f149_32 (fun c35174 => ?_) (fun c35174 => ?_)
              · refine ev_ret rfl (by decide) (by decide) ?_
                show jEv _ _ _ _ _ _ _ (_, [(2, 0), (2, (r1 : Int)), (0, a2), (0, a3), (0, x4), (0, x5), (0, x6), (0, x7), (0, x8)], [], _, _, _)
                refine ev_iload rfl ?_
                exact ev_ret rfl (by decide) (by decide) ⟨_, rfl, by omega, by omega, g35156, k35156⟩
              · refine ev_aload_n rfl ?_
                refine g_getp (r := 1) (c := 4) g35156 ad1 (by decide) (by decide) rf1_5 ft10_5 ?_
                refine ev_iload_n rfl ?_
                refine ev_iload_n rfl ?_
                refine g_iast g35156 ad4 rt4 (fun _ => rfl) (by omega) (by omega) (by omega) (by omega) (fun h35175 e35175 g35175 => ?_)
                have k35175 := k35156.wr e35175 rfl
                refine ev_aload_n rfl ?_
                refine ev_iconst ?_
                refine g_putf (r := 1) g35175 ad1 (by decide) ft10_2 (by decide) (fun _ => by omega) rf1_2 (by decide) (by omega) (by omega) (fun h35176 e35176 g35176 => ?_)
                have k35176 := k35175.wr e35176 rfl
                refine ev_ret rfl (by decide) (by decide) ?_
                show jEv _ _ _ _ _ _ _ (_, [(2, 0), (2, (r1 : Int)), (0, a2), (0, a3), (0, x4), (0, x5), (0, x6), (0, x7), (0, x8)], [], _, _, _)
                refine ev_iload rfl ?_
                exact ev_ret rfl (by decide) (by decide) ⟨_, rfl, by omega, by omega, g35176, k35176⟩
set_option maxHeartbeats 4000000 in
theorem s231 {G : GH} {h : JH} (g : Gd G h) {r1 : Nat} {m1 : Int} (q1 : IsQ G r1 m1) {a2 : Int} (la2 : 0 ≤ a2) (ua2 : a2 ≤ 35) {a3 : Int} (la3 : 0 ≤ a3) (ua3 : a3 ≤ 1) : jOk 6 0 0 231 [(2, 0), (2, (r1 : Int)), (0, a2), (0, a3)] h (PI G [(1, 2), (1, 3), (5, 0), (6, 0), (4, 0), (1000000, 0)] h 0 (-2) 40) := by
  refine ⟨by decide, by rw [ml231]; exact Nat.le_of_ble_eq_true rfl, ?_⟩
  rw [ml231, pp231]
  show jEv _ none _ c231_0 0 0 _ (c231_0, [(2, 0), (2, (r1 : Int)), (0, a2), (0, a3), (9, 0), (9, 0), (9, 0), (9, 0), (9, 0)], [], h, 0, 0)
  have k0 := Kp.rf [(1, 2), (1, 3), (5, 0), (6, 0), (4, 0), (1000000, 0)] h
  have wr1 := g.qb q1
  have zr1 := q1.1
  refine ev_aload_n rfl ?_
  refine g_getp (r := 0) (c := 1) g ad0 (by decide) (by decide) rf0_0 ft11_0 ?_
  refine ev_iload_n rfl ?_
  refine ev_in (d := 4) (a := 0) (b := 0) (cd' := c148_0) (m := 2) (L0 := [(2, 1), (0, a2)]) (jcall_v (A := [(0, a2)]) (S' := []) (r := 1) rfl (g.lt ad1) (g.tg ad1) (Nat.le_of_ble_eq_true rfl)) (by decide) ml148 pp148 (Nat.le_of_ble_eq_true rfl) rfl (by decide) (by decide) ?_
  refine ev_iload_n rfl ?_
  refine ev_iflt f148_10 (fun c35177 => absurd c35177 (by omega)) (fun c35177 => ?_)
  refine ev_iload_n rfl ?_
  refine ev_bipush ?_
  refine ev_icmplt f148_14 (fun c35178 => ?_) (fun c35178 => absurd c35178 (by omega))
  refine ev_aload_n rfl ?_
  refine g_getp (r := 1) (c := 4) g ad1 (by decide) (by decide) rf1_5 ft10_5 ?_
  refine ev_iload_n rfl ?_
  refine g_iald g ad4 rt4 (by omega) (by omega) (fun v35179 ev35179 lv35179 uv35179 => ?_)
  refine ev_ret rfl (by decide) (by decide) ?_
  show jEv _ _ _ _ _ _ _ (_, [(2, 0), (2, (r1 : Int)), (0, a2), (0, a3), (9, 0), (9, 0), (9, 0), (9, 0), (9, 0)], [(0, v35179)], _, _, _)
  refine ev_istore (L' := [(2, 0), (2, (r1 : Int)), (0, a2), (0, a3), (0, v35179), (9, 0), (9, 0), (9, 0), (9, 0)]) (Nat.le_of_ble_eq_true rfl) rfl ?_
  refine ev_aload_n rfl ?_
  refine ev_aload_n rfl ?_
  refine g_getp (r := 0) (c := 1) g ad0 (by decide) (by decide) rf0_0 ft11_0 ?_
  refine ev_aload_n rfl ?_
  refine g_getp (r := 0) (c := 23) g ad0 (by decide) (by decide) rf0_5 ft11_5 ?_
  refine ev_iconst ?_
  refine ev_call (jcall_v (A := [(0, 0), (2, 23), (2, 1)]) (S' := []) (r := r1) rfl (g.qlt q1) (g.qtg q1) (Nat.le_of_ble_eq_true rfl)) (jOk_le (by decide) (s47 g q1 (Or.inl rfl) (by omega) (by omega))) (by decide) (by decide) (fun w35180 h35180 q35180 => ?_)
  obtain ⟨v35181, rfl, lv35181, uv35181, g35180, kk35180⟩ := q35180
  have k35180 := k0.tr kk35180 (by decide)
  show jEv _ _ _ _ _ _ _ (_, [(2, 0), (2, (r1 : Int)), (0, a2), (0, a3), (0, v35179), (9, 0), (9, 0), (9, 0), (9, 0)], [(1, v35181)], _, _, _)
  refine ev_pop2 ?_
  refine ev_aload_n rfl ?_
  refine ev_aload_n rfl ?_
  obtain ⟨v35182, ev35182, lv35182, uv35182⟩ := g35180.q1 q1
  refine g_qgetv (v := v35182) g35180 q1 ft4_1 ev35182 ?_
  refine ev_in (d := 4) (a := 0) (b := 0) (cd' := c38_0) (m := 2) (L0 := [(2, (r1 : Int)), (0, v35182)]) (jcall_v (A := [(0, v35182)]) (S' := []) (r := r1) rfl (g35180.qlt q1) (g35180.qtg q1) (Nat.le_of_ble_eq_true rfl)) (by decide) ml38 pp38 (Nat.le_of_ble_eq_true rfl) rfl (by decide) (by decide) ?_
  refine ev_aload_n rfl ?_
  refine ev_iload_n rfl ?_
  refine ev_in (d := 3) (a := 0) (b := 0) (cd' := c24_0) (m := 2) (L0 := [(2, (r1 : Int)), (0, v35182)]) (jcall_v (A := [(0, v35182)]) (S' := []) (r := r1) rfl (g35180.qlt q1) (g35180.qtg q1) (Nat.le_of_ble_eq_true rfl)) (by decide) ml24 pp24 (Nat.le_of_ble_eq_true rfl) rfl (by decide) (by decide) ?_
  refine ev_iload_n rfl ?_
  refine ev_iflt f24_16 (fun c35183 => ?_) (fun c35183 => ?_)
  · refine ev_iconst ?_
    refine ev_ret rfl (by decide) (by decide) ?_
    show jEv _ _ _ _ _ _ _ (_, [(2, (r1 : Int)), (0, v35182)], [(0, 0)], _, _, _)
    refine ev_ifeq f38_17 (fun c35184 => ?_) (fun c35184 => absurd c35184 (by omega))
    refine ev_iconst ?_
    refine ev_ret rfl (by decide) (by decide) ?_
    show jEv _ _ _ _ _ _ _ (_, [(2, 0), (2, (r1 : Int)), (0, a2), (0, a3), (0, v35179), (9, 0), (9, 0), (9, 0), (9, 0)], [(0, (-1))], _, _, _)
    refine ev_istore (L' := [(2, 0), (2, (r1 : Int)), (0, a2), (0, a3), (0, v35179), (0, (-1)), (9, 0), (9, 0), (9, 0)]) (Nat.le_of_ble_eq_true rfl) rfl ?_
    refine ev_bipush ?_
    refine ev_istore (L' := [(2, 0), (2, (r1 : Int)), (0, a2), (0, a3), (0, v35179), (0, (-1)), (0, (-2)), (9, 0), (9, 0)]) (Nat.le_of_ble_eq_true rfl) rfl ?_
    refine ev_bipush ?_
    refine ev_iload_n rfl ?_
    refine ev_iconst ?_
    refine ev_icmpne f231_53 (fun c35185 => ?_) (fun c35185 => ?_)
    · refine ev_iload rfl ?_
      refine ev_iconst ?_
      refine g_isubG (fun v35186 ev35186 lv35186 uv35186 => ?_)
      refine ev_in (d := 4) (a := 0) (b := 0) (cd' := c381_0) (m := 2) (L0 := [(0, 40), (0, v35186)]) (jcall_s (A := [(0, v35186), (0, 40)]) (S' := []) (by decide) rfl (Nat.le_of_ble_eq_true rfl)) (by decide) ml381 pp381 (Nat.le_of_ble_eq_true rfl) rfl (by decide) (by decide) ?_
      refine ev_iload_n rfl ?_
      refine ev_iload_n rfl ?_
      refine ev_icmpgt f381_9 (fun c35187 => ?_) (fun c35187 => ?_)
      · refine ev_iload_n rfl ?_
        refine ev_ret rfl (by decide) (by decide) ?_
        show jEv _ _ _ _ _ _ _ (_, [(2, 0), (2, (r1 : Int)), (0, a2), (0, a3), (0, v35179), (0, (-1)), (0, (-2)), (9, 0), (9, 0)], [(0, v35186)], _, _, _)
        refine ev_istore (L' := [(2, 0), (2, (r1 : Int)), (0, a2), (0, a3), (0, v35179), (0, (-1)), (0, (-2)), (0, v35186), (9, 0)]) (Nat.le_of_ble_eq_true rfl) rfl ?_
        refine ev_iconst ?_
        refine ev_istore (L' := [(2, 0), (2, (r1 : Int)), (0, a2), (0, a3), (0, v35179), (0, (-1)), (0, (-2)), (0, v35186), (0, 1)]) (Nat.le_of_ble_eq_true rfl) rfl ?_
        exact (s231_l q1 la2 ua2 la3 ua3 82) _ _ _ _ _ _ g35180 k35180 (by omega) (by omega) (by omega) (by omega) (by omega) (by omega) (by omega) (by omega) (by omega) (by omega) (by omega) (by omega) (by omega) (by omega) (by omega)
      · refine ev_iload_n rfl ?_
        refine ev_goto f381_10 ?_
        refine ev_ret rfl (by decide) (by decide) ?_
        show jEv _ _ _ _ _ _ _ (_, [(2, 0), (2, (r1 : Int)), (0, a2), (0, a3), (0, v35179), (0, (-1)), (0, (-2)), (9, 0), (9, 0)], [(0, 40)], _, _, _)
        refine ev_istore (L' := [(2, 0), (2, (r1 : Int)), (0, a2), (0, a3), (0, v35179), (0, (-1)), (0, (-2)), (0, 40), (9, 0)]) (Nat.le_of_ble_eq_true rfl) rfl ?_
        refine ev_iconst ?_
        refine ev_istore (L' := [(2, 0), (2, (r1 : Int)), (0, a2), (0, a3), (0, v35179), (0, (-1)), (0, (-2)), (0, 40), (0, 1)]) (Nat.le_of_ble_eq_true rfl) rfl ?_
        exact (s231_l q1 la2 ua2 la3 ua3 82) _ _ _ _ _ _ g35180 k35180 (by omega) (by omega) (by omega) (by omega) (by omega) (by omega) (by omega) (by omega) (by omega) (by omega) (by omega) (by omega) (by omega) (by omega) (by omega)
    · refine ev_bipush ?_
      refine ev_iload rfl ?_
      refine g_isubG (fun v35188 ev35188 lv35188 uv35188 => ?_)
      refine ev_goto f231_57 ?_
      refine ev_in (d := 4) (a := 0) (b := 0) (cd' := c381_0) (m := 2) (L0 := [(0, 40), (0, v35188)]) (jcall_s (A := [(0, v35188), (0, 40)]) (S' := []) (by decide) rfl (Nat.le_of_ble_eq_true rfl)) (by decide) ml381 pp381 (Nat.le_of_ble_eq_true rfl) rfl (by decide) (by decide) ?_
      refine ev_iload_n rfl ?_
      refine ev_iload_n rfl ?_
      refine ev_icmpgt f381_9 (fun c35189 => ?_) (fun c35189 => ?_)
      · refine ev_iload_n rfl ?_
        refine ev_ret rfl (by decide) (by decide) ?_
        show jEv _ _ _ _ _ _ _ (_, [(2, 0), (2, (r1 : Int)), (0, a2), (0, a3), (0, v35179), (0, (-1)), (0, (-2)), (9, 0), (9, 0)], [(0, v35188)], _, _, _)
        refine ev_istore (L' := [(2, 0), (2, (r1 : Int)), (0, a2), (0, a3), (0, v35179), (0, (-1)), (0, (-2)), (0, v35188), (9, 0)]) (Nat.le_of_ble_eq_true rfl) rfl ?_
        refine ev_iconst ?_
        refine ev_istore (L' := [(2, 0), (2, (r1 : Int)), (0, a2), (0, a3), (0, v35179), (0, (-1)), (0, (-2)), (0, v35188), (0, 1)]) (Nat.le_of_ble_eq_true rfl) rfl ?_
        exact (s231_l q1 la2 ua2 la3 ua3 82) _ _ _ _ _ _ g35180 k35180 (by omega) (by omega) (by omega) (by omega) (by omega) (by omega) (by omega) (by omega) (by omega) (by omega) (by omega) (by omega) (by omega) (by omega) (by omega)
      · refine ev_iload_n rfl ?_
        refine ev_goto f381_10 ?_
        refine ev_ret rfl (by decide) (by decide) ?_
        show jEv _ _ _ _ _ _ _ (_, [(2, 0), (2, (r1 : Int)), (0, a2), (0, a3), (0, v35179), (0, (-1)), (0, (-2)), (9, 0), (9, 0)], [(0, 40)], _, _, _)
        refine ev_istore (L' := [(2, 0), (2, (r1 : Int)), (0, a2), (0, a3), (0, v35179), (0, (-1)), (0, (-2)), (0, 40), (9, 0)]) (Nat.le_of_ble_eq_true rfl) rfl ?_
        refine ev_iconst ?_
        refine ev_istore (L' := [(2, 0), (2, (r1 : Int)), (0, a2), (0, a3), (0, v35179), (0, (-1)), (0, (-2)), (0, 40), (0, 1)]) (Nat.le_of_ble_eq_true rfl) rfl ?_
        exact (s231_l q1 la2 ua2 la3 ua3 82) _ _ _ _ _ _ g35180 k35180 (by omega) (by omega) (by omega) (by omega) (by omega) (by omega) (by omega) (by omega) (by omega) (by omega) (by omega) (by omega) (by omega) (by omega) (by omega)
  · refine ev_iload_n rfl ?_
    refine ev_aload_n rfl ?_
    obtain ⟨v35190, ev35190, lv35190, uv35190⟩ := g35180.q0 q1
    refine g_qgetv (v := v35190) g35180 q1 ft4_0 ev35190 ?_
    refine ev_icmpge f24_16 (fun c35191 => ?_) (fun c35191 => ?_)
    · refine ev_iconst ?_
      refine ev_ret rfl (by decide) (by decide) ?_
      show jEv _ _ _ _ _ _ _ (_, [(2, (r1 : Int)), (0, v35182)], [(0, 0)], _, _, _)
      refine ev_ifeq f38_17 (fun c35192 => ?_) (fun c35192 => absurd c35192 (by omega))
      refine ev_iconst ?_
      refine ev_ret rfl (by decide) (by decide) ?_
      show jEv _ _ _ _ _ _ _ (_, [(2, 0), (2, (r1 : Int)), (0, a2), (0, a3), (0, v35179), (9, 0), (9, 0), (9, 0), (9, 0)], [(0, (-1))], _, _, _)
      refine ev_istore (L' := [(2, 0), (2, (r1 : Int)), (0, a2), (0, a3), (0, v35179), (0, (-1)), (9, 0), (9, 0), (9, 0)]) (Nat.le_of_ble_eq_true rfl) rfl ?_
      refine ev_bipush ?_
      refine ev_istore (L' := [(2, 0), (2, (r1 : Int)), (0, a2), (0, a3), (0, v35179), (0, (-1)), (0, (-2)), (9, 0), (9, 0)]) (Nat.le_of_ble_eq_true rfl) rfl ?_
      refine ev_bipush ?_
      refine ev_iload_n rfl ?_
      refine ev_iconst ?_
      refine ev_icmpne f231_53 (fun c35193 => ?_) (fun c35193 => ?_)
      · refine ev_iload rfl ?_
        refine ev_iconst ?_
        refine g_isubG (fun v35194 ev35194 lv35194 uv35194 => ?_)
        refine ev_in (d := 4) (a := 0) (b := 0) (cd' := c381_0) (m := 2) (L0 := [(0, 40), (0, v35194)]) (jcall_s (A := [(0, v35194), (0, 40)]) (S' := []) (by decide) rfl (Nat.le_of_ble_eq_true rfl)) (by decide) ml381 pp381 (Nat.le_of_ble_eq_true rfl) rfl (by decide) (by decide) ?_
        refine ev_iload_n rfl ?_
        refine ev_iload_n rfl ?_
        refine ev_icmpgt f381_9 (fun c35195 => ?_) (fun c35195 => ?_)
        · refine ev_iload_n rfl ?_
          refine ev_ret rfl (by decide) (by decide) ?_
          show jEv _ _ _ _ _ _ _ (_, [(2, 0), (2, (r1 : Int)), (0, a2), (0, a3), (0, v35179), (0, (-1)), (0, (-2)), (9, 0), (9, 0)], [(0, v35194)], _, _, _)
          refine ev_istore (L' := [(2, 0), (2, (r1 : Int)), (0, a2), (0, a3), (0, v35179), (0, (-1)), (0, (-2)), (0, v35194), (9, 0)]) (Nat.le_of_ble_eq_true rfl) rfl ?_
          refine ev_iconst ?_
          refine ev_istore (L' := [(2, 0), (2, (r1 : Int)), (0, a2), (0, a3), (0, v35179), (0, (-1)), (0, (-2)), (0, v35194), (0, 1)]) (Nat.le_of_ble_eq_true rfl) rfl ?_
          exact (s231_l q1 la2 ua2 la3 ua3 82) _ _ _ _ _ _ g35180 k35180 (by omega) (by omega) (by omega) (by omega) (by omega) (by omega) (by omega) (by omega) (by omega) (by omega) (by omega) (by omega) (by omega) (by omega) (by omega)
        · refine ev_iload_n rfl ?_
          refine ev_goto f381_10 ?_
          refine ev_ret rfl (by decide) (by decide) ?_
          show jEv _ _ _ _ _ _ _ (_, [(2, 0), (2, (r1 : Int)), (0, a2), (0, a3), (0, v35179), (0, (-1)), (0, (-2)), (9, 0), (9, 0)], [(0, 40)], _, _, _)
          refine ev_istore (L' := [(2, 0), (2, (r1 : Int)), (0, a2), (0, a3), (0, v35179), (0, (-1)), (0, (-2)), (0, 40), (9, 0)]) (Nat.le_of_ble_eq_true rfl) rfl ?_
          refine ev_iconst ?_
          refine ev_istore (L' := [(2, 0), (2, (r1 : Int)), (0, a2), (0, a3), (0, v35179), (0, (-1)), (0, (-2)), (0, 40), (0, 1)]) (Nat.le_of_ble_eq_true rfl) rfl ?_
          exact (s231_l q1 la2 ua2 la3 ua3 82) _ _ _ _ _ _ g35180 k35180 (by omega) (by omega) (by omega) (by omega) (by omega) (by omega) (by omega) (by omega) (by omega) (by omega) (by omega) (by omega) (by omega) (by omega) (by omega)
      · refine ev_bipush ?_
        refine ev_iload rfl ?_
        refine g_isubG (fun v35196 ev35196 lv35196 uv35196 => ?_)
        refine ev_goto f231_57 ?_
        refine ev_in (d := 4) (a := 0) (b := 0) (cd' := c381_0) (m := 2) (L0 := [(0, 40), (0, v35196)]) (jcall_s (A := [(0, v35196), (0, 40)]) (S' := []) (by decide) rfl (Nat.le_of_ble_eq_true rfl)) (by decide) ml381 pp381 (Nat.le_of_ble_eq_true rfl) rfl (by decide) (by decide) ?_
        refine ev_iload_n rfl ?_
        refine ev_iload_n rfl ?_
        refine ev_icmpgt f381_9 (fun c35197 => ?_) (fun c35197 => ?_)
        · refine ev_iload_n rfl ?_
          refine ev_ret rfl (by decide) (by decide) ?_
          show jEv _ _ _ _ _ _ _ (_, [(2, 0), (2, (r1 : Int)), (0, a2), (0, a3), (0, v35179), (0, (-1)), (0, (-2)), (9, 0), (9, 0)], [(0, v35196)], _, _, _)
          refine ev_istore (L' := [(2, 0), (2, (r1 : Int)), (0, a2), (0, a3), (0, v35179), (0, (-1)), (0, (-2)), (0, v35196), (9, 0)]) (Nat.le_of_ble_eq_true rfl) rfl ?_
          refine ev_iconst ?_
          refine ev_istore (L' := [(2, 0), (2, (r1 : Int)), (0, a2), (0, a3), (0, v35179), (0, (-1)), (0, (-2)), (0, v35196), (0, 1)]) (Nat.le_of_ble_eq_true rfl) rfl ?_
          exact (s231_l q1 la2 ua2 la3 ua3 82) _ _ _ _ _ _ g35180 k35180 (by omega) (by omega) (by omega) (by omega) (by omega) (by omega) (by omega) (by omega) (by omega) (by omega) (by omega) (by omega) (by omega) (by omega) (by omega)
        · refine ev_iload_n rfl ?_
          refine ev_goto f381_10 ?_
          refine ev_ret rfl (by decide) (by decide) ?_
          show jEv _ _ _ _ _ _ _ (_, [(2, 0), (2, (r1 : Int)), (0, a2), (0, a3), (0, v35179), (0, (-1)), (0, (-2)), (9, 0), (9, 0)], [(0, 40)], _, _, _)
          refine ev_istore (L' := [(2, 0), (2, (r1 : Int)), (0, a2), (0, a3), (0, v35179), (0, (-1)), (0, (-2)), (0, 40), (9, 0)]) (Nat.le_of_ble_eq_true rfl) rfl ?_
          refine ev_iconst ?_
          refine ev_istore (L' := [(2, 0), (2, (r1 : Int)), (0, a2), (0, a3), (0, v35179), (0, (-1)), (0, (-2)), (0, 40), (0, 1)]) (Nat.le_of_ble_eq_true rfl) rfl ?_
          exact (s231_l q1 la2 ua2 la3 ua3 82) _ _ _ _ _ _ g35180 k35180 (by omega) (by omega) (by omega) (by omega) (by omega) (by omega) (by omega) (by omega) (by omega) (by omega) (by omega) (by omega) (by omega) (by omega) (by omega)
    · refine ev_iconst ?_
      refine ev_goto f24_17 ?_
      refine ev_ret rfl (by decide) (by decide) ?_
      show jEv _ _ _ _ _ _ _ (_, [(2, (r1 : Int)), (0, v35182)], [(0, 1)], _, _, _)
      refine ev_ifeq f38_17 (fun c35198 => absurd c35198 (by omega)) (fun c35198 => ?_)
      refine ev_aload_n rfl ?_
      refine g_qgetp g35180 q1 (c := 10) (by decide) (by decide) ft4_10 ?_
      refine ev_iload_n rfl ?_
      refine g_qiald g35180 q1 (c := 10) (by decide) (by decide) (by decide) (by omega) (by show v35182 < m1; omega) rfl (fun v35199 ev35199 lv35199 uv35199 => ?_)
      refine ev_goto f38_18 ?_
      refine ev_ret rfl (by decide) (by decide) ?_
      show jEv _ _ _ _ _ _ _ (_, [(2, 0), (2, (r1 : Int)), (0, a2), (0, a3), (0, v35179), (9, 0), (9, 0), (9, 0), (9, 0)], [(0, v35199)], _, _, _)
      refine ev_istore (L' := [(2, 0), (2, (r1 : Int)), (0, a2), (0, a3), (0, v35179), (0, v35199), (9, 0), (9, 0), (9, 0)]) (Nat.le_of_ble_eq_true rfl) rfl ?_
      refine ev_bipush ?_
      refine ev_istore (L' := [(2, 0), (2, (r1 : Int)), (0, a2), (0, a3), (0, v35179), (0, v35199), (0, (-2)), (9, 0), (9, 0)]) (Nat.le_of_ble_eq_true rfl) rfl ?_
      refine ev_bipush ?_
      refine ev_iload_n rfl ?_
      refine ev_iconst ?_
      refine ev_icmpne f231_53 (fun c35200 => ?_) (fun c35200 => ?_)
      · refine ev_iload rfl ?_
        refine ev_iconst ?_
        refine g_isubG (fun v35201 ev35201 lv35201 uv35201 => ?_)
        refine ev_in (d := 4) (a := 0) (b := 0) (cd' := c381_0) (m := 2) (L0 := [(0, 40), (0, v35201)]) (jcall_s (A := [(0, v35201), (0, 40)]) (S' := []) (by decide) rfl (Nat.le_of_ble_eq_true rfl)) (by decide) ml381 pp381 (Nat.le_of_ble_eq_true rfl) rfl (by decide) (by decide) ?_
        refine ev_iload_n rfl ?_
        refine ev_iload_n rfl ?_
        refine ev_icmpgt f381_9 (fun c35202 => ?_) (fun c35202 => ?_)
        · refine ev_iload_n rfl ?_
          refine ev_ret rfl (by decide) (by decide) ?_
          show jEv _ _ _ _ _ _ _ (_, [(2, 0), (2, (r1 : Int)), (0, a2), (0, a3), (0, v35179), (0, v35199), (0, (-2)), (9, 0), (9, 0)], [(0, v35201)], _, _, _)
          refine ev_istore (L' := [(2, 0), (2, (r1 : Int)), (0, a2), (0, a3), (0, v35179), (0, v35199), (0, (-2)), (0, v35201), (9, 0)]) (Nat.le_of_ble_eq_true rfl) rfl ?_
          refine ev_iconst ?_
          refine ev_istore (L' := [(2, 0), (2, (r1 : Int)), (0, a2), (0, a3), (0, v35179), (0, v35199), (0, (-2)), (0, v35201), (0, 1)]) (Nat.le_of_ble_eq_true rfl) rfl ?_
          exact (s231_l q1 la2 ua2 la3 ua3 82) _ _ _ _ _ _ g35180 k35180 (by omega) (by omega) (by omega) (by omega) (by omega) (by omega) (by omega) (by omega) (by omega) (by omega) (by omega) (by omega) (by omega) (by omega) (by omega)
        · refine ev_iload_n rfl ?_
          refine ev_goto f381_10 ?_
          refine ev_ret rfl (by decide) (by decide) ?_
          show jEv _ _ _ _ _ _ _ (_, [(2, 0), (2, (r1 : Int)), (0, a2), (0, a3), (0, v35179), (0, v35199), (0, (-2)), (9, 0), (9, 0)], [(0, 40)], _, _, _)
          refine ev_istore (L' := [(2, 0), (2, (r1 : Int)), (0, a2), (0, a3), (0, v35179), (0, v35199), (0, (-2)), (0, 40), (9, 0)]) (Nat.le_of_ble_eq_true rfl) rfl ?_
          refine ev_iconst ?_
          refine ev_istore (L' := [(2, 0), (2, (r1 : Int)), (0, a2), (0, a3), (0, v35179), (0, v35199), (0, (-2)), (0, 40), (0, 1)]) (Nat.le_of_ble_eq_true rfl) rfl ?_
          exact (s231_l q1 la2 ua2 la3 ua3 82) _ _ _ _ _ _ g35180 k35180 (by omega) (by omega) (by omega) (by omega) (by omega) (by omega) (by omega) (by omega) (by omega) (by omega) (by omega) (by omega) (by omega) (by omega) (by omega)
      · refine ev_bipush ?_
        refine ev_iload rfl ?_
        refine g_isubG (fun v35203 ev35203 lv35203 uv35203 => ?_)
        refine ev_goto f231_57 ?_
        refine ev_in (d := 4) (a := 0) (b := 0) (cd' := c381_0) (m := 2) (L0 := [(0, 40), (0, v35203)]) (jcall_s (A := [(0, v35203), (0, 40)]) (S' := []) (by decide) rfl (Nat.le_of_ble_eq_true rfl)) (by decide) ml381 pp381 (Nat.le_of_ble_eq_true rfl) rfl (by decide) (by decide) ?_
        refine ev_iload_n rfl ?_
        refine ev_iload_n rfl ?_
        refine ev_icmpgt f381_9 (fun c35204 => ?_) (fun c35204 => ?_)
        · refine ev_iload_n rfl ?_
          refine ev_ret rfl (by decide) (by decide) ?_
          show jEv _ _ _ _ _ _ _ (_, [(2, 0), (2, (r1 : Int)), (0, a2), (0, a3), (0, v35179), (0, v35199), (0, (-2)), (9, 0), (9, 0)], [(0, v35203)], _, _, _)
          refine ev_istore (L' := [(2, 0), (2, (r1 : Int)), (0, a2), (0, a3), (0, v35179), (0, v35199), (0, (-2)), (0, v35203), (9, 0)]) (Nat.le_of_ble_eq_true rfl) rfl ?_
          refine ev_iconst ?_
          refine ev_istore (L' := [(2, 0), (2, (r1 : Int)), (0, a2), (0, a3), (0, v35179), (0, v35199), (0, (-2)), (0, v35203), (0, 1)]) (Nat.le_of_ble_eq_true rfl) rfl ?_
          exact (s231_l q1 la2 ua2 la3 ua3 82) _ _ _ _ _ _ g35180 k35180 (by omega) (by omega) (by omega) (by omega) (by omega) (by omega) (by omega) (by omega) (by omega) (by omega) (by omega) (by omega) (by omega) (by omega) (by omega)
        · refine ev_iload_n rfl ?_
          refine ev_goto f381_10 ?_
          refine ev_ret rfl (by decide) (by decide) ?_
          show jEv _ _ _ _ _ _ _ (_, [(2, 0), (2, (r1 : Int)), (0, a2), (0, a3), (0, v35179), (0, v35199), (0, (-2)), (9, 0), (9, 0)], [(0, 40)], _, _, _)
          refine ev_istore (L' := [(2, 0), (2, (r1 : Int)), (0, a2), (0, a3), (0, v35179), (0, v35199), (0, (-2)), (0, 40), (9, 0)]) (Nat.le_of_ble_eq_true rfl) rfl ?_
          refine ev_iconst ?_
          refine ev_istore (L' := [(2, 0), (2, (r1 : Int)), (0, a2), (0, a3), (0, v35179), (0, v35199), (0, (-2)), (0, 40), (0, 1)]) (Nat.le_of_ble_eq_true rfl) rfl ?_
          exact (s231_l q1 la2 ua2 la3 ua3 82) _ _ _ _ _ _ g35180 k35180 (by omega) (by omega) (by omega) (by omega) (by omega) (by omega) (by omega) (by omega) (by omega) (by omega) (by omega) (by omega) (by omega) (by omega) (by omega)
/-! 190 edge -/
set_option maxHeartbeats 4000000 in
theorem s190 {G : GH} {h : JH} (g : Gd G h) {a1 : Int} (la1 : (-2147483648) ≤ a1) (ua1 : a1 ≤ 2147483647) {a2 : Int} (la2 : (-2147483648) ≤ a2) (ua2 : a2 ≤ 2147483647) {a3 : Int} (la3 : (-2147483648) ≤ a3) (ua3 : a3 ≤ 2147483647) : jOk 7 0 0 190 [(2, 0), (0, a1), (0, a2), (0, a3)] h (PI G [(1, 2), (1, 3), (5, 0), (6, 0), (4, 0), (1000000, 0)] h 0 (-4) 40) := by
  refine ⟨by decide, by rw [ml190]; exact Nat.le_of_ble_eq_true rfl, ?_⟩
  rw [ml190, pp190]
  show jEv _ none _ c190_0 0 0 _ (c190_0, [(2, 0), (0, a1), (0, a2), (0, a3), (9, 0)], [], h, 0, 0)
  have k0 := Kp.rf [(1, 2), (1, 3), (5, 0), (6, 0), (4, 0), (1000000, 0)] h
  refine ev_aload_n rfl ?_
  refine ev_iload_n rfl ?_
  refine ev_in (d := 5) (a := 0) (b := 0) (cd' := c219_0) (m := 2) (L0 := [(2, 0), (0, a1)]) (jcall_v (A := [(0, a1)]) (S' := []) (r := 0) rfl (g.lt ad0) (g.tg ad0) (Nat.le_of_ble_eq_true rfl)) (by decide) ml219 pp219 (Nat.le_of_ble_eq_true rfl) rfl (by decide) (by decide) ?_
  refine ev_iload_n rfl ?_
  refine ev_iflt f219_12 (fun c35331 => ?_) (fun c35331 => ?_)
  · refine ev_aconst_null ?_
    refine ev_goto f219_22 ?_
    refine ev_ret rfl (by decide) (by decide) ?_
    show jEv _ _ _ _ _ _ _ (_, [(2, 0), (0, a1), (0, a2), (0, a3), (9, 0)], [(2, (-1))], _, _, _)
    refine ev_astore (L' := [(2, 0), (0, a1), (0, a2), (0, a3), (2, (-1))]) (Nat.le_of_ble_eq_true rfl) rfl ?_
    refine ev_aload rfl ?_
    refine ev_ifnull f190_50 (fun c35332 => ?_) (fun c35332 => absurd c35332 (by decide))
    refine ev_iconst ?_
    exact ev_ret rfl (by decide) (by decide) ⟨_, rfl, by omega, by omega, g, k0⟩
  · refine ev_iload_n rfl ?_
    refine ev_aload_n rfl ?_
    obtain ⟨v35333, ev35333, lv35333, uv35333⟩ := g.rd ad0 (show 3 < 17 by decide) rf0_3
    refine g_getv (r := 0) (v := v35333) g ad0 (by decide) ft11_3 ev35333 ?_
    refine ev_icmplt f219_16 (fun c35334 => ?_) (fun c35334 => ?_)
    · refine ev_aload_n rfl ?_
      refine g_getp (r := 0) (c := 18) g ad0 (by decide) (by decide) rf0_2 ft11_2 ?_
      refine ev_iload_n rfl ?_
      refine g_qaald (g) (i := a1) (ev35333) (by omega) (by omega) (fun r35335 m35336 qr35335 => ?_)
      have wr35335 := g.qb qr35335
      have zr35335 := qr35335.1
      refine ev_ret rfl (by decide) (by decide) ?_
      show jEv _ _ _ _ _ _ _ (_, [(2, 0), (0, a1), (0, a2), (0, a3), (9, 0)], [(2, (r35335 : Int))], _, _, _)
      refine ev_astore (L' := [(2, 0), (0, a1), (0, a2), (0, a3), (2, (r35335 : Int))]) (Nat.le_of_ble_eq_true rfl) rfl ?_
      refine ev_aload rfl ?_
      refine ev_ifnull f190_50 (fun c35337 => absurd c35337 (by omega)) (fun c35337 => ?_)
      refine ev_iload_n rfl ?_
      refine ev_iflt f190_50 (fun c35338 => ?_) (fun c35338 => ?_)
      · refine ev_iconst ?_
        exact ev_ret rfl (by decide) (by decide) ⟨_, rfl, by omega, by omega, g, k0⟩
      · refine ev_aload_n rfl ?_
        refine g_getp (r := 0) (c := 1) g ad0 (by decide) (by decide) rf0_0 ft11_0 ?_
        refine ev_iload_n rfl ?_
        refine ev_bipush ?_
        refine g_idivP (c := 100) rfl (by decide) (by omega) (by omega) (fun v35339 ev35339 lv35339 uv35339 => ?_)
        refine ev_iload_n rfl ?_
        refine ev_bipush ?_
        refine g_idivP (c := 10) rfl (by decide) (by omega) (by omega) (fun v35340 ev35340 lv35340 uv35340 => ?_)
        refine ev_bipush ?_
        refine g_iremP (c := 10) rfl (by decide) (by omega) (fun v35341 ev35341 lv35341 uv35341 wv35341 => ?_)
        refine ev_iload_n rfl ?_
        refine ev_bipush ?_
        refine g_iremP (c := 10) rfl (by decide) (by omega) (fun v35342 ev35342 lv35342 uv35342 wv35342 => ?_)
        refine ev_in (d := 5) (a := 0) (b := 0) (cd' := c146_0) (m := 4) (L0 := [(2, 1), (0, v35339), (0, v35341), (0, v35342)]) (jcall_v (A := [(0, v35342), (0, v35341), (0, v35339)]) (S' := []) (r := 1) rfl (g.lt ad1) (g.tg ad1) (Nat.le_of_ble_eq_true rfl)) (by decide) ml146 pp146 (Nat.le_of_ble_eq_true rfl) rfl (by decide) (by decide) ?_
        refine ev_aload_n rfl ?_
        refine ev_iload_n rfl ?_
        refine ev_in (d := 4) (a := 0) (b := 0) (cd' := c140_0) (m := 2) (L0 := [(2, 1), (0, v35339)]) (jcall_v (A := [(0, v35339)]) (S' := []) (r := 1) rfl (g.lt ad1) (g.tg ad1) (Nat.le_of_ble_eq_true rfl)) (by decide) ml140 pp140 (Nat.le_of_ble_eq_true rfl) rfl (by decide) (by decide) ?_
        refine ev_iload_n rfl ?_
        refine ev_iflt f140_16 (fun c35343 => absurd c35343 (by omega)) (fun c35343 => ?_)
        refine ev_iload_n rfl ?_
        refine ev_aload_n rfl ?_
        obtain ⟨v35344, ev35344, lv35344, uv35344⟩ := g.rd ad1 (show 0 < 8 by decide) rf1_0
        refine g_getv (r := 1) (v := v35344) g ad1 (by decide) ft10_0 ev35344 ?_
        refine ev_icmpge f140_16 (fun c35345 => ?_) (fun c35345 => ?_)
        · refine ev_iconst ?_
          refine ev_ret rfl (by decide) (by decide) ?_
          show jEv _ _ _ _ _ _ _ (_, [(2, 1), (0, v35339), (0, v35341), (0, v35342)], [(0, 0)], _, _, _)
          refine ev_ifeq f146_39 (fun c35346 => ?_) (fun c35346 => absurd c35346 (by omega))
          refine ev_iconst ?_
          refine ev_ret rfl (by decide) (by decide) ?_
          show jEv _ _ _ _ _ _ _ (_, [(2, 0), (0, a1), (0, a2), (0, a3), (2, (r35335 : Int))], [(0, 0)], _, _, _)
          refine ev_ifeq f190_50 (fun c35347 => ?_) (fun c35347 => absurd c35347 (by omega))
          refine ev_iconst ?_
          exact ev_ret rfl (by decide) (by decide) ⟨_, rfl, by omega, by omega, g, k0⟩
        · refine ev_iconst ?_
          refine ev_goto f140_17 ?_
          refine ev_ret rfl (by decide) (by decide) ?_
          show jEv _ _ _ _ _ _ _ (_, [(2, 1), (0, v35339), (0, v35341), (0, v35342)], [(0, 1)], _, _, _)
          refine ev_ifeq f146_39 (fun c35348 => absurd c35348 (by omega)) (fun c35348 => ?_)
          refine ev_iload_n rfl ?_
          refine ev_iflt f146_39 (fun c35349 => absurd c35349 (by omega)) (fun c35349 => ?_)
          refine ev_iload_n rfl ?_
          refine ev_aload_n rfl ?_
          refine ev_iload_n rfl ?_
          refine ev_in (d := 4) (a := 0) (b := 0) (cd' := c145_0) (m := 2) (L0 := [(2, 1), (0, v35339)]) (jcall_v (A := [(0, v35339)]) (S' := [(0, v35341)]) (r := 1) rfl (g.lt ad1) (g.tg ad1) (Nat.le_of_ble_eq_true rfl)) (by decide) ml145 pp145 (Nat.le_of_ble_eq_true rfl) rfl (by decide) (by decide) ?_
          refine ev_aload_n rfl ?_
          refine g_getp (r := 1) (c := 3) g ad1 (by decide) (by decide) rf1_4 ft10_4 ?_
          refine ev_iload_n rfl ?_
          refine g_iald g ad3 rt3 (by omega) (by omega) (fun v35350 ev35350 lv35350 uv35350 => ?_)
          refine ev_ifge f145_13 (fun c35351 => ?_) (fun c35351 => ?_)
          · refine ev_aload_n rfl ?_
            refine g_getp (r := 1) (c := 2) g ad1 (by decide) (by decide) rf1_3 ft10_3 ?_
            refine ev_aload_n rfl ?_
            refine g_getp (r := 1) (c := 3) g ad1 (by decide) (by decide) rf1_4 ft10_4 ?_
            refine ev_iload_n rfl ?_
            refine g_ialdv (v := v35350) g ad3 (by omega) (by omega) (ev35350) ?_
            refine g_iald g ad2 rt2 (by omega) (by omega) (fun v35352 ev35352 lv35352 uv35352 => ?_)
            refine ev_ret rfl (by decide) (by decide) ?_
            show jEv _ _ _ _ _ _ _ (_, [(2, 1), (0, v35339), (0, v35341), (0, v35342)], [(0, v35352), (0, v35341)], _, _, _)
            refine ev_icmpge f146_39 (fun c35353 => ?_) (fun c35353 => ?_)
            · refine ev_iconst ?_
              refine ev_ret rfl (by decide) (by decide) ?_
              show jEv _ _ _ _ _ _ _ (_, [(2, 0), (0, a1), (0, a2), (0, a3), (2, (r35335 : Int))], [(0, 0)], _, _, _)
              refine ev_ifeq f190_50 (fun c35354 => ?_) (fun c35354 => absurd c35354 (by omega))
              refine ev_iconst ?_
              exact ev_ret rfl (by decide) (by decide) ⟨_, rfl, by omega, by omega, g, k0⟩
            · refine ev_iload_n rfl ?_
              refine ev_iflt f146_39 (fun c35355 => absurd c35355 (by omega)) (fun c35355 => ?_)
              refine ev_iload_n rfl ?_
              refine ev_aload_n rfl ?_
              refine g_getp (r := 1) (c := 2) g ad1 (by decide) (by decide) rf1_3 ft10_3 ?_
              refine ev_iload_n rfl ?_
              refine g_iald g ad2 rt2 (by omega) (by omega) (fun v35356 ev35356 lv35356 uv35356 => ?_)
              have xv35356 := (g.ex.1.1 (v35339 : Int).toNat (by rw [(ev35344)]; omega))
              rw [ev35356] at xv35356
              refine ev_icmpge f146_39 (fun c35357 => ?_) (fun c35357 => ?_)
              · refine ev_iconst ?_
                refine ev_ret rfl (by decide) (by decide) ?_
                show jEv _ _ _ _ _ _ _ (_, [(2, 0), (0, a1), (0, a2), (0, a3), (2, (r35335 : Int))], [(0, 0)], _, _, _)
                refine ev_ifeq f190_50 (fun c35358 => ?_) (fun c35358 => absurd c35358 (by omega))
                refine ev_iconst ?_
                exact ev_ret rfl (by decide) (by decide) ⟨_, rfl, by omega, by omega, g, k0⟩
              · refine ev_iconst ?_
                refine ev_goto f146_40 ?_
                refine ev_ret rfl (by decide) (by decide) ?_
                show jEv _ _ _ _ _ _ _ (_, [(2, 0), (0, a1), (0, a2), (0, a3), (2, (r35335 : Int))], [(0, 1)], _, _, _)
                refine ev_ifeq f190_50 (fun c35359 => absurd c35359 (by omega)) (fun c35359 => ?_)
                refine ev_iload_n rfl ?_
                refine ev_iflt f190_50 (fun c35360 => ?_) (fun c35360 => ?_)
                · refine ev_iconst ?_
                  exact ev_ret rfl (by decide) (by decide) ⟨_, rfl, by omega, by omega, g, k0⟩
                · refine ev_iload_n rfl ?_
                  refine ev_iconst ?_
                  refine ev_icmple f190_52 (fun c35361 => ?_) (fun c35361 => ?_)
                  · refine ev_aload_n rfl ?_
                    refine g_getp (r := 0) (c := 1) g ad0 (by decide) (by decide) rf0_0 ft11_0 ?_
                    refine ev_call (jcall_v (A := []) (S' := []) (r := 1) rfl (g.lt ad1) (g.tg ad1) (Nat.le_of_ble_eq_true rfl)) (jOk_le (by decide) (s153 g )) (by decide) (by decide) (fun w35362 h35362 q35362 => ?_)
                    obtain ⟨v35363, rfl, lv35363, uv35363, g35362, kk35362⟩ := q35362
                    have k35362 := k0.tr kk35362 (by decide)
                    show jEv _ _ _ _ _ _ _ (_, [(2, 0), (0, a1), (0, a2), (0, a3), (2, (r35335 : Int))], [(0, v35363)], _, _, _)
                    refine ev_ifne f190_65 (fun c35364 => ?_) (fun c35364 => ?_)
                    · refine ev_aload rfl ?_
                      obtain ⟨v35365, ev35365, lv35365, uv35365⟩ := g35362.q1 qr35335
                      refine g_qgetv (v := v35365) g35362 qr35335 ft4_1 ev35365 ?_
                      refine ev_ifge f190_78 (fun c35366 => ?_) (fun c35366 => ?_)
                      · refine ev_aload_n rfl ?_
                        refine ev_aload rfl ?_
                        refine ev_iload_n rfl ?_
                        refine ev_bipush ?_
                        refine g_idivP (c := 100) rfl (by decide) (by omega) (by omega) (fun v35367 ev35367 lv35367 uv35367 => ?_)
                        obtain rfl : v35339 = v35367 := by omega
                        refine ev_iload_n rfl ?_
                        refine ev_bipush ?_
                        refine g_idivP (c := 10) rfl (by decide) (by omega) (by omega) (fun v35368 ev35368 lv35368 uv35368 => ?_)
                        obtain rfl : v35340 = v35368 := by omega
                        refine ev_bipush ?_
                        refine g_iremP (c := 10) rfl (by decide) (by omega) (fun v35369 ev35369 lv35369 uv35369 wv35369 => ?_)
                        obtain rfl : v35341 = v35369 := by omega
                        refine ev_iload_n rfl ?_
                        refine ev_bipush ?_
                        refine g_iremP (c := 10) rfl (by decide) (by omega) (fun v35370 ev35370 lv35370 uv35370 wv35370 => ?_)
                        obtain rfl : v35342 = v35370 := by omega
                        refine ev_in (d := 5) (a := 0) (b := 0) (cd' := c147_0) (m := 3) (L0 := [(0, v35339), (0, v35341), (0, v35342)]) (jcall_s (A := [(0, v35342), (0, v35341), (0, v35339)]) (S' := [(2, (r35335 : Int)), (2, 0)]) (by decide) rfl (Nat.le_of_ble_eq_true rfl)) (by decide) ml147 pp147 (Nat.le_of_ble_eq_true rfl) rfl (by decide) (by decide) ?_
                        refine ev_bipush ?_
                        refine ev_iload_n rfl ?_
                        refine ev_imul (r := (9 * v35339)) (by unfold w32; omega) ?_
                        refine ev_iconst ?_
                        refine ev_iload_n rfl ?_
                        refine ev_imul (r := (3 * v35341)) (by unfold w32; omega) ?_
                        refine ev_iadd (r := (9 * v35339 + 3 * v35341)) (by unfold w32; omega) ?_
                        refine ev_iload_n rfl ?_
                        refine ev_iadd (r := (9 * v35339 + 3 * v35341 + v35342)) (by unfold w32; omega) ?_
                        refine ev_ret rfl (by decide) (by decide) ?_
                        show jEv _ _ _ _ _ _ _ (_, [(2, 0), (0, a1), (0, a2), (0, a3), (2, (r35335 : Int))], [(0, (9 * v35339 + 3 * v35341 + v35342)), (2, (r35335 : Int)), (2, 0)], _, _, _)
                        refine ev_iload_n rfl ?_
                        refine ev_call (jcall_v (A := [(0, a3), (0, (9 * v35339 + 3 * v35341 + v35342)), (2, (r35335 : Int))]) (S' := []) (r := 0) rfl (g35362.lt ad0) (g35362.tg ad0) (Nat.le_of_ble_eq_true rfl)) (jOk_le (by decide) (s231 g35362 qr35335 (by omega) (by omega) (by omega) (by omega))) (by decide) (by decide) (fun w35371 h35371 q35371 => ?_)
                        obtain ⟨v35372, rfl, lv35372, uv35372, g35371, kk35371⟩ := q35371
                        have k35371 := k35362.tr kk35371 (by decide)
                        show jEv _ _ _ _ _ _ _ (_, [(2, 0), (0, a1), (0, a2), (0, a3), (2, (r35335 : Int))], [(0, v35372)], _, _, _)
                        exact ev_ret rfl (by decide) (by decide) ⟨_, rfl, by omega, by omega, g35371, k35371⟩
                      · refine ev_bipush ?_
                        refine ev_goto f190_103 ?_
                        exact ev_ret rfl (by decide) (by decide) ⟨_, rfl, by omega, by omega, g35362, k35362⟩
                    · refine ev_bipush ?_
                      exact ev_ret rfl (by decide) (by decide) ⟨_, rfl, by omega, by omega, g35362, k35362⟩
                  · refine ev_iconst ?_
                    exact ev_ret rfl (by decide) (by decide) ⟨_, rfl, by omega, by omega, g, k0⟩
          · refine ev_iconst ?_
            refine ev_goto f145_24 ?_
            refine ev_ret rfl (by decide) (by decide) ?_
            show jEv _ _ _ _ _ _ _ (_, [(2, 1), (0, v35339), (0, v35341), (0, v35342)], [(0, 1), (0, v35341)], _, _, _)
            refine ev_icmpge f146_39 (fun c35373 => ?_) (fun c35373 => ?_)
            · refine ev_iconst ?_
              refine ev_ret rfl (by decide) (by decide) ?_
              show jEv _ _ _ _ _ _ _ (_, [(2, 0), (0, a1), (0, a2), (0, a3), (2, (r35335 : Int))], [(0, 0)], _, _, _)
              refine ev_ifeq f190_50 (fun c35374 => ?_) (fun c35374 => absurd c35374 (by omega))
              refine ev_iconst ?_
              exact ev_ret rfl (by decide) (by decide) ⟨_, rfl, by omega, by omega, g, k0⟩
            · refine ev_iload_n rfl ?_
              refine ev_iflt f146_39 (fun c35375 => absurd c35375 (by omega)) (fun c35375 => ?_)
              refine ev_iload_n rfl ?_
              refine ev_aload_n rfl ?_
              refine g_getp (r := 1) (c := 2) g ad1 (by decide) (by decide) rf1_3 ft10_3 ?_
              refine ev_iload_n rfl ?_
              refine g_iald g ad2 rt2 (by omega) (by omega) (fun v35376 ev35376 lv35376 uv35376 => ?_)
              have xv35376 := (g.ex.1.1 (v35339 : Int).toNat (by rw [(ev35344)]; omega))
              rw [ev35376] at xv35376
              refine ev_icmpge f146_39 (fun c35377 => ?_) (fun c35377 => ?_)
              · refine ev_iconst ?_
                refine ev_ret rfl (by decide) (by decide) ?_
                show jEv _ _ _ _ _ _ _ (_, [(2, 0), (0, a1), (0, a2), (0, a3), (2, (r35335 : Int))], [(0, 0)], _, _, _)
                refine ev_ifeq f190_50 (fun c35378 => ?_) (fun c35378 => absurd c35378 (by omega))
                refine ev_iconst ?_
                exact ev_ret rfl (by decide) (by decide) ⟨_, rfl, by omega, by omega, g, k0⟩
              · refine ev_iconst ?_
                refine ev_goto f146_40 ?_
                refine ev_ret rfl (by decide) (by decide) ?_
                show jEv _ _ _ _ _ _ _ (_, [(2, 0), (0, a1), (0, a2), (0, a3), (2, (r35335 : Int))], [(0, 1)], _, _, _)
                refine ev_ifeq f190_50 (fun c35379 => absurd c35379 (by omega)) (fun c35379 => ?_)
                refine ev_iload_n rfl ?_
                refine ev_iflt f190_50 (fun c35380 => ?_) (fun c35380 => ?_)
                · refine ev_iconst ?_
                  exact ev_ret rfl (by decide) (by decide) ⟨_, rfl, by omega, by omega, g, k0⟩
                · refine ev_iload_n rfl ?_
                  refine ev_iconst ?_
                  refine ev_icmple f190_52 (fun c35381 => ?_) (fun c35381 => ?_)
                  · refine ev_aload_n rfl ?_
                    refine g_getp (r := 0) (c := 1) g ad0 (by decide) (by decide) rf0_0 ft11_0 ?_
                    refine ev_call (jcall_v (A := []) (S' := []) (r := 1) rfl (g.lt ad1) (g.tg ad1) (Nat.le_of_ble_eq_true rfl)) (jOk_le (by decide) (s153 g )) (by decide) (by decide) (fun w35382 h35382 q35382 => ?_)
                    obtain ⟨v35383, rfl, lv35383, uv35383, g35382, kk35382⟩ := q35382
                    have k35382 := k0.tr kk35382 (by decide)
                    show jEv _ _ _ _ _ _ _ (_, [(2, 0), (0, a1), (0, a2), (0, a3), (2, (r35335 : Int))], [(0, v35383)], _, _, _)
                    refine ev_ifne f190_65 (fun c35384 => ?_) (fun c35384 => ?_)
                    · refine ev_aload rfl ?_
                      obtain ⟨v35385, ev35385, lv35385, uv35385⟩ := g35382.q1 qr35335
                      refine g_qgetv (v := v35385) g35382 qr35335 ft4_1 ev35385 ?_
                      refine ev_ifge f190_78 (fun c35386 => ?_) (fun c35386 => ?_)
                      · refine ev_aload_n rfl ?_
                        refine ev_aload rfl ?_
                        refine ev_iload_n rfl ?_
                        refine ev_bipush ?_
                        refine g_idivP (c := 100) rfl (by decide) (by omega) (by omega) (fun v35387 ev35387 lv35387 uv35387 => ?_)
                        obtain rfl : v35339 = v35387 := by omega
                        refine ev_iload_n rfl ?_
                        refine ev_bipush ?_
                        refine g_idivP (c := 10) rfl (by decide) (by omega) (by omega) (fun v35388 ev35388 lv35388 uv35388 => ?_)
                        obtain rfl : v35340 = v35388 := by omega
                        refine ev_bipush ?_
                        refine g_iremP (c := 10) rfl (by decide) (by omega) (fun v35389 ev35389 lv35389 uv35389 wv35389 => ?_)
                        obtain rfl : v35341 = v35389 := by omega
                        refine ev_iload_n rfl ?_
                        refine ev_bipush ?_
                        refine g_iremP (c := 10) rfl (by decide) (by omega) (fun v35390 ev35390 lv35390 uv35390 wv35390 => ?_)
                        obtain rfl : v35342 = v35390 := by omega
                        refine ev_in (d := 5) (a := 0) (b := 0) (cd' := c147_0) (m := 3) (L0 := [(0, v35339), (0, v35341), (0, v35342)]) (jcall_s (A := [(0, v35342), (0, v35341), (0, v35339)]) (S' := [(2, (r35335 : Int)), (2, 0)]) (by decide) rfl (Nat.le_of_ble_eq_true rfl)) (by decide) ml147 pp147 (Nat.le_of_ble_eq_true rfl) rfl (by decide) (by decide) ?_
                        refine ev_bipush ?_
                        refine ev_iload_n rfl ?_
                        refine ev_imul (r := (9 * v35339)) (by unfold w32; omega) ?_
                        refine ev_iconst ?_
                        refine ev_iload_n rfl ?_
                        refine ev_imul (r := (3 * v35341)) (by unfold w32; omega) ?_
                        refine ev_iadd (r := (9 * v35339 + 3 * v35341)) (by unfold w32; omega) ?_
                        refine ev_iload_n rfl ?_
                        refine ev_iadd (r := (9 * v35339 + 3 * v35341 + v35342)) (by unfold w32; omega) ?_
                        refine ev_ret rfl (by decide) (by decide) ?_
                        show jEv _ _ _ _ _ _ _ (_, [(2, 0), (0, a1), (0, a2), (0, a3), (2, (r35335 : Int))], [(0, (9 * v35339 + 3 * v35341 + v35342)), (2, (r35335 : Int)), (2, 0)], _, _, _)
                        refine ev_iload_n rfl ?_
                        refine ev_call (jcall_v (A := [(0, a3), (0, (9 * v35339 + 3 * v35341 + v35342)), (2, (r35335 : Int))]) (S' := []) (r := 0) rfl (g35382.lt ad0) (g35382.tg ad0) (Nat.le_of_ble_eq_true rfl)) (jOk_le (by decide) (s231 g35382 qr35335 (by omega) (by omega) (by omega) (by omega))) (by decide) (by decide) (fun w35391 h35391 q35391 => ?_)
                        obtain ⟨v35392, rfl, lv35392, uv35392, g35391, kk35391⟩ := q35391
                        have k35391 := k35382.tr kk35391 (by decide)
                        show jEv _ _ _ _ _ _ _ (_, [(2, 0), (0, a1), (0, a2), (0, a3), (2, (r35335 : Int))], [(0, v35392)], _, _, _)
                        exact ev_ret rfl (by decide) (by decide) ⟨_, rfl, by omega, by omega, g35391, k35391⟩
                      · refine ev_bipush ?_
                        refine ev_goto f190_103 ?_
                        exact ev_ret rfl (by decide) (by decide) ⟨_, rfl, by omega, by omega, g35382, k35382⟩
                    · refine ev_bipush ?_
                      exact ev_ret rfl (by decide) (by decide) ⟨_, rfl, by omega, by omega, g35382, k35382⟩
                  · refine ev_iconst ?_
                    exact ev_ret rfl (by decide) (by decide) ⟨_, rfl, by omega, by omega, g, k0⟩
    · refine ev_aconst_null ?_
      refine ev_goto f219_22 ?_
      refine ev_ret rfl (by decide) (by decide) ?_
      show jEv _ _ _ _ _ _ _ (_, [(2, 0), (0, a1), (0, a2), (0, a3), (9, 0)], [(2, (-1))], _, _, _)
      refine ev_astore (L' := [(2, 0), (0, a1), (0, a2), (0, a3), (2, (-1))]) (Nat.le_of_ble_eq_true rfl) rfl ?_
      refine ev_aload rfl ?_
      refine ev_ifnull f190_50 (fun c35393 => ?_) (fun c35393 => absurd c35393 (by decide))
      refine ev_iconst ?_
      exact ev_ret rfl (by decide) (by decide) ⟨_, rfl, by omega, by omega, g, k0⟩
/-! 191 edgeOf -/
set_option maxHeartbeats 4000000 in
theorem s191 {G : GH} {h : JH} (g : Gd G h) {a1 : Int} (la1 : (-2147483648) ≤ a1) (ua1 : a1 ≤ 2147483647) {a2 : Int} (la2 : (-2147483648) ≤ a2) (ua2 : a2 ≤ 2147483647) {a3 : Int} (la3 : (-2147483648) ≤ a3) (ua3 : a3 ≤ 2147483647) {a4 : Int} (la4 : (-2147483648) ≤ a4) (ua4 : a4 ≤ 2147483647) : jOk 6 0 0 191 [(2, 0), (0, a1), (0, a2), (0, a3), (0, a4)] h (PI G [(1, 2), (1, 3), (5, 0), (6, 0), (4, 0), (1000000, 0)] h 0 (-4) 40) := by
  refine ⟨by decide, by rw [ml191]; exact Nat.le_of_ble_eq_true rfl, ?_⟩
  rw [ml191, pp191]
  show jEv _ none _ c191_0 0 0 _ (c191_0, [(2, 0), (0, a1), (0, a2), (0, a3), (0, a4), (9, 0), (9, 0)], [], h, 0, 0)
  have k0 := Kp.rf [(1, 2), (1, 3), (5, 0), (6, 0), (4, 0), (1000000, 0)] h
  refine ev_aload_n rfl ?_
  refine ev_iload_n rfl ?_
  refine ev_in (d := 4) (a := 0) (b := 0) (cd' := c219_0) (m := 2) (L0 := [(2, 0), (0, a1)]) (jcall_v (A := [(0, a1)]) (S' := []) (r := 0) rfl (g.lt ad0) (g.tg ad0) (Nat.le_of_ble_eq_true rfl)) (by decide) ml219 pp219 (Nat.le_of_ble_eq_true rfl) rfl (by decide) (by decide) ?_
  refine ev_iload_n rfl ?_
  refine ev_iflt f219_12 (fun c35520 => ?_) (fun c35520 => ?_)
  · refine ev_aconst_null ?_
    refine ev_goto f219_22 ?_
    refine ev_ret rfl (by decide) (by decide) ?_
    show jEv _ _ _ _ _ _ _ (_, [(2, 0), (0, a1), (0, a2), (0, a3), (0, a4), (9, 0), (9, 0)], [(2, (-1))], _, _, _)
    refine ev_astore (L' := [(2, 0), (0, a1), (0, a2), (0, a3), (0, a4), (2, (-1)), (9, 0)]) (Nat.le_of_ble_eq_true rfl) rfl ?_
    refine ev_aload rfl ?_
    refine ev_ifnull f191_33 (fun c35521 => ?_) (fun c35521 => absurd c35521 (by decide))
    refine ev_iconst ?_
    exact ev_ret rfl (by decide) (by decide) ⟨_, rfl, by omega, by omega, g, k0⟩
  · refine ev_iload_n rfl ?_
    refine ev_aload_n rfl ?_
    obtain ⟨v35522, ev35522, lv35522, uv35522⟩ := g.rd ad0 (show 3 < 17 by decide) rf0_3
    refine g_getv (r := 0) (v := v35522) g ad0 (by decide) ft11_3 ev35522 ?_
    refine ev_icmplt f219_16 (fun c35523 => ?_) (fun c35523 => ?_)
    · refine ev_aload_n rfl ?_
      refine g_getp (r := 0) (c := 18) g ad0 (by decide) (by decide) rf0_2 ft11_2 ?_
      refine ev_iload_n rfl ?_
      refine g_qaald (g) (i := a1) (ev35522) (by omega) (by omega) (fun r35524 m35525 qr35524 => ?_)
      have wr35524 := g.qb qr35524
      have zr35524 := qr35524.1
      refine ev_ret rfl (by decide) (by decide) ?_
      show jEv _ _ _ _ _ _ _ (_, [(2, 0), (0, a1), (0, a2), (0, a3), (0, a4), (9, 0), (9, 0)], [(2, (r35524 : Int))], _, _, _)
      refine ev_astore (L' := [(2, 0), (0, a1), (0, a2), (0, a3), (0, a4), (2, (r35524 : Int)), (9, 0)]) (Nat.le_of_ble_eq_true rfl) rfl ?_
      refine ev_aload rfl ?_
      refine ev_ifnull f191_33 (fun c35526 => absurd c35526 (by omega)) (fun c35526 => ?_)
      refine ev_aload rfl ?_
      refine ev_iload_n rfl ?_
      refine ev_iload_n rfl ?_
      refine ev_in (d := 4) (a := 0) (b := 0) (cd' := c32_0) (m := 3) (L0 := [(2, (r35524 : Int)), (0, a2), (0, a3)]) (jcall_v (A := [(0, a3), (0, a2)]) (S' := []) (r := r35524) rfl (g.qlt qr35524) (g.qtg qr35524) (Nat.le_of_ble_eq_true rfl)) (by decide) ml32 pp32 (Nat.le_of_ble_eq_true rfl) rfl (by decide) (by decide) ?_
      refine ev_iload_n rfl ?_
      refine ev_iconst ?_
      refine ev_icmpne f32_30 (fun c35527 => ?_) (fun c35527 => ?_)
      · refine ev_aload_n rfl ?_
        refine ev_iload_n rfl ?_
        refine ev_iload_n rfl ?_
        refine ev_in (d := 3) (a := 0) (b := 0) (cd' := c26_0) (m := 3) (L0 := [(2, (r35524 : Int)), (0, a2), (0, a3)]) (jcall_v (A := [(0, a3), (0, a2)]) (S' := []) (r := r35524) rfl (g.qlt qr35524) (g.qtg qr35524) (Nat.le_of_ble_eq_true rfl)) (by decide) ml26 pp26 (Nat.le_of_ble_eq_true rfl) rfl (by decide) (by decide) ?_
        refine ev_aload_n rfl ?_
        refine ev_iload_n rfl ?_
        refine ev_iload_n rfl ?_
        refine ev_in (d := 2) (a := 0) (b := 0) (cd' := c25_0) (m := 3) (L0 := [(2, (r35524 : Int)), (0, a2), (0, a3)]) (jcall_v (A := [(0, a3), (0, a2)]) (S' := []) (r := r35524) rfl (g.qlt qr35524) (g.qtg qr35524) (Nat.le_of_ble_eq_true rfl)) (by decide) ml25 pp25 (Nat.le_of_ble_eq_true rfl) rfl (by decide) (by decide) ?_
        refine ev_aload_n rfl ?_
        refine ev_iload_n rfl ?_
        refine ev_in (d := 1) (a := 0) (b := 0) (cd' := c24_0) (m := 2) (L0 := [(2, (r35524 : Int)), (0, a2)]) (jcall_v (A := [(0, a2)]) (S' := []) (r := r35524) rfl (g.qlt qr35524) (g.qtg qr35524) (Nat.le_of_ble_eq_true rfl)) (by decide) ml24 pp24 (Nat.le_of_ble_eq_true rfl) rfl (by decide) (by decide) ?_
        refine ev_iload_n rfl ?_
        refine ev_iflt f24_16 (fun c35528 => ?_) (fun c35528 => ?_)
        · refine ev_iconst ?_
          refine ev_ret rfl (by decide) (by decide) ?_
          show jEv _ _ _ _ _ _ _ (_, [(2, (r35524 : Int)), (0, a2), (0, a3)], [(0, 0)], _, _, _)
          refine ev_ifeq f25_26 (fun c35529 => ?_) (fun c35529 => absurd c35529 (by omega))
          refine ev_iconst ?_
          refine ev_ret rfl (by decide) (by decide) ?_
          show jEv _ _ _ _ _ _ _ (_, [(2, (r35524 : Int)), (0, a2), (0, a3)], [(0, 0)], _, _, _)
          refine ev_ifeq f26_23 (fun c35530 => ?_) (fun c35530 => absurd c35530 (by omega))
          refine ev_iconst ?_
          refine ev_ret rfl (by decide) (by decide) ?_
          show jEv _ _ _ _ _ _ _ (_, [(2, (r35524 : Int)), (0, a2), (0, a3)], [(0, 0)], _, _, _)
          refine ev_ret rfl (by decide) (by decide) ?_
          show jEv _ _ _ _ _ _ _ (_, [(2, 0), (0, a1), (0, a2), (0, a3), (0, a4), (2, (r35524 : Int)), (9, 0)], [(0, 0)], _, _, _)
          refine ev_ifeq f191_33 (fun c35531 => ?_) (fun c35531 => absurd c35531 (by omega))
          refine ev_iconst ?_
          exact ev_ret rfl (by decide) (by decide) ⟨_, rfl, by omega, by omega, g, k0⟩
        · refine ev_iload_n rfl ?_
          refine ev_aload_n rfl ?_
          obtain ⟨v35532, ev35532, lv35532, uv35532⟩ := g.q0 qr35524
          refine g_qgetv (v := v35532) g qr35524 ft4_0 ev35532 ?_
          refine ev_icmpge f24_16 (fun c35533 => ?_) (fun c35533 => ?_)
          · refine ev_iconst ?_
            refine ev_ret rfl (by decide) (by decide) ?_
            show jEv _ _ _ _ _ _ _ (_, [(2, (r35524 : Int)), (0, a2), (0, a3)], [(0, 0)], _, _, _)
            refine ev_ifeq f25_26 (fun c35534 => ?_) (fun c35534 => absurd c35534 (by omega))
            refine ev_iconst ?_
            refine ev_ret rfl (by decide) (by decide) ?_
            show jEv _ _ _ _ _ _ _ (_, [(2, (r35524 : Int)), (0, a2), (0, a3)], [(0, 0)], _, _, _)
            refine ev_ifeq f26_23 (fun c35535 => ?_) (fun c35535 => absurd c35535 (by omega))
            refine ev_iconst ?_
            refine ev_ret rfl (by decide) (by decide) ?_
            show jEv _ _ _ _ _ _ _ (_, [(2, (r35524 : Int)), (0, a2), (0, a3)], [(0, 0)], _, _, _)
            refine ev_ret rfl (by decide) (by decide) ?_
            show jEv _ _ _ _ _ _ _ (_, [(2, 0), (0, a1), (0, a2), (0, a3), (0, a4), (2, (r35524 : Int)), (9, 0)], [(0, 0)], _, _, _)
            refine ev_ifeq f191_33 (fun c35536 => ?_) (fun c35536 => absurd c35536 (by omega))
            refine ev_iconst ?_
            exact ev_ret rfl (by decide) (by decide) ⟨_, rfl, by omega, by omega, g, k0⟩
          · refine ev_iconst ?_
            refine ev_goto f24_17 ?_
            refine ev_ret rfl (by decide) (by decide) ?_
            show jEv _ _ _ _ _ _ _ (_, [(2, (r35524 : Int)), (0, a2), (0, a3)], [(0, 1)], _, _, _)
            refine ev_ifeq f25_26 (fun c35537 => absurd c35537 (by omega)) (fun c35537 => ?_)
            refine ev_iload_n rfl ?_
            refine ev_iflt f25_26 (fun c35538 => ?_) (fun c35538 => ?_)
            · refine ev_iconst ?_
              refine ev_ret rfl (by decide) (by decide) ?_
              show jEv _ _ _ _ _ _ _ (_, [(2, (r35524 : Int)), (0, a2), (0, a3)], [(0, 0)], _, _, _)
              refine ev_ifeq f26_23 (fun c35539 => ?_) (fun c35539 => absurd c35539 (by omega))
              refine ev_iconst ?_
              refine ev_ret rfl (by decide) (by decide) ?_
              show jEv _ _ _ _ _ _ _ (_, [(2, (r35524 : Int)), (0, a2), (0, a3)], [(0, 0)], _, _, _)
              refine ev_ret rfl (by decide) (by decide) ?_
              show jEv _ _ _ _ _ _ _ (_, [(2, 0), (0, a1), (0, a2), (0, a3), (0, a4), (2, (r35524 : Int)), (9, 0)], [(0, 0)], _, _, _)
              refine ev_ifeq f191_33 (fun c35540 => ?_) (fun c35540 => absurd c35540 (by omega))
              refine ev_iconst ?_
              exact ev_ret rfl (by decide) (by decide) ⟨_, rfl, by omega, by omega, g, k0⟩
            · refine ev_iload_n rfl ?_
              refine ev_aload_n rfl ?_
              refine g_qgetp g qr35524 (c := 4) (by decide) (by decide) ft4_4 ?_
              refine ev_iload_n rfl ?_
              refine g_qiald g qr35524 (c := 4) (by decide) (by decide) (by decide) (by omega) (by show a2 < m35525; omega) rfl (fun v35541 ev35541 lv35541 uv35541 => ?_)
              refine ev_icmpge f25_26 (fun c35542 => ?_) (fun c35542 => ?_)
              · refine ev_iconst ?_
                refine ev_ret rfl (by decide) (by decide) ?_
                show jEv _ _ _ _ _ _ _ (_, [(2, (r35524 : Int)), (0, a2), (0, a3)], [(0, 0)], _, _, _)
                refine ev_ifeq f26_23 (fun c35543 => ?_) (fun c35543 => absurd c35543 (by omega))
                refine ev_iconst ?_
                refine ev_ret rfl (by decide) (by decide) ?_
                show jEv _ _ _ _ _ _ _ (_, [(2, (r35524 : Int)), (0, a2), (0, a3)], [(0, 0)], _, _, _)
                refine ev_ret rfl (by decide) (by decide) ?_
                show jEv _ _ _ _ _ _ _ (_, [(2, 0), (0, a1), (0, a2), (0, a3), (0, a4), (2, (r35524 : Int)), (9, 0)], [(0, 0)], _, _, _)
                refine ev_ifeq f191_33 (fun c35544 => ?_) (fun c35544 => absurd c35544 (by omega))
                refine ev_iconst ?_
                exact ev_ret rfl (by decide) (by decide) ⟨_, rfl, by omega, by omega, g, k0⟩
              · refine ev_iconst ?_
                refine ev_goto f25_27 ?_
                refine ev_ret rfl (by decide) (by decide) ?_
                show jEv _ _ _ _ _ _ _ (_, [(2, (r35524 : Int)), (0, a2), (0, a3)], [(0, 1)], _, _, _)
                refine ev_ifeq f26_23 (fun c35545 => absurd c35545 (by omega)) (fun c35545 => ?_)
                refine ev_aload_n rfl ?_
                refine g_qgetp g qr35524 (c := 2) (by decide) (by decide) ft4_2 ?_
                refine ev_iload_n rfl ?_
                refine g_qiald g qr35524 (c := 2) (by decide) (by decide) (by decide) (by omega) (by show a2 < m35525; omega) rfl (fun v35546 ev35546 lv35546 uv35546 => ?_)
                refine ev_iconst ?_
                refine ev_icmpne f26_23 (fun c35547 => ?_) (fun c35547 => ?_)
                · refine ev_iconst ?_
                  refine ev_ret rfl (by decide) (by decide) ?_
                  show jEv _ _ _ _ _ _ _ (_, [(2, (r35524 : Int)), (0, a2), (0, a3)], [(0, 0)], _, _, _)
                  refine ev_ret rfl (by decide) (by decide) ?_
                  show jEv _ _ _ _ _ _ _ (_, [(2, 0), (0, a1), (0, a2), (0, a3), (0, a4), (2, (r35524 : Int)), (9, 0)], [(0, 0)], _, _, _)
                  refine ev_ifeq f191_33 (fun c35548 => ?_) (fun c35548 => absurd c35548 (by omega))
                  refine ev_iconst ?_
                  exact ev_ret rfl (by decide) (by decide) ⟨_, rfl, by omega, by omega, g, k0⟩
                · refine ev_iconst ?_
                  refine ev_goto f26_24 ?_
                  refine ev_ret rfl (by decide) (by decide) ?_
                  show jEv _ _ _ _ _ _ _ (_, [(2, (r35524 : Int)), (0, a2), (0, a3)], [(0, 1)], _, _, _)
                  refine ev_ret rfl (by decide) (by decide) ?_
                  show jEv _ _ _ _ _ _ _ (_, [(2, 0), (0, a1), (0, a2), (0, a3), (0, a4), (2, (r35524 : Int)), (9, 0)], [(0, 1)], _, _, _)
                  refine ev_ifeq f191_33 (fun c35549 => absurd c35549 (by omega)) (fun c35549 => ?_)
                  refine ev_iload rfl ?_
                  refine ev_iflt f191_33 (fun c35550 => ?_) (fun c35550 => ?_)
                  · refine ev_iconst ?_
                    exact ev_ret rfl (by decide) (by decide) ⟨_, rfl, by omega, by omega, g, k0⟩
                  · refine ev_iload rfl ?_
                    refine ev_iconst ?_
                    refine ev_icmple f191_35 (fun c35551 => ?_) (fun c35551 => ?_)
                    · refine ev_aload_n rfl ?_
                      refine g_getp (r := 0) (c := 1) g ad0 (by decide) (by decide) rf0_0 ft11_0 ?_
                      refine ev_call (jcall_v (A := []) (S' := []) (r := 1) rfl (g.lt ad1) (g.tg ad1) (Nat.le_of_ble_eq_true rfl)) (jOk_le (by decide) (s153 g )) (by decide) (by decide) (fun w35552 h35552 q35552 => ?_)
                      obtain ⟨v35553, rfl, lv35553, uv35553, g35552, kk35552⟩ := q35552
                      have k35552 := k0.tr kk35552 (by decide)
                      show jEv _ _ _ _ _ _ _ (_, [(2, 0), (0, a1), (0, a2), (0, a3), (0, a4), (2, (r35524 : Int)), (9, 0)], [(0, v35553)], _, _, _)
                      refine ev_ifne f191_48 (fun c35554 => ?_) (fun c35554 => ?_)
                      · refine ev_aload rfl ?_
                        refine ev_aload_n rfl ?_
                        refine g_getp (r := 0) (c := 1) g35552 ad0 (by decide) (by decide) rf0_0 ft11_0 ?_
                        refine ev_aload_n rfl ?_
                        refine g_getp (r := 0) (c := 23) g35552 ad0 (by decide) (by decide) rf0_5 ft11_5 ?_
                        refine ev_iconst ?_
                        refine ev_call (jcall_v (A := [(0, 0), (2, 23), (2, 1)]) (S' := []) (r := r35524) rfl (g35552.qlt qr35524) (g35552.qtg qr35524) (Nat.le_of_ble_eq_true rfl)) (jOk_le (by decide) (s47 g35552 qr35524 (Or.inl rfl) (by omega) (by omega))) (by decide) (by decide) (fun w35555 h35555 q35555 => ?_)
                        obtain ⟨v35556, rfl, lv35556, uv35556, g35555, kk35555⟩ := q35555
                        have k35555 := k35552.tr kk35555 (by decide)
                        show jEv _ _ _ _ _ _ _ (_, [(2, 0), (0, a1), (0, a2), (0, a3), (0, a4), (2, (r35524 : Int)), (9, 0)], [(1, v35556)], _, _, _)
                        refine ev_pop2 ?_
                        refine ev_aload rfl ?_
                        refine ev_aload_n rfl ?_
                        refine g_getp (r := 0) (c := 1) g35555 ad0 (by decide) (by decide) rf0_0 ft11_0 ?_
                        refine ev_iload_n rfl ?_
                        refine ev_iload_n rfl ?_
                        refine ev_iload rfl ?_
                        refine ev_bipush ?_
                        refine ev_call (jcall_v (A := [(0, 40), (0, a4), (0, a3), (0, a2), (2, 1)]) (S' := []) (r := r35524) rfl (g35555.qlt qr35524) (g35555.qtg qr35524) (Nat.le_of_ble_eq_true rfl)) (jOk_le (by decide) (s60 g35555 qr35524 (by omega) (by omega) (by omega) (by omega) (by omega) (by omega) (by omega) (by omega))) (by decide) (by decide) (fun w35557 h35557 q35557 => ?_)
                        obtain ⟨v35558, rfl, lv35558, uv35558, g35557, kk35557⟩ := q35557
                        have k35557 := k35555.tr kk35557 (by decide)
                        show jEv _ _ _ _ _ _ _ (_, [(2, 0), (0, a1), (0, a2), (0, a3), (0, a4), (2, (r35524 : Int)), (9, 0)], [(0, v35558)], _, _, _)
                        refine ev_istore (L' := [(2, 0), (0, a1), (0, a2), (0, a3), (0, a4), (2, (r35524 : Int)), (0, v35558)]) (Nat.le_of_ble_eq_true rfl) rfl ?_
                        refine ev_iload rfl ?_
                        refine ev_ifne f191_90 (fun c35559 => ?_) (fun c35559 => ?_)
                        · refine ev_iload rfl ?_
                          exact ev_ret rfl (by decide) (by decide) ⟨_, rfl, by omega, by omega, g35557, k35557⟩
                        · refine ev_bipush ?_
                          refine ev_goto f191_92 ?_
                          exact ev_ret rfl (by decide) (by decide) ⟨_, rfl, by omega, by omega, g35557, k35557⟩
                      · refine ev_bipush ?_
                        exact ev_ret rfl (by decide) (by decide) ⟨_, rfl, by omega, by omega, g35552, k35552⟩
                    · refine ev_iconst ?_
                      exact ev_ret rfl (by decide) (by decide) ⟨_, rfl, by omega, by omega, g, k0⟩
      · refine ev_aload_n rfl ?_
        refine ev_iload_n rfl ?_
        refine ev_in (d := 3) (a := 0) (b := 0) (cd' := c24_0) (m := 2) (L0 := [(2, (r35524 : Int)), (0, a2)]) (jcall_v (A := [(0, a2)]) (S' := []) (r := r35524) rfl (g.qlt qr35524) (g.qtg qr35524) (Nat.le_of_ble_eq_true rfl)) (by decide) ml24 pp24 (Nat.le_of_ble_eq_true rfl) rfl (by decide) (by decide) ?_
        refine ev_iload_n rfl ?_
        refine ev_iflt f24_16 (fun c35560 => ?_) (fun c35560 => ?_)
        · refine ev_iconst ?_
          refine ev_ret rfl (by decide) (by decide) ?_
          show jEv _ _ _ _ _ _ _ (_, [(2, (r35524 : Int)), (0, a2), (0, a3)], [(0, 0)], _, _, _)
          refine ev_ifeq f32_26 (fun c35561 => ?_) (fun c35561 => absurd c35561 (by omega))
          refine ev_iconst ?_
          refine ev_goto f32_36 ?_
          refine ev_ret rfl (by decide) (by decide) ?_
          show jEv _ _ _ _ _ _ _ (_, [(2, 0), (0, a1), (0, a2), (0, a3), (0, a4), (2, (r35524 : Int)), (9, 0)], [(0, 0)], _, _, _)
          refine ev_ifeq f191_33 (fun c35562 => ?_) (fun c35562 => absurd c35562 (by omega))
          refine ev_iconst ?_
          exact ev_ret rfl (by decide) (by decide) ⟨_, rfl, by omega, by omega, g, k0⟩
        · refine ev_iload_n rfl ?_
          refine ev_aload_n rfl ?_
          obtain ⟨v35563, ev35563, lv35563, uv35563⟩ := g.q0 qr35524
          refine g_qgetv (v := v35563) g qr35524 ft4_0 ev35563 ?_
          refine ev_icmpge f24_16 (fun c35564 => ?_) (fun c35564 => ?_)
          · refine ev_iconst ?_
            refine ev_ret rfl (by decide) (by decide) ?_
            show jEv _ _ _ _ _ _ _ (_, [(2, (r35524 : Int)), (0, a2), (0, a3)], [(0, 0)], _, _, _)
            refine ev_ifeq f32_26 (fun c35565 => ?_) (fun c35565 => absurd c35565 (by omega))
            refine ev_iconst ?_
            refine ev_goto f32_36 ?_
            refine ev_ret rfl (by decide) (by decide) ?_
            show jEv _ _ _ _ _ _ _ (_, [(2, 0), (0, a1), (0, a2), (0, a3), (0, a4), (2, (r35524 : Int)), (9, 0)], [(0, 0)], _, _, _)
            refine ev_ifeq f191_33 (fun c35566 => ?_) (fun c35566 => absurd c35566 (by omega))
            refine ev_iconst ?_
            exact ev_ret rfl (by decide) (by decide) ⟨_, rfl, by omega, by omega, g, k0⟩
          · refine ev_iconst ?_
            refine ev_goto f24_17 ?_
            refine ev_ret rfl (by decide) (by decide) ?_
            show jEv _ _ _ _ _ _ _ (_, [(2, (r35524 : Int)), (0, a2), (0, a3)], [(0, 1)], _, _, _)
            refine ev_ifeq f32_26 (fun c35567 => absurd c35567 (by omega)) (fun c35567 => ?_)
            refine ev_aload_n rfl ?_
            refine g_qgetp g qr35524 (c := 2) (by decide) (by decide) ft4_2 ?_
            refine ev_iload_n rfl ?_
            refine g_qiald g qr35524 (c := 2) (by decide) (by decide) (by decide) (by omega) (by show a2 < m35525; omega) rfl (fun v35568 ev35568 lv35568 uv35568 => ?_)
            refine ev_ifne f32_26 (fun c35569 => ?_) (fun c35569 => ?_)
            · refine ev_iconst ?_
              refine ev_goto f32_36 ?_
              refine ev_ret rfl (by decide) (by decide) ?_
              show jEv _ _ _ _ _ _ _ (_, [(2, 0), (0, a1), (0, a2), (0, a3), (0, a4), (2, (r35524 : Int)), (9, 0)], [(0, 0)], _, _, _)
              refine ev_ifeq f191_33 (fun c35570 => ?_) (fun c35570 => absurd c35570 (by omega))
              refine ev_iconst ?_
              exact ev_ret rfl (by decide) (by decide) ⟨_, rfl, by omega, by omega, g, k0⟩
            · refine ev_iconst ?_
              refine ev_goto f32_36 ?_
              refine ev_ret rfl (by decide) (by decide) ?_
              show jEv _ _ _ _ _ _ _ (_, [(2, 0), (0, a1), (0, a2), (0, a3), (0, a4), (2, (r35524 : Int)), (9, 0)], [(0, 1)], _, _, _)
              refine ev_ifeq f191_33 (fun c35571 => absurd c35571 (by omega)) (fun c35571 => ?_)
              refine ev_iload rfl ?_
              refine ev_iflt f191_33 (fun c35572 => ?_) (fun c35572 => ?_)
              · refine ev_iconst ?_
                exact ev_ret rfl (by decide) (by decide) ⟨_, rfl, by omega, by omega, g, k0⟩
              · refine ev_iload rfl ?_
                refine ev_iconst ?_
                refine ev_icmple f191_35 (fun c35573 => ?_) (fun c35573 => ?_)
                · refine ev_aload_n rfl ?_
                  refine g_getp (r := 0) (c := 1) g ad0 (by decide) (by decide) rf0_0 ft11_0 ?_
                  refine ev_call (jcall_v (A := []) (S' := []) (r := 1) rfl (g.lt ad1) (g.tg ad1) (Nat.le_of_ble_eq_true rfl)) (jOk_le (by decide) (s153 g )) (by decide) (by decide) (fun w35574 h35574 q35574 => ?_)
                  obtain ⟨v35575, rfl, lv35575, uv35575, g35574, kk35574⟩ := q35574
                  have k35574 := k0.tr kk35574 (by decide)
                  show jEv _ _ _ _ _ _ _ (_, [(2, 0), (0, a1), (0, a2), (0, a3), (0, a4), (2, (r35524 : Int)), (9, 0)], [(0, v35575)], _, _, _)
                  refine ev_ifne f191_48 (fun c35576 => ?_) (fun c35576 => ?_)
                  · refine ev_aload rfl ?_
                    refine ev_aload_n rfl ?_
                    refine g_getp (r := 0) (c := 1) g35574 ad0 (by decide) (by decide) rf0_0 ft11_0 ?_
                    refine ev_aload_n rfl ?_
                    refine g_getp (r := 0) (c := 23) g35574 ad0 (by decide) (by decide) rf0_5 ft11_5 ?_
                    refine ev_iconst ?_
                    refine ev_call (jcall_v (A := [(0, 0), (2, 23), (2, 1)]) (S' := []) (r := r35524) rfl (g35574.qlt qr35524) (g35574.qtg qr35524) (Nat.le_of_ble_eq_true rfl)) (jOk_le (by decide) (s47 g35574 qr35524 (Or.inl rfl) (by omega) (by omega))) (by decide) (by decide) (fun w35577 h35577 q35577 => ?_)
                    obtain ⟨v35578, rfl, lv35578, uv35578, g35577, kk35577⟩ := q35577
                    have k35577 := k35574.tr kk35577 (by decide)
                    show jEv _ _ _ _ _ _ _ (_, [(2, 0), (0, a1), (0, a2), (0, a3), (0, a4), (2, (r35524 : Int)), (9, 0)], [(1, v35578)], _, _, _)
                    refine ev_pop2 ?_
                    refine ev_aload rfl ?_
                    refine ev_aload_n rfl ?_
                    refine g_getp (r := 0) (c := 1) g35577 ad0 (by decide) (by decide) rf0_0 ft11_0 ?_
                    refine ev_iload_n rfl ?_
                    refine ev_iload_n rfl ?_
                    refine ev_iload rfl ?_
                    refine ev_bipush ?_
                    refine ev_call (jcall_v (A := [(0, 40), (0, a4), (0, a3), (0, a2), (2, 1)]) (S' := []) (r := r35524) rfl (g35577.qlt qr35524) (g35577.qtg qr35524) (Nat.le_of_ble_eq_true rfl)) (jOk_le (by decide) (s60 g35577 qr35524 (by omega) (by omega) (by omega) (by omega) (by omega) (by omega) (by omega) (by omega))) (by decide) (by decide) (fun w35579 h35579 q35579 => ?_)
                    obtain ⟨v35580, rfl, lv35580, uv35580, g35579, kk35579⟩ := q35579
                    have k35579 := k35577.tr kk35579 (by decide)
                    show jEv _ _ _ _ _ _ _ (_, [(2, 0), (0, a1), (0, a2), (0, a3), (0, a4), (2, (r35524 : Int)), (9, 0)], [(0, v35580)], _, _, _)
                    refine ev_istore (L' := [(2, 0), (0, a1), (0, a2), (0, a3), (0, a4), (2, (r35524 : Int)), (0, v35580)]) (Nat.le_of_ble_eq_true rfl) rfl ?_
                    refine ev_iload rfl ?_
                    refine ev_ifne f191_90 (fun c35581 => ?_) (fun c35581 => ?_)
                    · refine ev_iload rfl ?_
                      exact ev_ret rfl (by decide) (by decide) ⟨_, rfl, by omega, by omega, g35579, k35579⟩
                    · refine ev_bipush ?_
                      refine ev_goto f191_92 ?_
                      exact ev_ret rfl (by decide) (by decide) ⟨_, rfl, by omega, by omega, g35579, k35579⟩
                  · refine ev_bipush ?_
                    exact ev_ret rfl (by decide) (by decide) ⟨_, rfl, by omega, by omega, g35574, k35574⟩
                · refine ev_iconst ?_
                  exact ev_ret rfl (by decide) (by decide) ⟨_, rfl, by omega, by omega, g, k0⟩
    · refine ev_aconst_null ?_
      refine ev_goto f219_22 ?_
      refine ev_ret rfl (by decide) (by decide) ?_
      show jEv _ _ _ _ _ _ _ (_, [(2, 0), (0, a1), (0, a2), (0, a3), (0, a4), (9, 0), (9, 0)], [(2, (-1))], _, _, _)
      refine ev_astore (L' := [(2, 0), (0, a1), (0, a2), (0, a3), (0, a4), (2, (-1)), (9, 0)]) (Nat.le_of_ble_eq_true rfl) rfl ?_
      refine ev_aload rfl ?_
      refine ev_ifnull f191_33 (fun c35582 => ?_) (fun c35582 => absurd c35582 (by decide))
      refine ev_iconst ?_
      exact ev_ret rfl (by decide) (by decide) ⟨_, rfl, by omega, by omega, g, k0⟩
/-! 192 most -/
set_option maxHeartbeats 4000000 in
theorem s192_l {G : GH} {h : JH} {a1 : Int} (la1 : (-2147483648) ≤ a1) (ua1 : a1 ≤ 2147483647) : ∀ N : Nat, (∀ (h1 : JH) (R2 : Nat) (M2 : Int) (x3 x4 x5 : Int) (j6 j7 : AV), IsQ G R2 M2 → Gd G h1 → Kp [(1, 2), (1, 3), (5, 0), (6, 0), (4, 0), (1000000, 0)] h h1 → 0 ≤ a1 → a1 ≤ 5 → (-2) ≤ x3 → x3 ≤ 99 → x3 ≤ M2 - 1 → 1 ≤ x4 → x4 ≤ 41 → 0 ≤ x5 → x5 ≤ 100 → ((-6) * x5 + 603) < N → jEv (jOk 5) none (fun _ => 0) c192_0 0 0 (PI G [(1, 2), (1, 3), (5, 0), (6, 0), (4, 0), (1000000, 0)] h 0 (-4) 99) (c192_49, [(2, 0), (0, a1), (2, (R2 : Int)), (0, x3), (0, x4), (0, x5), j6, j7], [], h1, 0, 0)) ∧ (∀ (h1 : JH) (R2 : Nat) (M2 : Int) (x3 x4 x5 x6 : Int) (j7 : AV), IsQ G R2 M2 → Gd G h1 → Kp [(1, 2), (1, 3), (5, 0), (6, 0), (4, 0), (1000000, 0)] h h1 → 0 ≤ a1 → a1 ≤ 5 → (-2) ≤ x3 → x3 ≤ 99 → x3 ≤ M2 - 1 → 1 ≤ x4 → x4 ≤ 41 → 0 ≤ x5 → x5 ≤ 99 → x5 ≤ M2 - 1 → 0 ≤ x6 → x6 ≤ 2 → ((-6) * x5 + (-x6) + 602) < N → jEv (jOk 5) none (fun _ => 0) c192_0 0 0 (PI G [(1, 2), (1, 3), (5, 0), (6, 0), (4, 0), (1000000, 0)] h 0 (-4) 99) (c192_61, [(2, 0), (0, a1), (2, (R2 : Int)), (0, x3), (0, x4), (0, x5), (0, x6), j7], [], h1, 0, 0)) := by
  intro N
  induction N with
  | zero => exact ⟨fun h1 R2 M2 x3 x4 x5 j6 j7 Q2 g1 k1 b0 b1 b2 b3 b4 b5 b6 b7 b8 hm => absurd hm (by omega), fun h1 R2 M2 x3 x4 x5 x6 j7 Q2 g1 k1 b0 b1 b2 b3 b4 b5 b6 b7 b8 b9 b10 b11 hm => absurd hm (by omega)⟩
  | succ N ih =>
    refine ⟨?_, ?_⟩
    · intro h1 R2 M2 x3 x4 x5 j6 j7 Q2 g1 k1 b0 b1 b2 b3 b4 b5 b6 b7 b8 hm
      have wR2 := g1.qb Q2
      have zR2 := Q2.1
      refine ev_iload rfl ?_
      refine ev_aload_n rfl ?_
      obtain ⟨v35923, ev35923, lv35923, uv35923⟩ := g1.q0 Q2
      refine g_qgetv (v := v35923) g1 Q2 ft4_0 ev35923 ?_
      refine ev_icmpge f192_119 (fun c35924 => ?_) (fun c35924 => ?_)
      · refine ev_iload_n rfl ?_
        exact ev_ret rfl (by decide) (by decide) ⟨_, rfl, by omega, by omega, g1, k1⟩
      · refine ev_iconst ?_
        refine ev_istore (L' := [(2, 0), (0, a1), (2, (R2 : Int)), (0, x3), (0, x4), (0, x5), (0, 0), j7]) (Nat.le_of_ble_eq_true rfl) rfl ?_
        exact ih.2 _ _ _ _ _ _ _ _ Q2 g1 k1 (by omega) (by omega) (by omega) (by omega) (by omega) (by omega) (by omega) (by omega) (by omega) (by omega) (by omega) (by omega) (by omega)
    · intro h1 R2 M2 x3 x4 x5 x6 j7 Q2 g1 k1 b0 b1 b2 b3 b4 b5 b6 b7 b8 b9 b10 b11 hm
      have wR2 := g1.qb Q2
      have zR2 := Q2.1
      refine ev_iload rfl ?_
      refine ev_iconst ?_
      refine ev_icmpgt f192_113 (fun c35925 => ?_) (fun c35925 => ?_)
      · refine ev_iinc (w := (x5 + 1)) (L' := [(2, 0), (0, a1), (2, (R2 : Int)), (0, x3), (0, x4), (0, (x5 + 1)), (0, x6), j7]) rfl (by unfold w32; omega) rfl ?_
        refine ev_goto f192_49 ?_
        exact ih.1 _ _ _ _ _ _ _ _ Q2 g1 k1 (by omega) (by omega) (by omega) (by omega) (by omega) (by omega) (by omega) (by omega) (by omega) (by omega)
      · refine ev_aload_n rfl ?_
        refine ev_iload rfl ?_
        refine ev_in (d := 4) (a := 0) (b := 0) (cd' := c27_0) (m := 2) (L0 := [(2, (R2 : Int)), (0, x5)]) (jcall_v (A := [(0, x5)]) (S' := []) (r := R2) rfl (g1.qlt Q2) (g1.qtg Q2) (Nat.le_of_ble_eq_true rfl)) (by decide) ml27 pp27 (Nat.le_of_ble_eq_true rfl) rfl (by decide) (by decide) ?_
        refine ev_aload_n rfl ?_
        refine g_qgetp g1 Q2 (c := 2) (by decide) (by decide) ft4_2 ?_
        refine ev_iload_n rfl ?_
        refine g_qiald g1 Q2 (c := 2) (by decide) (by decide) (by decide) (by omega) (by show x5 < M2; omega) rfl (fun v35926 ev35926 lv35926 uv35926 => ?_)
        refine ev_ret rfl (by decide) (by decide) ?_
        show jEv _ _ _ _ _ _ _ (_, [(2, 0), (0, a1), (2, (R2 : Int)), (0, x3), (0, x4), (0, x5), (0, x6), j7], [(0, v35926)], _, _, _)
        refine ev_ifne f192_113 (fun c35927 => ?_) (fun c35927 => ?_)
        · refine ev_iinc (w := (x5 + 1)) (L' := [(2, 0), (0, a1), (2, (R2 : Int)), (0, x3), (0, x4), (0, (x5 + 1)), (0, x6), j7]) rfl (by unfold w32; omega) rfl ?_
          refine ev_goto f192_49 ?_
          exact ih.1 _ _ _ _ _ _ _ _ Q2 g1 k1 (by omega) (by omega) (by omega) (by omega) (by omega) (by omega) (by omega) (by omega) (by omega) (by omega)
        · refine ev_aload_n rfl ?_
          refine ev_aload_n rfl ?_
          refine g_getp (r := 0) (c := 1) g1 ad0 (by decide) (by decide) rf0_0 ft11_0 ?_
          refine ev_iload rfl ?_
          refine ev_iconst ?_
          refine ev_iload rfl ?_
          refine ev_iload rfl ?_
          refine ev_iconst ?_
          refine ev_isub (r := (x4 - 1)) (by unfold w32; omega) ?_
          refine ev_call (jcall_v (A := [(0, (x4 - 1)), (0, x6), (0, (-1)), (0, x5), (2, 1)]) (S' := []) (r := R2) rfl (g1.qlt Q2) (g1.qtg Q2) (Nat.le_of_ble_eq_true rfl)) (jOk_le (by decide) (s60 g1 Q2 (by omega) (by omega) (by omega) (by omega) (by omega) (by omega) (by omega) (by omega))) (by decide) (by decide) (fun w35928 h35928 q35928 => ?_)
          obtain ⟨v35929, rfl, lv35929, uv35929, g35928, kk35928⟩ := q35928
          have k35928 := k1.tr kk35928 (by decide)
          show jEv _ _ _ _ _ _ _ (_, [(2, 0), (0, a1), (2, (R2 : Int)), (0, x3), (0, x4), (0, x5), (0, x6), j7], [(0, v35929)], _, _, _)
          refine ev_istore (L' := [(2, 0), (0, a1), (2, (R2 : Int)), (0, x3), (0, x4), (0, x5), (0, x6), (0, v35929)]) (Nat.le_of_ble_eq_true rfl) rfl ?_
          refine ev_iload rfl ?_
          refine ev_ifle f192_107 (fun c35930 => ?_) (fun c35930 => ?_)
          · refine ev_iinc (w := (x6 + 1)) (L' := [(2, 0), (0, a1), (2, (R2 : Int)), (0, x3), (0, x4), (0, x5), (0, (x6 + 1)), (0, v35929)]) rfl (by unfold w32; omega) rfl ?_
            refine ev_goto f192_61 ?_
            exact ih.2 _ _ _ _ _ _ _ _ Q2 g35928 k35928 (by omega) (by omega) (by omega) (by omega) (by omega) (by omega) (by omega) (by omega) (by omega) (by omega) (by omega) (by omega) (by omega)
          · refine ev_iload rfl ?_
            refine ev_istore (L' := [(2, 0), (0, a1), (2, (R2 : Int)), (0, x3), (0, v35929), (0, x5), (0, x6), (0, v35929)]) (Nat.le_of_ble_eq_true rfl) rfl ?_
            refine ev_iload rfl ?_
            refine ev_istore_n (L' := [(2, 0), (0, a1), (2, (R2 : Int)), (0, x5), (0, v35929), (0, x5), (0, x6), (0, v35929)]) (Nat.le_of_ble_eq_true rfl) rfl ?_
            refine ev_iinc (w := (x6 + 1)) (L' := [(2, 0), (0, a1), (2, (R2 : Int)), (0, x5), (0, v35929), (0, x5), (0, (x6 + 1)), (0, v35929)]) rfl (by unfold w32; omega) rfl ?_
            refine ev_goto f192_61 ?_
            exact ih.2 _ _ _ _ _ _ _ _ Q2 g35928 k35928 (by omega) (by omega) (by omega) (by omega) (by omega) (by omega) (by omega) (by omega) (by omega) (by omega) (by omega) (by omega) (by omega)
set_option maxHeartbeats 4000000 in
theorem s192 {G : GH} {h : JH} (g : Gd G h) {a1 : Int} (la1 : (-2147483648) ≤ a1) (ua1 : a1 ≤ 2147483647) : jOk 6 0 0 192 [(2, 0), (0, a1)] h (PI G [(1, 2), (1, 3), (5, 0), (6, 0), (4, 0), (1000000, 0)] h 0 (-4) 99) := by
  refine ⟨by decide, by rw [ml192]; exact Nat.le_of_ble_eq_true rfl, ?_⟩
  rw [ml192, pp192]
  show jEv _ none _ c192_0 0 0 _ (c192_0, [(2, 0), (0, a1), (9, 0), (9, 0), (9, 0), (9, 0), (9, 0), (9, 0)], [], h, 0, 0)
  have k0 := Kp.rf [(1, 2), (1, 3), (5, 0), (6, 0), (4, 0), (1000000, 0)] h
  refine ev_aload_n rfl ?_
  refine ev_iload_n rfl ?_
  refine ev_in (d := 4) (a := 0) (b := 0) (cd' := c219_0) (m := 2) (L0 := [(2, 0), (0, a1)]) (jcall_v (A := [(0, a1)]) (S' := []) (r := 0) rfl (g.lt ad0) (g.tg ad0) (Nat.le_of_ble_eq_true rfl)) (by decide) ml219 pp219 (Nat.le_of_ble_eq_true rfl) rfl (by decide) (by decide) ?_
  refine ev_iload_n rfl ?_
  refine ev_iflt f219_12 (fun c35931 => ?_) (fun c35931 => ?_)
  · refine ev_aconst_null ?_
    refine ev_goto f219_22 ?_
    refine ev_ret rfl (by decide) (by decide) ?_
    show jEv _ _ _ _ _ _ _ (_, [(2, 0), (0, a1), (9, 0), (9, 0), (9, 0), (9, 0), (9, 0), (9, 0)], [(2, (-1))], _, _, _)
    refine ev_astore_n (L' := [(2, 0), (0, a1), (2, (-1)), (9, 0), (9, 0), (9, 0), (9, 0), (9, 0)]) (Nat.le_of_ble_eq_true rfl) rfl ?_
    refine ev_aload_n rfl ?_
    refine ev_ifnonnull f192_12 (fun c35932 => absurd c35932 (by decide)) (fun c35932 => ?_)
    refine ev_iconst ?_
    exact ev_ret rfl (by decide) (by decide) ⟨_, rfl, by omega, by omega, g, k0⟩
  · refine ev_iload_n rfl ?_
    refine ev_aload_n rfl ?_
    obtain ⟨v35933, ev35933, lv35933, uv35933⟩ := g.rd ad0 (show 3 < 17 by decide) rf0_3
    refine g_getv (r := 0) (v := v35933) g ad0 (by decide) ft11_3 ev35933 ?_
    refine ev_icmplt f219_16 (fun c35934 => ?_) (fun c35934 => ?_)
    · refine ev_aload_n rfl ?_
      refine g_getp (r := 0) (c := 18) g ad0 (by decide) (by decide) rf0_2 ft11_2 ?_
      refine ev_iload_n rfl ?_
      refine g_qaald (g) (i := a1) (ev35933) (by omega) (by omega) (fun r35935 m35936 qr35935 => ?_)
      have wr35935 := g.qb qr35935
      have zr35935 := qr35935.1
      refine ev_ret rfl (by decide) (by decide) ?_
      show jEv _ _ _ _ _ _ _ (_, [(2, 0), (0, a1), (9, 0), (9, 0), (9, 0), (9, 0), (9, 0), (9, 0)], [(2, (r35935 : Int))], _, _, _)
      refine ev_astore_n (L' := [(2, 0), (0, a1), (2, (r35935 : Int)), (9, 0), (9, 0), (9, 0), (9, 0), (9, 0)]) (Nat.le_of_ble_eq_true rfl) rfl ?_
      refine ev_aload_n rfl ?_
      refine ev_ifnonnull f192_12 (fun c35937 => ?_) (fun c35937 => absurd c35937 (by omega))
      refine ev_aload_n rfl ?_
      refine g_getp (r := 0) (c := 1) g ad0 (by decide) (by decide) rf0_0 ft11_0 ?_
      refine ev_call (jcall_v (A := []) (S' := []) (r := 1) rfl (g.lt ad1) (g.tg ad1) (Nat.le_of_ble_eq_true rfl)) (jOk_le (by decide) (s153 g )) (by decide) (by decide) (fun w35938 h35938 q35938 => ?_)
      obtain ⟨v35939, rfl, lv35939, uv35939, g35938, kk35938⟩ := q35938
      have k35938 := k0.tr kk35938 (by decide)
      show jEv _ _ _ _ _ _ _ (_, [(2, 0), (0, a1), (2, (r35935 : Int)), (9, 0), (9, 0), (9, 0), (9, 0), (9, 0)], [(0, v35939)], _, _, _)
      refine ev_ifne f192_25 (fun c35940 => ?_) (fun c35940 => ?_)
      · refine ev_aload_n rfl ?_
        refine ev_aload_n rfl ?_
        refine g_getp (r := 0) (c := 1) g35938 ad0 (by decide) (by decide) rf0_0 ft11_0 ?_
        refine ev_aload_n rfl ?_
        refine g_getp (r := 0) (c := 23) g35938 ad0 (by decide) (by decide) rf0_5 ft11_5 ?_
        refine ev_iconst ?_
        refine ev_call (jcall_v (A := [(0, 0), (2, 23), (2, 1)]) (S' := []) (r := r35935) rfl (g35938.qlt qr35935) (g35938.qtg qr35935) (Nat.le_of_ble_eq_true rfl)) (jOk_le (by decide) (s47 g35938 qr35935 (Or.inl rfl) (by omega) (by omega))) (by decide) (by decide) (fun w35941 h35941 q35941 => ?_)
        obtain ⟨v35942, rfl, lv35942, uv35942, g35941, kk35941⟩ := q35941
        have k35941 := k35938.tr kk35941 (by decide)
        show jEv _ _ _ _ _ _ _ (_, [(2, 0), (0, a1), (2, (r35935 : Int)), (9, 0), (9, 0), (9, 0), (9, 0), (9, 0)], [(1, v35942)], _, _, _)
        refine ev_pop2 ?_
        refine ev_bipush ?_
        refine ev_istore_n (L' := [(2, 0), (0, a1), (2, (r35935 : Int)), (0, (-2)), (9, 0), (9, 0), (9, 0), (9, 0)]) (Nat.le_of_ble_eq_true rfl) rfl ?_
        refine ev_bipush ?_
        refine ev_istore (L' := [(2, 0), (0, a1), (2, (r35935 : Int)), (0, (-2)), (0, 41), (9, 0), (9, 0), (9, 0)]) (Nat.le_of_ble_eq_true rfl) rfl ?_
        refine ev_iconst ?_
        refine ev_istore (L' := [(2, 0), (0, a1), (2, (r35935 : Int)), (0, (-2)), (0, 41), (0, 0), (9, 0), (9, 0)]) (Nat.le_of_ble_eq_true rfl) rfl ?_
        exact (s192_l la1 ua1 1212).1 _ _ _ _ _ _ _ _ qr35935 g35941 k35941 (by omega) (by omega) (by omega) (by omega) (by omega) (by omega) (by omega) (by omega) (by omega) (by omega)
      · refine ev_bipush ?_
        exact ev_ret rfl (by decide) (by decide) ⟨_, rfl, by omega, by omega, g35938, k35938⟩
    · refine ev_aconst_null ?_
      refine ev_goto f219_22 ?_
      refine ev_ret rfl (by decide) (by decide) ?_
      show jEv _ _ _ _ _ _ _ (_, [(2, 0), (0, a1), (9, 0), (9, 0), (9, 0), (9, 0), (9, 0), (9, 0)], [(2, (-1))], _, _, _)
      refine ev_astore_n (L' := [(2, 0), (0, a1), (2, (-1)), (9, 0), (9, 0), (9, 0), (9, 0), (9, 0)]) (Nat.le_of_ble_eq_true rfl) rfl ?_
      refine ev_aload_n rfl ?_
      refine ev_ifnonnull f192_12 (fun c35943 => absurd c35943 (by decide)) (fun c35943 => ?_)
      refine ev_iconst ?_
      exact ev_ret rfl (by decide) (by decide) ⟨_, rfl, by omega, by omega, g, k0⟩
/-! 233 isBigWithin -/
set_option maxHeartbeats 4000000 in
theorem s233 {G : GH} {h : JH} (g : Gd G h) {a1 : Int} (la1 : 0 ≤ a1) (ua1 : a1 ≤ 3) {a2 : Int} (la2 : (-2147483648) ≤ a2) (ua2 : a2 ≤ 2147483647) : jOk 5 0 0 233 [(2, 0), (0, a1), (0, a2)] h (PI G [(4, 0), (1, 3)] h 0 0 1) := by
  refine ⟨by decide, by rw [ml233]; exact Nat.le_of_ble_eq_true rfl, ?_⟩
  rw [ml233, pp233]
  show jEv _ none _ c233_0 0 0 _ (c233_0, [(2, 0), (0, a1), (0, a2), (9, 0), (9, 0), (9, 0)], [], h, 0, 0)
  have k0 := Kp.rf [(4, 0), (1, 3)] h
  refine ev_iload_n rfl ?_
  refine ev_iconst ?_
  refine ev_iconst ?_
  refine ev_in (d := 3) (a := 0) (b := 0) (cd' := c147_0) (m := 3) (L0 := [(0, a1), (0, 0), (0, 0)]) (jcall_s (A := [(0, 0), (0, 0), (0, a1)]) (S' := []) (by decide) rfl (Nat.le_of_ble_eq_true rfl)) (by decide) ml147 pp147 (Nat.le_of_ble_eq_true rfl) rfl (by decide) (by decide) ?_
  refine ev_bipush ?_
  refine ev_iload_n rfl ?_
  refine ev_imul (r := (9 * a1)) (by unfold w32; omega) ?_
  refine ev_iconst ?_
  refine ev_iload_n rfl ?_
  refine ev_imul (r := 0) (by decide) ?_
  refine ev_iadd (r := (9 * a1)) (by unfold w32; omega) ?_
  refine ev_iload_n rfl ?_
  refine ev_iadd (r := (9 * a1)) (by unfold w32; omega) ?_
  refine ev_ret rfl (by decide) (by decide) ?_
  show jEv _ _ _ _ _ _ _ (_, [(2, 0), (0, a1), (0, a2), (9, 0), (9, 0), (9, 0)], [(0, (9 * a1))], _, _, _)
  refine ev_istore_n (L' := [(2, 0), (0, a1), (0, a2), (0, (9 * a1)), (9, 0), (9, 0)]) (Nat.le_of_ble_eq_true rfl) rfl ?_
  refine ev_aload_n rfl ?_
  refine g_getp (r := 0) (c := 1) g ad0 (by decide) (by decide) rf0_0 ft11_0 ?_
  refine ev_iload_n rfl ?_
  refine ev_in (d := 3) (a := 0) (b := 0) (cd' := c148_0) (m := 2) (L0 := [(2, 1), (0, (9 * a1))]) (jcall_v (A := [(0, (9 * a1))]) (S' := []) (r := 1) rfl (g.lt ad1) (g.tg ad1) (Nat.le_of_ble_eq_true rfl)) (by decide) ml148 pp148 (Nat.le_of_ble_eq_true rfl) rfl (by decide) (by decide) ?_
  refine ev_iload_n rfl ?_
  refine ev_iflt f148_10 (fun c36064 => absurd c36064 (by omega)) (fun c36064 => ?_)
  refine ev_iload_n rfl ?_
  refine ev_bipush ?_
  refine ev_icmplt f148_14 (fun c36065 => ?_) (fun c36065 => absurd c36065 (by omega))
  refine ev_aload_n rfl ?_
  refine g_getp (r := 1) (c := 4) g ad1 (by decide) (by decide) rf1_5 ft10_5 ?_
  refine ev_iload_n rfl ?_
  refine g_iald g ad4 rt4 (by omega) (by omega) (fun v36066 ev36066 lv36066 uv36066 => ?_)
  refine ev_ret rfl (by decide) (by decide) ?_
  show jEv _ _ _ _ _ _ _ (_, [(2, 0), (0, a1), (0, a2), (0, (9 * a1)), (9, 0), (9, 0)], [(0, v36066)], _, _, _)
  refine ev_istore (L' := [(2, 0), (0, a1), (0, a2), (0, (9 * a1)), (0, v36066), (9, 0)]) (Nat.le_of_ble_eq_true rfl) rfl ?_
  refine ev_aload_n rfl ?_
  refine g_getp (r := 0) (c := 1) g ad0 (by decide) (by decide) rf0_0 ft11_0 ?_
  refine ev_iload_n rfl ?_
  refine ev_iload_n rfl ?_
  refine ev_bipush ?_
  rcases Int.lt_or_le (a2) 0 with c36067 | c36067
  · refine g_iremC (c := 100) rfl (by decide) (fun v36068 ev36068 lv36068 uv36068 => ?_)
    refine ev_in (d := 3) (a := 0) (b := 0) (cd' := c149_0) (m := 3) (L0 := [(2, 1), (0, (9 * a1)), (0, v36068)]) (jcall_v (A := [(0, v36068), (0, (9 * a1))]) (S' := []) (r := 1) rfl (g.lt ad1) (g.tg ad1) (Nat.le_of_ble_eq_true rfl)) (by decide) ml149 pp149 (Nat.le_of_ble_eq_true rfl) rfl (by decide) (by decide) ?_
    refine ev_iload_n rfl ?_
    refine ev_iflt f149_32 (fun c36069 => absurd c36069 (by omega)) (fun c36069 => ?_)
    refine ev_iload_n rfl ?_
    refine ev_bipush ?_
    refine ev_icmpge f149_32 (fun c36070 => absurd c36070 (by omega)) (fun c36070 => ?_)
    refine ev_aload_n rfl ?_
    refine g_getp (r := 1) (c := 4) g ad1 (by decide) (by decide) rf1_5 ft10_5 ?_
    refine ev_iload_n rfl ?_
    refine g_ialdv (v := v36066) g ad4 (by omega) (by omega) (ev36066) ?_
    refine ev_iload_n rfl ?_
    refine ev_icmpeq f149_32 (fun c36071 => ?_) (fun c36071 => ?_)
    · refine ev_ret rfl (by decide) (by decide) ?_
      show jEv _ _ _ _ _ _ _ (_, [(2, 0), (0, a1), (0, a2), (0, (9 * a1)), (0, v36066), (9, 0)], [], _, _, _)
      refine ev_aload_n rfl ?_
      refine g_getp (r := 0) (c := 1) g ad0 (by decide) (by decide) rf0_0 ft11_0 ?_
      refine ev_call (jcall_v (A := []) (S' := []) (r := 1) rfl (g.lt ad1) (g.tg ad1) (Nat.le_of_ble_eq_true rfl)) (jOk_le (by decide) (s152 g )) (by decide) (by decide) (fun w36072 h36072 q36072 => ?_)
      obtain ⟨v36073, rfl, lv36073, uv36073, g36072, kk36072⟩ := q36072
      have k36072 := k0.tr kk36072 (by decide)
      show jEv _ _ _ _ _ _ _ (_, [(2, 0), (0, a1), (0, a2), (0, (9 * a1)), (0, v36066), (9, 0)], [(1, v36073)], _, _, _)
      refine ev_lconst ?_
      refine ev_lcmp ?_
      refine ev_ifne f233_45 (fun c36074 => ?_) (fun c36074 => ?_)
      · have c36074b := jcmpL_ne c36074
        refine ev_iconst ?_
        refine ev_istore (L' := [(2, 0), (0, a1), (0, a2), (0, (9 * a1)), (0, v36066), (0, 0)]) (Nat.le_of_ble_eq_true rfl) rfl ?_
        refine ev_aload_n rfl ?_
        refine g_getp (r := 0) (c := 1) g36072 ad0 (by decide) (by decide) rf0_0 ft11_0 ?_
        refine ev_iload_n rfl ?_
        refine ev_iload rfl ?_
        refine ev_in (d := 3) (a := 0) (b := 0) (cd' := c149_0) (m := 3) (L0 := [(2, 1), (0, (9 * a1)), (0, v36066)]) (jcall_v (A := [(0, v36066), (0, (9 * a1))]) (S' := []) (r := 1) rfl (g36072.lt ad1) (g36072.tg ad1) (Nat.le_of_ble_eq_true rfl)) (by decide) ml149 pp149 (Nat.le_of_ble_eq_true rfl) rfl (by decide) (by decide) ?_
        refine ev_iload_n rfl ?_
        refine ev_iflt f149_32 (fun c36075 => absurd c36075 (by omega)) (fun c36075 => ?_)
        refine ev_iload_n rfl ?_
        refine ev_bipush ?_
        refine ev_icmpge f149_32 (fun c36076 => absurd c36076 (by omega)) (fun c36076 => ?_)
        refine ev_aload_n rfl ?_
        refine g_getp (r := 1) (c := 4) g36072 ad1 (by decide) (by decide) rf1_5 ft10_5 ?_
        refine ev_iload_n rfl ?_
        refine g_ialdv (v := v36066) g36072 ad4 (by omega) (by omega) (((kk36072.v rfl).trans ev36066)) ?_
        refine ev_iload_n rfl ?_
        refine ev_icmpeq f149_32 (fun c36077 => ?_) (fun c36077 => absurd c36077 (by omega))
        refine ev_ret rfl (by decide) (by decide) ?_
        show jEv _ _ _ _ _ _ _ (_, [(2, 0), (0, a1), (0, a2), (0, (9 * a1)), (0, v36066), (0, 0)], [], _, _, _)
        refine ev_iload rfl ?_
        exact ev_ret rfl (by decide) (by decide) ⟨_, rfl, by omega, by omega, g36072, k36072⟩
      · have c36074b := jcmpL_neN c36074
        refine ev_iconst ?_
        refine ev_goto f233_46 ?_
        refine ev_istore (L' := [(2, 0), (0, a1), (0, a2), (0, (9 * a1)), (0, v36066), (0, 1)]) (Nat.le_of_ble_eq_true rfl) rfl ?_
        refine ev_aload_n rfl ?_
        refine g_getp (r := 0) (c := 1) g36072 ad0 (by decide) (by decide) rf0_0 ft11_0 ?_
        refine ev_iload_n rfl ?_
        refine ev_iload rfl ?_
        refine ev_in (d := 3) (a := 0) (b := 0) (cd' := c149_0) (m := 3) (L0 := [(2, 1), (0, (9 * a1)), (0, v36066)]) (jcall_v (A := [(0, v36066), (0, (9 * a1))]) (S' := []) (r := 1) rfl (g36072.lt ad1) (g36072.tg ad1) (Nat.le_of_ble_eq_true rfl)) (by decide) ml149 pp149 (Nat.le_of_ble_eq_true rfl) rfl (by decide) (by decide) ?_
        refine ev_iload_n rfl ?_
        refine ev_iflt f149_32 (fun c36078 => absurd c36078 (by omega)) (fun c36078 => ?_)
        refine ev_iload_n rfl ?_
        refine ev_bipush ?_
        refine ev_icmpge f149_32 (fun c36079 => absurd c36079 (by omega)) (fun c36079 => ?_)
        refine ev_aload_n rfl ?_
        refine g_getp (r := 1) (c := 4) g36072 ad1 (by decide) (by decide) rf1_5 ft10_5 ?_
        refine ev_iload_n rfl ?_
        refine g_ialdv (v := v36066) g36072 ad4 (by omega) (by omega) (((kk36072.v rfl).trans ev36066)) ?_
        refine ev_iload_n rfl ?_
        refine ev_icmpeq f149_32 (fun c36080 => ?_) (fun c36080 => absurd c36080 (by omega))
        refine ev_ret rfl (by decide) (by decide) ?_
        show jEv _ _ _ _ _ _ _ (_, [(2, 0), (0, a1), (0, a2), (0, (9 * a1)), (0, v36066), (0, 1)], [], _, _, _)
        refine ev_iload rfl ?_
        exact ev_ret rfl (by decide) (by decide) ⟨_, rfl, by omega, by omega, g36072, k36072⟩
    · refine ev_aload_n rfl ?_
      refine g_getp (r := 1) (c := 4) g ad1 (by decide) (by decide) rf1_5 ft10_5 ?_
      refine ev_iload_n rfl ?_
      refine ev_iload_n rfl ?_
      refine g_iast g ad4 rt4 (fun _ => rfl) (by omega) (by omega) (by omega) (by omega) (fun h36081 e36081 g36081 => ?_)
      have k36081 := k0.wr e36081 rfl
      refine ev_aload_n rfl ?_
      refine ev_iconst ?_
      refine g_putf (r := 1) g36081 ad1 (by decide) ft10_2 (by decide) (fun _ => by omega) rf1_2 (by decide) (by omega) (by omega) (fun h36082 e36082 g36082 => ?_)
      have k36082 := k36081.wr e36082 rfl
      refine ev_ret rfl (by decide) (by decide) ?_
      show jEv _ _ _ _ _ _ _ (_, [(2, 0), (0, a1), (0, a2), (0, (9 * a1)), (0, v36066), (9, 0)], [], _, _, _)
      refine ev_aload_n rfl ?_
      refine g_getp (r := 0) (c := 1) g36082 ad0 (by decide) (by decide) rf0_0 ft11_0 ?_
      refine ev_call (jcall_v (A := []) (S' := []) (r := 1) rfl (g36082.lt ad1) (g36082.tg ad1) (Nat.le_of_ble_eq_true rfl)) (jOk_le (by decide) (s152 g36082 )) (by decide) (by decide) (fun w36083 h36083 q36083 => ?_)
      obtain ⟨v36084, rfl, lv36084, uv36084, g36083, kk36083⟩ := q36083
      have k36083 := k36082.tr kk36083 (by decide)
      show jEv _ _ _ _ _ _ _ (_, [(2, 0), (0, a1), (0, a2), (0, (9 * a1)), (0, v36066), (9, 0)], [(1, v36084)], _, _, _)
      refine ev_lconst ?_
      refine ev_lcmp ?_
      refine ev_ifne f233_45 (fun c36085 => ?_) (fun c36085 => ?_)
      · have c36085b := jcmpL_ne c36085
        refine ev_iconst ?_
        refine ev_istore (L' := [(2, 0), (0, a1), (0, a2), (0, (9 * a1)), (0, v36066), (0, 0)]) (Nat.le_of_ble_eq_true rfl) rfl ?_
        refine ev_aload_n rfl ?_
        refine g_getp (r := 0) (c := 1) g36083 ad0 (by decide) (by decide) rf0_0 ft11_0 ?_
        refine ev_iload_n rfl ?_
        refine ev_iload rfl ?_
        refine ev_in (d := 3) (a := 0) (b := 0) (cd' := c149_0) (m := 3) (L0 := [(2, 1), (0, (9 * a1)), (0, v36066)]) (jcall_v (A := [(0, v36066), (0, (9 * a1))]) (S' := []) (r := 1) rfl (g36083.lt ad1) (g36083.tg ad1) (Nat.le_of_ble_eq_true rfl)) (by decide) ml149 pp149 (Nat.le_of_ble_eq_true rfl) rfl (by decide) (by decide) ?_
        refine ev_iload_n rfl ?_
        refine ev_iflt f149_32 (fun c36086 => absurd c36086 (by omega)) (fun c36086 => ?_)
        refine ev_iload_n rfl ?_
        refine ev_bipush ?_
        refine ev_icmpge f149_32 (fun c36087 => absurd c36087 (by omega)) (fun c36087 => ?_)
        refine ev_aload_n rfl ?_
        refine g_getp (r := 1) (c := 4) g36083 ad1 (by decide) (by decide) rf1_5 ft10_5 ?_
        refine ev_iload_n rfl ?_
        refine g_ialdv (v := v36068) g36083 ad4 (by omega) (by omega) (((kk36083.v rfl).trans ((jw_ne e36082 (Or.inl (by decide))).trans (jw_eq e36081)))) ?_
        refine ev_iload_n rfl ?_
        refine ev_icmpeq f149_32 (fun c36088 => ?_) (fun c36088 => ?_)
        · refine ev_ret rfl (by decide) (by decide) ?_
          show jEv _ _ _ _ _ _ _ (_, [(2, 0), (0, a1), (0, a2), (0, (9 * a1)), (0, v36066), (0, 0)], [], _, _, _)
          refine ev_iload rfl ?_
          exact ev_ret rfl (by decide) (by decide) ⟨_, rfl, by omega, by omega, g36083, k36083⟩
        · refine ev_aload_n rfl ?_
          refine g_getp (r := 1) (c := 4) g36083 ad1 (by decide) (by decide) rf1_5 ft10_5 ?_
          refine ev_iload_n rfl ?_
          refine ev_iload_n rfl ?_
          refine g_iast g36083 ad4 rt4 (fun _ => rfl) (by omega) (by omega) (by omega) (by omega) (fun h36089 e36089 g36089 => ?_)
          have k36089 := k36083.wr e36089 rfl
          refine ev_aload_n rfl ?_
          refine ev_iconst ?_
          refine g_putf (r := 1) g36089 ad1 (by decide) ft10_2 (by decide) (fun _ => by omega) rf1_2 (by decide) (by omega) (by omega) (fun h36090 e36090 g36090 => ?_)
          have k36090 := k36089.wr e36090 rfl
          refine ev_ret rfl (by decide) (by decide) ?_
          show jEv _ _ _ _ _ _ _ (_, [(2, 0), (0, a1), (0, a2), (0, (9 * a1)), (0, v36066), (0, 0)], [], _, _, _)
          refine ev_iload rfl ?_
          exact ev_ret rfl (by decide) (by decide) ⟨_, rfl, by omega, by omega, g36090, k36090⟩
      · have c36085b := jcmpL_neN c36085
        refine ev_iconst ?_
        refine ev_goto f233_46 ?_
        refine ev_istore (L' := [(2, 0), (0, a1), (0, a2), (0, (9 * a1)), (0, v36066), (0, 1)]) (Nat.le_of_ble_eq_true rfl) rfl ?_
        refine ev_aload_n rfl ?_
        refine g_getp (r := 0) (c := 1) g36083 ad0 (by decide) (by decide) rf0_0 ft11_0 ?_
        refine ev_iload_n rfl ?_
        refine ev_iload rfl ?_
        refine ev_in (d := 3) (a := 0) (b := 0) (cd' := c149_0) (m := 3) (L0 := [(2, 1), (0, (9 * a1)), (0, v36066)]) (jcall_v (A := [(0, v36066), (0, (9 * a1))]) (S' := []) (r := 1) rfl (g36083.lt ad1) (g36083.tg ad1) (Nat.le_of_ble_eq_true rfl)) (by decide) ml149 pp149 (Nat.le_of_ble_eq_true rfl) rfl (by decide) (by decide) ?_
        refine ev_iload_n rfl ?_
        refine ev_iflt f149_32 (fun c36091 => absurd c36091 (by omega)) (fun c36091 => ?_)
        refine ev_iload_n rfl ?_
        refine ev_bipush ?_
        refine ev_icmpge f149_32 (fun c36092 => absurd c36092 (by omega)) (fun c36092 => ?_)
        refine ev_aload_n rfl ?_
        refine g_getp (r := 1) (c := 4) g36083 ad1 (by decide) (by decide) rf1_5 ft10_5 ?_
        refine ev_iload_n rfl ?_
        refine g_ialdv (v := v36068) g36083 ad4 (by omega) (by omega) (((kk36083.v rfl).trans ((jw_ne e36082 (Or.inl (by decide))).trans (jw_eq e36081)))) ?_
        refine ev_iload_n rfl ?_
        refine ev_icmpeq f149_32 (fun c36093 => ?_) (fun c36093 => ?_)
        · refine ev_ret rfl (by decide) (by decide) ?_
          show jEv _ _ _ _ _ _ _ (_, [(2, 0), (0, a1), (0, a2), (0, (9 * a1)), (0, v36066), (0, 1)], [], _, _, _)
          refine ev_iload rfl ?_
          exact ev_ret rfl (by decide) (by decide) ⟨_, rfl, by omega, by omega, g36083, k36083⟩
        · refine ev_aload_n rfl ?_
          refine g_getp (r := 1) (c := 4) g36083 ad1 (by decide) (by decide) rf1_5 ft10_5 ?_
          refine ev_iload_n rfl ?_
          refine ev_iload_n rfl ?_
          refine g_iast g36083 ad4 rt4 (fun _ => rfl) (by omega) (by omega) (by omega) (by omega) (fun h36094 e36094 g36094 => ?_)
          have k36094 := k36083.wr e36094 rfl
          refine ev_aload_n rfl ?_
          refine ev_iconst ?_
          refine g_putf (r := 1) g36094 ad1 (by decide) ft10_2 (by decide) (fun _ => by omega) rf1_2 (by decide) (by omega) (by omega) (fun h36095 e36095 g36095 => ?_)
          have k36095 := k36094.wr e36095 rfl
          refine ev_ret rfl (by decide) (by decide) ?_
          show jEv _ _ _ _ _ _ _ (_, [(2, 0), (0, a1), (0, a2), (0, (9 * a1)), (0, v36066), (0, 1)], [], _, _, _)
          refine ev_iload rfl ?_
          exact ev_ret rfl (by decide) (by decide) ⟨_, rfl, by omega, by omega, g36095, k36095⟩
  · refine g_iremP (c := 100) rfl (by decide) (by omega) (fun v36096 ev36096 lv36096 uv36096 wv36096 => ?_)
    refine ev_in (d := 3) (a := 0) (b := 0) (cd' := c149_0) (m := 3) (L0 := [(2, 1), (0, (9 * a1)), (0, v36096)]) (jcall_v (A := [(0, v36096), (0, (9 * a1))]) (S' := []) (r := 1) rfl (g.lt ad1) (g.tg ad1) (Nat.le_of_ble_eq_true rfl)) (by decide) ml149 pp149 (Nat.le_of_ble_eq_true rfl) rfl (by decide) (by decide) ?_
    refine ev_iload_n rfl ?_
    refine ev_iflt f149_32 (fun c36097 => absurd c36097 (by omega)) (fun c36097 => ?_)
    refine ev_iload_n rfl ?_
    refine ev_bipush ?_
    refine ev_icmpge f149_32 (fun c36098 => absurd c36098 (by omega)) (fun c36098 => ?_)
    refine ev_aload_n rfl ?_
    refine g_getp (r := 1) (c := 4) g ad1 (by decide) (by decide) rf1_5 ft10_5 ?_
    refine ev_iload_n rfl ?_
    refine g_ialdv (v := v36066) g ad4 (by omega) (by omega) (ev36066) ?_
    refine ev_iload_n rfl ?_
    refine ev_icmpeq f149_32 (fun c36099 => ?_) (fun c36099 => ?_)
    · refine ev_ret rfl (by decide) (by decide) ?_
      show jEv _ _ _ _ _ _ _ (_, [(2, 0), (0, a1), (0, a2), (0, (9 * a1)), (0, v36066), (9, 0)], [], _, _, _)
      refine ev_aload_n rfl ?_
      refine g_getp (r := 0) (c := 1) g ad0 (by decide) (by decide) rf0_0 ft11_0 ?_
      refine ev_call (jcall_v (A := []) (S' := []) (r := 1) rfl (g.lt ad1) (g.tg ad1) (Nat.le_of_ble_eq_true rfl)) (jOk_le (by decide) (s152 g )) (by decide) (by decide) (fun w36100 h36100 q36100 => ?_)
      obtain ⟨v36101, rfl, lv36101, uv36101, g36100, kk36100⟩ := q36100
      have k36100 := k0.tr kk36100 (by decide)
      show jEv _ _ _ _ _ _ _ (_, [(2, 0), (0, a1), (0, a2), (0, (9 * a1)), (0, v36066), (9, 0)], [(1, v36101)], _, _, _)
      refine ev_lconst ?_
      refine ev_lcmp ?_
      refine ev_ifne f233_45 (fun c36102 => ?_) (fun c36102 => ?_)
      · have c36102b := jcmpL_ne c36102
        refine ev_iconst ?_
        refine ev_istore (L' := [(2, 0), (0, a1), (0, a2), (0, (9 * a1)), (0, v36066), (0, 0)]) (Nat.le_of_ble_eq_true rfl) rfl ?_
        refine ev_aload_n rfl ?_
        refine g_getp (r := 0) (c := 1) g36100 ad0 (by decide) (by decide) rf0_0 ft11_0 ?_
        refine ev_iload_n rfl ?_
        refine ev_iload rfl ?_
        refine ev_in (d := 3) (a := 0) (b := 0) (cd' := c149_0) (m := 3) (L0 := [(2, 1), (0, (9 * a1)), (0, v36066)]) (jcall_v (A := [(0, v36066), (0, (9 * a1))]) (S' := []) (r := 1) rfl (g36100.lt ad1) (g36100.tg ad1) (Nat.le_of_ble_eq_true rfl)) (by decide) ml149 pp149 (Nat.le_of_ble_eq_true rfl) rfl (by decide) (by decide) ?_
        refine ev_iload_n rfl ?_
        refine ev_iflt f149_32 (fun c36103 => absurd c36103 (by omega)) (fun c36103 => ?_)
        refine ev_iload_n rfl ?_
        refine ev_bipush ?_
        refine ev_icmpge f149_32 (fun c36104 => absurd c36104 (by omega)) (fun c36104 => ?_)
        refine ev_aload_n rfl ?_
        refine g_getp (r := 1) (c := 4) g36100 ad1 (by decide) (by decide) rf1_5 ft10_5 ?_
        refine ev_iload_n rfl ?_
        refine g_ialdv (v := v36066) g36100 ad4 (by omega) (by omega) (((kk36100.v rfl).trans ev36066)) ?_
        refine ev_iload_n rfl ?_
        refine ev_icmpeq f149_32 (fun c36105 => ?_) (fun c36105 => absurd c36105 (by omega))
        refine ev_ret rfl (by decide) (by decide) ?_
        show jEv _ _ _ _ _ _ _ (_, [(2, 0), (0, a1), (0, a2), (0, (9 * a1)), (0, v36066), (0, 0)], [], _, _, _)
        refine ev_iload rfl ?_
        exact ev_ret rfl (by decide) (by decide) ⟨_, rfl, by omega, by omega, g36100, k36100⟩
      · have c36102b := jcmpL_neN c36102
        refine ev_iconst ?_
        refine ev_goto f233_46 ?_
        refine ev_istore (L' := [(2, 0), (0, a1), (0, a2), (0, (9 * a1)), (0, v36066), (0, 1)]) (Nat.le_of_ble_eq_true rfl) rfl ?_
        refine ev_aload_n rfl ?_
        refine g_getp (r := 0) (c := 1) g36100 ad0 (by decide) (by decide) rf0_0 ft11_0 ?_
        refine ev_iload_n rfl ?_
        refine ev_iload rfl ?_
        refine ev_in (d := 3) (a := 0) (b := 0) (cd' := c149_0) (m := 3) (L0 := [(2, 1), (0, (9 * a1)), (0, v36066)]) (jcall_v (A := [(0, v36066), (0, (9 * a1))]) (S' := []) (r := 1) rfl (g36100.lt ad1) (g36100.tg ad1) (Nat.le_of_ble_eq_true rfl)) (by decide) ml149 pp149 (Nat.le_of_ble_eq_true rfl) rfl (by decide) (by decide) ?_
        refine ev_iload_n rfl ?_
        refine ev_iflt f149_32 (fun c36106 => absurd c36106 (by omega)) (fun c36106 => ?_)
        refine ev_iload_n rfl ?_
        refine ev_bipush ?_
        refine ev_icmpge f149_32 (fun c36107 => absurd c36107 (by omega)) (fun c36107 => ?_)
        refine ev_aload_n rfl ?_
        refine g_getp (r := 1) (c := 4) g36100 ad1 (by decide) (by decide) rf1_5 ft10_5 ?_
        refine ev_iload_n rfl ?_
        refine g_ialdv (v := v36066) g36100 ad4 (by omega) (by omega) (((kk36100.v rfl).trans ev36066)) ?_
        refine ev_iload_n rfl ?_
        refine ev_icmpeq f149_32 (fun c36108 => ?_) (fun c36108 => absurd c36108 (by omega))
        refine ev_ret rfl (by decide) (by decide) ?_
        show jEv _ _ _ _ _ _ _ (_, [(2, 0), (0, a1), (0, a2), (0, (9 * a1)), (0, v36066), (0, 1)], [], _, _, _)
        refine ev_iload rfl ?_
        exact ev_ret rfl (by decide) (by decide) ⟨_, rfl, by omega, by omega, g36100, k36100⟩
    · refine ev_aload_n rfl ?_
      refine g_getp (r := 1) (c := 4) g ad1 (by decide) (by decide) rf1_5 ft10_5 ?_
      refine ev_iload_n rfl ?_
      refine ev_iload_n rfl ?_
      refine g_iast g ad4 rt4 (fun _ => rfl) (by omega) (by omega) (by omega) (by omega) (fun h36109 e36109 g36109 => ?_)
      have k36109 := k0.wr e36109 rfl
      refine ev_aload_n rfl ?_
      refine ev_iconst ?_
      refine g_putf (r := 1) g36109 ad1 (by decide) ft10_2 (by decide) (fun _ => by omega) rf1_2 (by decide) (by omega) (by omega) (fun h36110 e36110 g36110 => ?_)
      have k36110 := k36109.wr e36110 rfl
      refine ev_ret rfl (by decide) (by decide) ?_
      show jEv _ _ _ _ _ _ _ (_, [(2, 0), (0, a1), (0, a2), (0, (9 * a1)), (0, v36066), (9, 0)], [], _, _, _)
      refine ev_aload_n rfl ?_
      refine g_getp (r := 0) (c := 1) g36110 ad0 (by decide) (by decide) rf0_0 ft11_0 ?_
      refine ev_call (jcall_v (A := []) (S' := []) (r := 1) rfl (g36110.lt ad1) (g36110.tg ad1) (Nat.le_of_ble_eq_true rfl)) (jOk_le (by decide) (s152 g36110 )) (by decide) (by decide) (fun w36111 h36111 q36111 => ?_)
      obtain ⟨v36112, rfl, lv36112, uv36112, g36111, kk36111⟩ := q36111
      have k36111 := k36110.tr kk36111 (by decide)
      show jEv _ _ _ _ _ _ _ (_, [(2, 0), (0, a1), (0, a2), (0, (9 * a1)), (0, v36066), (9, 0)], [(1, v36112)], _, _, _)
      refine ev_lconst ?_
      refine ev_lcmp ?_
      refine ev_ifne f233_45 (fun c36113 => ?_) (fun c36113 => ?_)
      · have c36113b := jcmpL_ne c36113
        refine ev_iconst ?_
        refine ev_istore (L' := [(2, 0), (0, a1), (0, a2), (0, (9 * a1)), (0, v36066), (0, 0)]) (Nat.le_of_ble_eq_true rfl) rfl ?_
        refine ev_aload_n rfl ?_
        refine g_getp (r := 0) (c := 1) g36111 ad0 (by decide) (by decide) rf0_0 ft11_0 ?_
        refine ev_iload_n rfl ?_
        refine ev_iload rfl ?_
        refine ev_in (d := 3) (a := 0) (b := 0) (cd' := c149_0) (m := 3) (L0 := [(2, 1), (0, (9 * a1)), (0, v36066)]) (jcall_v (A := [(0, v36066), (0, (9 * a1))]) (S' := []) (r := 1) rfl (g36111.lt ad1) (g36111.tg ad1) (Nat.le_of_ble_eq_true rfl)) (by decide) ml149 pp149 (Nat.le_of_ble_eq_true rfl) rfl (by decide) (by decide) ?_
        refine ev_iload_n rfl ?_
        refine ev_iflt f149_32 (fun c36114 => absurd c36114 (by omega)) (fun c36114 => ?_)
        refine ev_iload_n rfl ?_
        refine ev_bipush ?_
        refine ev_icmpge f149_32 (fun c36115 => absurd c36115 (by omega)) (fun c36115 => ?_)
        refine ev_aload_n rfl ?_
        refine g_getp (r := 1) (c := 4) g36111 ad1 (by decide) (by decide) rf1_5 ft10_5 ?_
        refine ev_iload_n rfl ?_
        refine g_ialdv (v := v36096) g36111 ad4 (by omega) (by omega) (((kk36111.v rfl).trans ((jw_ne e36110 (Or.inl (by decide))).trans (jw_eq e36109)))) ?_
        refine ev_iload_n rfl ?_
        refine ev_icmpeq f149_32 (fun c36116 => ?_) (fun c36116 => ?_)
        · refine ev_ret rfl (by decide) (by decide) ?_
          show jEv _ _ _ _ _ _ _ (_, [(2, 0), (0, a1), (0, a2), (0, (9 * a1)), (0, v36066), (0, 0)], [], _, _, _)
          refine ev_iload rfl ?_
          exact ev_ret rfl (by decide) (by decide) ⟨_, rfl, by omega, by omega, g36111, k36111⟩
        · refine ev_aload_n rfl ?_
          refine g_getp (r := 1) (c := 4) g36111 ad1 (by decide) (by decide) rf1_5 ft10_5 ?_
          refine ev_iload_n rfl ?_
          refine ev_iload_n rfl ?_
          refine g_iast g36111 ad4 rt4 (fun _ => rfl) (by omega) (by omega) (by omega) (by omega) (fun h36117 e36117 g36117 => ?_)
          have k36117 := k36111.wr e36117 rfl
          refine ev_aload_n rfl ?_
          refine ev_iconst ?_
          refine g_putf (r := 1) g36117 ad1 (by decide) ft10_2 (by decide) (fun _ => by omega) rf1_2 (by decide) (by omega) (by omega) (fun h36118 e36118 g36118 => ?_)
          have k36118 := k36117.wr e36118 rfl
          refine ev_ret rfl (by decide) (by decide) ?_
          show jEv _ _ _ _ _ _ _ (_, [(2, 0), (0, a1), (0, a2), (0, (9 * a1)), (0, v36066), (0, 0)], [], _, _, _)
          refine ev_iload rfl ?_
          exact ev_ret rfl (by decide) (by decide) ⟨_, rfl, by omega, by omega, g36118, k36118⟩
      · have c36113b := jcmpL_neN c36113
        refine ev_iconst ?_
        refine ev_goto f233_46 ?_
        refine ev_istore (L' := [(2, 0), (0, a1), (0, a2), (0, (9 * a1)), (0, v36066), (0, 1)]) (Nat.le_of_ble_eq_true rfl) rfl ?_
        refine ev_aload_n rfl ?_
        refine g_getp (r := 0) (c := 1) g36111 ad0 (by decide) (by decide) rf0_0 ft11_0 ?_
        refine ev_iload_n rfl ?_
        refine ev_iload rfl ?_
        refine ev_in (d := 3) (a := 0) (b := 0) (cd' := c149_0) (m := 3) (L0 := [(2, 1), (0, (9 * a1)), (0, v36066)]) (jcall_v (A := [(0, v36066), (0, (9 * a1))]) (S' := []) (r := 1) rfl (g36111.lt ad1) (g36111.tg ad1) (Nat.le_of_ble_eq_true rfl)) (by decide) ml149 pp149 (Nat.le_of_ble_eq_true rfl) rfl (by decide) (by decide) ?_
        refine ev_iload_n rfl ?_
        refine ev_iflt f149_32 (fun c36119 => absurd c36119 (by omega)) (fun c36119 => ?_)
        refine ev_iload_n rfl ?_
        refine ev_bipush ?_
        refine ev_icmpge f149_32 (fun c36120 => absurd c36120 (by omega)) (fun c36120 => ?_)
        refine ev_aload_n rfl ?_
        refine g_getp (r := 1) (c := 4) g36111 ad1 (by decide) (by decide) rf1_5 ft10_5 ?_
        refine ev_iload_n rfl ?_
        refine g_ialdv (v := v36096) g36111 ad4 (by omega) (by omega) (((kk36111.v rfl).trans ((jw_ne e36110 (Or.inl (by decide))).trans (jw_eq e36109)))) ?_
        refine ev_iload_n rfl ?_
        refine ev_icmpeq f149_32 (fun c36121 => ?_) (fun c36121 => ?_)
        · refine ev_ret rfl (by decide) (by decide) ?_
          show jEv _ _ _ _ _ _ _ (_, [(2, 0), (0, a1), (0, a2), (0, (9 * a1)), (0, v36066), (0, 1)], [], _, _, _)
          refine ev_iload rfl ?_
          exact ev_ret rfl (by decide) (by decide) ⟨_, rfl, by omega, by omega, g36111, k36111⟩
        · refine ev_aload_n rfl ?_
          refine g_getp (r := 1) (c := 4) g36111 ad1 (by decide) (by decide) rf1_5 ft10_5 ?_
          refine ev_iload_n rfl ?_
          refine ev_iload_n rfl ?_
          refine g_iast g36111 ad4 rt4 (fun _ => rfl) (by omega) (by omega) (by omega) (by omega) (fun h36122 e36122 g36122 => ?_)
          have k36122 := k36111.wr e36122 rfl
          refine ev_aload_n rfl ?_
          refine ev_iconst ?_
          refine g_putf (r := 1) g36122 ad1 (by decide) ft10_2 (by decide) (fun _ => by omega) rf1_2 (by decide) (by omega) (by omega) (fun h36123 e36123 g36123 => ?_)
          have k36123 := k36122.wr e36123 rfl
          refine ev_ret rfl (by decide) (by decide) ?_
          show jEv _ _ _ _ _ _ _ (_, [(2, 0), (0, a1), (0, a2), (0, (9 * a1)), (0, v36066), (0, 1)], [], _, _, _)
          refine ev_iload rfl ?_
          exact ev_ret rfl (by decide) (by decide) ⟨_, rfl, by omega, by omega, g36123, k36123⟩
/-! 234 timesHeld -/
set_option maxHeartbeats 4000000 in
theorem s234_l {G : GH} {h : JH} {r1 : Nat} {m1 : Int} (q1 : IsQ G r1 m1) {a2 : Int} (la2 : 0 ≤ a2) (ua2 : a2 ≤ 35) {a3 : Int} (la3 : 0 ≤ a3) (ua3 : a3 ≤ 9999) : ∀ N : Nat, (∀ (h1 : JH) (x4 x5 : Int), Gd G h1 → Kp [(1, 2), (1, 3), (5, 0), (6, 0), (4, 0), (1000000, 0)] h h1 → 0 ≤ a2 → a2 ≤ 35 → 0 ≤ a3 → a3 ≤ 9999 → (-2147483648) ≤ x4 → x4 ≤ 2147483647 → 0 ≤ x5 → x5 ≤ 100 → ((-x5) + 100) < N → jEv (jOk 5) none (fun _ => 0) c234_0 0 0 (PI G [(1, 2), (1, 3), (5, 0), (6, 0), (4, 0), (1000000, 0)] h 0 (-2147483648) 2147483647) (c234_9, [(2, 0), (2, (r1 : Int)), (0, a2), (0, a3), (0, x4), (0, x5)], [], h1, 0, 0)) := by
  intro N
  induction N with
  | zero => exact fun h1 x4 x5 g1 k1 b0 b1 b2 b3 b4 b5 b6 b7 hm => absurd hm (by omega)
  | succ N ih =>
    show _
    intro h1 x4 x5 g1 k1 b0 b1 b2 b3 b4 b5 b6 b7 hm
    have wr1 := g1.qb q1
    have zr1 := q1.1
    refine ev_iload rfl ?_
    refine ev_iload_n rfl ?_
    refine ev_bipush ?_
    refine g_iremP (c := 100) rfl (by decide) (by omega) (fun v37932 ev37932 lv37932 uv37932 wv37932 => ?_)
    refine ev_icmpgt f234_72 (fun c37933 => ?_) (fun c37933 => ?_)
    · refine ev_iload rfl ?_
      exact ev_ret rfl (by decide) (by decide) ⟨_, rfl, by omega, by omega, g1, k1⟩
    · refine ev_aload_n rfl ?_
      refine g_getp (r := 0) (c := 1) g1 ad0 (by decide) (by decide) rf0_0 ft11_0 ?_
      refine ev_iload_n rfl ?_
      refine ev_iload rfl ?_
      refine ev_in (d := 4) (a := 0) (b := 0) (cd' := c149_0) (m := 3) (L0 := [(2, 1), (0, a2), (0, x5)]) (jcall_v (A := [(0, x5), (0, a2)]) (S' := []) (r := 1) rfl (g1.lt ad1) (g1.tg ad1) (Nat.le_of_ble_eq_true rfl)) (by decide) ml149 pp149 (Nat.le_of_ble_eq_true rfl) rfl (by decide) (by decide) ?_
      refine ev_iload_n rfl ?_
      refine ev_iflt f149_32 (fun c37934 => absurd c37934 (by omega)) (fun c37934 => ?_)
      refine ev_iload_n rfl ?_
      refine ev_bipush ?_
      refine ev_icmpge f149_32 (fun c37935 => absurd c37935 (by omega)) (fun c37935 => ?_)
      refine ev_aload_n rfl ?_
      refine g_getp (r := 1) (c := 4) g1 ad1 (by decide) (by decide) rf1_5 ft10_5 ?_
      refine ev_iload_n rfl ?_
      refine g_iald g1 ad4 rt4 (by omega) (by omega) (fun v37936 ev37936 lv37936 uv37936 => ?_)
      refine ev_iload_n rfl ?_
      refine ev_icmpeq f149_32 (fun c37937 => ?_) (fun c37937 => ?_)
      · refine ev_ret rfl (by decide) (by decide) ?_
        show jEv _ _ _ _ _ _ _ (_, [(2, 0), (2, (r1 : Int)), (0, a2), (0, a3), (0, x4), (0, x5)], [], _, _, _)
        refine ev_aload_n rfl ?_
        refine g_getp (r := 0) (c := 1) g1 ad0 (by decide) (by decide) rf0_0 ft11_0 ?_
        refine ev_call (jcall_v (A := []) (S' := []) (r := 1) rfl (g1.lt ad1) (g1.tg ad1) (Nat.le_of_ble_eq_true rfl)) (jOk_le (by decide) (s153 g1 )) (by decide) (by decide) (fun w37938 h37938 q37938 => ?_)
        obtain ⟨v37939, rfl, lv37939, uv37939, g37938, kk37938⟩ := q37938
        have k37938 := k1.tr kk37938 (by decide)
        show jEv _ _ _ _ _ _ _ (_, [(2, 0), (2, (r1 : Int)), (0, a2), (0, a3), (0, x4), (0, x5)], [(0, v37939)], _, _, _)
        refine ev_ifeq f234_66 (fun c37940 => ?_) (fun c37940 => ?_)
        · refine ev_iinc (w := (x5 + 1)) (L' := [(2, 0), (2, (r1 : Int)), (0, a2), (0, a3), (0, x4), (0, (x5 + 1))]) rfl (by unfold w32; omega) rfl ?_
          refine ev_goto f234_9 ?_
          exact ih _ _ _ g37938 k37938 (by omega) (by omega) (by omega) (by omega) (by omega) (by omega) (by omega) (by omega) (by omega)
        · refine ev_aload_n rfl ?_
          refine ev_aload_n rfl ?_
          refine g_getp (r := 0) (c := 1) g37938 ad0 (by decide) (by decide) rf0_0 ft11_0 ?_
          refine ev_aload_n rfl ?_
          refine g_getp (r := 0) (c := 23) g37938 ad0 (by decide) (by decide) rf0_5 ft11_5 ?_
          refine ev_iconst ?_
          refine ev_call (jcall_v (A := [(0, 0), (2, 23), (2, 1)]) (S' := []) (r := r1) rfl (g37938.qlt q1) (g37938.qtg q1) (Nat.le_of_ble_eq_true rfl)) (jOk_le (by decide) (s47 g37938 q1 (Or.inl rfl) (by omega) (by omega))) (by decide) (by decide) (fun w37941 h37941 q37941 => ?_)
          obtain ⟨v37942, rfl, lv37942, uv37942, g37941, kk37941⟩ := q37941
          have k37941 := k37938.tr kk37941 (by decide)
          show jEv _ _ _ _ _ _ _ (_, [(2, 0), (2, (r1 : Int)), (0, a2), (0, a3), (0, x4), (0, x5)], [(1, v37942)], _, _, _)
          refine ev_aload_n rfl ?_
          refine ev_aload_n rfl ?_
          refine g_getp (r := 0) (c := 23) g37941 ad0 (by decide) (by decide) rf0_5 ft11_5 ?_
          refine ev_call (jcall_v (A := [(2, 23)]) (S' := [(1, v37942)]) (r := r1) rfl (g37941.qlt q1) (g37941.qtg q1) (Nat.le_of_ble_eq_true rfl)) (jOk_le (by decide) (s49 g37941 q1 (Or.inl rfl))) (by decide) (by decide) (fun w37943 h37943 q37943 => ?_)
          obtain ⟨v37944, rfl, lv37944, uv37944, g37943, kk37943⟩ := q37943
          have k37943 := k37941.tr kk37943 (by decide)
          show jEv _ _ _ _ _ _ _ (_, [(2, 0), (2, (r1 : Int)), (0, a2), (0, a3), (0, x4), (0, x5)], [(1, v37944), (1, v37942)], _, _, _)
          refine ev_lcmp ?_
          refine ev_ifne f234_66 (fun c37945 => ?_) (fun c37945 => ?_)
          · have c37945b := jcmpL_ne c37945
            refine ev_iinc (w := (x5 + 1)) (L' := [(2, 0), (2, (r1 : Int)), (0, a2), (0, a3), (0, x4), (0, (x5 + 1))]) rfl (by unfold w32; omega) rfl ?_
            refine ev_goto f234_9 ?_
            exact ih _ _ _ g37943 k37943 (by omega) (by omega) (by omega) (by omega) (by omega) (by omega) (by omega) (by omega) (by omega)
          · have c37945b := jcmpL_neN c37945
            refine g_iincG (f := fun w => [(2, 0), (2, (r1 : Int)), (0, a2), (0, a3), (0, w), (0, x5)]) rfl (fun _ => rfl) (fun v37946 ev37946 lv37946 uv37946 => ?_)
            refine ev_iinc (w := (x5 + 1)) (L' := [(2, 0), (2, (r1 : Int)), (0, a2), (0, a3), (0, v37946), (0, (x5 + 1))]) rfl (by unfold w32; omega) rfl ?_
            refine ev_goto f234_9 ?_
            exact ih _ _ _ g37943 k37943 (by omega) (by omega) (by omega) (by omega) (by omega) (by omega) (by omega) (by omega) (by omega)
      · refine ev_aload_n rfl ?_
        refine g_getp (r := 1) (c := 4) g1 ad1 (by decide) (by decide) rf1_5 ft10_5 ?_
        refine ev_iload_n rfl ?_
        refine ev_iload_n rfl ?_
        refine g_iast g1 ad4 rt4 (fun _ => rfl) (by omega) (by omega) (by omega) (by omega) (fun h37947 e37947 g37947 => ?_)
        have k37947 := k1.wr e37947 rfl
        refine ev_aload_n rfl ?_
        refine ev_iconst ?_
        refine g_putf (r := 1) g37947 ad1 (by decide) ft10_2 (by decide) (fun _ => by omega) rf1_2 (by decide) (by omega) (by omega) (fun h37948 e37948 g37948 => ?_)
        have k37948 := k37947.wr e37948 rfl
        refine ev_ret rfl (by decide) (by decide) ?_
        show jEv _ _ _ _ _ _ _ (_, [(2, 0), (2, (r1 : Int)), (0, a2), (0, a3), (0, x4), (0, x5)], [], _, _, _)
        refine ev_aload_n rfl ?_
        refine g_getp (r := 0) (c := 1) g37948 ad0 (by decide) (by decide) rf0_0 ft11_0 ?_
        refine ev_call (jcall_v (A := []) (S' := []) (r := 1) rfl (g37948.lt ad1) (g37948.tg ad1) (Nat.le_of_ble_eq_true rfl)) (jOk_le (by decide) (s153 g37948 )) (by decide) (by decide) (fun w37949 h37949 q37949 => ?_)
        obtain ⟨v37950, rfl, lv37950, uv37950, g37949, kk37949⟩ := q37949
        have k37949 := k37948.tr kk37949 (by decide)
        show jEv _ _ _ _ _ _ _ (_, [(2, 0), (2, (r1 : Int)), (0, a2), (0, a3), (0, x4), (0, x5)], [(0, v37950)], _, _, _)
        refine ev_ifeq f234_66 (fun c37951 => ?_) (fun c37951 => ?_)
        · refine ev_iinc (w := (x5 + 1)) (L' := [(2, 0), (2, (r1 : Int)), (0, a2), (0, a3), (0, x4), (0, (x5 + 1))]) rfl (by unfold w32; omega) rfl ?_
          refine ev_goto f234_9 ?_
          exact ih _ _ _ g37949 k37949 (by omega) (by omega) (by omega) (by omega) (by omega) (by omega) (by omega) (by omega) (by omega)
        · refine ev_aload_n rfl ?_
          refine ev_aload_n rfl ?_
          refine g_getp (r := 0) (c := 1) g37949 ad0 (by decide) (by decide) rf0_0 ft11_0 ?_
          refine ev_aload_n rfl ?_
          refine g_getp (r := 0) (c := 23) g37949 ad0 (by decide) (by decide) rf0_5 ft11_5 ?_
          refine ev_iconst ?_
          refine ev_call (jcall_v (A := [(0, 0), (2, 23), (2, 1)]) (S' := []) (r := r1) rfl (g37949.qlt q1) (g37949.qtg q1) (Nat.le_of_ble_eq_true rfl)) (jOk_le (by decide) (s47 g37949 q1 (Or.inl rfl) (by omega) (by omega))) (by decide) (by decide) (fun w37952 h37952 q37952 => ?_)
          obtain ⟨v37953, rfl, lv37953, uv37953, g37952, kk37952⟩ := q37952
          have k37952 := k37949.tr kk37952 (by decide)
          show jEv _ _ _ _ _ _ _ (_, [(2, 0), (2, (r1 : Int)), (0, a2), (0, a3), (0, x4), (0, x5)], [(1, v37953)], _, _, _)
          refine ev_aload_n rfl ?_
          refine ev_aload_n rfl ?_
          refine g_getp (r := 0) (c := 23) g37952 ad0 (by decide) (by decide) rf0_5 ft11_5 ?_
          refine ev_call (jcall_v (A := [(2, 23)]) (S' := [(1, v37953)]) (r := r1) rfl (g37952.qlt q1) (g37952.qtg q1) (Nat.le_of_ble_eq_true rfl)) (jOk_le (by decide) (s49 g37952 q1 (Or.inl rfl))) (by decide) (by decide) (fun w37954 h37954 q37954 => ?_)
          obtain ⟨v37955, rfl, lv37955, uv37955, g37954, kk37954⟩ := q37954
          have k37954 := k37952.tr kk37954 (by decide)
          show jEv _ _ _ _ _ _ _ (_, [(2, 0), (2, (r1 : Int)), (0, a2), (0, a3), (0, x4), (0, x5)], [(1, v37955), (1, v37953)], _, _, _)
          refine ev_lcmp ?_
          refine ev_ifne f234_66 (fun c37956 => ?_) (fun c37956 => ?_)
          · have c37956b := jcmpL_ne c37956
            refine ev_iinc (w := (x5 + 1)) (L' := [(2, 0), (2, (r1 : Int)), (0, a2), (0, a3), (0, x4), (0, (x5 + 1))]) rfl (by unfold w32; omega) rfl ?_
            refine ev_goto f234_9 ?_
            exact ih _ _ _ g37954 k37954 (by omega) (by omega) (by omega) (by omega) (by omega) (by omega) (by omega) (by omega) (by omega)
          · have c37956b := jcmpL_neN c37956
            refine g_iincG (f := fun w => [(2, 0), (2, (r1 : Int)), (0, a2), (0, a3), (0, w), (0, x5)]) rfl (fun _ => rfl) (fun v37957 ev37957 lv37957 uv37957 => ?_)
            refine ev_iinc (w := (x5 + 1)) (L' := [(2, 0), (2, (r1 : Int)), (0, a2), (0, a3), (0, v37957), (0, (x5 + 1))]) rfl (by unfold w32; omega) rfl ?_
            refine ev_goto f234_9 ?_
            exact ih _ _ _ g37954 k37954 (by omega) (by omega) (by omega) (by omega) (by omega) (by omega) (by omega) (by omega) (by omega)
set_option maxHeartbeats 4000000 in
theorem s234 {G : GH} {h : JH} (g : Gd G h) {r1 : Nat} {m1 : Int} (q1 : IsQ G r1 m1) {a2 : Int} (la2 : 0 ≤ a2) (ua2 : a2 ≤ 35) {a3 : Int} (la3 : 0 ≤ a3) (ua3 : a3 ≤ 9999) : jOk 6 0 0 234 [(2, 0), (2, (r1 : Int)), (0, a2), (0, a3)] h (PI G [(1, 2), (1, 3), (5, 0), (6, 0), (4, 0), (1000000, 0)] h 0 (-2147483648) 2147483647) := by
  refine ⟨by decide, by rw [ml234]; exact Nat.le_of_ble_eq_true rfl, ?_⟩
  rw [ml234, pp234]
  show jEv _ none _ c234_0 0 0 _ (c234_0, [(2, 0), (2, (r1 : Int)), (0, a2), (0, a3), (9, 0), (9, 0)], [], h, 0, 0)
  have k0 := Kp.rf [(1, 2), (1, 3), (5, 0), (6, 0), (4, 0), (1000000, 0)] h
  have wr1 := g.qb q1
  have zr1 := q1.1
  refine ev_iconst ?_
  refine ev_istore (L' := [(2, 0), (2, (r1 : Int)), (0, a2), (0, a3), (0, 0), (9, 0)]) (Nat.le_of_ble_eq_true rfl) rfl ?_
  refine ev_iload_n rfl ?_
  refine ev_bipush ?_
  refine g_idivP (c := 100) rfl (by decide) (by omega) (by omega) (fun v37958 ev37958 lv37958 uv37958 => ?_)
  refine ev_istore (L' := [(2, 0), (2, (r1 : Int)), (0, a2), (0, a3), (0, 0), (0, v37958)]) (Nat.le_of_ble_eq_true rfl) rfl ?_
  exact (s234_l q1 la2 ua2 la3 ua3 202) _ _ _ g k0 (by omega) (by omega) (by omega) (by omega) (by omega) (by omega) (by omega) (by omega) (by omega)
/-! 236 countPlan -/
set_option maxHeartbeats 4000000 in
theorem s236_l {G : GH} {h : JH} {a1 : Int} (la1 : 0 ≤ a1) (ua1 : a1 ≤ 98) : ∀ N : Nat, (∀ (h1 : JH) (x2 : Int) (j3 j4 : AV), Gd G h1 → Kp [(41, 0)] h h1 → 0 ≤ a1 → a1 ≤ 98 → 0 ≤ x2 → x2 ≤ 98 → ((-10) * x2 + 985) < N → jEv (jOk 0) none (fun _ => 0) c236_0 0 0 (PI G [(41, 0)] h 0 0 1) (c236_2, [(2, 0), (0, a1), (0, x2), j3, j4], [], h1, 0, 0)) ∧ (∀ (h1 : JH) (x2 x3 x4 : Int), Gd G h1 → Kp [(41, 0)] h h1 → 1 ≤ a1 → a1 ≤ 98 → 0 ≤ x2 → x2 ≤ 97 → 0 ≤ x3 → x3 ≤ 1 → 0 ≤ x4 → x4 ≤ 4 → ((-10) * x2 + (-x4) + 984) < N → jEv (jOk 0) none (fun _ => 0) c236_0 0 0 (PI G [(41, 0)] h 0 0 1) (c236_12, [(2, 0), (0, a1), (0, x2), (0, x3), (0, x4)], [], h1, 0, 0)) := by
  intro N
  induction N with
  | zero => exact ⟨fun h1 x2 j3 j4 g1 k1 b0 b1 b2 b3 hm => absurd hm (by omega), fun h1 x2 x3 x4 g1 k1 b0 b1 b2 b3 b4 b5 b6 b7 hm => absurd hm (by omega)⟩
  | succ N ih =>
    refine ⟨?_, ?_⟩
    · intro h1 x2 j3 j4 g1 k1 b0 b1 b2 b3 hm
      refine ev_iload_n rfl ?_
      refine ev_iload_n rfl ?_
      refine ev_icmpge f236_80 (fun c38415 => ?_) (fun c38415 => ?_)
      · refine ev_aload_n rfl ?_
        refine g_getp (r := 0) (c := 41) g1 ad0 (by decide) (by decide) rf0_16 ft11_16 ?_
        refine ev_iload_n rfl ?_
        refine ev_iconst ?_
        refine g_iast g1 ad41 rt41 (fun _ => rfl) (by omega) (by omega) (by omega) (by omega) (fun h38416 e38416 g38416 => ?_)
        have k38416 := k1.wr e38416 rfl
        refine ev_iconst ?_
        exact ev_ret rfl (by decide) (by decide) ⟨_, rfl, by omega, by omega, g38416, k38416⟩
      · refine ev_iconst ?_
        refine ev_istore_n (L' := [(2, 0), (0, a1), (0, x2), (0, 1), j4]) (Nat.le_of_ble_eq_true rfl) rfl ?_
        refine ev_iconst ?_
        refine ev_istore (L' := [(2, 0), (0, a1), (0, x2), (0, 1), (0, 0)]) (Nat.le_of_ble_eq_true rfl) rfl ?_
        exact ih.2 _ _ _ _ g1 k1 (by omega) (by omega) (by omega) (by omega) (by omega) (by omega) (by omega) (by omega) (by omega)
    · intro h1 x2 x3 x4 g1 k1 b0 b1 b2 b3 b4 b5 b6 b7 hm
      refine ev_iload rfl ?_
      refine ev_iconst ?_
      refine ev_icmpge f236_58 (fun c38417 => ?_) (fun c38417 => ?_)
      · refine ev_iload_n rfl ?_
        refine ev_ifeq f236_74 (fun c38418 => ?_) (fun c38418 => ?_)
        · refine ev_iinc (w := (x2 + 1)) (L' := [(2, 0), (0, a1), (0, (x2 + 1)), (0, x3), (0, x4)]) rfl (by unfold w32; omega) rfl ?_
          refine ev_goto f236_2 ?_
          exact ih.1 _ _ _ _ g1 k1 (by omega) (by omega) (by omega) (by omega) (by omega)
        · refine ev_aload_n rfl ?_
          refine g_getp (r := 0) (c := 41) g1 ad0 (by decide) (by decide) rf0_16 ft11_16 ?_
          refine ev_iload_n rfl ?_
          refine ev_dup2 (by decide) (by decide) ?_
          refine g_iald g1 ad41 rt41 (by omega) (by omega) (fun v38419 ev38419 lv38419 uv38419 => ?_)
          refine ev_iconst ?_
          refine g_iaddG (fun v38420 ev38420 lv38420 uv38420 => ?_)
          refine g_iast g1 ad41 rt41 (fun _ => rfl) (by omega) (by omega) (by omega) (by omega) (fun h38421 e38421 g38421 => ?_)
          have k38421 := k1.wr e38421 rfl
          refine ev_iconst ?_
          exact ev_ret rfl (by decide) (by decide) ⟨_, rfl, by omega, by omega, g38421, k38421⟩
      · refine ev_iload_n rfl ?_
        refine ev_aload_n rfl ?_
        refine g_getp (r := 0) (c := 40) g1 ad0 (by decide) (by decide) rf0_15 ft11_15 ?_
        refine ev_iconst ?_
        refine ev_iload_n rfl ?_
        refine ev_imul (r := (4 * x2)) (by unfold w32; omega) ?_
        refine ev_iload rfl ?_
        refine ev_iadd (r := (4 * x2 + x4)) (by unfold w32; omega) ?_
        refine g_lald g1 ad40 rt40 (by omega) (by omega) (fun v38422 ev38422 lv38422 uv38422 => ?_)
        refine ev_aload_n rfl ?_
        refine g_getp (r := 0) (c := 40) g1 ad0 (by decide) (by decide) rf0_15 ft11_15 ?_
        refine ev_iconst ?_
        refine ev_iload_n rfl ?_
        refine ev_imul (r := (4 * a1)) (by unfold w32; omega) ?_
        refine ev_iload rfl ?_
        refine ev_iadd (r := (4 * a1 + x4)) (by unfold w32; omega) ?_
        refine g_lald g1 ad40 rt40 (by omega) (by omega) (fun v38423 ev38423 lv38423 uv38423 => ?_)
        refine ev_lcmp ?_
        refine ev_ifne f236_49 (fun c38424 => ?_) (fun c38424 => ?_)
        · have c38424b := jcmpL_ne c38424
          refine ev_iconst ?_
          refine g_iandB (b := 0) (by omega) (by omega) (by decide) (fun v38425 ev38425 lv38425 uv38425 => ?_)
          refine ev_istore_n (L' := [(2, 0), (0, a1), (0, x2), (0, v38425), (0, x4)]) (Nat.le_of_ble_eq_true rfl) rfl ?_
          refine ev_iinc (w := (x4 + 1)) (L' := [(2, 0), (0, a1), (0, x2), (0, v38425), (0, (x4 + 1))]) rfl (by unfold w32; omega) rfl ?_
          refine ev_goto f236_12 ?_
          exact ih.2 _ _ _ _ g1 k1 (by omega) (by omega) (by omega) (by omega) (by omega) (by omega) (by omega) (by omega) (by omega)
        · have c38424b := jcmpL_neN c38424
          refine ev_iconst ?_
          refine ev_goto f236_50 ?_
          refine g_iandB (b := 1) (by omega) (by omega) (by decide) (fun v38426 ev38426 lv38426 uv38426 => ?_)
          refine ev_istore_n (L' := [(2, 0), (0, a1), (0, x2), (0, v38426), (0, x4)]) (Nat.le_of_ble_eq_true rfl) rfl ?_
          refine ev_iinc (w := (x4 + 1)) (L' := [(2, 0), (0, a1), (0, x2), (0, v38426), (0, (x4 + 1))]) rfl (by unfold w32; omega) rfl ?_
          refine ev_goto f236_12 ?_
          exact ih.2 _ _ _ _ g1 k1 (by omega) (by omega) (by omega) (by omega) (by omega) (by omega) (by omega) (by omega) (by omega)
set_option maxHeartbeats 4000000 in
theorem s236 {G : GH} {h : JH} (g : Gd G h) {a1 : Int} (la1 : 0 ≤ a1) (ua1 : a1 ≤ 98) : jOk 1 0 0 236 [(2, 0), (0, a1)] h (PI G [(41, 0)] h 0 0 1) := by
  refine ⟨by decide, by rw [ml236]; exact Nat.le_of_ble_eq_true rfl, ?_⟩
  rw [ml236, pp236]
  show jEv _ none _ c236_0 0 0 _ (c236_0, [(2, 0), (0, a1), (9, 0), (9, 0), (9, 0)], [], h, 0, 0)
  have k0 := Kp.rf [(41, 0)] h
  refine ev_iconst ?_
  refine ev_istore_n (L' := [(2, 0), (0, a1), (0, 0), (9, 0), (9, 0)]) (Nat.le_of_ble_eq_true rfl) rfl ?_
  exact (s236_l la1 ua1 1980).1 _ _ _ _ g k0 (by omega) (by omega) (by omega) (by omega) (by omega)
/-! 235 timesSteady -/
set_option maxHeartbeats 4000000 in
theorem s235_l {G : GH} {h : JH} {r1 : Nat} {m1 : Int} (q1 : IsQ G r1 m1) {a2 : Int} (la2 : 0 ≤ a2) (ua2 : a2 ≤ 35) {a3 : Int} (la3 : 0 ≤ a3) (ua3 : a3 ≤ 9999) : ∀ N : Nat, (∀ (h1 : JH) (x4 x5 : Int) (j6 : AV), Gd G h1 → Kp [(1, 2), (1, 3), (5, 0), (6, 0), (4, 0), (1000000, 0), (40, 0), (41, 0)] h h1 → 0 ≤ a2 → a2 ≤ 35 → 0 ≤ a3 → a3 ≤ 9999 → 0 ≤ x4 → x4 ≤ 99 → 0 ≤ x5 → x5 ≤ 100 → ((-x5) + 201) < N → jEv (jOk 5) none (fun _ => 0) c235_0 0 0 (PI G [(1, 2), (1, 3), (5, 0), (6, 0), (4, 0), (1000000, 0), (40, 0), (41, 0)] h 0 (-2147483648) 2147483647) (c235_9, [(2, 0), (2, (r1 : Int)), (0, a2), (0, a3), (0, x4), (0, x5), j6], [], h1, 0, 0)) ∧ (∀ (h1 : JH) (x4 x5 x6 : Int), Gd G h1 → Kp [(1, 2), (1, 3), (5, 0), (6, 0), (4, 0), (1000000, 0), (40, 0), (41, 0)] h h1 → 0 ≤ a2 → a2 ≤ 35 → 0 ≤ a3 → a3 ≤ 9999 → 0 ≤ x4 → x4 ≤ 99 → 0 ≤ x5 → x5 ≤ 98 → 1 ≤ x6 → x6 ≤ 99 → ((-x6) + 99) < N → jEv (jOk 5) none (fun _ => 0) c235_0 0 0 (PI G [(1, 2), (1, 3), (5, 0), (6, 0), (4, 0), (1000000, 0), (40, 0), (41, 0)] h 0 (-2147483648) 2147483647) (c235_94, [(2, 0), (2, (r1 : Int)), (0, a2), (0, a3), (0, x4), (0, x5), (0, x6)], [], h1, 0, 0)) := by
  intro N
  induction N with
  | zero => exact ⟨fun h1 x4 x5 j6 g1 k1 b0 b1 b2 b3 b4 b5 b6 b7 hm => absurd hm (by omega), fun h1 x4 x5 x6 g1 k1 b0 b1 b2 b3 b4 b5 b6 b7 b8 b9 hm => absurd hm (by omega)⟩
  | succ N ih =>
    refine ⟨?_, ?_⟩
    · intro h1 x4 x5 j6 g1 k1 b0 b1 b2 b3 b4 b5 b6 b7 hm
      have wr1 := g1.qb q1
      have zr1 := q1.1
      refine ev_iload rfl ?_
      refine ev_iload_n rfl ?_
      refine ev_bipush ?_
      refine g_iremP (c := 100) rfl (by decide) (by omega) (fun v39601 ev39601 lv39601 uv39601 wv39601 => ?_)
      refine ev_icmpgt f235_88 (fun c39602 => ?_) (fun c39602 => ?_)
      · refine ev_iconst ?_
        refine ev_istore (L' := [(2, 0), (2, (r1 : Int)), (0, a2), (0, a3), (0, x4), (0, 0), j6]) (Nat.le_of_ble_eq_true rfl) rfl ?_
        refine ev_iconst ?_
        refine ev_istore (L' := [(2, 0), (2, (r1 : Int)), (0, a2), (0, a3), (0, x4), (0, 0), (0, 1)]) (Nat.le_of_ble_eq_true rfl) rfl ?_
        exact ih.2 _ _ _ _ g1 k1 (by omega) (by omega) (by omega) (by omega) (by omega) (by omega) (by omega) (by omega) (by omega) (by omega) (by omega)
      · refine ev_iload rfl ?_
        refine ev_bipush ?_
        refine ev_icmpge f235_88 (fun c39603 => ?_) (fun c39603 => ?_)
        · refine ev_iconst ?_
          refine ev_istore (L' := [(2, 0), (2, (r1 : Int)), (0, a2), (0, a3), (0, x4), (0, 0), j6]) (Nat.le_of_ble_eq_true rfl) rfl ?_
          refine ev_iconst ?_
          refine ev_istore (L' := [(2, 0), (2, (r1 : Int)), (0, a2), (0, a3), (0, x4), (0, 0), (0, 1)]) (Nat.le_of_ble_eq_true rfl) rfl ?_
          exact ih.2 _ _ _ _ g1 k1 (by omega) (by omega) (by omega) (by omega) (by omega) (by omega) (by omega) (by omega) (by omega) (by omega) (by omega)
        · refine ev_aload_n rfl ?_
          refine g_getp (r := 0) (c := 1) g1 ad0 (by decide) (by decide) rf0_0 ft11_0 ?_
          refine ev_iload_n rfl ?_
          refine ev_iload rfl ?_
          refine ev_in (d := 4) (a := 0) (b := 0) (cd' := c149_0) (m := 3) (L0 := [(2, 1), (0, a2), (0, x5)]) (jcall_v (A := [(0, x5), (0, a2)]) (S' := []) (r := 1) rfl (g1.lt ad1) (g1.tg ad1) (Nat.le_of_ble_eq_true rfl)) (by decide) ml149 pp149 (Nat.le_of_ble_eq_true rfl) rfl (by decide) (by decide) ?_
          refine ev_iload_n rfl ?_
          refine ev_iflt f149_32 (fun c39604 => absurd c39604 (by omega)) (fun c39604 => ?_)
          refine ev_iload_n rfl ?_
          refine ev_bipush ?_
          refine ev_icmpge f149_32 (fun c39605 => absurd c39605 (by omega)) (fun c39605 => ?_)
          refine ev_aload_n rfl ?_
          refine g_getp (r := 1) (c := 4) g1 ad1 (by decide) (by decide) rf1_5 ft10_5 ?_
          refine ev_iload_n rfl ?_
          refine g_iald g1 ad4 rt4 (by omega) (by omega) (fun v39606 ev39606 lv39606 uv39606 => ?_)
          refine ev_iload_n rfl ?_
          refine ev_icmpeq f149_32 (fun c39607 => ?_) (fun c39607 => ?_)
          · refine ev_ret rfl (by decide) (by decide) ?_
            show jEv _ _ _ _ _ _ _ (_, [(2, 0), (2, (r1 : Int)), (0, a2), (0, a3), (0, x4), (0, x5), j6], [], _, _, _)
            refine ev_aload_n rfl ?_
            refine g_getp (r := 0) (c := 1) g1 ad0 (by decide) (by decide) rf0_0 ft11_0 ?_
            refine ev_call (jcall_v (A := []) (S' := []) (r := 1) rfl (g1.lt ad1) (g1.tg ad1) (Nat.le_of_ble_eq_true rfl)) (jOk_le (by decide) (s153 g1 )) (by decide) (by decide) (fun w39608 h39608 q39608 => ?_)
            obtain ⟨v39609, rfl, lv39609, uv39609, g39608, kk39608⟩ := q39608
            have k39608 := k1.tr kk39608 (by decide)
            show jEv _ _ _ _ _ _ _ (_, [(2, 0), (2, (r1 : Int)), (0, a2), (0, a3), (0, x4), (0, x5), j6], [(0, v39609)], _, _, _)
            refine ev_ifeq f235_82 (fun c39610 => ?_) (fun c39610 => ?_)
            · refine ev_iinc (w := (x5 + 1)) (L' := [(2, 0), (2, (r1 : Int)), (0, a2), (0, a3), (0, x4), (0, (x5 + 1)), j6]) rfl (by unfold w32; omega) rfl ?_
              refine ev_goto f235_9 ?_
              exact ih.1 _ _ _ _ g39608 k39608 (by omega) (by omega) (by omega) (by omega) (by omega) (by omega) (by omega) (by omega) (by omega)
            · refine ev_aload_n rfl ?_
              refine ev_aload_n rfl ?_
              refine g_getp (r := 0) (c := 1) g39608 ad0 (by decide) (by decide) rf0_0 ft11_0 ?_
              refine ev_aload_n rfl ?_
              refine g_getp (r := 0) (c := 23) g39608 ad0 (by decide) (by decide) rf0_5 ft11_5 ?_
              refine ev_iconst ?_
              refine ev_call (jcall_v (A := [(0, 0), (2, 23), (2, 1)]) (S' := []) (r := r1) rfl (g39608.qlt q1) (g39608.qtg q1) (Nat.le_of_ble_eq_true rfl)) (jOk_le (by decide) (s47 g39608 q1 (Or.inl rfl) (by omega) (by omega))) (by decide) (by decide) (fun w39611 h39611 q39611 => ?_)
              obtain ⟨v39612, rfl, lv39612, uv39612, g39611, kk39611⟩ := q39611
              have k39611 := k39608.tr kk39611 (by decide)
              show jEv _ _ _ _ _ _ _ (_, [(2, 0), (2, (r1 : Int)), (0, a2), (0, a3), (0, x4), (0, x5), j6], [(1, v39612)], _, _, _)
              refine ev_pop2 ?_
              refine ev_aload_n rfl ?_
              refine ev_aload_n rfl ?_
              refine g_getp (r := 0) (c := 40) g39611 ad0 (by decide) (by decide) rf0_15 ft11_15 ?_
              refine ev_iconst ?_
              refine ev_iload rfl ?_
              refine ev_imul (r := (4 * x4)) (by unfold w32; omega) ?_
              refine ev_call (jcall_v (A := [(0, (4 * x4)), (2, 40)]) (S' := []) (r := r1) rfl (g39611.qlt q1) (g39611.qtg q1) (Nat.le_of_ble_eq_true rfl)) (jOk_le (by decide) (s40 g39611 q1 (by omega) (by omega))) (by decide) (by decide) (fun w39613 h39613 q39613 => ?_)
              obtain ⟨rfl, g39613, kk39613⟩ := q39613
              have k39613 := k39611.tr kk39613 (by decide)
              show jEv _ _ _ _ _ _ _ (_, [(2, 0), (2, (r1 : Int)), (0, a2), (0, a3), (0, x4), (0, x5), j6], [], _, _, _)
              refine ev_iload rfl ?_
              refine ev_aload_n rfl ?_
              refine ev_iload rfl ?_
              refine ev_call (jcall_v (A := [(0, x4)]) (S' := [(0, x4)]) (r := 0) rfl (g39613.lt ad0) (g39613.tg ad0) (Nat.le_of_ble_eq_true rfl)) (jOk_le (by decide) (s236 g39613 (by omega) (by omega))) (by decide) (by decide) (fun w39614 h39614 q39614 => ?_)
              obtain ⟨v39615, rfl, lv39615, uv39615, g39614, kk39614⟩ := q39614
              have k39614 := k39613.tr kk39614 (by decide)
              show jEv _ _ _ _ _ _ _ (_, [(2, 0), (2, (r1 : Int)), (0, a2), (0, a3), (0, x4), (0, x5), j6], [(0, v39615), (0, x4)], _, _, _)
              refine ev_iadd (r := (v39615 + x4)) (by unfold w32; omega) ?_
              refine ev_istore (L' := [(2, 0), (2, (r1 : Int)), (0, a2), (0, a3), (0, (v39615 + x4)), (0, x5), j6]) (Nat.le_of_ble_eq_true rfl) rfl ?_
              refine ev_iinc (w := (x5 + 1)) (L' := [(2, 0), (2, (r1 : Int)), (0, a2), (0, a3), (0, (v39615 + x4)), (0, (x5 + 1)), j6]) rfl (by unfold w32; omega) rfl ?_
              refine ev_goto f235_9 ?_
              exact ih.1 _ _ _ _ g39614 k39614 (by omega) (by omega) (by omega) (by omega) (by omega) (by omega) (by omega) (by omega) (by omega)
          · refine ev_aload_n rfl ?_
            refine g_getp (r := 1) (c := 4) g1 ad1 (by decide) (by decide) rf1_5 ft10_5 ?_
            refine ev_iload_n rfl ?_
            refine ev_iload_n rfl ?_
            refine g_iast g1 ad4 rt4 (fun _ => rfl) (by omega) (by omega) (by omega) (by omega) (fun h39616 e39616 g39616 => ?_)
            have k39616 := k1.wr e39616 rfl
            refine ev_aload_n rfl ?_
            refine ev_iconst ?_
            refine g_putf (r := 1) g39616 ad1 (by decide) ft10_2 (by decide) (fun _ => by omega) rf1_2 (by decide) (by omega) (by omega) (fun h39617 e39617 g39617 => ?_)
            have k39617 := k39616.wr e39617 rfl
            refine ev_ret rfl (by decide) (by decide) ?_
            show jEv _ _ _ _ _ _ _ (_, [(2, 0), (2, (r1 : Int)), (0, a2), (0, a3), (0, x4), (0, x5), j6], [], _, _, _)
            refine ev_aload_n rfl ?_
            refine g_getp (r := 0) (c := 1) g39617 ad0 (by decide) (by decide) rf0_0 ft11_0 ?_
            refine ev_call (jcall_v (A := []) (S' := []) (r := 1) rfl (g39617.lt ad1) (g39617.tg ad1) (Nat.le_of_ble_eq_true rfl)) (jOk_le (by decide) (s153 g39617 )) (by decide) (by decide) (fun w39618 h39618 q39618 => ?_)
            obtain ⟨v39619, rfl, lv39619, uv39619, g39618, kk39618⟩ := q39618
            have k39618 := k39617.tr kk39618 (by decide)
            show jEv _ _ _ _ _ _ _ (_, [(2, 0), (2, (r1 : Int)), (0, a2), (0, a3), (0, x4), (0, x5), j6], [(0, v39619)], _, _, _)
            refine ev_ifeq f235_82 (fun c39620 => ?_) (fun c39620 => ?_)
            · refine ev_iinc (w := (x5 + 1)) (L' := [(2, 0), (2, (r1 : Int)), (0, a2), (0, a3), (0, x4), (0, (x5 + 1)), j6]) rfl (by unfold w32; omega) rfl ?_
              refine ev_goto f235_9 ?_
              exact ih.1 _ _ _ _ g39618 k39618 (by omega) (by omega) (by omega) (by omega) (by omega) (by omega) (by omega) (by omega) (by omega)
            · refine ev_aload_n rfl ?_
              refine ev_aload_n rfl ?_
              refine g_getp (r := 0) (c := 1) g39618 ad0 (by decide) (by decide) rf0_0 ft11_0 ?_
              refine ev_aload_n rfl ?_
              refine g_getp (r := 0) (c := 23) g39618 ad0 (by decide) (by decide) rf0_5 ft11_5 ?_
              refine ev_iconst ?_
              refine ev_call (jcall_v (A := [(0, 0), (2, 23), (2, 1)]) (S' := []) (r := r1) rfl (g39618.qlt q1) (g39618.qtg q1) (Nat.le_of_ble_eq_true rfl)) (jOk_le (by decide) (s47 g39618 q1 (Or.inl rfl) (by omega) (by omega))) (by decide) (by decide) (fun w39621 h39621 q39621 => ?_)
              obtain ⟨v39622, rfl, lv39622, uv39622, g39621, kk39621⟩ := q39621
              have k39621 := k39618.tr kk39621 (by decide)
              show jEv _ _ _ _ _ _ _ (_, [(2, 0), (2, (r1 : Int)), (0, a2), (0, a3), (0, x4), (0, x5), j6], [(1, v39622)], _, _, _)
              refine ev_pop2 ?_
              refine ev_aload_n rfl ?_
              refine ev_aload_n rfl ?_
              refine g_getp (r := 0) (c := 40) g39621 ad0 (by decide) (by decide) rf0_15 ft11_15 ?_
              refine ev_iconst ?_
              refine ev_iload rfl ?_
              refine ev_imul (r := (4 * x4)) (by unfold w32; omega) ?_
              refine ev_call (jcall_v (A := [(0, (4 * x4)), (2, 40)]) (S' := []) (r := r1) rfl (g39621.qlt q1) (g39621.qtg q1) (Nat.le_of_ble_eq_true rfl)) (jOk_le (by decide) (s40 g39621 q1 (by omega) (by omega))) (by decide) (by decide) (fun w39623 h39623 q39623 => ?_)
              obtain ⟨rfl, g39623, kk39623⟩ := q39623
              have k39623 := k39621.tr kk39623 (by decide)
              show jEv _ _ _ _ _ _ _ (_, [(2, 0), (2, (r1 : Int)), (0, a2), (0, a3), (0, x4), (0, x5), j6], [], _, _, _)
              refine ev_iload rfl ?_
              refine ev_aload_n rfl ?_
              refine ev_iload rfl ?_
              refine ev_call (jcall_v (A := [(0, x4)]) (S' := [(0, x4)]) (r := 0) rfl (g39623.lt ad0) (g39623.tg ad0) (Nat.le_of_ble_eq_true rfl)) (jOk_le (by decide) (s236 g39623 (by omega) (by omega))) (by decide) (by decide) (fun w39624 h39624 q39624 => ?_)
              obtain ⟨v39625, rfl, lv39625, uv39625, g39624, kk39624⟩ := q39624
              have k39624 := k39623.tr kk39624 (by decide)
              show jEv _ _ _ _ _ _ _ (_, [(2, 0), (2, (r1 : Int)), (0, a2), (0, a3), (0, x4), (0, x5), j6], [(0, v39625), (0, x4)], _, _, _)
              refine ev_iadd (r := (v39625 + x4)) (by unfold w32; omega) ?_
              refine ev_istore (L' := [(2, 0), (2, (r1 : Int)), (0, a2), (0, a3), (0, (v39625 + x4)), (0, x5), j6]) (Nat.le_of_ble_eq_true rfl) rfl ?_
              refine ev_iinc (w := (x5 + 1)) (L' := [(2, 0), (2, (r1 : Int)), (0, a2), (0, a3), (0, (v39625 + x4)), (0, (x5 + 1)), j6]) rfl (by unfold w32; omega) rfl ?_
              refine ev_goto f235_9 ?_
              exact ih.1 _ _ _ _ g39624 k39624 (by omega) (by omega) (by omega) (by omega) (by omega) (by omega) (by omega) (by omega) (by omega)
    · intro h1 x4 x5 x6 g1 k1 b0 b1 b2 b3 b4 b5 b6 b7 b8 b9 hm
      have wr1 := g1.qb q1
      have zr1 := q1.1
      refine ev_iload rfl ?_
      refine ev_iload rfl ?_
      refine ev_icmpge f235_128 (fun c39626 => ?_) (fun c39626 => ?_)
      · refine ev_aload_n rfl ?_
        refine ev_aload_n rfl ?_
        refine g_getp (r := 0) (c := 40) g1 ad0 (by decide) (by decide) rf0_15 ft11_15 ?_
        refine ev_iconst ?_
        refine ev_iload rfl ?_
        refine ev_imul (r := (4 * x5)) (by unfold w32; omega) ?_
        refine ev_call (jcall_v (A := [(0, (4 * x5)), (2, 40)]) (S' := []) (r := r1) rfl (g1.qlt q1) (g1.qtg q1) (Nat.le_of_ble_eq_true rfl)) (jOk_le (by decide) (s41 g1 q1 (by omega) (by omega))) (by decide) (by decide) (fun w39627 h39627 q39627 => ?_)
        obtain ⟨rfl, g39627, kk39627⟩ := q39627
        have k39627 := k1.tr kk39627 (by decide)
        show jEv _ _ _ _ _ _ _ (_, [(2, 0), (2, (r1 : Int)), (0, a2), (0, a3), (0, x4), (0, x5), (0, x6)], [], _, _, _)
        refine ev_aload_n rfl ?_
        refine g_getp (r := 0) (c := 41) g39627 ad0 (by decide) (by decide) rf0_16 ft11_16 ?_
        refine ev_iload rfl ?_
        refine g_iald g39627 ad41 rt41 (by omega) (by omega) (fun v39628 ev39628 lv39628 uv39628 => ?_)
        exact ev_ret rfl (by decide) (by decide) ⟨_, rfl, by omega, by omega, g39627, k39627⟩
      · refine ev_aload_n rfl ?_
        refine g_getp (r := 0) (c := 41) g1 ad0 (by decide) (by decide) rf0_16 ft11_16 ?_
        refine ev_iload rfl ?_
        refine g_iald g1 ad41 rt41 (by omega) (by omega) (fun v39629 ev39629 lv39629 uv39629 => ?_)
        refine ev_aload_n rfl ?_
        refine g_getp (r := 0) (c := 41) g1 ad0 (by decide) (by decide) rf0_16 ft11_16 ?_
        refine ev_iload rfl ?_
        refine g_iald g1 ad41 rt41 (by omega) (by omega) (fun v39630 ev39630 lv39630 uv39630 => ?_)
        refine ev_icmple f235_122 (fun c39631 => ?_) (fun c39631 => ?_)
        · refine ev_iinc (w := (x6 + 1)) (L' := [(2, 0), (2, (r1 : Int)), (0, a2), (0, a3), (0, x4), (0, x5), (0, (x6 + 1))]) rfl (by unfold w32; omega) rfl ?_
          refine ev_goto f235_94 ?_
          exact ih.2 _ _ _ _ g1 k1 (by omega) (by omega) (by omega) (by omega) (by omega) (by omega) (by omega) (by omega) (by omega) (by omega) (by omega)
        · refine ev_iload rfl ?_
          refine ev_istore (L' := [(2, 0), (2, (r1 : Int)), (0, a2), (0, a3), (0, x4), (0, x6), (0, x6)]) (Nat.le_of_ble_eq_true rfl) rfl ?_
          refine ev_iinc (w := (x6 + 1)) (L' := [(2, 0), (2, (r1 : Int)), (0, a2), (0, a3), (0, x4), (0, x6), (0, (x6 + 1))]) rfl (by unfold w32; omega) rfl ?_
          refine ev_goto f235_94 ?_
          exact ih.2 _ _ _ _ g1 k1 (by omega) (by omega) (by omega) (by omega) (by omega) (by omega) (by omega) (by omega) (by omega) (by omega) (by omega)
set_option maxHeartbeats 4000000 in
theorem s235 {G : GH} {h : JH} (g : Gd G h) {r1 : Nat} {m1 : Int} (q1 : IsQ G r1 m1) {a2 : Int} (la2 : 0 ≤ a2) (ua2 : a2 ≤ 35) {a3 : Int} (la3 : 0 ≤ a3) (ua3 : a3 ≤ 9999) : jOk 6 0 0 235 [(2, 0), (2, (r1 : Int)), (0, a2), (0, a3)] h (PI G [(1, 2), (1, 3), (5, 0), (6, 0), (4, 0), (1000000, 0), (40, 0), (41, 0)] h 0 (-2147483648) 2147483647) := by
  refine ⟨by decide, by rw [ml235]; exact Nat.le_of_ble_eq_true rfl, ?_⟩
  rw [ml235, pp235]
  show jEv _ none _ c235_0 0 0 _ (c235_0, [(2, 0), (2, (r1 : Int)), (0, a2), (0, a3), (9, 0), (9, 0), (9, 0)], [], h, 0, 0)
  have k0 := Kp.rf [(1, 2), (1, 3), (5, 0), (6, 0), (4, 0), (1000000, 0), (40, 0), (41, 0)] h
  have wr1 := g.qb q1
  have zr1 := q1.1
  refine ev_iconst ?_
  refine ev_istore (L' := [(2, 0), (2, (r1 : Int)), (0, a2), (0, a3), (0, 0), (9, 0), (9, 0)]) (Nat.le_of_ble_eq_true rfl) rfl ?_
  refine ev_iload_n rfl ?_
  refine ev_bipush ?_
  refine g_idivP (c := 100) rfl (by decide) (by omega) (by omega) (fun v39632 ev39632 lv39632 uv39632 => ?_)
  refine ev_istore (L' := [(2, 0), (2, (r1 : Int)), (0, a2), (0, a3), (0, 0), (0, v39632), (9, 0)]) (Nat.le_of_ble_eq_true rfl) rfl ?_
  exact (s235_l q1 la2 ua2 la3 ua3 303).1 _ _ _ _ g k0 (by omega) (by omega) (by omega) (by omega) (by omega) (by omega) (by omega) (by omega) (by omega)
/-! 237 leastWorth -/
set_option maxHeartbeats 4000000 in
theorem s237_l {G : GH} {h : JH} {r1 : Nat} {m1 : Int} (q1 : IsQ G r1 m1) {a2 : Int} (la2 : 0 ≤ a2) (ua2 : a2 ≤ 3) {a3 : Int} (la3 : 0 ≤ a3) (ua3 : a3 ≤ 9999) {a4 : Int} (la4 : (-2147483648) ≤ a4) (ua4 : a4 ≤ 2147483647) : ∀ N : Nat, (∀ (h1 : JH) (x5 x7 x9 x11 : Int) (j12 j14 : AV), Gd G h1 → Kp [(1, 2), (1, 3), (5, 0), (6, 0), (4, 0), (1000000, 0)] h h1 → 0 ≤ a2 → a2 ≤ 3 → 0 ≤ a3 → a3 ≤ 9999 → (-2147483648) ≤ a4 → a4 ≤ 2147483647 → (-9223372036854775808) ≤ x5 → x5 ≤ 9223372036854775807 → (-9223372036854775808) ≤ x7 → x7 ≤ 9223372036854775807 → (-2147483648) ≤ x9 → x9 ≤ 2147483647 → 0 ≤ x11 → x11 ≤ 100 → ((-x11) + 100) < N → jEv (jOk 5) none (fun _ => 0) c237_0 0 0 (PI G [(1, 2), (1, 3), (5, 0), (6, 0), (4, 0), (1000000, 0)] h 1 (-9223372036854775808) 9223372036854775807) (c237_15, [(2, 0), (2, (r1 : Int)), (0, a2), (0, a3), (0, a4), (1, x5), (9, 0), (1, x7), (9, 0), (1, x9), (9, 0), (0, x11), j12, (9, 0), j14, (9, 0)], [], h1, 0, 0)) := by
  intro N
  induction N with
  | zero => exact fun h1 x5 x7 x9 x11 j12 j14 g1 k1 b0 b1 b2 b3 b4 b5 b6 b7 b8 b9 b10 b11 b12 b13 hm => absurd hm (by omega)
  | succ N ih =>
    show _
    intro h1 x5 x7 x9 x11 j12 j14 g1 k1 b0 b1 b2 b3 b4 b5 b6 b7 b8 b9 b10 b11 b12 b13 hm
    have wr1 := g1.qb q1
    have zr1 := q1.1
    refine ev_iload rfl ?_
    refine ev_iload_n rfl ?_
    refine ev_bipush ?_
    refine g_iremP (c := 100) rfl (by decide) (by omega) (fun v39741 ev39741 lv39741 uv39741 wv39741 => ?_)
    refine ev_icmpgt f237_123 (fun c39742 => ?_) (fun c39742 => ?_)
    · refine ev_lload rfl ?_
      refine ev_lload rfl ?_
      refine ev_iload rfl ?_
      refine ev_call (jcall_s (A := [(0, a4), (1, x7), (1, x5)]) (S' := []) (by decide) rfl (Nat.le_of_ble_eq_true rfl)) (jOk_le (by decide) (s223 g1 (by omega) (by omega) (by omega) (by omega) (by omega) (by omega))) (by decide) (by decide) (fun w39743 h39743 q39743 => ?_)
      obtain ⟨v39744, rfl, lv39744, uv39744, g39743, kk39743⟩ := q39743
      have k39743 := k1.tr kk39743 (by decide)
      show jEv _ _ _ _ _ _ _ (_, [(2, 0), (2, (r1 : Int)), (0, a2), (0, a3), (0, a4), (1, x5), (9, 0), (1, x7), (9, 0), (1, x9), (9, 0), (0, x11), j12, (9, 0), j14, (9, 0)], [(1, v39744)], _, _, _)
      exact ev_ret rfl (by decide) (by decide) ⟨_, rfl, by omega, by omega, g39743, k39743⟩
    · refine ev_aload_n rfl ?_
      refine g_getp (r := 0) (c := 1) g1 ad0 (by decide) (by decide) rf0_0 ft11_0 ?_
      refine ev_iload_n rfl ?_
      refine ev_iconst ?_
      refine ev_iconst ?_
      refine ev_in (d := 4) (a := 0) (b := 0) (cd' := c147_0) (m := 3) (L0 := [(0, a2), (0, 0), (0, 0)]) (jcall_s (A := [(0, 0), (0, 0), (0, a2)]) (S' := [(2, 1)]) (by decide) rfl (Nat.le_of_ble_eq_true rfl)) (by decide) ml147 pp147 (Nat.le_of_ble_eq_true rfl) rfl (by decide) (by decide) ?_
      refine ev_bipush ?_
      refine ev_iload_n rfl ?_
      refine ev_imul (r := (9 * a2)) (by unfold w32; omega) ?_
      refine ev_iconst ?_
      refine ev_iload_n rfl ?_
      refine ev_imul (r := 0) (by decide) ?_
      refine ev_iadd (r := (9 * a2)) (by unfold w32; omega) ?_
      refine ev_iload_n rfl ?_
      refine ev_iadd (r := (9 * a2)) (by unfold w32; omega) ?_
      refine ev_ret rfl (by decide) (by decide) ?_
      show jEv _ _ _ _ _ _ _ (_, [(2, 0), (2, (r1 : Int)), (0, a2), (0, a3), (0, a4), (1, x5), (9, 0), (1, x7), (9, 0), (1, x9), (9, 0), (0, x11), j12, (9, 0), j14, (9, 0)], [(0, (9 * a2)), (2, 1)], _, _, _)
      refine ev_iload rfl ?_
      refine ev_in (d := 4) (a := 0) (b := 0) (cd' := c149_0) (m := 3) (L0 := [(2, 1), (0, (9 * a2)), (0, x11)]) (jcall_v (A := [(0, x11), (0, (9 * a2))]) (S' := []) (r := 1) rfl (g1.lt ad1) (g1.tg ad1) (Nat.le_of_ble_eq_true rfl)) (by decide) ml149 pp149 (Nat.le_of_ble_eq_true rfl) rfl (by decide) (by decide) ?_
      refine ev_iload_n rfl ?_
      refine ev_iflt f149_32 (fun c39745 => absurd c39745 (by omega)) (fun c39745 => ?_)
      refine ev_iload_n rfl ?_
      refine ev_bipush ?_
      refine ev_icmpge f149_32 (fun c39746 => absurd c39746 (by omega)) (fun c39746 => ?_)
      refine ev_aload_n rfl ?_
      refine g_getp (r := 1) (c := 4) g1 ad1 (by decide) (by decide) rf1_5 ft10_5 ?_
      refine ev_iload_n rfl ?_
      refine g_iald g1 ad4 rt4 (by omega) (by omega) (fun v39747 ev39747 lv39747 uv39747 => ?_)
      refine ev_iload_n rfl ?_
      refine ev_icmpeq f149_32 (fun c39748 => ?_) (fun c39748 => ?_)
      · refine ev_ret rfl (by decide) (by decide) ?_
        show jEv _ _ _ _ _ _ _ (_, [(2, 0), (2, (r1 : Int)), (0, a2), (0, a3), (0, a4), (1, x5), (9, 0), (1, x7), (9, 0), (1, x9), (9, 0), (0, x11), j12, (9, 0), j14, (9, 0)], [], _, _, _)
        refine ev_aload_n rfl ?_
        refine g_getp (r := 0) (c := 1) g1 ad0 (by decide) (by decide) rf0_0 ft11_0 ?_
        refine ev_call (jcall_v (A := []) (S' := []) (r := 1) rfl (g1.lt ad1) (g1.tg ad1) (Nat.le_of_ble_eq_true rfl)) (jOk_le (by decide) (s153 g1 )) (by decide) (by decide) (fun w39749 h39749 q39749 => ?_)
        obtain ⟨v39750, rfl, lv39750, uv39750, g39749, kk39749⟩ := q39749
        have k39749 := k1.tr kk39749 (by decide)
        show jEv _ _ _ _ _ _ _ (_, [(2, 0), (2, (r1 : Int)), (0, a2), (0, a3), (0, a4), (1, x5), (9, 0), (1, x7), (9, 0), (1, x9), (9, 0), (0, x11), j12, (9, 0), j14, (9, 0)], [(0, v39750)], _, _, _)
        refine ev_ifeq f237_117 (fun c39751 => ?_) (fun c39751 => ?_)
        · refine ev_iinc (w := (x11 + 1)) (L' := [(2, 0), (2, (r1 : Int)), (0, a2), (0, a3), (0, a4), (1, x5), (9, 0), (1, x7), (9, 0), (1, x9), (9, 0), (0, (x11 + 1)), j12, (9, 0), j14, (9, 0)]) rfl (by unfold w32; omega) rfl ?_
          refine ev_goto f237_15 ?_
          exact ih _ _ _ _ _ _ _ g39749 k39749 (by omega) (by omega) (by omega) (by omega) (by omega) (by omega) (by omega) (by omega) (by omega) (by omega) (by omega) (by omega) (by omega) (by omega) (by omega)
        · refine ev_aload_n rfl ?_
          refine ev_aload_n rfl ?_
          refine g_getp (r := 0) (c := 1) g39749 ad0 (by decide) (by decide) rf0_0 ft11_0 ?_
          refine ev_aload_n rfl ?_
          refine g_getp (r := 0) (c := 23) g39749 ad0 (by decide) (by decide) rf0_5 ft11_5 ?_
          refine ev_call (jcall_v (A := [(2, 23), (2, 1)]) (S' := []) (r := r1) rfl (g39749.qlt q1) (g39749.qtg q1) (Nat.le_of_ble_eq_true rfl)) (jOk_le (by decide) (s48 g39749 q1 (Or.inl rfl))) (by decide) (by decide) (fun w39752 h39752 q39752 => ?_)
          obtain ⟨v39753, rfl, lv39753, uv39753, g39752, kk39752⟩ := q39752
          have k39752 := k39749.tr kk39752 (by decide)
          show jEv _ _ _ _ _ _ _ (_, [(2, 0), (2, (r1 : Int)), (0, a2), (0, a3), (0, a4), (1, x5), (9, 0), (1, x7), (9, 0), (1, x9), (9, 0), (0, x11), j12, (9, 0), j14, (9, 0)], [(1, v39753)], _, _, _)
          refine ev_ldc2_w ?_
          refine g_ldivG (by omega) (fun v39754 ev39754 lv39754 uv39754 => ?_)
          refine ev_lstore (L' := [(2, 0), (2, (r1 : Int)), (0, a2), (0, a3), (0, a4), (1, x5), (9, 0), (1, x7), (9, 0), (1, x9), (9, 0), (0, x11), (1, v39754), (9, 0), j14, (9, 0)]) (Nat.le_of_ble_eq_true rfl) rfl ?_
          refine ev_aload_n rfl ?_
          refine g_getp (r := 0) (c := 1) g39752 ad0 (by decide) (by decide) rf0_0 ft11_0 ?_
          refine ev_iload_n rfl ?_
          refine ev_iconst ?_
          refine ev_call (jcall_v (A := [(0, 0), (0, a2)]) (S' := []) (r := 1) rfl (g39752.lt ad1) (g39752.tg ad1) (Nat.le_of_ble_eq_true rfl)) (jOk_le (by decide) (s150 g39752 (by omega) (by omega) (by omega) (by omega))) (by decide) (by decide) (fun w39755 h39755 q39755 => ?_)
          obtain ⟨v39756, rfl, lv39756, uv39756, g39755, kk39755⟩ := q39755
          have k39755 := k39752.tr kk39755 (by decide)
          show jEv _ _ _ _ _ _ _ (_, [(2, 0), (2, (r1 : Int)), (0, a2), (0, a3), (0, a4), (1, x5), (9, 0), (1, x7), (9, 0), (1, x9), (9, 0), (0, x11), (1, v39754), (9, 0), j14, (9, 0)], [(0, v39756)], _, _, _)
          refine ev_i2l ?_
          refine ev_lstore (L' := [(2, 0), (2, (r1 : Int)), (0, a2), (0, a3), (0, a4), (1, x5), (9, 0), (1, x7), (9, 0), (1, x9), (9, 0), (0, x11), (1, v39754), (9, 0), (1, v39756), (9, 0)]) (Nat.le_of_ble_eq_true rfl) rfl ?_
          refine ev_lload rfl ?_
          refine ev_lconst ?_
          refine ev_lcmp ?_
          refine ev_ifeq f237_100 (fun c39757 => ?_) (fun c39757 => ?_)
          · have c39757b := jcmpL_eq c39757
            refine ev_lload rfl ?_
            refine ev_lstore (L' := [(2, 0), (2, (r1 : Int)), (0, a2), (0, a3), (0, a4), (1, v39754), (9, 0), (1, x7), (9, 0), (1, x9), (9, 0), (0, x11), (1, v39754), (9, 0), (1, v39756), (9, 0)]) (Nat.le_of_ble_eq_true rfl) rfl ?_
            refine ev_aload_n rfl ?_
            refine g_getp (r := 0) (c := 1) g39755 ad0 (by decide) (by decide) rf0_0 ft11_0 ?_
            obtain ⟨v39758, ev39758, lv39758, uv39758⟩ := g39755.rd ad1 (show 1 < 8 by decide) rf1_1
            refine g_getv (r := 1) (v := v39758) g39755 ad1 (by decide) ft10_1 ev39758 ?_
            refine ev_lstore (L' := [(2, 0), (2, (r1 : Int)), (0, a2), (0, a3), (0, a4), (1, v39754), (9, 0), (1, v39758), (9, 0), (1, x9), (9, 0), (0, x11), (1, v39754), (9, 0), (1, v39756), (9, 0)]) (Nat.le_of_ble_eq_true rfl) rfl ?_
            refine ev_lload rfl ?_
            refine ev_lstore (L' := [(2, 0), (2, (r1 : Int)), (0, a2), (0, a3), (0, a4), (1, v39754), (9, 0), (1, v39758), (9, 0), (1, v39756), (9, 0), (0, x11), (1, v39754), (9, 0), (1, v39756), (9, 0)]) (Nat.le_of_ble_eq_true rfl) rfl ?_
            refine ev_iinc (w := (x11 + 1)) (L' := [(2, 0), (2, (r1 : Int)), (0, a2), (0, a3), (0, a4), (1, v39754), (9, 0), (1, v39758), (9, 0), (1, v39756), (9, 0), (0, (x11 + 1)), (1, v39754), (9, 0), (1, v39756), (9, 0)]) rfl (by unfold w32; omega) rfl ?_
            refine ev_goto f237_15 ?_
            exact ih _ _ _ _ _ _ _ g39755 k39755 (by omega) (by omega) (by omega) (by omega) (by omega) (by omega) (by omega) (by omega) (by omega) (by omega) (by omega) (by omega) (by omega) (by omega) (by omega)
          · have c39757b := jcmpL_eqN c39757
            refine ev_lload rfl ?_
            refine ev_lload rfl ?_
            refine g_lmulG (fun v39759 ev39759 lv39759 uv39759 => ?_)
            refine ev_lload rfl ?_
            refine ev_lload rfl ?_
            refine g_lmulG (fun v39760 ev39760 lv39760 uv39760 => ?_)
            refine ev_lcmp ?_
            refine ev_ifge f237_117 (fun c39761 => ?_) (fun c39761 => ?_)
            · have c39761b := jcmpL_ge c39761
              refine ev_iinc (w := (x11 + 1)) (L' := [(2, 0), (2, (r1 : Int)), (0, a2), (0, a3), (0, a4), (1, x5), (9, 0), (1, x7), (9, 0), (1, x9), (9, 0), (0, (x11 + 1)), (1, v39754), (9, 0), (1, v39756), (9, 0)]) rfl (by unfold w32; omega) rfl ?_
              refine ev_goto f237_15 ?_
              exact ih _ _ _ _ _ _ _ g39755 k39755 (by omega) (by omega) (by omega) (by omega) (by omega) (by omega) (by omega) (by omega) (by omega) (by omega) (by omega) (by omega) (by omega) (by omega) (by omega)
            · have c39761b := jcmpL_geN c39761
              refine ev_lload rfl ?_
              refine ev_lstore (L' := [(2, 0), (2, (r1 : Int)), (0, a2), (0, a3), (0, a4), (1, v39754), (9, 0), (1, x7), (9, 0), (1, x9), (9, 0), (0, x11), (1, v39754), (9, 0), (1, v39756), (9, 0)]) (Nat.le_of_ble_eq_true rfl) rfl ?_
              refine ev_aload_n rfl ?_
              refine g_getp (r := 0) (c := 1) g39755 ad0 (by decide) (by decide) rf0_0 ft11_0 ?_
              obtain ⟨v39762, ev39762, lv39762, uv39762⟩ := g39755.rd ad1 (show 1 < 8 by decide) rf1_1
              refine g_getv (r := 1) (v := v39762) g39755 ad1 (by decide) ft10_1 ev39762 ?_
              refine ev_lstore (L' := [(2, 0), (2, (r1 : Int)), (0, a2), (0, a3), (0, a4), (1, v39754), (9, 0), (1, v39762), (9, 0), (1, x9), (9, 0), (0, x11), (1, v39754), (9, 0), (1, v39756), (9, 0)]) (Nat.le_of_ble_eq_true rfl) rfl ?_
              refine ev_lload rfl ?_
              refine ev_lstore (L' := [(2, 0), (2, (r1 : Int)), (0, a2), (0, a3), (0, a4), (1, v39754), (9, 0), (1, v39762), (9, 0), (1, v39756), (9, 0), (0, x11), (1, v39754), (9, 0), (1, v39756), (9, 0)]) (Nat.le_of_ble_eq_true rfl) rfl ?_
              refine ev_iinc (w := (x11 + 1)) (L' := [(2, 0), (2, (r1 : Int)), (0, a2), (0, a3), (0, a4), (1, v39754), (9, 0), (1, v39762), (9, 0), (1, v39756), (9, 0), (0, (x11 + 1)), (1, v39754), (9, 0), (1, v39756), (9, 0)]) rfl (by unfold w32; omega) rfl ?_
              refine ev_goto f237_15 ?_
              exact ih _ _ _ _ _ _ _ g39755 k39755 (by omega) (by omega) (by omega) (by omega) (by omega) (by omega) (by omega) (by omega) (by omega) (by omega) (by omega) (by omega) (by omega) (by omega) (by omega)
      · refine ev_aload_n rfl ?_
        refine g_getp (r := 1) (c := 4) g1 ad1 (by decide) (by decide) rf1_5 ft10_5 ?_
        refine ev_iload_n rfl ?_
        refine ev_iload_n rfl ?_
        refine g_iast g1 ad4 rt4 (fun _ => rfl) (by omega) (by omega) (by omega) (by omega) (fun h39763 e39763 g39763 => ?_)
        have k39763 := k1.wr e39763 rfl
        refine ev_aload_n rfl ?_
        refine ev_iconst ?_
        refine g_putf (r := 1) g39763 ad1 (by decide) ft10_2 (by decide) (fun _ => by omega) rf1_2 (by decide) (by omega) (by omega) (fun h39764 e39764 g39764 => ?_)
        have k39764 := k39763.wr e39764 rfl
        refine ev_ret rfl (by decide) (by decide) ?_
        show jEv _ _ _ _ _ _ _ (_, [(2, 0), (2, (r1 : Int)), (0, a2), (0, a3), (0, a4), (1, x5), (9, 0), (1, x7), (9, 0), (1, x9), (9, 0), (0, x11), j12, (9, 0), j14, (9, 0)], [], _, _, _)
        refine ev_aload_n rfl ?_
        refine g_getp (r := 0) (c := 1) g39764 ad0 (by decide) (by decide) rf0_0 ft11_0 ?_
        refine ev_call (jcall_v (A := []) (S' := []) (r := 1) rfl (g39764.lt ad1) (g39764.tg ad1) (Nat.le_of_ble_eq_true rfl)) (jOk_le (by decide) (s153 g39764 )) (by decide) (by decide) (fun w39765 h39765 q39765 => ?_)
        obtain ⟨v39766, rfl, lv39766, uv39766, g39765, kk39765⟩ := q39765
        have k39765 := k39764.tr kk39765 (by decide)
        show jEv _ _ _ _ _ _ _ (_, [(2, 0), (2, (r1 : Int)), (0, a2), (0, a3), (0, a4), (1, x5), (9, 0), (1, x7), (9, 0), (1, x9), (9, 0), (0, x11), j12, (9, 0), j14, (9, 0)], [(0, v39766)], _, _, _)
        refine ev_ifeq f237_117 (fun c39767 => ?_) (fun c39767 => ?_)
        · refine ev_iinc (w := (x11 + 1)) (L' := [(2, 0), (2, (r1 : Int)), (0, a2), (0, a3), (0, a4), (1, x5), (9, 0), (1, x7), (9, 0), (1, x9), (9, 0), (0, (x11 + 1)), j12, (9, 0), j14, (9, 0)]) rfl (by unfold w32; omega) rfl ?_
          refine ev_goto f237_15 ?_
          exact ih _ _ _ _ _ _ _ g39765 k39765 (by omega) (by omega) (by omega) (by omega) (by omega) (by omega) (by omega) (by omega) (by omega) (by omega) (by omega) (by omega) (by omega) (by omega) (by omega)
        · refine ev_aload_n rfl ?_
          refine ev_aload_n rfl ?_
          refine g_getp (r := 0) (c := 1) g39765 ad0 (by decide) (by decide) rf0_0 ft11_0 ?_
          refine ev_aload_n rfl ?_
          refine g_getp (r := 0) (c := 23) g39765 ad0 (by decide) (by decide) rf0_5 ft11_5 ?_
          refine ev_call (jcall_v (A := [(2, 23), (2, 1)]) (S' := []) (r := r1) rfl (g39765.qlt q1) (g39765.qtg q1) (Nat.le_of_ble_eq_true rfl)) (jOk_le (by decide) (s48 g39765 q1 (Or.inl rfl))) (by decide) (by decide) (fun w39768 h39768 q39768 => ?_)
          obtain ⟨v39769, rfl, lv39769, uv39769, g39768, kk39768⟩ := q39768
          have k39768 := k39765.tr kk39768 (by decide)
          show jEv _ _ _ _ _ _ _ (_, [(2, 0), (2, (r1 : Int)), (0, a2), (0, a3), (0, a4), (1, x5), (9, 0), (1, x7), (9, 0), (1, x9), (9, 0), (0, x11), j12, (9, 0), j14, (9, 0)], [(1, v39769)], _, _, _)
          refine ev_ldc2_w ?_
          refine g_ldivG (by omega) (fun v39770 ev39770 lv39770 uv39770 => ?_)
          refine ev_lstore (L' := [(2, 0), (2, (r1 : Int)), (0, a2), (0, a3), (0, a4), (1, x5), (9, 0), (1, x7), (9, 0), (1, x9), (9, 0), (0, x11), (1, v39770), (9, 0), j14, (9, 0)]) (Nat.le_of_ble_eq_true rfl) rfl ?_
          refine ev_aload_n rfl ?_
          refine g_getp (r := 0) (c := 1) g39768 ad0 (by decide) (by decide) rf0_0 ft11_0 ?_
          refine ev_iload_n rfl ?_
          refine ev_iconst ?_
          refine ev_call (jcall_v (A := [(0, 0), (0, a2)]) (S' := []) (r := 1) rfl (g39768.lt ad1) (g39768.tg ad1) (Nat.le_of_ble_eq_true rfl)) (jOk_le (by decide) (s150 g39768 (by omega) (by omega) (by omega) (by omega))) (by decide) (by decide) (fun w39771 h39771 q39771 => ?_)
          obtain ⟨v39772, rfl, lv39772, uv39772, g39771, kk39771⟩ := q39771
          have k39771 := k39768.tr kk39771 (by decide)
          show jEv _ _ _ _ _ _ _ (_, [(2, 0), (2, (r1 : Int)), (0, a2), (0, a3), (0, a4), (1, x5), (9, 0), (1, x7), (9, 0), (1, x9), (9, 0), (0, x11), (1, v39770), (9, 0), j14, (9, 0)], [(0, v39772)], _, _, _)
          refine ev_i2l ?_
          refine ev_lstore (L' := [(2, 0), (2, (r1 : Int)), (0, a2), (0, a3), (0, a4), (1, x5), (9, 0), (1, x7), (9, 0), (1, x9), (9, 0), (0, x11), (1, v39770), (9, 0), (1, v39772), (9, 0)]) (Nat.le_of_ble_eq_true rfl) rfl ?_
          refine ev_lload rfl ?_
          refine ev_lconst ?_
          refine ev_lcmp ?_
          refine ev_ifeq f237_100 (fun c39773 => ?_) (fun c39773 => ?_)
          · have c39773b := jcmpL_eq c39773
            refine ev_lload rfl ?_
            refine ev_lstore (L' := [(2, 0), (2, (r1 : Int)), (0, a2), (0, a3), (0, a4), (1, v39770), (9, 0), (1, x7), (9, 0), (1, x9), (9, 0), (0, x11), (1, v39770), (9, 0), (1, v39772), (9, 0)]) (Nat.le_of_ble_eq_true rfl) rfl ?_
            refine ev_aload_n rfl ?_
            refine g_getp (r := 0) (c := 1) g39771 ad0 (by decide) (by decide) rf0_0 ft11_0 ?_
            obtain ⟨v39774, ev39774, lv39774, uv39774⟩ := g39771.rd ad1 (show 1 < 8 by decide) rf1_1
            refine g_getv (r := 1) (v := v39774) g39771 ad1 (by decide) ft10_1 ev39774 ?_
            refine ev_lstore (L' := [(2, 0), (2, (r1 : Int)), (0, a2), (0, a3), (0, a4), (1, v39770), (9, 0), (1, v39774), (9, 0), (1, x9), (9, 0), (0, x11), (1, v39770), (9, 0), (1, v39772), (9, 0)]) (Nat.le_of_ble_eq_true rfl) rfl ?_
            refine ev_lload rfl ?_
            refine ev_lstore (L' := [(2, 0), (2, (r1 : Int)), (0, a2), (0, a3), (0, a4), (1, v39770), (9, 0), (1, v39774), (9, 0), (1, v39772), (9, 0), (0, x11), (1, v39770), (9, 0), (1, v39772), (9, 0)]) (Nat.le_of_ble_eq_true rfl) rfl ?_
            refine ev_iinc (w := (x11 + 1)) (L' := [(2, 0), (2, (r1 : Int)), (0, a2), (0, a3), (0, a4), (1, v39770), (9, 0), (1, v39774), (9, 0), (1, v39772), (9, 0), (0, (x11 + 1)), (1, v39770), (9, 0), (1, v39772), (9, 0)]) rfl (by unfold w32; omega) rfl ?_
            refine ev_goto f237_15 ?_
            exact ih _ _ _ _ _ _ _ g39771 k39771 (by omega) (by omega) (by omega) (by omega) (by omega) (by omega) (by omega) (by omega) (by omega) (by omega) (by omega) (by omega) (by omega) (by omega) (by omega)
          · have c39773b := jcmpL_eqN c39773
            refine ev_lload rfl ?_
            refine ev_lload rfl ?_
            refine g_lmulG (fun v39775 ev39775 lv39775 uv39775 => ?_)
            refine ev_lload rfl ?_
            refine ev_lload rfl ?_
            refine g_lmulG (fun v39776 ev39776 lv39776 uv39776 => ?_)
            refine ev_lcmp ?_
            refine ev_ifge f237_117 (fun c39777 => ?_) (fun c39777 => ?_)
            · have c39777b := jcmpL_ge c39777
              refine ev_iinc (w := (x11 + 1)) (L' := [(2, 0), (2, (r1 : Int)), (0, a2), (0, a3), (0, a4), (1, x5), (9, 0), (1, x7), (9, 0), (1, x9), (9, 0), (0, (x11 + 1)), (1, v39770), (9, 0), (1, v39772), (9, 0)]) rfl (by unfold w32; omega) rfl ?_
              refine ev_goto f237_15 ?_
              exact ih _ _ _ _ _ _ _ g39771 k39771 (by omega) (by omega) (by omega) (by omega) (by omega) (by omega) (by omega) (by omega) (by omega) (by omega) (by omega) (by omega) (by omega) (by omega) (by omega)
            · have c39777b := jcmpL_geN c39777
              refine ev_lload rfl ?_
              refine ev_lstore (L' := [(2, 0), (2, (r1 : Int)), (0, a2), (0, a3), (0, a4), (1, v39770), (9, 0), (1, x7), (9, 0), (1, x9), (9, 0), (0, x11), (1, v39770), (9, 0), (1, v39772), (9, 0)]) (Nat.le_of_ble_eq_true rfl) rfl ?_
              refine ev_aload_n rfl ?_
              refine g_getp (r := 0) (c := 1) g39771 ad0 (by decide) (by decide) rf0_0 ft11_0 ?_
              obtain ⟨v39778, ev39778, lv39778, uv39778⟩ := g39771.rd ad1 (show 1 < 8 by decide) rf1_1
              refine g_getv (r := 1) (v := v39778) g39771 ad1 (by decide) ft10_1 ev39778 ?_
              refine ev_lstore (L' := [(2, 0), (2, (r1 : Int)), (0, a2), (0, a3), (0, a4), (1, v39770), (9, 0), (1, v39778), (9, 0), (1, x9), (9, 0), (0, x11), (1, v39770), (9, 0), (1, v39772), (9, 0)]) (Nat.le_of_ble_eq_true rfl) rfl ?_
              refine ev_lload rfl ?_
              refine ev_lstore (L' := [(2, 0), (2, (r1 : Int)), (0, a2), (0, a3), (0, a4), (1, v39770), (9, 0), (1, v39778), (9, 0), (1, v39772), (9, 0), (0, x11), (1, v39770), (9, 0), (1, v39772), (9, 0)]) (Nat.le_of_ble_eq_true rfl) rfl ?_
              refine ev_iinc (w := (x11 + 1)) (L' := [(2, 0), (2, (r1 : Int)), (0, a2), (0, a3), (0, a4), (1, v39770), (9, 0), (1, v39778), (9, 0), (1, v39772), (9, 0), (0, (x11 + 1)), (1, v39770), (9, 0), (1, v39772), (9, 0)]) rfl (by unfold w32; omega) rfl ?_
              refine ev_goto f237_15 ?_
              exact ih _ _ _ _ _ _ _ g39771 k39771 (by omega) (by omega) (by omega) (by omega) (by omega) (by omega) (by omega) (by omega) (by omega) (by omega) (by omega) (by omega) (by omega) (by omega) (by omega)
set_option maxHeartbeats 4000000 in
theorem s237 {G : GH} {h : JH} (g : Gd G h) {r1 : Nat} {m1 : Int} (q1 : IsQ G r1 m1) {a2 : Int} (la2 : 0 ≤ a2) (ua2 : a2 ≤ 3) {a3 : Int} (la3 : 0 ≤ a3) (ua3 : a3 ≤ 9999) {a4 : Int} (la4 : (-2147483648) ≤ a4) (ua4 : a4 ≤ 2147483647) : jOk 6 0 0 237 [(2, 0), (2, (r1 : Int)), (0, a2), (0, a3), (0, a4)] h (PI G [(1, 2), (1, 3), (5, 0), (6, 0), (4, 0), (1000000, 0)] h 1 (-9223372036854775808) 9223372036854775807) := by
  refine ⟨by decide, by rw [ml237]; exact Nat.le_of_ble_eq_true rfl, ?_⟩
  rw [ml237, pp237]
  show jEv _ none _ c237_0 0 0 _ (c237_0, [(2, 0), (2, (r1 : Int)), (0, a2), (0, a3), (0, a4), (9, 0), (9, 0), (9, 0), (9, 0), (9, 0), (9, 0), (9, 0), (9, 0), (9, 0), (9, 0), (9, 0)], [], h, 0, 0)
  have k0 := Kp.rf [(1, 2), (1, 3), (5, 0), (6, 0), (4, 0), (1000000, 0)] h
  have wr1 := g.qb q1
  have zr1 := q1.1
  refine ev_lconst ?_
  refine ev_lstore (L' := [(2, 0), (2, (r1 : Int)), (0, a2), (0, a3), (0, a4), (1, 0), (9, 0), (9, 0), (9, 0), (9, 0), (9, 0), (9, 0), (9, 0), (9, 0), (9, 0), (9, 0)]) (Nat.le_of_ble_eq_true rfl) rfl ?_
  refine ev_lconst ?_
  refine ev_lstore (L' := [(2, 0), (2, (r1 : Int)), (0, a2), (0, a3), (0, a4), (1, 0), (9, 0), (1, 1), (9, 0), (9, 0), (9, 0), (9, 0), (9, 0), (9, 0), (9, 0), (9, 0)]) (Nat.le_of_ble_eq_true rfl) rfl ?_
  refine ev_lconst ?_
  refine ev_lstore (L' := [(2, 0), (2, (r1 : Int)), (0, a2), (0, a3), (0, a4), (1, 0), (9, 0), (1, 1), (9, 0), (1, 0), (9, 0), (9, 0), (9, 0), (9, 0), (9, 0), (9, 0)]) (Nat.le_of_ble_eq_true rfl) rfl ?_
  refine ev_iload_n rfl ?_
  refine ev_bipush ?_
  refine g_idivP (c := 100) rfl (by decide) (by omega) (by omega) (fun v39779 ev39779 lv39779 uv39779 => ?_)
  refine ev_istore (L' := [(2, 0), (2, (r1 : Int)), (0, a2), (0, a3), (0, a4), (1, 0), (9, 0), (1, 1), (9, 0), (1, 0), (9, 0), (0, v39779), (9, 0), (9, 0), (9, 0), (9, 0)]) (Nat.le_of_ble_eq_true rfl) rfl ?_
  exact (s237_l q1 la2 ua2 la3 ua3 la4 ua4 202) _ _ _ _ _ _ _ g k0 (by omega) (by omega) (by omega) (by omega) (by omega) (by omega) (by omega) (by omega) (by omega) (by omega) (by omega) (by omega) (by omega) (by omega) (by omega)
/-! 193 doubt -/
set_option maxHeartbeats 4000000 in
theorem s193 {G : GH} {h : JH} (g : Gd G h) {a1 : Int} (la1 : (-2147483648) ≤ a1) (ua1 : a1 ≤ 2147483647) {a2 : Int} (la2 : (-2147483648) ≤ a2) (ua2 : a2 ≤ 2147483647) {a3 : Int} (la3 : (-2147483648) ≤ a3) (ua3 : a3 ≤ 2147483647) {a4 : Int} (la4 : (-2147483648) ≤ a4) (ua4 : a4 ≤ 2147483647) : jOk 7 0 0 193 [(2, 0), (0, a1), (0, a2), (0, a3), (0, a4)] h (PI G [(1, 2), (1, 3), (5, 0), (6, 0), (4, 0), (1000000, 0), (40, 0), (41, 0)] h 0 (-2147483648) 2147483647) := by
  refine ⟨by decide, by rw [ml193]; exact Nat.le_of_ble_eq_true rfl, ?_⟩
  rw [ml193, pp193]
  show jEv _ none _ c193_0 0 0 _ (c193_0, [(2, 0), (0, a1), (0, a2), (0, a3), (0, a4), (9, 0), (9, 0), (9, 0), (9, 0)], [], h, 0, 0)
  have k0 := Kp.rf [(1, 2), (1, 3), (5, 0), (6, 0), (4, 0), (1000000, 0), (40, 0), (41, 0)] h
  refine ev_aload_n rfl ?_
  refine ev_iload_n rfl ?_
  refine ev_in (d := 5) (a := 0) (b := 0) (cd' := c219_0) (m := 2) (L0 := [(2, 0), (0, a1)]) (jcall_v (A := [(0, a1)]) (S' := []) (r := 0) rfl (g.lt ad0) (g.tg ad0) (Nat.le_of_ble_eq_true rfl)) (by decide) ml219 pp219 (Nat.le_of_ble_eq_true rfl) rfl (by decide) (by decide) ?_
  refine ev_iload_n rfl ?_
  refine ev_iflt f219_12 (fun c39924 => ?_) (fun c39924 => ?_)
  · refine ev_aconst_null ?_
    refine ev_goto f219_22 ?_
    refine ev_ret rfl (by decide) (by decide) ?_
    show jEv _ _ _ _ _ _ _ (_, [(2, 0), (0, a1), (0, a2), (0, a3), (0, a4), (9, 0), (9, 0), (9, 0), (9, 0)], [(2, (-1))], _, _, _)
    refine ev_astore (L' := [(2, 0), (0, a1), (0, a2), (0, a3), (0, a4), (2, (-1)), (9, 0), (9, 0), (9, 0)]) (Nat.le_of_ble_eq_true rfl) rfl ?_
    refine ev_aload rfl ?_
    refine ev_ifnull f193_29 (fun c39925 => ?_) (fun c39925 => absurd c39925 (by decide))
    refine ev_iconst ?_
    exact ev_ret rfl (by decide) (by decide) ⟨_, rfl, by omega, by omega, g, k0⟩
  · refine ev_iload_n rfl ?_
    refine ev_aload_n rfl ?_
    obtain ⟨v39926, ev39926, lv39926, uv39926⟩ := g.rd ad0 (show 3 < 17 by decide) rf0_3
    refine g_getv (r := 0) (v := v39926) g ad0 (by decide) ft11_3 ev39926 ?_
    refine ev_icmplt f219_16 (fun c39927 => ?_) (fun c39927 => ?_)
    · refine ev_aload_n rfl ?_
      refine g_getp (r := 0) (c := 18) g ad0 (by decide) (by decide) rf0_2 ft11_2 ?_
      refine ev_iload_n rfl ?_
      refine g_qaald (g) (i := a1) (ev39926) (by omega) (by omega) (fun r39928 m39929 qr39928 => ?_)
      have wr39928 := g.qb qr39928
      have zr39928 := qr39928.1
      refine ev_ret rfl (by decide) (by decide) ?_
      show jEv _ _ _ _ _ _ _ (_, [(2, 0), (0, a1), (0, a2), (0, a3), (0, a4), (9, 0), (9, 0), (9, 0), (9, 0)], [(2, (r39928 : Int))], _, _, _)
      refine ev_astore (L' := [(2, 0), (0, a1), (0, a2), (0, a3), (0, a4), (2, (r39928 : Int)), (9, 0), (9, 0), (9, 0)]) (Nat.le_of_ble_eq_true rfl) rfl ?_
      refine ev_aload rfl ?_
      refine ev_ifnull f193_29 (fun c39930 => absurd c39930 (by omega)) (fun c39930 => ?_)
      refine ev_aload_n rfl ?_
      refine ev_iload_n rfl ?_
      refine ev_iload_n rfl ?_
      refine ev_in (d := 5) (a := 0) (b := 0) (cd' := c232_0) (m := 3) (L0 := [(2, 0), (0, a2), (0, a3)]) (jcall_v (A := [(0, a3), (0, a2)]) (S' := []) (r := 0) rfl (g.lt ad0) (g.tg ad0) (Nat.le_of_ble_eq_true rfl)) (by decide) ml232 pp232 (Nat.le_of_ble_eq_true rfl) rfl (by decide) (by decide) ?_
      refine ev_aload_n rfl ?_
      refine g_getp (r := 0) (c := 1) g ad0 (by decide) (by decide) rf0_0 ft11_0 ?_
      refine ev_iload_n rfl ?_
      refine ev_in (d := 4) (a := 0) (b := 0) (cd' := c140_0) (m := 2) (L0 := [(2, 1), (0, a2)]) (jcall_v (A := [(0, a2)]) (S' := []) (r := 1) rfl (g.lt ad1) (g.tg ad1) (Nat.le_of_ble_eq_true rfl)) (by decide) ml140 pp140 (Nat.le_of_ble_eq_true rfl) rfl (by decide) (by decide) ?_
      refine ev_iload_n rfl ?_
      refine ev_iflt f140_16 (fun c39931 => ?_) (fun c39931 => ?_)
      · refine ev_iconst ?_
        refine ev_ret rfl (by decide) (by decide) ?_
        show jEv _ _ _ _ _ _ _ (_, [(2, 0), (0, a2), (0, a3)], [(0, 0)], _, _, _)
        refine ev_ifeq f232_58 (fun c39932 => ?_) (fun c39932 => absurd c39932 (by omega))
        refine ev_iconst ?_
        refine ev_ret rfl (by decide) (by decide) ?_
        show jEv _ _ _ _ _ _ _ (_, [(2, 0), (0, a1), (0, a2), (0, a3), (0, a4), (2, (r39928 : Int)), (9, 0), (9, 0), (9, 0)], [(0, 0)], _, _, _)
        refine ev_ifeq f193_29 (fun c39933 => ?_) (fun c39933 => absurd c39933 (by omega))
        refine ev_iconst ?_
        exact ev_ret rfl (by decide) (by decide) ⟨_, rfl, by omega, by omega, g, k0⟩
      · refine ev_iload_n rfl ?_
        refine ev_aload_n rfl ?_
        obtain ⟨v39934, ev39934, lv39934, uv39934⟩ := g.rd ad1 (show 0 < 8 by decide) rf1_0
        refine g_getv (r := 1) (v := v39934) g ad1 (by decide) ft10_0 ev39934 ?_
        refine ev_icmpge f140_16 (fun c39935 => ?_) (fun c39935 => ?_)
        · refine ev_iconst ?_
          refine ev_ret rfl (by decide) (by decide) ?_
          show jEv _ _ _ _ _ _ _ (_, [(2, 0), (0, a2), (0, a3)], [(0, 0)], _, _, _)
          refine ev_ifeq f232_58 (fun c39936 => ?_) (fun c39936 => absurd c39936 (by omega))
          refine ev_iconst ?_
          refine ev_ret rfl (by decide) (by decide) ?_
          show jEv _ _ _ _ _ _ _ (_, [(2, 0), (0, a1), (0, a2), (0, a3), (0, a4), (2, (r39928 : Int)), (9, 0), (9, 0), (9, 0)], [(0, 0)], _, _, _)
          refine ev_ifeq f193_29 (fun c39937 => ?_) (fun c39937 => absurd c39937 (by omega))
          refine ev_iconst ?_
          exact ev_ret rfl (by decide) (by decide) ⟨_, rfl, by omega, by omega, g, k0⟩
        · refine ev_iconst ?_
          refine ev_goto f140_17 ?_
          refine ev_ret rfl (by decide) (by decide) ?_
          show jEv _ _ _ _ _ _ _ (_, [(2, 0), (0, a2), (0, a3)], [(0, 1)], _, _, _)
          refine ev_ifeq f232_58 (fun c39938 => absurd c39938 (by omega)) (fun c39938 => ?_)
          refine ev_aload_n rfl ?_
          refine g_getp (r := 0) (c := 1) g ad0 (by decide) (by decide) rf0_0 ft11_0 ?_
          refine ev_iload_n rfl ?_
          refine ev_in (d := 4) (a := 0) (b := 0) (cd' := c142_0) (m := 2) (L0 := [(2, 1), (0, a2)]) (jcall_v (A := [(0, a2)]) (S' := []) (r := 1) rfl (g.lt ad1) (g.tg ad1) (Nat.le_of_ble_eq_true rfl)) (by decide) ml142 pp142 (Nat.le_of_ble_eq_true rfl) rfl (by decide) (by decide) ?_
          refine ev_aload_n rfl ?_
          refine ev_iload_n rfl ?_
          refine ev_in (d := 3) (a := 0) (b := 0) (cd' := c140_0) (m := 2) (L0 := [(2, 1), (0, a2)]) (jcall_v (A := [(0, a2)]) (S' := []) (r := 1) rfl (g.lt ad1) (g.tg ad1) (Nat.le_of_ble_eq_true rfl)) (by decide) ml140 pp140 (Nat.le_of_ble_eq_true rfl) rfl (by decide) (by decide) ?_
          refine ev_iload_n rfl ?_
          refine ev_iflt f140_16 (fun c39939 => absurd c39939 (by omega)) (fun c39939 => ?_)
          refine ev_iload_n rfl ?_
          refine ev_aload_n rfl ?_
          refine g_getv (r := 1) (v := v39934) g ad1 (by decide) ft10_0 (ev39934) ?_
          refine ev_icmpge f140_16 (fun c39940 => absurd c39940 (by omega)) (fun c39940 => ?_)
          refine ev_iconst ?_
          refine ev_goto f140_17 ?_
          refine ev_ret rfl (by decide) (by decide) ?_
          show jEv _ _ _ _ _ _ _ (_, [(2, 1), (0, a2)], [(0, 1)], _, _, _)
          refine ev_ifeq f142_21 (fun c39941 => absurd c39941 (by omega)) (fun c39941 => ?_)
          refine ev_aload_n rfl ?_
          refine g_getp (r := 1) (c := 3) g ad1 (by decide) (by decide) rf1_4 ft10_4 ?_
          refine ev_iload_n rfl ?_
          refine g_iald g ad3 rt3 (by omega) (by omega) (fun v39942 ev39942 lv39942 uv39942 => ?_)
          refine ev_iflt f142_21 (fun c39943 => ?_) (fun c39943 => ?_)
          · refine ev_iconst ?_
            refine ev_ret rfl (by decide) (by decide) ?_
            show jEv _ _ _ _ _ _ _ (_, [(2, 0), (0, a2), (0, a3)], [(0, 0)], _, _, _)
            refine ev_ifne f232_58 (fun c39944 => absurd c39944 (by omega)) (fun c39944 => ?_)
            refine ev_iload_n rfl ?_
            refine ev_ifle f232_58 (fun c39945 => ?_) (fun c39945 => ?_)
            · refine ev_iconst ?_
              refine ev_ret rfl (by decide) (by decide) ?_
              show jEv _ _ _ _ _ _ _ (_, [(2, 0), (0, a1), (0, a2), (0, a3), (0, a4), (2, (r39928 : Int)), (9, 0), (9, 0), (9, 0)], [(0, 0)], _, _, _)
              refine ev_ifeq f193_29 (fun c39946 => ?_) (fun c39946 => absurd c39946 (by omega))
              refine ev_iconst ?_
              exact ev_ret rfl (by decide) (by decide) ⟨_, rfl, by omega, by omega, g, k0⟩
            · refine ev_iload_n rfl ?_
              refine ev_bipush ?_
              refine g_idivP (c := 100) rfl (by decide) (by omega) (by omega) (fun v39947 ev39947 lv39947 uv39947 => ?_)
              refine ev_iconst ?_
              refine ev_icmplt f232_58 (fun c39948 => ?_) (fun c39948 => ?_)
              · refine ev_iconst ?_
                refine ev_ret rfl (by decide) (by decide) ?_
                show jEv _ _ _ _ _ _ _ (_, [(2, 0), (0, a1), (0, a2), (0, a3), (0, a4), (2, (r39928 : Int)), (9, 0), (9, 0), (9, 0)], [(0, 0)], _, _, _)
                refine ev_ifeq f193_29 (fun c39949 => ?_) (fun c39949 => absurd c39949 (by omega))
                refine ev_iconst ?_
                exact ev_ret rfl (by decide) (by decide) ⟨_, rfl, by omega, by omega, g, k0⟩
              · refine ev_iload_n rfl ?_
                refine ev_bipush ?_
                refine g_idivP (c := 100) rfl (by decide) (by omega) (by omega) (fun v39950 ev39950 lv39950 uv39950 => ?_)
                obtain rfl : v39947 = v39950 := by omega
                refine ev_bipush ?_
                refine ev_icmpgt f232_58 (fun c39951 => ?_) (fun c39951 => ?_)
                · refine ev_iconst ?_
                  refine ev_ret rfl (by decide) (by decide) ?_
                  show jEv _ _ _ _ _ _ _ (_, [(2, 0), (0, a1), (0, a2), (0, a3), (0, a4), (2, (r39928 : Int)), (9, 0), (9, 0), (9, 0)], [(0, 0)], _, _, _)
                  refine ev_ifeq f193_29 (fun c39952 => ?_) (fun c39952 => absurd c39952 (by omega))
                  refine ev_iconst ?_
                  exact ev_ret rfl (by decide) (by decide) ⟨_, rfl, by omega, by omega, g, k0⟩
                · refine ev_iload_n rfl ?_
                  refine ev_bipush ?_
                  refine g_idivP (c := 100) rfl (by decide) (by omega) (by omega) (fun v39953 ev39953 lv39953 uv39953 => ?_)
                  obtain rfl : v39947 = v39953 := by omega
                  refine ev_iload_n rfl ?_
                  refine ev_bipush ?_
                  refine g_iremP (c := 100) rfl (by decide) (by omega) (fun v39954 ev39954 lv39954 uv39954 wv39954 => ?_)
                  refine ev_icmpgt f232_58 (fun c39955 => ?_) (fun c39955 => ?_)
                  · refine ev_iconst ?_
                    refine ev_ret rfl (by decide) (by decide) ?_
                    show jEv _ _ _ _ _ _ _ (_, [(2, 0), (0, a1), (0, a2), (0, a3), (0, a4), (2, (r39928 : Int)), (9, 0), (9, 0), (9, 0)], [(0, 0)], _, _, _)
                    refine ev_ifeq f193_29 (fun c39956 => ?_) (fun c39956 => absurd c39956 (by omega))
                    refine ev_iconst ?_
                    exact ev_ret rfl (by decide) (by decide) ⟨_, rfl, by omega, by omega, g, k0⟩
                  · refine ev_iconst ?_
                    refine ev_goto f232_59 ?_
                    refine ev_ret rfl (by decide) (by decide) ?_
                    show jEv _ _ _ _ _ _ _ (_, [(2, 0), (0, a1), (0, a2), (0, a3), (0, a4), (2, (r39928 : Int)), (9, 0), (9, 0), (9, 0)], [(0, 1)], _, _, _)
                    refine ev_ifeq f193_29 (fun c39957 => absurd c39957 (by omega)) (fun c39957 => ?_)
                    refine ev_iload rfl ?_
                    refine ev_in (d := 5) (a := 0) (b := 0) (cd' := c221_0) (m := 1) (L0 := [(0, a4)]) (jcall_s (A := [(0, a4)]) (S' := []) (by decide) rfl (Nat.le_of_ble_eq_true rfl)) (by decide) ml221 pp221 (Nat.le_of_ble_eq_true rfl) rfl (by decide) (by decide) ?_
                    refine ev_iload_n rfl ?_
                    refine ev_ifeq f221_9 (fun c39958 => ?_) (fun c39958 => ?_)
                    · refine ev_iconst ?_
                      refine ev_goto f221_14 ?_
                      refine ev_ret rfl (by decide) (by decide) ?_
                      show jEv _ _ _ _ _ _ _ (_, [(2, 0), (0, a1), (0, a2), (0, a3), (0, a4), (2, (r39928 : Int)), (9, 0), (9, 0), (9, 0)], [(0, 1)], _, _, _)
                      refine ev_ifne f193_31 (fun c39959 => ?_) (fun c39959 => absurd c39959 (by omega))
                      refine ev_aload_n rfl ?_
                      refine ev_iload_n rfl ?_
                      refine ev_iload_n rfl ?_
                      refine ev_call (jcall_v (A := [(0, a3), (0, a2)]) (S' := []) (r := 0) rfl (g.lt ad0) (g.tg ad0) (Nat.le_of_ble_eq_true rfl)) (jOk_le (by decide) (s233 g (by omega) (by omega) (by omega) (by omega))) (by decide) (by decide) (fun w39960 h39960 q39960 => ?_)
                      obtain ⟨v39961, rfl, lv39961, uv39961, g39960, kk39960⟩ := q39960
                      have k39960 := k0.tr kk39960 (by decide)
                      show jEv _ _ _ _ _ _ _ (_, [(2, 0), (0, a1), (0, a2), (0, a3), (0, a4), (2, (r39928 : Int)), (9, 0), (9, 0), (9, 0)], [(0, v39961)], _, _, _)
                      refine ev_ifeq f193_43 (fun c39962 => ?_) (fun c39962 => ?_)
                      · refine ev_iload_n rfl ?_
                        refine ev_iconst ?_
                        refine ev_iconst ?_
                        refine ev_in (d := 5) (a := 0) (b := 0) (cd' := c147_0) (m := 3) (L0 := [(0, a2), (0, 0), (0, 0)]) (jcall_s (A := [(0, 0), (0, 0), (0, a2)]) (S' := []) (by decide) rfl (Nat.le_of_ble_eq_true rfl)) (by decide) ml147 pp147 (Nat.le_of_ble_eq_true rfl) rfl (by decide) (by decide) ?_
                        refine ev_bipush ?_
                        refine ev_iload_n rfl ?_
                        refine ev_imul (r := (9 * a2)) (by unfold w32; omega) ?_
                        refine ev_iconst ?_
                        refine ev_iload_n rfl ?_
                        refine ev_imul (r := 0) (by decide) ?_
                        refine ev_iadd (r := (9 * a2)) (by unfold w32; omega) ?_
                        refine ev_iload_n rfl ?_
                        refine ev_iadd (r := (9 * a2)) (by unfold w32; omega) ?_
                        refine ev_ret rfl (by decide) (by decide) ?_
                        show jEv _ _ _ _ _ _ _ (_, [(2, 0), (0, a1), (0, a2), (0, a3), (0, a4), (2, (r39928 : Int)), (9, 0), (9, 0), (9, 0)], [(0, (9 * a2))], _, _, _)
                        refine ev_istore (L' := [(2, 0), (0, a1), (0, a2), (0, a3), (0, a4), (2, (r39928 : Int)), (0, (9 * a2)), (9, 0), (9, 0)]) (Nat.le_of_ble_eq_true rfl) rfl ?_
                        refine ev_aload_n rfl ?_
                        refine g_getp (r := 0) (c := 1) g39960 ad0 (by decide) (by decide) rf0_0 ft11_0 ?_
                        refine ev_iload rfl ?_
                        refine ev_in (d := 5) (a := 0) (b := 0) (cd' := c148_0) (m := 2) (L0 := [(2, 1), (0, (9 * a2))]) (jcall_v (A := [(0, (9 * a2))]) (S' := []) (r := 1) rfl (g39960.lt ad1) (g39960.tg ad1) (Nat.le_of_ble_eq_true rfl)) (by decide) ml148 pp148 (Nat.le_of_ble_eq_true rfl) rfl (by decide) (by decide) ?_
                        refine ev_iload_n rfl ?_
                        refine ev_iflt f148_10 (fun c39963 => absurd c39963 (by omega)) (fun c39963 => ?_)
                        refine ev_iload_n rfl ?_
                        refine ev_bipush ?_
                        refine ev_icmplt f148_14 (fun c39964 => ?_) (fun c39964 => absurd c39964 (by omega))
                        refine ev_aload_n rfl ?_
                        refine g_getp (r := 1) (c := 4) g39960 ad1 (by decide) (by decide) rf1_5 ft10_5 ?_
                        refine ev_iload_n rfl ?_
                        refine g_iald g39960 ad4 rt4 (by omega) (by omega) (fun v39965 ev39965 lv39965 uv39965 => ?_)
                        refine ev_ret rfl (by decide) (by decide) ?_
                        show jEv _ _ _ _ _ _ _ (_, [(2, 0), (0, a1), (0, a2), (0, a3), (0, a4), (2, (r39928 : Int)), (0, (9 * a2)), (9, 0), (9, 0)], [(0, v39965)], _, _, _)
                        refine ev_istore (L' := [(2, 0), (0, a1), (0, a2), (0, a3), (0, a4), (2, (r39928 : Int)), (0, (9 * a2)), (0, v39965), (9, 0)]) (Nat.le_of_ble_eq_true rfl) rfl ?_
                        refine ev_iload rfl ?_
                        refine ev_ifne f193_79 (fun c39966 => absurd c39966 (by omega)) (fun c39966 => ?_)
                        refine ev_aload_n rfl ?_
                        refine ev_aload rfl ?_
                        refine ev_iload rfl ?_
                        refine ev_iload_n rfl ?_
                        refine ev_call (jcall_v (A := [(0, a3), (0, (9 * a2)), (2, (r39928 : Int))]) (S' := []) (r := 0) rfl (g39960.lt ad0) (g39960.tg ad0) (Nat.le_of_ble_eq_true rfl)) (jOk_le (by decide) (s234 g39960 qr39928 (by omega) (by omega) (by omega) (by omega))) (by decide) (by decide) (fun w39967 h39967 q39967 => ?_)
                        obtain ⟨v39968, rfl, lv39968, uv39968, g39967, kk39967⟩ := q39967
                        have k39967 := k39960.tr kk39967 (by decide)
                        show jEv _ _ _ _ _ _ _ (_, [(2, 0), (0, a1), (0, a2), (0, a3), (0, a4), (2, (r39928 : Int)), (0, (9 * a2)), (0, v39965), (9, 0)], [(0, v39968)], _, _, _)
                        refine ev_goto f193_88 ?_
                        refine ev_istore (L' := [(2, 0), (0, a1), (0, a2), (0, a3), (0, a4), (2, (r39928 : Int)), (0, (9 * a2)), (0, v39965), (0, v39968)]) (Nat.le_of_ble_eq_true rfl) rfl ?_
                        refine ev_aload_n rfl ?_
                        refine g_getp (r := 0) (c := 1) g39967 ad0 (by decide) (by decide) rf0_0 ft11_0 ?_
                        refine ev_iload rfl ?_
                        refine ev_iload rfl ?_
                        refine ev_in (d := 5) (a := 0) (b := 0) (cd' := c149_0) (m := 3) (L0 := [(2, 1), (0, (9 * a2)), (0, v39965)]) (jcall_v (A := [(0, v39965), (0, (9 * a2))]) (S' := []) (r := 1) rfl (g39967.lt ad1) (g39967.tg ad1) (Nat.le_of_ble_eq_true rfl)) (by decide) ml149 pp149 (Nat.le_of_ble_eq_true rfl) rfl (by decide) (by decide) ?_
                        refine ev_iload_n rfl ?_
                        refine ev_iflt f149_32 (fun c39969 => absurd c39969 (by omega)) (fun c39969 => ?_)
                        refine ev_iload_n rfl ?_
                        refine ev_bipush ?_
                        refine ev_icmpge f149_32 (fun c39970 => absurd c39970 (by omega)) (fun c39970 => ?_)
                        refine ev_aload_n rfl ?_
                        refine g_getp (r := 1) (c := 4) g39967 ad1 (by decide) (by decide) rf1_5 ft10_5 ?_
                        refine ev_iload_n rfl ?_
                        refine g_iald g39967 ad4 rt4 (by omega) (by omega) (fun v39971 ev39971 lv39971 uv39971 => ?_)
                        refine ev_iload_n rfl ?_
                        refine ev_icmpeq f149_32 (fun c39972 => ?_) (fun c39972 => ?_)
                        · refine ev_ret rfl (by decide) (by decide) ?_
                          show jEv _ _ _ _ _ _ _ (_, [(2, 0), (0, a1), (0, a2), (0, a3), (0, a4), (2, (r39928 : Int)), (0, (9 * a2)), (0, v39965), (0, v39968)], [], _, _, _)
                          refine ev_iload rfl ?_
                          exact ev_ret rfl (by decide) (by decide) ⟨_, rfl, by omega, by omega, g39967, k39967⟩
                        · refine ev_aload_n rfl ?_
                          refine g_getp (r := 1) (c := 4) g39967 ad1 (by decide) (by decide) rf1_5 ft10_5 ?_
                          refine ev_iload_n rfl ?_
                          refine ev_iload_n rfl ?_
                          refine g_iast g39967 ad4 rt4 (fun _ => rfl) (by omega) (by omega) (by omega) (by omega) (fun h39973 e39973 g39973 => ?_)
                          have k39973 := k39967.wr e39973 rfl
                          refine ev_aload_n rfl ?_
                          refine ev_iconst ?_
                          refine g_putf (r := 1) g39973 ad1 (by decide) ft10_2 (by decide) (fun _ => by omega) rf1_2 (by decide) (by omega) (by omega) (fun h39974 e39974 g39974 => ?_)
                          have k39974 := k39973.wr e39974 rfl
                          refine ev_ret rfl (by decide) (by decide) ?_
                          show jEv _ _ _ _ _ _ _ (_, [(2, 0), (0, a1), (0, a2), (0, a3), (0, a4), (2, (r39928 : Int)), (0, (9 * a2)), (0, v39965), (0, v39968)], [], _, _, _)
                          refine ev_iload rfl ?_
                          exact ev_ret rfl (by decide) (by decide) ⟨_, rfl, by omega, by omega, g39974, k39974⟩
                      · refine ev_bipush ?_
                        exact ev_ret rfl (by decide) (by decide) ⟨_, rfl, by omega, by omega, g39960, k39960⟩
                    · refine ev_iload_n rfl ?_
                      refine ev_iconst ?_
                      refine ev_icmpne f221_13 (fun c39975 => ?_) (fun c39975 => ?_)
                      · refine ev_iconst ?_
                        refine ev_ret rfl (by decide) (by decide) ?_
                        show jEv _ _ _ _ _ _ _ (_, [(2, 0), (0, a1), (0, a2), (0, a3), (0, a4), (2, (r39928 : Int)), (9, 0), (9, 0), (9, 0)], [(0, 0)], _, _, _)
                        refine ev_ifne f193_31 (fun c39976 => absurd c39976 (by omega)) (fun c39976 => ?_)
                        refine ev_iconst ?_
                        exact ev_ret rfl (by decide) (by decide) ⟨_, rfl, by omega, by omega, g, k0⟩
                      · refine ev_iconst ?_
                        refine ev_goto f221_14 ?_
                        refine ev_ret rfl (by decide) (by decide) ?_
                        show jEv _ _ _ _ _ _ _ (_, [(2, 0), (0, a1), (0, a2), (0, a3), (0, a4), (2, (r39928 : Int)), (9, 0), (9, 0), (9, 0)], [(0, 1)], _, _, _)
                        refine ev_ifne f193_31 (fun c39977 => ?_) (fun c39977 => absurd c39977 (by omega))
                        refine ev_aload_n rfl ?_
                        refine ev_iload_n rfl ?_
                        refine ev_iload_n rfl ?_
                        refine ev_call (jcall_v (A := [(0, a3), (0, a2)]) (S' := []) (r := 0) rfl (g.lt ad0) (g.tg ad0) (Nat.le_of_ble_eq_true rfl)) (jOk_le (by decide) (s233 g (by omega) (by omega) (by omega) (by omega))) (by decide) (by decide) (fun w39978 h39978 q39978 => ?_)
                        obtain ⟨v39979, rfl, lv39979, uv39979, g39978, kk39978⟩ := q39978
                        have k39978 := k0.tr kk39978 (by decide)
                        show jEv _ _ _ _ _ _ _ (_, [(2, 0), (0, a1), (0, a2), (0, a3), (0, a4), (2, (r39928 : Int)), (9, 0), (9, 0), (9, 0)], [(0, v39979)], _, _, _)
                        refine ev_ifeq f193_43 (fun c39980 => ?_) (fun c39980 => ?_)
                        · refine ev_iload_n rfl ?_
                          refine ev_iconst ?_
                          refine ev_iconst ?_
                          refine ev_in (d := 5) (a := 0) (b := 0) (cd' := c147_0) (m := 3) (L0 := [(0, a2), (0, 0), (0, 0)]) (jcall_s (A := [(0, 0), (0, 0), (0, a2)]) (S' := []) (by decide) rfl (Nat.le_of_ble_eq_true rfl)) (by decide) ml147 pp147 (Nat.le_of_ble_eq_true rfl) rfl (by decide) (by decide) ?_
                          refine ev_bipush ?_
                          refine ev_iload_n rfl ?_
                          refine ev_imul (r := (9 * a2)) (by unfold w32; omega) ?_
                          refine ev_iconst ?_
                          refine ev_iload_n rfl ?_
                          refine ev_imul (r := 0) (by decide) ?_
                          refine ev_iadd (r := (9 * a2)) (by unfold w32; omega) ?_
                          refine ev_iload_n rfl ?_
                          refine ev_iadd (r := (9 * a2)) (by unfold w32; omega) ?_
                          refine ev_ret rfl (by decide) (by decide) ?_
                          show jEv _ _ _ _ _ _ _ (_, [(2, 0), (0, a1), (0, a2), (0, a3), (0, a4), (2, (r39928 : Int)), (9, 0), (9, 0), (9, 0)], [(0, (9 * a2))], _, _, _)
                          refine ev_istore (L' := [(2, 0), (0, a1), (0, a2), (0, a3), (0, a4), (2, (r39928 : Int)), (0, (9 * a2)), (9, 0), (9, 0)]) (Nat.le_of_ble_eq_true rfl) rfl ?_
                          refine ev_aload_n rfl ?_
                          refine g_getp (r := 0) (c := 1) g39978 ad0 (by decide) (by decide) rf0_0 ft11_0 ?_
                          refine ev_iload rfl ?_
                          refine ev_in (d := 5) (a := 0) (b := 0) (cd' := c148_0) (m := 2) (L0 := [(2, 1), (0, (9 * a2))]) (jcall_v (A := [(0, (9 * a2))]) (S' := []) (r := 1) rfl (g39978.lt ad1) (g39978.tg ad1) (Nat.le_of_ble_eq_true rfl)) (by decide) ml148 pp148 (Nat.le_of_ble_eq_true rfl) rfl (by decide) (by decide) ?_
                          refine ev_iload_n rfl ?_
                          refine ev_iflt f148_10 (fun c39981 => absurd c39981 (by omega)) (fun c39981 => ?_)
                          refine ev_iload_n rfl ?_
                          refine ev_bipush ?_
                          refine ev_icmplt f148_14 (fun c39982 => ?_) (fun c39982 => absurd c39982 (by omega))
                          refine ev_aload_n rfl ?_
                          refine g_getp (r := 1) (c := 4) g39978 ad1 (by decide) (by decide) rf1_5 ft10_5 ?_
                          refine ev_iload_n rfl ?_
                          refine g_iald g39978 ad4 rt4 (by omega) (by omega) (fun v39983 ev39983 lv39983 uv39983 => ?_)
                          refine ev_ret rfl (by decide) (by decide) ?_
                          show jEv _ _ _ _ _ _ _ (_, [(2, 0), (0, a1), (0, a2), (0, a3), (0, a4), (2, (r39928 : Int)), (0, (9 * a2)), (9, 0), (9, 0)], [(0, v39983)], _, _, _)
                          refine ev_istore (L' := [(2, 0), (0, a1), (0, a2), (0, a3), (0, a4), (2, (r39928 : Int)), (0, (9 * a2)), (0, v39983), (9, 0)]) (Nat.le_of_ble_eq_true rfl) rfl ?_
                          refine ev_iload rfl ?_
                          refine ev_ifne f193_79 (fun c39984 => ?_) (fun c39984 => absurd c39984 (by omega))
                          refine ev_aload_n rfl ?_
                          refine ev_aload rfl ?_
                          refine ev_iload rfl ?_
                          refine ev_iload_n rfl ?_
                          refine ev_call (jcall_v (A := [(0, a3), (0, (9 * a2)), (2, (r39928 : Int))]) (S' := []) (r := 0) rfl (g39978.lt ad0) (g39978.tg ad0) (Nat.le_of_ble_eq_true rfl)) (jOk_le (by decide) (s235 g39978 qr39928 (by omega) (by omega) (by omega) (by omega))) (by decide) (by decide) (fun w39985 h39985 q39985 => ?_)
                          obtain ⟨v39986, rfl, lv39986, uv39986, g39985, kk39985⟩ := q39985
                          have k39985 := k39978.tr kk39985 (by decide)
                          show jEv _ _ _ _ _ _ _ (_, [(2, 0), (0, a1), (0, a2), (0, a3), (0, a4), (2, (r39928 : Int)), (0, (9 * a2)), (0, v39983), (9, 0)], [(0, v39986)], _, _, _)
                          refine ev_istore (L' := [(2, 0), (0, a1), (0, a2), (0, a3), (0, a4), (2, (r39928 : Int)), (0, (9 * a2)), (0, v39983), (0, v39986)]) (Nat.le_of_ble_eq_true rfl) rfl ?_
                          refine ev_aload_n rfl ?_
                          refine g_getp (r := 0) (c := 1) g39985 ad0 (by decide) (by decide) rf0_0 ft11_0 ?_
                          refine ev_iload rfl ?_
                          refine ev_iload rfl ?_
                          refine ev_in (d := 5) (a := 0) (b := 0) (cd' := c149_0) (m := 3) (L0 := [(2, 1), (0, (9 * a2)), (0, v39983)]) (jcall_v (A := [(0, v39983), (0, (9 * a2))]) (S' := []) (r := 1) rfl (g39985.lt ad1) (g39985.tg ad1) (Nat.le_of_ble_eq_true rfl)) (by decide) ml149 pp149 (Nat.le_of_ble_eq_true rfl) rfl (by decide) (by decide) ?_
                          refine ev_iload_n rfl ?_
                          refine ev_iflt f149_32 (fun c39987 => absurd c39987 (by omega)) (fun c39987 => ?_)
                          refine ev_iload_n rfl ?_
                          refine ev_bipush ?_
                          refine ev_icmpge f149_32 (fun c39988 => absurd c39988 (by omega)) (fun c39988 => ?_)
                          refine ev_aload_n rfl ?_
                          refine g_getp (r := 1) (c := 4) g39985 ad1 (by decide) (by decide) rf1_5 ft10_5 ?_
                          refine ev_iload_n rfl ?_
                          refine g_iald g39985 ad4 rt4 (by omega) (by omega) (fun v39989 ev39989 lv39989 uv39989 => ?_)
                          refine ev_iload_n rfl ?_
                          refine ev_icmpeq f149_32 (fun c39990 => ?_) (fun c39990 => ?_)
                          · refine ev_ret rfl (by decide) (by decide) ?_
                            show jEv _ _ _ _ _ _ _ (_, [(2, 0), (0, a1), (0, a2), (0, a3), (0, a4), (2, (r39928 : Int)), (0, (9 * a2)), (0, v39983), (0, v39986)], [], _, _, _)
                            refine ev_iload rfl ?_
                            exact ev_ret rfl (by decide) (by decide) ⟨_, rfl, by omega, by omega, g39985, k39985⟩
                          · refine ev_aload_n rfl ?_
                            refine g_getp (r := 1) (c := 4) g39985 ad1 (by decide) (by decide) rf1_5 ft10_5 ?_
                            refine ev_iload_n rfl ?_
                            refine ev_iload_n rfl ?_
                            refine g_iast g39985 ad4 rt4 (fun _ => rfl) (by omega) (by omega) (by omega) (by omega) (fun h39991 e39991 g39991 => ?_)
                            have k39991 := k39985.wr e39991 rfl
                            refine ev_aload_n rfl ?_
                            refine ev_iconst ?_
                            refine g_putf (r := 1) g39991 ad1 (by decide) ft10_2 (by decide) (fun _ => by omega) rf1_2 (by decide) (by omega) (by omega) (fun h39992 e39992 g39992 => ?_)
                            have k39992 := k39991.wr e39992 rfl
                            refine ev_ret rfl (by decide) (by decide) ?_
                            show jEv _ _ _ _ _ _ _ (_, [(2, 0), (0, a1), (0, a2), (0, a3), (0, a4), (2, (r39928 : Int)), (0, (9 * a2)), (0, v39983), (0, v39986)], [], _, _, _)
                            refine ev_iload rfl ?_
                            exact ev_ret rfl (by decide) (by decide) ⟨_, rfl, by omega, by omega, g39992, k39992⟩
                        · refine ev_bipush ?_
                          exact ev_ret rfl (by decide) (by decide) ⟨_, rfl, by omega, by omega, g39978, k39978⟩
          · refine ev_iconst ?_
            refine ev_goto f142_22 ?_
            refine ev_ret rfl (by decide) (by decide) ?_
            show jEv _ _ _ _ _ _ _ (_, [(2, 0), (0, a2), (0, a3)], [(0, 1)], _, _, _)
            refine ev_ifne f232_58 (fun c39993 => ?_) (fun c39993 => absurd c39993 (by omega))
            refine ev_iconst ?_
            refine ev_ret rfl (by decide) (by decide) ?_
            show jEv _ _ _ _ _ _ _ (_, [(2, 0), (0, a1), (0, a2), (0, a3), (0, a4), (2, (r39928 : Int)), (9, 0), (9, 0), (9, 0)], [(0, 0)], _, _, _)
            refine ev_ifeq f193_29 (fun c39994 => ?_) (fun c39994 => absurd c39994 (by omega))
            refine ev_iconst ?_
            exact ev_ret rfl (by decide) (by decide) ⟨_, rfl, by omega, by omega, g, k0⟩
    · refine ev_aconst_null ?_
      refine ev_goto f219_22 ?_
      refine ev_ret rfl (by decide) (by decide) ?_
      show jEv _ _ _ _ _ _ _ (_, [(2, 0), (0, a1), (0, a2), (0, a3), (0, a4), (9, 0), (9, 0), (9, 0), (9, 0)], [(2, (-1))], _, _, _)
      refine ev_astore (L' := [(2, 0), (0, a1), (0, a2), (0, a3), (0, a4), (2, (-1)), (9, 0), (9, 0), (9, 0)]) (Nat.le_of_ble_eq_true rfl) rfl ?_
      refine ev_aload rfl ?_
      refine ev_ifnull f193_29 (fun c39995 => ?_) (fun c39995 => absurd c39995 (by decide))
      refine ev_iconst ?_
      exact ev_ret rfl (by decide) (by decide) ⟨_, rfl, by omega, by omega, g, k0⟩
/-! 194 worst -/
set_option maxHeartbeats 4000000 in
theorem s194 {G : GH} {h : JH} (g : Gd G h) {a1 : Int} (la1 : (-2147483648) ≤ a1) (ua1 : a1 ≤ 2147483647) {a2 : Int} (la2 : (-2147483648) ≤ a2) (ua2 : a2 ≤ 2147483647) {a3 : Int} (la3 : (-2147483648) ≤ a3) (ua3 : a3 ≤ 2147483647) {a4 : Int} (la4 : (-2147483648) ≤ a4) (ua4 : a4 ≤ 2147483647) : jOk 7 0 0 194 [(2, 0), (0, a1), (0, a2), (0, a3), (0, a4)] h (PI G [(1, 2), (1, 3), (5, 0), (6, 0), (4, 0), (1000000, 0)] h 1 (-9223372036854775808) 9223372036854775807) := by
  refine ⟨by decide, by rw [ml194]; exact Nat.le_of_ble_eq_true rfl, ?_⟩
  rw [ml194, pp194]
  show jEv _ none _ c194_0 0 0 _ (c194_0, [(2, 0), (0, a1), (0, a2), (0, a3), (0, a4), (9, 0), (9, 0), (9, 0), (9, 0), (9, 0)], [], h, 0, 0)
  have k0 := Kp.rf [(1, 2), (1, 3), (5, 0), (6, 0), (4, 0), (1000000, 0)] h
  refine ev_aload_n rfl ?_
  refine ev_iload_n rfl ?_
  refine ev_in (d := 5) (a := 0) (b := 0) (cd' := c219_0) (m := 2) (L0 := [(2, 0), (0, a1)]) (jcall_v (A := [(0, a1)]) (S' := []) (r := 0) rfl (g.lt ad0) (g.tg ad0) (Nat.le_of_ble_eq_true rfl)) (by decide) ml219 pp219 (Nat.le_of_ble_eq_true rfl) rfl (by decide) (by decide) ?_
  refine ev_iload_n rfl ?_
  refine ev_iflt f219_12 (fun c40136 => ?_) (fun c40136 => ?_)
  · refine ev_aconst_null ?_
    refine ev_goto f219_22 ?_
    refine ev_ret rfl (by decide) (by decide) ?_
    show jEv _ _ _ _ _ _ _ (_, [(2, 0), (0, a1), (0, a2), (0, a3), (0, a4), (9, 0), (9, 0), (9, 0), (9, 0), (9, 0)], [(2, (-1))], _, _, _)
    refine ev_astore (L' := [(2, 0), (0, a1), (0, a2), (0, a3), (0, a4), (2, (-1)), (9, 0), (9, 0), (9, 0), (9, 0)]) (Nat.le_of_ble_eq_true rfl) rfl ?_
    refine ev_aload rfl ?_
    refine ev_ifnull f194_38 (fun c40137 => ?_) (fun c40137 => absurd c40137 (by decide))
    refine ev_ldc2_w ?_
    exact ev_ret rfl (by decide) (by decide) ⟨_, rfl, by omega, by omega, g, k0⟩
  · refine ev_iload_n rfl ?_
    refine ev_aload_n rfl ?_
    obtain ⟨v40138, ev40138, lv40138, uv40138⟩ := g.rd ad0 (show 3 < 17 by decide) rf0_3
    refine g_getv (r := 0) (v := v40138) g ad0 (by decide) ft11_3 ev40138 ?_
    refine ev_icmplt f219_16 (fun c40139 => ?_) (fun c40139 => ?_)
    · refine ev_aload_n rfl ?_
      refine g_getp (r := 0) (c := 18) g ad0 (by decide) (by decide) rf0_2 ft11_2 ?_
      refine ev_iload_n rfl ?_
      refine g_qaald (g) (i := a1) (ev40138) (by omega) (by omega) (fun r40140 m40141 qr40140 => ?_)
      have wr40140 := g.qb qr40140
      have zr40140 := qr40140.1
      refine ev_ret rfl (by decide) (by decide) ?_
      show jEv _ _ _ _ _ _ _ (_, [(2, 0), (0, a1), (0, a2), (0, a3), (0, a4), (9, 0), (9, 0), (9, 0), (9, 0), (9, 0)], [(2, (r40140 : Int))], _, _, _)
      refine ev_astore (L' := [(2, 0), (0, a1), (0, a2), (0, a3), (0, a4), (2, (r40140 : Int)), (9, 0), (9, 0), (9, 0), (9, 0)]) (Nat.le_of_ble_eq_true rfl) rfl ?_
      refine ev_aload rfl ?_
      refine ev_ifnull f194_38 (fun c40142 => absurd c40142 (by omega)) (fun c40142 => ?_)
      refine ev_aload_n rfl ?_
      refine ev_iload_n rfl ?_
      refine ev_iload_n rfl ?_
      refine ev_in (d := 5) (a := 0) (b := 0) (cd' := c232_0) (m := 3) (L0 := [(2, 0), (0, a2), (0, a3)]) (jcall_v (A := [(0, a3), (0, a2)]) (S' := []) (r := 0) rfl (g.lt ad0) (g.tg ad0) (Nat.le_of_ble_eq_true rfl)) (by decide) ml232 pp232 (Nat.le_of_ble_eq_true rfl) rfl (by decide) (by decide) ?_
      refine ev_aload_n rfl ?_
      refine g_getp (r := 0) (c := 1) g ad0 (by decide) (by decide) rf0_0 ft11_0 ?_
      refine ev_iload_n rfl ?_
      refine ev_in (d := 4) (a := 0) (b := 0) (cd' := c140_0) (m := 2) (L0 := [(2, 1), (0, a2)]) (jcall_v (A := [(0, a2)]) (S' := []) (r := 1) rfl (g.lt ad1) (g.tg ad1) (Nat.le_of_ble_eq_true rfl)) (by decide) ml140 pp140 (Nat.le_of_ble_eq_true rfl) rfl (by decide) (by decide) ?_
      refine ev_iload_n rfl ?_
      refine ev_iflt f140_16 (fun c40143 => ?_) (fun c40143 => ?_)
      · refine ev_iconst ?_
        refine ev_ret rfl (by decide) (by decide) ?_
        show jEv _ _ _ _ _ _ _ (_, [(2, 0), (0, a2), (0, a3)], [(0, 0)], _, _, _)
        refine ev_ifeq f232_58 (fun c40144 => ?_) (fun c40144 => absurd c40144 (by omega))
        refine ev_iconst ?_
        refine ev_ret rfl (by decide) (by decide) ?_
        show jEv _ _ _ _ _ _ _ (_, [(2, 0), (0, a1), (0, a2), (0, a3), (0, a4), (2, (r40140 : Int)), (9, 0), (9, 0), (9, 0), (9, 0)], [(0, 0)], _, _, _)
        refine ev_ifeq f194_38 (fun c40145 => ?_) (fun c40145 => absurd c40145 (by omega))
        refine ev_ldc2_w ?_
        exact ev_ret rfl (by decide) (by decide) ⟨_, rfl, by omega, by omega, g, k0⟩
      · refine ev_iload_n rfl ?_
        refine ev_aload_n rfl ?_
        obtain ⟨v40146, ev40146, lv40146, uv40146⟩ := g.rd ad1 (show 0 < 8 by decide) rf1_0
        refine g_getv (r := 1) (v := v40146) g ad1 (by decide) ft10_0 ev40146 ?_
        refine ev_icmpge f140_16 (fun c40147 => ?_) (fun c40147 => ?_)
        · refine ev_iconst ?_
          refine ev_ret rfl (by decide) (by decide) ?_
          show jEv _ _ _ _ _ _ _ (_, [(2, 0), (0, a2), (0, a3)], [(0, 0)], _, _, _)
          refine ev_ifeq f232_58 (fun c40148 => ?_) (fun c40148 => absurd c40148 (by omega))
          refine ev_iconst ?_
          refine ev_ret rfl (by decide) (by decide) ?_
          show jEv _ _ _ _ _ _ _ (_, [(2, 0), (0, a1), (0, a2), (0, a3), (0, a4), (2, (r40140 : Int)), (9, 0), (9, 0), (9, 0), (9, 0)], [(0, 0)], _, _, _)
          refine ev_ifeq f194_38 (fun c40149 => ?_) (fun c40149 => absurd c40149 (by omega))
          refine ev_ldc2_w ?_
          exact ev_ret rfl (by decide) (by decide) ⟨_, rfl, by omega, by omega, g, k0⟩
        · refine ev_iconst ?_
          refine ev_goto f140_17 ?_
          refine ev_ret rfl (by decide) (by decide) ?_
          show jEv _ _ _ _ _ _ _ (_, [(2, 0), (0, a2), (0, a3)], [(0, 1)], _, _, _)
          refine ev_ifeq f232_58 (fun c40150 => absurd c40150 (by omega)) (fun c40150 => ?_)
          refine ev_aload_n rfl ?_
          refine g_getp (r := 0) (c := 1) g ad0 (by decide) (by decide) rf0_0 ft11_0 ?_
          refine ev_iload_n rfl ?_
          refine ev_in (d := 4) (a := 0) (b := 0) (cd' := c142_0) (m := 2) (L0 := [(2, 1), (0, a2)]) (jcall_v (A := [(0, a2)]) (S' := []) (r := 1) rfl (g.lt ad1) (g.tg ad1) (Nat.le_of_ble_eq_true rfl)) (by decide) ml142 pp142 (Nat.le_of_ble_eq_true rfl) rfl (by decide) (by decide) ?_
          refine ev_aload_n rfl ?_
          refine ev_iload_n rfl ?_
          refine ev_in (d := 3) (a := 0) (b := 0) (cd' := c140_0) (m := 2) (L0 := [(2, 1), (0, a2)]) (jcall_v (A := [(0, a2)]) (S' := []) (r := 1) rfl (g.lt ad1) (g.tg ad1) (Nat.le_of_ble_eq_true rfl)) (by decide) ml140 pp140 (Nat.le_of_ble_eq_true rfl) rfl (by decide) (by decide) ?_
          refine ev_iload_n rfl ?_
          refine ev_iflt f140_16 (fun c40151 => absurd c40151 (by omega)) (fun c40151 => ?_)
          refine ev_iload_n rfl ?_
          refine ev_aload_n rfl ?_
          refine g_getv (r := 1) (v := v40146) g ad1 (by decide) ft10_0 (ev40146) ?_
          refine ev_icmpge f140_16 (fun c40152 => absurd c40152 (by omega)) (fun c40152 => ?_)
          refine ev_iconst ?_
          refine ev_goto f140_17 ?_
          refine ev_ret rfl (by decide) (by decide) ?_
          show jEv _ _ _ _ _ _ _ (_, [(2, 1), (0, a2)], [(0, 1)], _, _, _)
          refine ev_ifeq f142_21 (fun c40153 => absurd c40153 (by omega)) (fun c40153 => ?_)
          refine ev_aload_n rfl ?_
          refine g_getp (r := 1) (c := 3) g ad1 (by decide) (by decide) rf1_4 ft10_4 ?_
          refine ev_iload_n rfl ?_
          refine g_iald g ad3 rt3 (by omega) (by omega) (fun v40154 ev40154 lv40154 uv40154 => ?_)
          refine ev_iflt f142_21 (fun c40155 => ?_) (fun c40155 => ?_)
          · refine ev_iconst ?_
            refine ev_ret rfl (by decide) (by decide) ?_
            show jEv _ _ _ _ _ _ _ (_, [(2, 0), (0, a2), (0, a3)], [(0, 0)], _, _, _)
            refine ev_ifne f232_58 (fun c40156 => absurd c40156 (by omega)) (fun c40156 => ?_)
            refine ev_iload_n rfl ?_
            refine ev_ifle f232_58 (fun c40157 => ?_) (fun c40157 => ?_)
            · refine ev_iconst ?_
              refine ev_ret rfl (by decide) (by decide) ?_
              show jEv _ _ _ _ _ _ _ (_, [(2, 0), (0, a1), (0, a2), (0, a3), (0, a4), (2, (r40140 : Int)), (9, 0), (9, 0), (9, 0), (9, 0)], [(0, 0)], _, _, _)
              refine ev_ifeq f194_38 (fun c40158 => ?_) (fun c40158 => absurd c40158 (by omega))
              refine ev_ldc2_w ?_
              exact ev_ret rfl (by decide) (by decide) ⟨_, rfl, by omega, by omega, g, k0⟩
            · refine ev_iload_n rfl ?_
              refine ev_bipush ?_
              refine g_idivP (c := 100) rfl (by decide) (by omega) (by omega) (fun v40159 ev40159 lv40159 uv40159 => ?_)
              refine ev_iconst ?_
              refine ev_icmplt f232_58 (fun c40160 => ?_) (fun c40160 => ?_)
              · refine ev_iconst ?_
                refine ev_ret rfl (by decide) (by decide) ?_
                show jEv _ _ _ _ _ _ _ (_, [(2, 0), (0, a1), (0, a2), (0, a3), (0, a4), (2, (r40140 : Int)), (9, 0), (9, 0), (9, 0), (9, 0)], [(0, 0)], _, _, _)
                refine ev_ifeq f194_38 (fun c40161 => ?_) (fun c40161 => absurd c40161 (by omega))
                refine ev_ldc2_w ?_
                exact ev_ret rfl (by decide) (by decide) ⟨_, rfl, by omega, by omega, g, k0⟩
              · refine ev_iload_n rfl ?_
                refine ev_bipush ?_
                refine g_idivP (c := 100) rfl (by decide) (by omega) (by omega) (fun v40162 ev40162 lv40162 uv40162 => ?_)
                obtain rfl : v40159 = v40162 := by omega
                refine ev_bipush ?_
                refine ev_icmpgt f232_58 (fun c40163 => ?_) (fun c40163 => ?_)
                · refine ev_iconst ?_
                  refine ev_ret rfl (by decide) (by decide) ?_
                  show jEv _ _ _ _ _ _ _ (_, [(2, 0), (0, a1), (0, a2), (0, a3), (0, a4), (2, (r40140 : Int)), (9, 0), (9, 0), (9, 0), (9, 0)], [(0, 0)], _, _, _)
                  refine ev_ifeq f194_38 (fun c40164 => ?_) (fun c40164 => absurd c40164 (by omega))
                  refine ev_ldc2_w ?_
                  exact ev_ret rfl (by decide) (by decide) ⟨_, rfl, by omega, by omega, g, k0⟩
                · refine ev_iload_n rfl ?_
                  refine ev_bipush ?_
                  refine g_idivP (c := 100) rfl (by decide) (by omega) (by omega) (fun v40165 ev40165 lv40165 uv40165 => ?_)
                  obtain rfl : v40159 = v40165 := by omega
                  refine ev_iload_n rfl ?_
                  refine ev_bipush ?_
                  refine g_iremP (c := 100) rfl (by decide) (by omega) (fun v40166 ev40166 lv40166 uv40166 wv40166 => ?_)
                  refine ev_icmpgt f232_58 (fun c40167 => ?_) (fun c40167 => ?_)
                  · refine ev_iconst ?_
                    refine ev_ret rfl (by decide) (by decide) ?_
                    show jEv _ _ _ _ _ _ _ (_, [(2, 0), (0, a1), (0, a2), (0, a3), (0, a4), (2, (r40140 : Int)), (9, 0), (9, 0), (9, 0), (9, 0)], [(0, 0)], _, _, _)
                    refine ev_ifeq f194_38 (fun c40168 => ?_) (fun c40168 => absurd c40168 (by omega))
                    refine ev_ldc2_w ?_
                    exact ev_ret rfl (by decide) (by decide) ⟨_, rfl, by omega, by omega, g, k0⟩
                  · refine ev_iconst ?_
                    refine ev_goto f232_59 ?_
                    refine ev_ret rfl (by decide) (by decide) ?_
                    show jEv _ _ _ _ _ _ _ (_, [(2, 0), (0, a1), (0, a2), (0, a3), (0, a4), (2, (r40140 : Int)), (9, 0), (9, 0), (9, 0), (9, 0)], [(0, 1)], _, _, _)
                    refine ev_ifeq f194_38 (fun c40169 => absurd c40169 (by omega)) (fun c40169 => ?_)
                    refine ev_iload rfl ?_
                    refine ev_in (d := 5) (a := 0) (b := 0) (cd' := c221_0) (m := 1) (L0 := [(0, a4)]) (jcall_s (A := [(0, a4)]) (S' := []) (by decide) rfl (Nat.le_of_ble_eq_true rfl)) (by decide) ml221 pp221 (Nat.le_of_ble_eq_true rfl) rfl (by decide) (by decide) ?_
                    refine ev_iload_n rfl ?_
                    refine ev_ifeq f221_9 (fun c40170 => ?_) (fun c40170 => ?_)
                    · refine ev_iconst ?_
                      refine ev_goto f221_14 ?_
                      refine ev_ret rfl (by decide) (by decide) ?_
                      show jEv _ _ _ _ _ _ _ (_, [(2, 0), (0, a1), (0, a2), (0, a3), (0, a4), (2, (r40140 : Int)), (9, 0), (9, 0), (9, 0), (9, 0)], [(0, 1)], _, _, _)
                      refine ev_ifeq f194_38 (fun c40171 => absurd c40171 (by omega)) (fun c40171 => ?_)
                      refine ev_aload_n rfl ?_
                      refine ev_iload_n rfl ?_
                      refine ev_iload_n rfl ?_
                      refine ev_call (jcall_v (A := [(0, a3), (0, a2)]) (S' := []) (r := 0) rfl (g.lt ad0) (g.tg ad0) (Nat.le_of_ble_eq_true rfl)) (jOk_le (by decide) (s233 g (by omega) (by omega) (by omega) (by omega))) (by decide) (by decide) (fun w40172 h40172 q40172 => ?_)
                      obtain ⟨v40173, rfl, lv40173, uv40173, g40172, kk40172⟩ := q40172
                      have k40172 := k0.tr kk40172 (by decide)
                      show jEv _ _ _ _ _ _ _ (_, [(2, 0), (0, a1), (0, a2), (0, a3), (0, a4), (2, (r40140 : Int)), (9, 0), (9, 0), (9, 0), (9, 0)], [(0, v40173)], _, _, _)
                      refine ev_ifeq f194_42 (fun c40174 => ?_) (fun c40174 => ?_)
                      · refine ev_iload_n rfl ?_
                        refine ev_iconst ?_
                        refine ev_iconst ?_
                        refine ev_in (d := 5) (a := 0) (b := 0) (cd' := c147_0) (m := 3) (L0 := [(0, a2), (0, 0), (0, 0)]) (jcall_s (A := [(0, 0), (0, 0), (0, a2)]) (S' := []) (by decide) rfl (Nat.le_of_ble_eq_true rfl)) (by decide) ml147 pp147 (Nat.le_of_ble_eq_true rfl) rfl (by decide) (by decide) ?_
                        refine ev_bipush ?_
                        refine ev_iload_n rfl ?_
                        refine ev_imul (r := (9 * a2)) (by unfold w32; omega) ?_
                        refine ev_iconst ?_
                        refine ev_iload_n rfl ?_
                        refine ev_imul (r := 0) (by decide) ?_
                        refine ev_iadd (r := (9 * a2)) (by unfold w32; omega) ?_
                        refine ev_iload_n rfl ?_
                        refine ev_iadd (r := (9 * a2)) (by unfold w32; omega) ?_
                        refine ev_ret rfl (by decide) (by decide) ?_
                        show jEv _ _ _ _ _ _ _ (_, [(2, 0), (0, a1), (0, a2), (0, a3), (0, a4), (2, (r40140 : Int)), (9, 0), (9, 0), (9, 0), (9, 0)], [(0, (9 * a2))], _, _, _)
                        refine ev_istore (L' := [(2, 0), (0, a1), (0, a2), (0, a3), (0, a4), (2, (r40140 : Int)), (0, (9 * a2)), (9, 0), (9, 0), (9, 0)]) (Nat.le_of_ble_eq_true rfl) rfl ?_
                        refine ev_aload_n rfl ?_
                        refine g_getp (r := 0) (c := 1) g40172 ad0 (by decide) (by decide) rf0_0 ft11_0 ?_
                        refine ev_iload rfl ?_
                        refine ev_in (d := 5) (a := 0) (b := 0) (cd' := c148_0) (m := 2) (L0 := [(2, 1), (0, (9 * a2))]) (jcall_v (A := [(0, (9 * a2))]) (S' := []) (r := 1) rfl (g40172.lt ad1) (g40172.tg ad1) (Nat.le_of_ble_eq_true rfl)) (by decide) ml148 pp148 (Nat.le_of_ble_eq_true rfl) rfl (by decide) (by decide) ?_
                        refine ev_iload_n rfl ?_
                        refine ev_iflt f148_10 (fun c40175 => absurd c40175 (by omega)) (fun c40175 => ?_)
                        refine ev_iload_n rfl ?_
                        refine ev_bipush ?_
                        refine ev_icmplt f148_14 (fun c40176 => ?_) (fun c40176 => absurd c40176 (by omega))
                        refine ev_aload_n rfl ?_
                        refine g_getp (r := 1) (c := 4) g40172 ad1 (by decide) (by decide) rf1_5 ft10_5 ?_
                        refine ev_iload_n rfl ?_
                        refine g_iald g40172 ad4 rt4 (by omega) (by omega) (fun v40177 ev40177 lv40177 uv40177 => ?_)
                        refine ev_ret rfl (by decide) (by decide) ?_
                        show jEv _ _ _ _ _ _ _ (_, [(2, 0), (0, a1), (0, a2), (0, a3), (0, a4), (2, (r40140 : Int)), (0, (9 * a2)), (9, 0), (9, 0), (9, 0)], [(0, v40177)], _, _, _)
                        refine ev_istore (L' := [(2, 0), (0, a1), (0, a2), (0, a3), (0, a4), (2, (r40140 : Int)), (0, (9 * a2)), (0, v40177), (9, 0), (9, 0)]) (Nat.le_of_ble_eq_true rfl) rfl ?_
                        refine ev_aload_n rfl ?_
                        refine ev_aload rfl ?_
                        refine ev_iload_n rfl ?_
                        refine ev_iload_n rfl ?_
                        refine ev_iload rfl ?_
                        refine ev_call (jcall_v (A := [(0, a4), (0, a3), (0, a2), (2, (r40140 : Int))]) (S' := []) (r := 0) rfl (g40172.lt ad0) (g40172.tg ad0) (Nat.le_of_ble_eq_true rfl)) (jOk_le (by decide) (s237 g40172 qr40140 (by omega) (by omega) (by omega) (by omega) (by omega) (by omega))) (by decide) (by decide) (fun w40178 h40178 q40178 => ?_)
                        obtain ⟨v40179, rfl, lv40179, uv40179, g40178, kk40178⟩ := q40178
                        have k40178 := k40172.tr kk40178 (by decide)
                        show jEv _ _ _ _ _ _ _ (_, [(2, 0), (0, a1), (0, a2), (0, a3), (0, a4), (2, (r40140 : Int)), (0, (9 * a2)), (0, v40177), (9, 0), (9, 0)], [(1, v40179)], _, _, _)
                        refine ev_lstore (L' := [(2, 0), (0, a1), (0, a2), (0, a3), (0, a4), (2, (r40140 : Int)), (0, (9 * a2)), (0, v40177), (1, v40179), (9, 0)]) (Nat.le_of_ble_eq_true rfl) rfl ?_
                        refine ev_aload_n rfl ?_
                        refine g_getp (r := 0) (c := 1) g40178 ad0 (by decide) (by decide) rf0_0 ft11_0 ?_
                        refine ev_iload rfl ?_
                        refine ev_iload rfl ?_
                        refine ev_in (d := 5) (a := 0) (b := 0) (cd' := c149_0) (m := 3) (L0 := [(2, 1), (0, (9 * a2)), (0, v40177)]) (jcall_v (A := [(0, v40177), (0, (9 * a2))]) (S' := []) (r := 1) rfl (g40178.lt ad1) (g40178.tg ad1) (Nat.le_of_ble_eq_true rfl)) (by decide) ml149 pp149 (Nat.le_of_ble_eq_true rfl) rfl (by decide) (by decide) ?_
                        refine ev_iload_n rfl ?_
                        refine ev_iflt f149_32 (fun c40180 => absurd c40180 (by omega)) (fun c40180 => ?_)
                        refine ev_iload_n rfl ?_
                        refine ev_bipush ?_
                        refine ev_icmpge f149_32 (fun c40181 => absurd c40181 (by omega)) (fun c40181 => ?_)
                        refine ev_aload_n rfl ?_
                        refine g_getp (r := 1) (c := 4) g40178 ad1 (by decide) (by decide) rf1_5 ft10_5 ?_
                        refine ev_iload_n rfl ?_
                        refine g_iald g40178 ad4 rt4 (by omega) (by omega) (fun v40182 ev40182 lv40182 uv40182 => ?_)
                        refine ev_iload_n rfl ?_
                        refine ev_icmpeq f149_32 (fun c40183 => ?_) (fun c40183 => ?_)
                        · refine ev_ret rfl (by decide) (by decide) ?_
                          show jEv _ _ _ _ _ _ _ (_, [(2, 0), (0, a1), (0, a2), (0, a3), (0, a4), (2, (r40140 : Int)), (0, (9 * a2)), (0, v40177), (1, v40179), (9, 0)], [], _, _, _)
                          refine ev_lload rfl ?_
                          exact ev_ret rfl (by decide) (by decide) ⟨_, rfl, by omega, by omega, g40178, k40178⟩
                        · refine ev_aload_n rfl ?_
                          refine g_getp (r := 1) (c := 4) g40178 ad1 (by decide) (by decide) rf1_5 ft10_5 ?_
                          refine ev_iload_n rfl ?_
                          refine ev_iload_n rfl ?_
                          refine g_iast g40178 ad4 rt4 (fun _ => rfl) (by omega) (by omega) (by omega) (by omega) (fun h40184 e40184 g40184 => ?_)
                          have k40184 := k40178.wr e40184 rfl
                          refine ev_aload_n rfl ?_
                          refine ev_iconst ?_
                          refine g_putf (r := 1) g40184 ad1 (by decide) ft10_2 (by decide) (fun _ => by omega) rf1_2 (by decide) (by omega) (by omega) (fun h40185 e40185 g40185 => ?_)
                          have k40185 := k40184.wr e40185 rfl
                          refine ev_ret rfl (by decide) (by decide) ?_
                          show jEv _ _ _ _ _ _ _ (_, [(2, 0), (0, a1), (0, a2), (0, a3), (0, a4), (2, (r40140 : Int)), (0, (9 * a2)), (0, v40177), (1, v40179), (9, 0)], [], _, _, _)
                          refine ev_lload rfl ?_
                          exact ev_ret rfl (by decide) (by decide) ⟨_, rfl, by omega, by omega, g40185, k40185⟩
                      · refine ev_ldc2_w ?_
                        exact ev_ret rfl (by decide) (by decide) ⟨_, rfl, by omega, by omega, g40172, k40172⟩
                    · refine ev_iload_n rfl ?_
                      refine ev_iconst ?_
                      refine ev_icmpne f221_13 (fun c40186 => ?_) (fun c40186 => ?_)
                      · refine ev_iconst ?_
                        refine ev_ret rfl (by decide) (by decide) ?_
                        show jEv _ _ _ _ _ _ _ (_, [(2, 0), (0, a1), (0, a2), (0, a3), (0, a4), (2, (r40140 : Int)), (9, 0), (9, 0), (9, 0), (9, 0)], [(0, 0)], _, _, _)
                        refine ev_ifeq f194_38 (fun c40187 => ?_) (fun c40187 => absurd c40187 (by omega))
                        refine ev_ldc2_w ?_
                        exact ev_ret rfl (by decide) (by decide) ⟨_, rfl, by omega, by omega, g, k0⟩
                      · refine ev_iconst ?_
                        refine ev_goto f221_14 ?_
                        refine ev_ret rfl (by decide) (by decide) ?_
                        show jEv _ _ _ _ _ _ _ (_, [(2, 0), (0, a1), (0, a2), (0, a3), (0, a4), (2, (r40140 : Int)), (9, 0), (9, 0), (9, 0), (9, 0)], [(0, 1)], _, _, _)
                        refine ev_ifeq f194_38 (fun c40188 => absurd c40188 (by omega)) (fun c40188 => ?_)
                        refine ev_aload_n rfl ?_
                        refine ev_iload_n rfl ?_
                        refine ev_iload_n rfl ?_
                        refine ev_call (jcall_v (A := [(0, a3), (0, a2)]) (S' := []) (r := 0) rfl (g.lt ad0) (g.tg ad0) (Nat.le_of_ble_eq_true rfl)) (jOk_le (by decide) (s233 g (by omega) (by omega) (by omega) (by omega))) (by decide) (by decide) (fun w40189 h40189 q40189 => ?_)
                        obtain ⟨v40190, rfl, lv40190, uv40190, g40189, kk40189⟩ := q40189
                        have k40189 := k0.tr kk40189 (by decide)
                        show jEv _ _ _ _ _ _ _ (_, [(2, 0), (0, a1), (0, a2), (0, a3), (0, a4), (2, (r40140 : Int)), (9, 0), (9, 0), (9, 0), (9, 0)], [(0, v40190)], _, _, _)
                        refine ev_ifeq f194_42 (fun c40191 => ?_) (fun c40191 => ?_)
                        · refine ev_iload_n rfl ?_
                          refine ev_iconst ?_
                          refine ev_iconst ?_
                          refine ev_in (d := 5) (a := 0) (b := 0) (cd' := c147_0) (m := 3) (L0 := [(0, a2), (0, 0), (0, 0)]) (jcall_s (A := [(0, 0), (0, 0), (0, a2)]) (S' := []) (by decide) rfl (Nat.le_of_ble_eq_true rfl)) (by decide) ml147 pp147 (Nat.le_of_ble_eq_true rfl) rfl (by decide) (by decide) ?_
                          refine ev_bipush ?_
                          refine ev_iload_n rfl ?_
                          refine ev_imul (r := (9 * a2)) (by unfold w32; omega) ?_
                          refine ev_iconst ?_
                          refine ev_iload_n rfl ?_
                          refine ev_imul (r := 0) (by decide) ?_
                          refine ev_iadd (r := (9 * a2)) (by unfold w32; omega) ?_
                          refine ev_iload_n rfl ?_
                          refine ev_iadd (r := (9 * a2)) (by unfold w32; omega) ?_
                          refine ev_ret rfl (by decide) (by decide) ?_
                          show jEv _ _ _ _ _ _ _ (_, [(2, 0), (0, a1), (0, a2), (0, a3), (0, a4), (2, (r40140 : Int)), (9, 0), (9, 0), (9, 0), (9, 0)], [(0, (9 * a2))], _, _, _)
                          refine ev_istore (L' := [(2, 0), (0, a1), (0, a2), (0, a3), (0, a4), (2, (r40140 : Int)), (0, (9 * a2)), (9, 0), (9, 0), (9, 0)]) (Nat.le_of_ble_eq_true rfl) rfl ?_
                          refine ev_aload_n rfl ?_
                          refine g_getp (r := 0) (c := 1) g40189 ad0 (by decide) (by decide) rf0_0 ft11_0 ?_
                          refine ev_iload rfl ?_
                          refine ev_in (d := 5) (a := 0) (b := 0) (cd' := c148_0) (m := 2) (L0 := [(2, 1), (0, (9 * a2))]) (jcall_v (A := [(0, (9 * a2))]) (S' := []) (r := 1) rfl (g40189.lt ad1) (g40189.tg ad1) (Nat.le_of_ble_eq_true rfl)) (by decide) ml148 pp148 (Nat.le_of_ble_eq_true rfl) rfl (by decide) (by decide) ?_
                          refine ev_iload_n rfl ?_
                          refine ev_iflt f148_10 (fun c40192 => absurd c40192 (by omega)) (fun c40192 => ?_)
                          refine ev_iload_n rfl ?_
                          refine ev_bipush ?_
                          refine ev_icmplt f148_14 (fun c40193 => ?_) (fun c40193 => absurd c40193 (by omega))
                          refine ev_aload_n rfl ?_
                          refine g_getp (r := 1) (c := 4) g40189 ad1 (by decide) (by decide) rf1_5 ft10_5 ?_
                          refine ev_iload_n rfl ?_
                          refine g_iald g40189 ad4 rt4 (by omega) (by omega) (fun v40194 ev40194 lv40194 uv40194 => ?_)
                          refine ev_ret rfl (by decide) (by decide) ?_
                          show jEv _ _ _ _ _ _ _ (_, [(2, 0), (0, a1), (0, a2), (0, a3), (0, a4), (2, (r40140 : Int)), (0, (9 * a2)), (9, 0), (9, 0), (9, 0)], [(0, v40194)], _, _, _)
                          refine ev_istore (L' := [(2, 0), (0, a1), (0, a2), (0, a3), (0, a4), (2, (r40140 : Int)), (0, (9 * a2)), (0, v40194), (9, 0), (9, 0)]) (Nat.le_of_ble_eq_true rfl) rfl ?_
                          refine ev_aload_n rfl ?_
                          refine ev_aload rfl ?_
                          refine ev_iload_n rfl ?_
                          refine ev_iload_n rfl ?_
                          refine ev_iload rfl ?_
                          refine ev_call (jcall_v (A := [(0, a4), (0, a3), (0, a2), (2, (r40140 : Int))]) (S' := []) (r := 0) rfl (g40189.lt ad0) (g40189.tg ad0) (Nat.le_of_ble_eq_true rfl)) (jOk_le (by decide) (s237 g40189 qr40140 (by omega) (by omega) (by omega) (by omega) (by omega) (by omega))) (by decide) (by decide) (fun w40195 h40195 q40195 => ?_)
                          obtain ⟨v40196, rfl, lv40196, uv40196, g40195, kk40195⟩ := q40195
                          have k40195 := k40189.tr kk40195 (by decide)
                          show jEv _ _ _ _ _ _ _ (_, [(2, 0), (0, a1), (0, a2), (0, a3), (0, a4), (2, (r40140 : Int)), (0, (9 * a2)), (0, v40194), (9, 0), (9, 0)], [(1, v40196)], _, _, _)
                          refine ev_lstore (L' := [(2, 0), (0, a1), (0, a2), (0, a3), (0, a4), (2, (r40140 : Int)), (0, (9 * a2)), (0, v40194), (1, v40196), (9, 0)]) (Nat.le_of_ble_eq_true rfl) rfl ?_
                          refine ev_aload_n rfl ?_
                          refine g_getp (r := 0) (c := 1) g40195 ad0 (by decide) (by decide) rf0_0 ft11_0 ?_
                          refine ev_iload rfl ?_
                          refine ev_iload rfl ?_
                          refine ev_in (d := 5) (a := 0) (b := 0) (cd' := c149_0) (m := 3) (L0 := [(2, 1), (0, (9 * a2)), (0, v40194)]) (jcall_v (A := [(0, v40194), (0, (9 * a2))]) (S' := []) (r := 1) rfl (g40195.lt ad1) (g40195.tg ad1) (Nat.le_of_ble_eq_true rfl)) (by decide) ml149 pp149 (Nat.le_of_ble_eq_true rfl) rfl (by decide) (by decide) ?_
                          refine ev_iload_n rfl ?_
                          refine ev_iflt f149_32 (fun c40197 => absurd c40197 (by omega)) (fun c40197 => ?_)
                          refine ev_iload_n rfl ?_
                          refine ev_bipush ?_
                          refine ev_icmpge f149_32 (fun c40198 => absurd c40198 (by omega)) (fun c40198 => ?_)
                          refine ev_aload_n rfl ?_
                          refine g_getp (r := 1) (c := 4) g40195 ad1 (by decide) (by decide) rf1_5 ft10_5 ?_
                          refine ev_iload_n rfl ?_
                          refine g_iald g40195 ad4 rt4 (by omega) (by omega) (fun v40199 ev40199 lv40199 uv40199 => ?_)
                          refine ev_iload_n rfl ?_
                          refine ev_icmpeq f149_32 (fun c40200 => ?_) (fun c40200 => ?_)
                          · refine ev_ret rfl (by decide) (by decide) ?_
                            show jEv _ _ _ _ _ _ _ (_, [(2, 0), (0, a1), (0, a2), (0, a3), (0, a4), (2, (r40140 : Int)), (0, (9 * a2)), (0, v40194), (1, v40196), (9, 0)], [], _, _, _)
                            refine ev_lload rfl ?_
                            exact ev_ret rfl (by decide) (by decide) ⟨_, rfl, by omega, by omega, g40195, k40195⟩
                          · refine ev_aload_n rfl ?_
                            refine g_getp (r := 1) (c := 4) g40195 ad1 (by decide) (by decide) rf1_5 ft10_5 ?_
                            refine ev_iload_n rfl ?_
                            refine ev_iload_n rfl ?_
                            refine g_iast g40195 ad4 rt4 (fun _ => rfl) (by omega) (by omega) (by omega) (by omega) (fun h40201 e40201 g40201 => ?_)
                            have k40201 := k40195.wr e40201 rfl
                            refine ev_aload_n rfl ?_
                            refine ev_iconst ?_
                            refine g_putf (r := 1) g40201 ad1 (by decide) ft10_2 (by decide) (fun _ => by omega) rf1_2 (by decide) (by omega) (by omega) (fun h40202 e40202 g40202 => ?_)
                            have k40202 := k40201.wr e40202 rfl
                            refine ev_ret rfl (by decide) (by decide) ?_
                            show jEv _ _ _ _ _ _ _ (_, [(2, 0), (0, a1), (0, a2), (0, a3), (0, a4), (2, (r40140 : Int)), (0, (9 * a2)), (0, v40194), (1, v40196), (9, 0)], [], _, _, _)
                            refine ev_lload rfl ?_
                            exact ev_ret rfl (by decide) (by decide) ⟨_, rfl, by omega, by omega, g40202, k40202⟩
                        · refine ev_ldc2_w ?_
                          exact ev_ret rfl (by decide) (by decide) ⟨_, rfl, by omega, by omega, g40189, k40189⟩
          · refine ev_iconst ?_
            refine ev_goto f142_22 ?_
            refine ev_ret rfl (by decide) (by decide) ?_
            show jEv _ _ _ _ _ _ _ (_, [(2, 0), (0, a2), (0, a3)], [(0, 1)], _, _, _)
            refine ev_ifne f232_58 (fun c40203 => ?_) (fun c40203 => absurd c40203 (by omega))
            refine ev_iconst ?_
            refine ev_ret rfl (by decide) (by decide) ?_
            show jEv _ _ _ _ _ _ _ (_, [(2, 0), (0, a1), (0, a2), (0, a3), (0, a4), (2, (r40140 : Int)), (9, 0), (9, 0), (9, 0), (9, 0)], [(0, 0)], _, _, _)
            refine ev_ifeq f194_38 (fun c40204 => ?_) (fun c40204 => absurd c40204 (by omega))
            refine ev_ldc2_w ?_
            exact ev_ret rfl (by decide) (by decide) ⟨_, rfl, by omega, by omega, g, k0⟩
    · refine ev_aconst_null ?_
      refine ev_goto f219_22 ?_
      refine ev_ret rfl (by decide) (by decide) ?_
      show jEv _ _ _ _ _ _ _ (_, [(2, 0), (0, a1), (0, a2), (0, a3), (0, a4), (9, 0), (9, 0), (9, 0), (9, 0), (9, 0)], [(2, (-1))], _, _, _)
      refine ev_astore (L' := [(2, 0), (0, a1), (0, a2), (0, a3), (0, a4), (2, (-1)), (9, 0), (9, 0), (9, 0), (9, 0)]) (Nat.le_of_ble_eq_true rfl) rfl ?_
      refine ev_aload rfl ?_
      refine ev_ifnull f194_38 (fun c40205 => ?_) (fun c40205 => absurd c40205 (by decide))
      refine ev_ldc2_w ?_
      exact ev_ret rfl (by decide) (by decide) ⟨_, rfl, by omega, by omega, g, k0⟩
/-! 383 fill -/
set_option maxHeartbeats 4000000 in
theorem s383_l {G : GH} {h : JH}  : ∀ N : Nat, (∀ (h1 : JH) (x2 : Int), Gd G h1 → Kp [(27, 0)] h h1 → 0 ≤ x2 → x2 ≤ 32 → ((-x2) + 32) < N → jEv (jOk 0) none (fun _ => 0) c383_0 0 0 (PV G [(27, 0)] h) (c383_5, [(2, 27), (0, 0), (0, x2), (0, 32)], [], h1, 0, 0)) := by
  intro N
  induction N with
  | zero => exact fun h1 x2 g1 k1 b0 b1 hm => absurd hm (by omega)
  | succ N ih =>
    show _
    intro h1 x2 g1 k1 b0 b1 hm
    refine ev_iload_n rfl ?_
    refine ev_iload_n rfl ?_
    refine ev_icmpge f383_20 (fun c40252 => ?_) (fun c40252 => ?_)
    · exact ev_ret rfl (by decide) (by decide) ⟨rfl, g1, k1⟩
    · refine ev_aload_n rfl ?_
      refine ev_iload_n rfl ?_
      refine ev_iload_n rfl ?_
      refine g_iast g1 ad27 rt27 (fun _ => rfl) (by omega) (by omega) (by omega) (by omega) (fun h40253 e40253 g40253 => ?_)
      have k40253 := k1.wr e40253 rfl
      refine ev_iinc (w := (x2 + 1)) (L' := [(2, 27), (0, 0), (0, (x2 + 1)), (0, 32)]) rfl (by unfold w32; omega) rfl ?_
      refine ev_goto f383_5 ?_
      exact ih _ _ g40253 k40253 (by omega) (by omega) (by omega)
set_option maxHeartbeats 4000000 in
theorem s383 {G : GH} {h : JH} (g : Gd G h)  : jOk 1 0 0 383 [(2, 27), (0, 0)] h (PV G [(27, 0)] h) := by
  refine ⟨by decide, by rw [ml383]; exact Nat.le_of_ble_eq_true rfl, ?_⟩
  rw [ml383, pp383]
  show jEv _ none _ c383_0 0 0 _ (c383_0, [(2, 27), (0, 0), (9, 0), (9, 0)], [], h, 0, 0)
  have k0 := Kp.rf [(27, 0)] h
  refine ev_iconst ?_
  refine ev_istore_n (L' := [(2, 27), (0, 0), (0, 0), (9, 0)]) (Nat.le_of_ble_eq_true rfl) rfl ?_
  refine ev_aload_n rfl ?_
  refine ev_aln (r := 27) (m := 32) (g.lt ad27) (by rw [g.tg ad27]; decide) (by rw [g.tg ad27]; decide) (g.ln ad27) (by decide) ?_
  refine ev_istore_n (L' := [(2, 27), (0, 0), (0, 0), (0, 32)]) (Nat.le_of_ble_eq_true rfl) rfl ?_
  exact (s383_l  66) _ _ g k0 (by omega) (by omega) (by omega)
/-! 103 layTable -/
set_option maxHeartbeats 4000000 in
theorem s103 {G : GH} {h : JH} (g : Gd G h) {a1 : Int} (la1 : 1 ≤ a1) (ua1 : a1 ≤ 4) {a2 : Int} (la2 : 1 ≤ a2) (ua2 : a2 ≤ 4) : jOk 2 0 0 103 [(2, 26), (0, a1), (0, a2)] h (PV G [(26, 1), (26, 2), (27, 0)] h) := by
  refine ⟨by decide, by rw [ml103]; exact Nat.le_of_ble_eq_true rfl, ?_⟩
  rw [ml103, pp103]
  show jEv _ none _ c103_0 0 0 _ (c103_0, [(2, 26), (0, a1), (0, a2)], [], h, 0, 0)
  have k0 := Kp.rf [(26, 1), (26, 2), (27, 0)] h
  refine ev_aload_n rfl ?_
  refine ev_iload_n rfl ?_
  refine g_putf (r := 26) g ad26 (by decide) ft9_0 (by decide) (fun e => absurd e nz9_0) rf26_0 (by decide) (by omega) (by omega) (fun h40260 e40260 g40260 => ?_)
  have k40260 := k0.wr e40260 rfl
  refine ev_aload_n rfl ?_
  refine ev_iload_n rfl ?_
  refine g_putf (r := 26) g40260 ad26 (by decide) ft9_1 (by decide) (fun e => absurd e nz9_1) rf26_1 (by decide) (by omega) (by omega) (fun h40261 e40261 g40261 => ?_)
  have k40261 := k40260.wr e40261 rfl
  refine ev_aload_n rfl ?_
  refine g_getp (r := 26) (c := 27) g40261 ad26 (by decide) (by decide) rf26_2 ft9_2 ?_
  refine ev_iconst ?_
  refine ev_call (jcall_s (A := [(0, 0), (2, 27)]) (S' := []) (by decide) rfl (Nat.le_of_ble_eq_true rfl)) (jOk_le (by decide) (s383 g40261 )) (by decide) (by decide) (fun w40262 h40262 q40262 => ?_)
  obtain ⟨rfl, g40262, kk40262⟩ := q40262
  have k40262 := k40261.tr kk40262 (by decide)
  show jEv _ _ _ _ _ _ _ (_, [(2, 26), (0, a1), (0, a2)], [], _, _, _)
  exact ev_ret rfl (by decide) (by decide) ⟨rfl, g40262, k40262⟩
/-! 195 table -/
set_option maxHeartbeats 4000000 in
theorem s195 {G : GH} {h : JH} (g : Gd G h) {a1 : Int} (la1 : (-2147483648) ≤ a1) (ua1 : a1 ≤ 2147483647) {a2 : Int} (la2 : (-2147483648) ≤ a2) (ua2 : a2 ≤ 2147483647) : jOk 3 0 0 195 [(2, 0), (0, a1), (0, a2)] h (PI G [(26, 1), (26, 2), (27, 0)] h 0 (-1) 16) := by
  refine ⟨by decide, by rw [ml195]; exact Nat.le_of_ble_eq_true rfl, ?_⟩
  rw [ml195, pp195]
  show jEv _ none _ c195_0 0 0 _ (c195_0, [(2, 0), (0, a1), (0, a2)], [], h, 0, 0)
  have k0 := Kp.rf [(26, 1), (26, 2), (27, 0)] h
  refine ev_iload_n rfl ?_
  refine ev_iconst ?_
  refine ev_icmplt f195_20 (fun c40275 => ?_) (fun c40275 => ?_)
  · refine ev_iconst ?_
    exact ev_ret rfl (by decide) (by decide) ⟨_, rfl, by omega, by omega, g, k0⟩
  · refine ev_iload_n rfl ?_
    refine ev_iconst ?_
    refine ev_icmpgt f195_20 (fun c40276 => ?_) (fun c40276 => ?_)
    · refine ev_iconst ?_
      exact ev_ret rfl (by decide) (by decide) ⟨_, rfl, by omega, by omega, g, k0⟩
    · refine ev_iload_n rfl ?_
      refine ev_iconst ?_
      refine ev_icmplt f195_20 (fun c40277 => ?_) (fun c40277 => ?_)
      · refine ev_iconst ?_
        exact ev_ret rfl (by decide) (by decide) ⟨_, rfl, by omega, by omega, g, k0⟩
      · refine ev_iload_n rfl ?_
        refine ev_iconst ?_
        refine ev_icmple f195_22 (fun c40278 => ?_) (fun c40278 => ?_)
        · refine ev_aload_n rfl ?_
          refine g_getp (r := 0) (c := 26) g ad0 (by decide) (by decide) rf0_11 ft11_11 ?_
          refine ev_iload_n rfl ?_
          refine ev_iload_n rfl ?_
          refine ev_call (jcall_v (A := [(0, a2), (0, a1)]) (S' := []) (r := 26) rfl (g.lt ad26) (g.tg ad26) (Nat.le_of_ble_eq_true rfl)) (jOk_le (by decide) (s103 g (by omega) (by omega) (by omega) (by omega))) (by decide) (by decide) (fun w40279 h40279 q40279 => ?_)
          obtain ⟨rfl, g40279, kk40279⟩ := q40279
          have k40279 := k0.tr kk40279 (by decide)
          show jEv _ _ _ _ _ _ _ (_, [(2, 0), (0, a1), (0, a2)], [], _, _, _)
          refine ev_iload_n rfl ?_
          refine ev_iload_n rfl ?_
          refine g_imulB (a := 4) (b := 4) (a' := 1) (b' := 1) (by omega) (by omega) (by omega) (by omega) (by decide) (lo := 1) (hi := 16) (by decide) (by decide) (fun v40280 ev40280 lv40280 uv40280 => ?_)
          exact ev_ret rfl (by decide) (by decide) ⟨_, rfl, by omega, by omega, g40279, k40279⟩
        · refine ev_iconst ?_
          exact ev_ret rfl (by decide) (by decide) ⟨_, rfl, by omega, by omega, g, k0⟩
/-! 196 cell -/
set_option maxHeartbeats 4000000 in
theorem s196 {G : GH} {h : JH} (g : Gd G h) {a1 : Int} (la1 : (-2147483648) ≤ a1) (ua1 : a1 ≤ 2147483647) {a2 : Int} (la2 : (-2147483648) ≤ a2) (ua2 : a2 ≤ 2147483647) {a3 : Int} (la3 : (-2147483648) ≤ a3) (ua3 : a3 ≤ 2147483647) : jOk 3 0 0 196 [(2, 0), (0, a1), (0, a2), (0, a3)] h (PI G [(27, 0)] h 0 (-2000000000) 99) := by
  refine ⟨by decide, by rw [ml196]; exact Nat.le_of_ble_eq_true rfl, ?_⟩
  rw [ml196, pp196]
  show jEv _ none _ c196_0 0 0 _ (c196_0, [(2, 0), (0, a1), (0, a2), (0, a3)], [], h, 0, 0)
  have k0 := Kp.rf [(27, 0)] h
  refine ev_iload_n rfl ?_
  refine ev_iflt f196_43 (fun c40321 => ?_) (fun c40321 => ?_)
  · refine ev_ldc ?_
    exact ev_ret rfl (by decide) (by decide) ⟨_, rfl, by omega, by omega, g, k0⟩
  · refine ev_aload_n rfl ?_
    refine g_getp (r := 0) (c := 26) g ad0 (by decide) (by decide) rf0_11 ft11_11 ?_
    refine ev_iload_n rfl ?_
    refine ev_bipush ?_
    refine g_idivP (c := 10) rfl (by decide) (by omega) (by omega) (fun v40322 ev40322 lv40322 uv40322 => ?_)
    refine ev_iload_n rfl ?_
    refine ev_bipush ?_
    refine g_iremP (c := 10) rfl (by decide) (by omega) (fun v40323 ev40323 lv40323 uv40323 wv40323 => ?_)
    refine ev_in (d := 1) (a := 0) (b := 0) (cd' := c105_0) (m := 3) (L0 := [(2, 26), (0, v40322), (0, v40323)]) (jcall_v (A := [(0, v40323), (0, v40322)]) (S' := []) (r := 26) rfl (g.lt ad26) (g.tg ad26) (Nat.le_of_ble_eq_true rfl)) (by decide) ml105 pp105 (Nat.le_of_ble_eq_true rfl) rfl (by decide) (by decide) ?_
    refine ev_iload_n rfl ?_
    refine ev_iflt f105_28 (fun c40324 => absurd c40324 (by omega)) (fun c40324 => ?_)
    refine ev_iload_n rfl ?_
    refine ev_aload_n rfl ?_
    obtain ⟨v40325, ev40325, lv40325, uv40325⟩ := g.rd ad26 (show 0 < 15 by decide) rf26_0
    refine g_getv (r := 26) (v := v40325) g ad26 (by decide) ft9_0 ev40325 ?_
    refine ev_icmpge f105_28 (fun c40326 => ?_) (fun c40326 => ?_)
    · refine ev_iconst ?_
      refine ev_ret rfl (by decide) (by decide) ?_
      show jEv _ _ _ _ _ _ _ (_, [(2, 0), (0, a1), (0, a2), (0, a3)], [(0, 0)], _, _, _)
      refine ev_ifeq f196_43 (fun c40327 => ?_) (fun c40327 => absurd c40327 (by omega))
      refine ev_ldc ?_
      exact ev_ret rfl (by decide) (by decide) ⟨_, rfl, by omega, by omega, g, k0⟩
    · refine ev_iload_n rfl ?_
      refine ev_iflt f105_28 (fun c40328 => absurd c40328 (by omega)) (fun c40328 => ?_)
      refine ev_iload_n rfl ?_
      refine ev_aload_n rfl ?_
      obtain ⟨v40329, ev40329, lv40329, uv40329⟩ := g.rd ad26 (show 1 < 15 by decide) rf26_1
      refine g_getv (r := 26) (v := v40329) g ad26 (by decide) ft9_1 ev40329 ?_
      refine ev_icmpge f105_28 (fun c40330 => ?_) (fun c40330 => ?_)
      · refine ev_iconst ?_
        refine ev_ret rfl (by decide) (by decide) ?_
        show jEv _ _ _ _ _ _ _ (_, [(2, 0), (0, a1), (0, a2), (0, a3)], [(0, 0)], _, _, _)
        refine ev_ifeq f196_43 (fun c40331 => ?_) (fun c40331 => absurd c40331 (by omega))
        refine ev_ldc ?_
        exact ev_ret rfl (by decide) (by decide) ⟨_, rfl, by omega, by omega, g, k0⟩
      · refine ev_iconst ?_
        refine ev_goto f105_29 ?_
        refine ev_ret rfl (by decide) (by decide) ?_
        show jEv _ _ _ _ _ _ _ (_, [(2, 0), (0, a1), (0, a2), (0, a3)], [(0, 1)], _, _, _)
        refine ev_ifeq f196_43 (fun c40332 => absurd c40332 (by omega)) (fun c40332 => ?_)
        refine ev_iload_n rfl ?_
        refine ev_iflt f196_43 (fun c40333 => ?_) (fun c40333 => ?_)
        · refine ev_ldc ?_
          exact ev_ret rfl (by decide) (by decide) ⟨_, rfl, by omega, by omega, g, k0⟩
        · refine ev_iload_n rfl ?_
          refine ev_iconst ?_
          refine ev_icmpgt f196_43 (fun c40334 => ?_) (fun c40334 => ?_)
          · refine ev_ldc ?_
            exact ev_ret rfl (by decide) (by decide) ⟨_, rfl, by omega, by omega, g, k0⟩
          · refine ev_iload_n rfl ?_
            refine ev_bipush ?_
            refine ev_icmplt f196_43 (fun c40335 => ?_) (fun c40335 => ?_)
            · refine ev_ldc ?_
              exact ev_ret rfl (by decide) (by decide) ⟨_, rfl, by omega, by omega, g, k0⟩
            · refine ev_iload_n rfl ?_
              refine ev_bipush ?_
              refine ev_icmple f196_46 (fun c40336 => ?_) (fun c40336 => ?_)
              · refine ev_aload_n rfl ?_
                refine g_getp (r := 0) (c := 26) g ad0 (by decide) (by decide) rf0_11 ft11_11 ?_
                refine ev_iload_n rfl ?_
                refine ev_bipush ?_
                refine g_idivP (c := 10) rfl (by decide) (by omega) (by omega) (fun v40337 ev40337 lv40337 uv40337 => ?_)
                obtain rfl : v40322 = v40337 := by omega
                refine ev_iload_n rfl ?_
                refine ev_bipush ?_
                refine g_iremP (c := 10) rfl (by decide) (by omega) (fun v40338 ev40338 lv40338 uv40338 wv40338 => ?_)
                obtain rfl : v40323 = v40338 := by omega
                refine ev_iload_n rfl ?_
                refine ev_iload_n rfl ?_
                refine ev_in (d := 1) (a := 0) (b := 0) (cd' := c107_0) (m := 6) (L0 := [(2, 26), (0, v40322), (0, v40323), (0, a2), (0, a3), (9, 0)]) (jcall_v (A := [(0, a3), (0, a2), (0, v40323), (0, v40322)]) (S' := []) (r := 26) rfl (g.lt ad26) (g.tg ad26) (Nat.le_of_ble_eq_true rfl)) (by decide) ml107 pp107 (Nat.le_of_ble_eq_true rfl) rfl (by decide) (by decide) ?_
                refine ev_aload_n rfl ?_
                refine ev_iload_n rfl ?_
                refine ev_iload_n rfl ?_
                refine ev_iload_n rfl ?_
                refine ev_in (d := 0) (a := 0) (b := 0) (cd' := c106_0) (m := 4) (L0 := [(2, 26), (0, v40322), (0, v40323), (0, a2)]) (jcall_v (A := [(0, a2), (0, v40323), (0, v40322)]) (S' := []) (r := 26) rfl (g.lt ad26) (g.tg ad26) (Nat.le_of_ble_eq_true rfl)) (by decide) ml106 pp106 (Nat.le_of_ble_eq_true rfl) rfl (by decide) (by decide) ?_
                refine ev_aload_n rfl ?_
                refine g_getp (r := 26) (c := 27) g ad26 (by decide) (by decide) rf26_2 ft9_2 ?_
                refine ev_bipush ?_
                refine ev_iload_n rfl ?_
                refine ev_imul (r := (8 * v40322)) (by unfold w32; omega) ?_
                refine ev_iconst ?_
                refine ev_iload_n rfl ?_
                refine ev_imul (r := (2 * v40323)) (by unfold w32; omega) ?_
                refine ev_iadd (r := (8 * v40322 + 2 * v40323)) (by unfold w32; omega) ?_
                refine ev_iload_n rfl ?_
                refine ev_iadd (r := (a2 + 8 * v40322 + 2 * v40323)) (by unfold w32; omega) ?_
                refine g_iald g ad27 rt27 (by omega) (by omega) (fun v40339 ev40339 lv40339 uv40339 => ?_)
                refine ev_ret rfl (by decide) (by decide) ?_
                show jEv _ _ _ _ _ _ _ (_, [(2, 26), (0, v40322), (0, v40323), (0, a2), (0, a3), (9, 0)], [(0, v40339)], _, _, _)
                refine ev_istore (L' := [(2, 26), (0, v40322), (0, v40323), (0, a2), (0, a3), (0, v40339)]) (Nat.le_of_ble_eq_true rfl) rfl ?_
                refine ev_aload_n rfl ?_
                refine g_getp (r := 26) (c := 27) g ad26 (by decide) (by decide) rf26_2 ft9_2 ?_
                refine ev_bipush ?_
                refine ev_iload_n rfl ?_
                refine ev_imul (r := (8 * v40322)) (by unfold w32; omega) ?_
                refine ev_iconst ?_
                refine ev_iload_n rfl ?_
                refine ev_imul (r := (2 * v40323)) (by unfold w32; omega) ?_
                refine ev_iadd (r := (8 * v40322 + 2 * v40323)) (by unfold w32; omega) ?_
                refine ev_iload_n rfl ?_
                refine ev_iadd (r := (a2 + 8 * v40322 + 2 * v40323)) (by unfold w32; omega) ?_
                refine ev_iload rfl ?_
                refine g_iast g ad27 rt27 (fun _ => rfl) (by omega) (by omega) (by omega) (by omega) (fun h40340 e40340 g40340 => ?_)
                have k40340 := k0.wr e40340 rfl
                refine ev_iload rfl ?_
                refine ev_ret rfl (by decide) (by decide) ?_
                show jEv _ _ _ _ _ _ _ (_, [(2, 0), (0, a1), (0, a2), (0, a3)], [(0, v40339)], _, _, _)
                exact ev_ret rfl (by decide) (by decide) ⟨_, rfl, by omega, by omega, g40340, k40340⟩
              · refine ev_ldc ?_
                exact ev_ret rfl (by decide) (by decide) ⟨_, rfl, by omega, by omega, g, k0⟩
/-! 197 sure -/
set_option maxHeartbeats 4000000 in
theorem s197 {G : GH} {h : JH} (g : Gd G h) {a1 : Int} (la1 : (-2147483648) ≤ a1) (ua1 : a1 ≤ 2147483647) : jOk 4 0 0 197 [(2, 0), (0, a1)] h (PI G [] h 0 (-2147483648) 2147483647) := by
  refine ⟨by decide, by rw [ml197]; exact Nat.le_of_ble_eq_true rfl, ?_⟩
  rw [ml197, pp197]
  show jEv _ none _ c197_0 0 0 _ (c197_0, [(2, 0), (0, a1)], [], h, 0, 0)
  have k0 := Kp.rf [] h
  refine ev_iload_n rfl ?_
  refine ev_iconst ?_
  refine ev_icmplt f197_15 (fun c40355 => ?_) (fun c40355 => ?_)
  · refine ev_iconst ?_
    refine ev_goto f197_27 ?_
    exact ev_ret rfl (by decide) (by decide) ⟨_, rfl, by omega, by omega, g, k0⟩
  · refine ev_aload_n rfl ?_
    refine g_getp (r := 0) (c := 26) g ad0 (by decide) (by decide) rf0_11 ft11_11 ?_
    refine ev_in (d := 2) (a := 0) (b := 0) (cd' := c104_0) (m := 1) (L0 := [(2, 26)]) (jcall_v (A := []) (S' := []) (r := 26) rfl (g.lt ad26) (g.tg ad26) (Nat.le_of_ble_eq_true rfl)) (by decide) ml104 pp104 (Nat.le_of_ble_eq_true rfl) rfl (by decide) (by decide) ?_
    refine ev_aload_n rfl ?_
    obtain ⟨v40356, ev40356, lv40356, uv40356⟩ := g.rd ad26 (show 0 < 15 by decide) rf26_0
    refine g_getv (r := 26) (v := v40356) g ad26 (by decide) ft9_0 ev40356 ?_
    refine ev_ifle f104_11 (fun c40357 => ?_) (fun c40357 => ?_)
    · refine ev_iconst ?_
      refine ev_ret rfl (by decide) (by decide) ?_
      show jEv _ _ _ _ _ _ _ (_, [(2, 0), (0, a1)], [(0, 0)], _, _, _)
      refine ev_ifne f197_19 (fun c40358 => absurd c40358 (by omega)) (fun c40358 => ?_)
      refine ev_iconst ?_
      refine ev_goto f197_27 ?_
      exact ev_ret rfl (by decide) (by decide) ⟨_, rfl, by omega, by omega, g, k0⟩
    · refine ev_iconst ?_
      refine ev_goto f104_12 ?_
      refine ev_ret rfl (by decide) (by decide) ?_
      show jEv _ _ _ _ _ _ _ (_, [(2, 0), (0, a1)], [(0, 1)], _, _, _)
      refine ev_ifne f197_19 (fun c40359 => ?_) (fun c40359 => absurd c40359 (by omega))
      refine ev_aload_n rfl ?_
      refine g_getp (r := 0) (c := 26) g ad0 (by decide) (by decide) rf0_11 ft11_11 ?_
      refine ev_iload_n rfl ?_
      refine ev_call (jcall_v (A := [(0, a1)]) (S' := []) (r := 26) rfl (g.lt ad26) (g.tg ad26) (Nat.le_of_ble_eq_true rfl)) (jOk_le (by decide) (s109 g (by omega) (by omega))) (by decide) (by decide) (fun w40360 h40360 q40360 => ?_)
      obtain ⟨v40361, rfl, lv40361, uv40361, g40360, kk40360⟩ := q40360
      have k40360 := k0.tr kk40360 (by decide)
      show jEv _ _ _ _ _ _ _ (_, [(2, 0), (0, a1)], [(0, v40361)], _, _, _)
      exact ev_ret rfl (by decide) (by decide) ⟨_, rfl, by omega, by omega, g40360, k40360⟩
/-! 198 lots -/
set_option maxHeartbeats 4000000 in
theorem s198 {G : GH} {h : JH} (g : Gd G h) {a1 : Int} (la1 : (-2147483648) ≤ a1) (ua1 : a1 ≤ 2147483647) : jOk 5 0 0 198 [(2, 0), (0, a1)] h (PI G [] h 0 (-2147483648) 2147483647) := by
  refine ⟨by decide, by rw [ml198]; exact Nat.le_of_ble_eq_true rfl, ?_⟩
  rw [ml198, pp198]
  show jEv _ none _ c198_0 0 0 _ (c198_0, [(2, 0), (0, a1), (9, 0), (9, 0), (9, 0), (9, 0)], [], h, 0, 0)
  have k0 := Kp.rf [] h
  refine ev_iload_n rfl ?_
  refine ev_in (d := 3) (a := 0) (b := 0) (cd' := c221_0) (m := 1) (L0 := [(0, a1)]) (jcall_s (A := [(0, a1)]) (S' := []) (by decide) rfl (Nat.le_of_ble_eq_true rfl)) (by decide) ml221 pp221 (Nat.le_of_ble_eq_true rfl) rfl (by decide) (by decide) ?_
  refine ev_iload_n rfl ?_
  refine ev_ifeq f221_9 (fun c40428 => ?_) (fun c40428 => ?_)
  · refine ev_iconst ?_
    refine ev_goto f221_14 ?_
    refine ev_ret rfl (by decide) (by decide) ?_
    show jEv _ _ _ _ _ _ _ (_, [(2, 0), (0, a1), (9, 0), (9, 0), (9, 0), (9, 0)], [(0, 1)], _, _, _)
    refine ev_ifne f198_10 (fun c40429 => ?_) (fun c40429 => absurd c40429 (by omega))
    refine ev_aload_n rfl ?_
    refine g_getp (r := 0) (c := 26) g ad0 (by decide) (by decide) rf0_11 ft11_11 ?_
    refine ev_call (jcall_v (A := []) (S' := []) (r := 26) rfl (g.lt ad26) (g.tg ad26) (Nat.le_of_ble_eq_true rfl)) (jOk_le (by decide) (s110 g )) (by decide) (by decide) (fun w40430 h40430 q40430 => ?_)
    obtain ⟨v40431, rfl, lv40431, uv40431, g40430, kk40430⟩ := q40430
    have k40430 := k0.tr kk40430 (by decide)
    show jEv _ _ _ _ _ _ _ (_, [(2, 0), (0, a1), (9, 0), (9, 0), (9, 0), (9, 0)], [(0, v40431)], _, _, _)
    refine ev_ifne f198_23 (fun c40432 => ?_) (fun c40432 => ?_)
    · refine ev_aload_n rfl ?_
      refine g_getp (r := 0) (c := 26) g40430 ad0 (by decide) (by decide) rf0_11 ft11_11 ?_
      refine ev_call (jcall_v (A := []) (S' := []) (r := 26) rfl (g40430.lt ad26) (g40430.tg ad26) (Nat.le_of_ble_eq_true rfl)) (jOk_le (by decide) (s114 g40430 )) (by decide) (by decide) (fun w40433 h40433 q40433 => ?_)
      obtain ⟨v40434, rfl, lv40434, uv40434, g40433, kk40433⟩ := q40433
      have k40433 := k40430.tr kk40433 (by decide)
      show jEv _ _ _ _ _ _ _ (_, [(2, 0), (0, a1), (9, 0), (9, 0), (9, 0), (9, 0)], [(1, v40434)], _, _, _)
      refine ev_lstore_n (L' := [(2, 0), (0, a1), (1, v40434), (9, 0), (9, 0), (9, 0)]) (Nat.le_of_ble_eq_true rfl) rfl ?_
      refine ev_aload_n rfl ?_
      refine g_getp (r := 0) (c := 26) g40433 ad0 (by decide) (by decide) rf0_11 ft11_11 ?_
      refine ev_call (jcall_v (A := []) (S' := []) (r := 26) rfl (g40433.lt ad26) (g40433.tg ad26) (Nat.le_of_ble_eq_true rfl)) (jOk_le (by decide) (s115 g40433 )) (by decide) (by decide) (fun w40435 h40435 q40435 => ?_)
      obtain ⟨v40436, rfl, lv40436, uv40436, g40435, kk40435⟩ := q40435
      have k40435 := k40433.tr kk40435 (by decide)
      show jEv _ _ _ _ _ _ _ (_, [(2, 0), (0, a1), (1, v40434), (9, 0), (9, 0), (9, 0)], [(1, v40436)], _, _, _)
      refine ev_lstore (L' := [(2, 0), (0, a1), (1, v40434), (9, 0), (1, v40436), (9, 0)]) (Nat.le_of_ble_eq_true rfl) rfl ?_
      refine ev_lload rfl ?_
      refine ev_lconst ?_
      refine ev_lcmp ?_
      refine ev_ifge f198_59 (fun c40437 => ?_) (fun c40437 => ?_)
      · have c40437b := jcmpL_ge c40437
        refine ev_lload_n rfl ?_
        refine ev_lload rfl ?_
        refine ev_iload_n rfl ?_
        refine ev_call (jcall_s (A := [(0, a1), (1, v40436), (1, v40434)]) (S' := []) (by decide) rfl (Nat.le_of_ble_eq_true rfl)) (jOk_le (by decide) (s223 g40435 (by omega) (by omega) (by omega) (by omega) (by omega) (by omega))) (by decide) (by decide) (fun w40438 h40438 q40438 => ?_)
        obtain ⟨v40439, rfl, lv40439, uv40439, g40438, kk40438⟩ := q40438
        have k40438 := k40435.tr kk40438 (by decide)
        show jEv _ _ _ _ _ _ _ (_, [(2, 0), (0, a1), (1, v40434), (9, 0), (1, v40436), (9, 0)], [(1, v40439)], _, _, _)
        refine g_l2iG (fun v40440 ev40440 lv40440 uv40440 => ?_)
        exact ev_ret rfl (by decide) (by decide) ⟨_, rfl, by omega, by omega, g40438, k40438⟩
      · have c40437b := jcmpL_geN c40437
        refine ev_lload_n rfl ?_
        refine ev_lneg (r := ((-v40434))) (by unfold w64; omega) ?_
        refine ev_lload rfl ?_
        refine ev_lneg (r := ((-v40436))) (by unfold w64; omega) ?_
        refine ev_iload_n rfl ?_
        refine ev_call (jcall_s (A := [(0, a1), (1, ((-v40436))), (1, ((-v40434)))]) (S' := []) (by decide) rfl (Nat.le_of_ble_eq_true rfl)) (jOk_le (by decide) (s223 g40435 (by omega) (by omega) (by omega) (by omega) (by omega) (by omega))) (by decide) (by decide) (fun w40441 h40441 q40441 => ?_)
        obtain ⟨v40442, rfl, lv40442, uv40442, g40441, kk40441⟩ := q40441
        have k40441 := k40435.tr kk40441 (by decide)
        show jEv _ _ _ _ _ _ _ (_, [(2, 0), (0, a1), (1, v40434), (9, 0), (1, v40436), (9, 0)], [(1, v40442)], _, _, _)
        refine ev_goto f198_66 ?_
        refine g_l2iG (fun v40443 ev40443 lv40443 uv40443 => ?_)
        exact ev_ret rfl (by decide) (by decide) ⟨_, rfl, by omega, by omega, g40441, k40441⟩
    · refine ev_bipush ?_
      exact ev_ret rfl (by decide) (by decide) ⟨_, rfl, by omega, by omega, g40430, k40430⟩
  · refine ev_iload_n rfl ?_
    refine ev_iconst ?_
    refine ev_icmpne f221_13 (fun c40444 => ?_) (fun c40444 => ?_)
    · refine ev_iconst ?_
      refine ev_ret rfl (by decide) (by decide) ?_
      show jEv _ _ _ _ _ _ _ (_, [(2, 0), (0, a1), (9, 0), (9, 0), (9, 0), (9, 0)], [(0, 0)], _, _, _)
      refine ev_ifne f198_10 (fun c40445 => absurd c40445 (by omega)) (fun c40445 => ?_)
      refine ev_ldc ?_
      exact ev_ret rfl (by decide) (by decide) ⟨_, rfl, by omega, by omega, g, k0⟩
    · refine ev_iconst ?_
      refine ev_goto f221_14 ?_
      refine ev_ret rfl (by decide) (by decide) ?_
      show jEv _ _ _ _ _ _ _ (_, [(2, 0), (0, a1), (9, 0), (9, 0), (9, 0), (9, 0)], [(0, 1)], _, _, _)
      refine ev_ifne f198_10 (fun c40446 => ?_) (fun c40446 => absurd c40446 (by omega))
      refine ev_aload_n rfl ?_
      refine g_getp (r := 0) (c := 26) g ad0 (by decide) (by decide) rf0_11 ft11_11 ?_
      refine ev_call (jcall_v (A := []) (S' := []) (r := 26) rfl (g.lt ad26) (g.tg ad26) (Nat.le_of_ble_eq_true rfl)) (jOk_le (by decide) (s110 g )) (by decide) (by decide) (fun w40447 h40447 q40447 => ?_)
      obtain ⟨v40448, rfl, lv40448, uv40448, g40447, kk40447⟩ := q40447
      have k40447 := k0.tr kk40447 (by decide)
      show jEv _ _ _ _ _ _ _ (_, [(2, 0), (0, a1), (9, 0), (9, 0), (9, 0), (9, 0)], [(0, v40448)], _, _, _)
      refine ev_ifne f198_23 (fun c40449 => ?_) (fun c40449 => ?_)
      · refine ev_aload_n rfl ?_
        refine g_getp (r := 0) (c := 26) g40447 ad0 (by decide) (by decide) rf0_11 ft11_11 ?_
        refine ev_call (jcall_v (A := []) (S' := []) (r := 26) rfl (g40447.lt ad26) (g40447.tg ad26) (Nat.le_of_ble_eq_true rfl)) (jOk_le (by decide) (s114 g40447 )) (by decide) (by decide) (fun w40450 h40450 q40450 => ?_)
        obtain ⟨v40451, rfl, lv40451, uv40451, g40450, kk40450⟩ := q40450
        have k40450 := k40447.tr kk40450 (by decide)
        show jEv _ _ _ _ _ _ _ (_, [(2, 0), (0, a1), (9, 0), (9, 0), (9, 0), (9, 0)], [(1, v40451)], _, _, _)
        refine ev_lstore_n (L' := [(2, 0), (0, a1), (1, v40451), (9, 0), (9, 0), (9, 0)]) (Nat.le_of_ble_eq_true rfl) rfl ?_
        refine ev_aload_n rfl ?_
        refine g_getp (r := 0) (c := 26) g40450 ad0 (by decide) (by decide) rf0_11 ft11_11 ?_
        refine ev_call (jcall_v (A := []) (S' := []) (r := 26) rfl (g40450.lt ad26) (g40450.tg ad26) (Nat.le_of_ble_eq_true rfl)) (jOk_le (by decide) (s115 g40450 )) (by decide) (by decide) (fun w40452 h40452 q40452 => ?_)
        obtain ⟨v40453, rfl, lv40453, uv40453, g40452, kk40452⟩ := q40452
        have k40452 := k40450.tr kk40452 (by decide)
        show jEv _ _ _ _ _ _ _ (_, [(2, 0), (0, a1), (1, v40451), (9, 0), (9, 0), (9, 0)], [(1, v40453)], _, _, _)
        refine ev_lstore (L' := [(2, 0), (0, a1), (1, v40451), (9, 0), (1, v40453), (9, 0)]) (Nat.le_of_ble_eq_true rfl) rfl ?_
        refine ev_lload rfl ?_
        refine ev_lconst ?_
        refine ev_lcmp ?_
        refine ev_ifge f198_59 (fun c40454 => ?_) (fun c40454 => ?_)
        · have c40454b := jcmpL_ge c40454
          refine ev_lload_n rfl ?_
          refine ev_lload rfl ?_
          refine ev_iload_n rfl ?_
          refine ev_call (jcall_s (A := [(0, a1), (1, v40453), (1, v40451)]) (S' := []) (by decide) rfl (Nat.le_of_ble_eq_true rfl)) (jOk_le (by decide) (s223 g40452 (by omega) (by omega) (by omega) (by omega) (by omega) (by omega))) (by decide) (by decide) (fun w40455 h40455 q40455 => ?_)
          obtain ⟨v40456, rfl, lv40456, uv40456, g40455, kk40455⟩ := q40455
          have k40455 := k40452.tr kk40455 (by decide)
          show jEv _ _ _ _ _ _ _ (_, [(2, 0), (0, a1), (1, v40451), (9, 0), (1, v40453), (9, 0)], [(1, v40456)], _, _, _)
          refine g_l2iG (fun v40457 ev40457 lv40457 uv40457 => ?_)
          exact ev_ret rfl (by decide) (by decide) ⟨_, rfl, by omega, by omega, g40455, k40455⟩
        · have c40454b := jcmpL_geN c40454
          refine ev_lload_n rfl ?_
          refine ev_lneg (r := ((-v40451))) (by unfold w64; omega) ?_
          refine ev_lload rfl ?_
          refine ev_lneg (r := ((-v40453))) (by unfold w64; omega) ?_
          refine ev_iload_n rfl ?_
          refine ev_call (jcall_s (A := [(0, a1), (1, ((-v40453))), (1, ((-v40451)))]) (S' := []) (by decide) rfl (Nat.le_of_ble_eq_true rfl)) (jOk_le (by decide) (s223 g40452 (by omega) (by omega) (by omega) (by omega) (by omega) (by omega))) (by decide) (by decide) (fun w40458 h40458 q40458 => ?_)
          obtain ⟨v40459, rfl, lv40459, uv40459, g40458, kk40458⟩ := q40458
          have k40458 := k40452.tr kk40458 (by decide)
          show jEv _ _ _ _ _ _ _ (_, [(2, 0), (0, a1), (1, v40451), (9, 0), (1, v40453), (9, 0)], [(1, v40459)], _, _, _)
          refine ev_goto f198_66 ?_
          refine g_l2iG (fun v40460 ev40460 lv40460 uv40460 => ?_)
          exact ev_ret rfl (by decide) (by decide) ⟨_, rfl, by omega, by omega, g40458, k40458⟩
      · refine ev_bipush ?_
        exact ev_ret rfl (by decide) (by decide) ⟨_, rfl, by omega, by omega, g40447, k40447⟩
/-! 199 struck -/
set_option maxHeartbeats 4000000 in
theorem s199 {G : GH} {h : JH} (g : Gd G h) {a1 : Int} (la1 : (-2147483648) ≤ a1) (ua1 : a1 ≤ 2147483647) : jOk 5 0 0 199 [(2, 0), (0, a1)] h (PI G [] h 0 (-1) 15) := by
  refine ⟨by decide, by rw [ml199]; exact Nat.le_of_ble_eq_true rfl, ?_⟩
  rw [ml199, pp199]
  show jEv _ none _ c199_0 0 0 _ (c199_0, [(2, 0), (0, a1)], [], h, 0, 0)
  have k0 := Kp.rf [] h
  refine ev_iload_n rfl ?_
  refine ev_in (d := 3) (a := 0) (b := 0) (cd' := c221_0) (m := 1) (L0 := [(0, a1)]) (jcall_s (A := [(0, a1)]) (S' := []) (by decide) rfl (Nat.le_of_ble_eq_true rfl)) (by decide) ml221 pp221 (Nat.le_of_ble_eq_true rfl) rfl (by decide) (by decide) ?_
  refine ev_iload_n rfl ?_
  refine ev_ifeq f221_9 (fun c40495 => ?_) (fun c40495 => ?_)
  · refine ev_iconst ?_
    refine ev_goto f221_14 ?_
    refine ev_ret rfl (by decide) (by decide) ?_
    show jEv _ _ _ _ _ _ _ (_, [(2, 0), (0, a1)], [(0, 1)], _, _, _)
    refine ev_ifeq f199_17 (fun c40496 => absurd c40496 (by omega)) (fun c40496 => ?_)
    refine ev_aload_n rfl ?_
    refine g_getp (r := 0) (c := 26) g ad0 (by decide) (by decide) rf0_11 ft11_11 ?_
    refine ev_in (d := 3) (a := 0) (b := 0) (cd' := c104_0) (m := 1) (L0 := [(2, 26)]) (jcall_v (A := []) (S' := []) (r := 26) rfl (g.lt ad26) (g.tg ad26) (Nat.le_of_ble_eq_true rfl)) (by decide) ml104 pp104 (Nat.le_of_ble_eq_true rfl) rfl (by decide) (by decide) ?_
    refine ev_aload_n rfl ?_
    obtain ⟨v40497, ev40497, lv40497, uv40497⟩ := g.rd ad26 (show 0 < 15 by decide) rf26_0
    refine g_getv (r := 26) (v := v40497) g ad26 (by decide) ft9_0 ev40497 ?_
    refine ev_ifle f104_11 (fun c40498 => ?_) (fun c40498 => ?_)
    · refine ev_iconst ?_
      refine ev_ret rfl (by decide) (by decide) ?_
      show jEv _ _ _ _ _ _ _ (_, [(2, 0), (0, a1)], [(0, 0)], _, _, _)
      refine ev_ifne f199_21 (fun c40499 => absurd c40499 (by omega)) (fun c40499 => ?_)
      refine ev_iconst ?_
      refine ev_goto f199_29 ?_
      exact ev_ret rfl (by decide) (by decide) ⟨_, rfl, by omega, by omega, g, k0⟩
    · refine ev_iconst ?_
      refine ev_goto f104_12 ?_
      refine ev_ret rfl (by decide) (by decide) ?_
      show jEv _ _ _ _ _ _ _ (_, [(2, 0), (0, a1)], [(0, 1)], _, _, _)
      refine ev_ifne f199_21 (fun c40500 => ?_) (fun c40500 => absurd c40500 (by omega))
      refine ev_aload_n rfl ?_
      refine g_getp (r := 0) (c := 26) g ad0 (by decide) (by decide) rf0_11 ft11_11 ?_
      refine ev_iload_n rfl ?_
      refine ev_call (jcall_v (A := [(0, a1)]) (S' := []) (r := 26) rfl (g.lt ad26) (g.tg ad26) (Nat.le_of_ble_eq_true rfl)) (jOk_le (by decide) (s116 g (by omega) (by omega))) (by decide) (by decide) (fun w40501 h40501 q40501 => ?_)
      obtain ⟨v40502, rfl, lv40502, uv40502, g40501, kk40501⟩ := q40501
      have k40501 := k0.tr kk40501 (by decide)
      show jEv _ _ _ _ _ _ _ (_, [(2, 0), (0, a1)], [(0, v40502)], _, _, _)
      exact ev_ret rfl (by decide) (by decide) ⟨_, rfl, by omega, by omega, g40501, k40501⟩
  · refine ev_iload_n rfl ?_
    refine ev_iconst ?_
    refine ev_icmpne f221_13 (fun c40503 => ?_) (fun c40503 => ?_)
    · refine ev_iconst ?_
      refine ev_ret rfl (by decide) (by decide) ?_
      show jEv _ _ _ _ _ _ _ (_, [(2, 0), (0, a1)], [(0, 0)], _, _, _)
      refine ev_ifeq f199_17 (fun c40504 => ?_) (fun c40504 => absurd c40504 (by omega))
      refine ev_iconst ?_
      refine ev_goto f199_29 ?_
      exact ev_ret rfl (by decide) (by decide) ⟨_, rfl, by omega, by omega, g, k0⟩
    · refine ev_iconst ?_
      refine ev_goto f221_14 ?_
      refine ev_ret rfl (by decide) (by decide) ?_
      show jEv _ _ _ _ _ _ _ (_, [(2, 0), (0, a1)], [(0, 1)], _, _, _)
      refine ev_ifeq f199_17 (fun c40505 => absurd c40505 (by omega)) (fun c40505 => ?_)
      refine ev_aload_n rfl ?_
      refine g_getp (r := 0) (c := 26) g ad0 (by decide) (by decide) rf0_11 ft11_11 ?_
      refine ev_in (d := 3) (a := 0) (b := 0) (cd' := c104_0) (m := 1) (L0 := [(2, 26)]) (jcall_v (A := []) (S' := []) (r := 26) rfl (g.lt ad26) (g.tg ad26) (Nat.le_of_ble_eq_true rfl)) (by decide) ml104 pp104 (Nat.le_of_ble_eq_true rfl) rfl (by decide) (by decide) ?_
      refine ev_aload_n rfl ?_
      obtain ⟨v40506, ev40506, lv40506, uv40506⟩ := g.rd ad26 (show 0 < 15 by decide) rf26_0
      refine g_getv (r := 26) (v := v40506) g ad26 (by decide) ft9_0 ev40506 ?_
      refine ev_ifle f104_11 (fun c40507 => ?_) (fun c40507 => ?_)
      · refine ev_iconst ?_
        refine ev_ret rfl (by decide) (by decide) ?_
        show jEv _ _ _ _ _ _ _ (_, [(2, 0), (0, a1)], [(0, 0)], _, _, _)
        refine ev_ifne f199_21 (fun c40508 => absurd c40508 (by omega)) (fun c40508 => ?_)
        refine ev_iconst ?_
        refine ev_goto f199_29 ?_
        exact ev_ret rfl (by decide) (by decide) ⟨_, rfl, by omega, by omega, g, k0⟩
      · refine ev_iconst ?_
        refine ev_goto f104_12 ?_
        refine ev_ret rfl (by decide) (by decide) ?_
        show jEv _ _ _ _ _ _ _ (_, [(2, 0), (0, a1)], [(0, 1)], _, _, _)
        refine ev_ifne f199_21 (fun c40509 => ?_) (fun c40509 => absurd c40509 (by omega))
        refine ev_aload_n rfl ?_
        refine g_getp (r := 0) (c := 26) g ad0 (by decide) (by decide) rf0_11 ft11_11 ?_
        refine ev_iload_n rfl ?_
        refine ev_call (jcall_v (A := [(0, a1)]) (S' := []) (r := 26) rfl (g.lt ad26) (g.tg ad26) (Nat.le_of_ble_eq_true rfl)) (jOk_le (by decide) (s116 g (by omega) (by omega))) (by decide) (by decide) (fun w40510 h40510 q40510 => ?_)
        obtain ⟨v40511, rfl, lv40511, uv40511, g40510, kk40510⟩ := q40510
        have k40510 := k0.tr kk40510 (by decide)
        show jEv _ _ _ _ _ _ _ (_, [(2, 0), (0, a1)], [(0, v40511)], _, _, _)
        exact ev_ret rfl (by decide) (by decide) ⟨_, rfl, by omega, by omega, g40510, k40510⟩
/-! 200 sort -/
set_option maxHeartbeats 4000000 in
theorem s200 {G : GH} {h : JH} (g : Gd G h) {a1 : Int} (la1 : (-2147483648) ≤ a1) (ua1 : a1 ≤ 2147483647) {a2 : Int} (la2 : (-2147483648) ≤ a2) (ua2 : a2 ≤ 2147483647) {a3 : Int} (la3 : (-2147483648) ≤ a3) (ua3 : a3 ≤ 2147483647) : jOk 2 0 0 200 [(2, 0), (0, a1), (0, a2), (0, a3)] h (PI G [(26, 4), (28, 0), (29, 0), (30, 0)] h 0 (-3) 3) := by
  refine ⟨by decide, by rw [ml200]; exact Nat.le_of_ble_eq_true rfl, ?_⟩
  rw [ml200, pp200]
  show jEv _ none _ c200_0 0 0 _ (c200_0, [(2, 0), (0, a1), (0, a2), (0, a3)], [], h, 0, 0)
  have k0 := Kp.rf [(26, 4), (28, 0), (29, 0), (30, 0)] h
  refine ev_iload_n rfl ?_
  refine ev_iconst ?_
  refine ev_icmplt f200_31 (fun c40528 => ?_) (fun c40528 => ?_)
  · refine ev_iconst ?_
    exact ev_ret rfl (by decide) (by decide) ⟨_, rfl, by omega, by omega, g, k0⟩
  · refine ev_iload_n rfl ?_
    refine ev_bipush ?_
    refine ev_icmpgt f200_31 (fun c40529 => ?_) (fun c40529 => ?_)
    · refine ev_iconst ?_
      exact ev_ret rfl (by decide) (by decide) ⟨_, rfl, by omega, by omega, g, k0⟩
    · refine ev_iload_n rfl ?_
      refine ev_iflt f200_31 (fun c40530 => ?_) (fun c40530 => ?_)
      · refine ev_iconst ?_
        exact ev_ret rfl (by decide) (by decide) ⟨_, rfl, by omega, by omega, g, k0⟩
      · refine ev_iload_n rfl ?_
        refine ev_bipush ?_
        refine ev_icmpgt f200_31 (fun c40531 => ?_) (fun c40531 => ?_)
        · refine ev_iconst ?_
          exact ev_ret rfl (by decide) (by decide) ⟨_, rfl, by omega, by omega, g, k0⟩
        · refine ev_iload_n rfl ?_
          refine ev_iflt f200_31 (fun c40532 => ?_) (fun c40532 => ?_)
          · refine ev_iconst ?_
            exact ev_ret rfl (by decide) (by decide) ⟨_, rfl, by omega, by omega, g, k0⟩
          · refine ev_iload_n rfl ?_
            refine ev_bipush ?_
            refine ev_icmple f200_33 (fun c40533 => ?_) (fun c40533 => ?_)
            · refine ev_aload_n rfl ?_
              refine g_getp (r := 0) (c := 26) g ad0 (by decide) (by decide) rf0_11 ft11_11 ?_
              refine ev_iload_n rfl ?_
              refine ev_iload_n rfl ?_
              refine ev_iload_n rfl ?_
              refine ev_call (jcall_v (A := [(0, a3), (0, a2), (0, a1)]) (S' := []) (r := 26) rfl (g.lt ad26) (g.tg ad26) (Nat.le_of_ble_eq_true rfl)) (jOk_le (by decide) (s119 g (by omega) (by omega) (by omega) (by omega) (by omega) (by omega))) (by decide) (by decide) (fun w40534 h40534 q40534 => ?_)
              obtain ⟨v40535, rfl, lv40535, uv40535, g40534, kk40534⟩ := q40534
              have k40534 := k0.tr kk40534 (by decide)
              show jEv _ _ _ _ _ _ _ (_, [(2, 0), (0, a1), (0, a2), (0, a3)], [(0, v40535)], _, _, _)
              exact ev_ret rfl (by decide) (by decide) ⟨_, rfl, by omega, by omega, g40534, k40534⟩
            · refine ev_iconst ?_
              exact ev_ret rfl (by decide) (by decide) ⟨_, rfl, by omega, by omega, g, k0⟩
