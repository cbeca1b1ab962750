/-! 227 worthOf -/
set_option maxHeartbeats 4000000 in
theorem s227 {G : GH} {h : JH} (g : Gd G h) {r1 : Nat} {m1 : Int} (q1 : IsQ G r1 m1) {f2 : Nat} (q2 : IsF G f2) {a3 : Int} (la3 : (-9223372036854775808) ≤ a3) (ua3 : a3 ≤ 9223372036854775807) {a4 : Int} (la4 : (-2147483648) ≤ a4) (ua4 : a4 ≤ 2147483647) : jOk 5 0 0 227 [(2, 0), (2, (r1 : Int)), (2, (f2 : Int)), (1, a3), (0, a4)] h (PI G [(1000000, 0)] h 1 (-9223372036854775808) 9223372036854775807) := by
  refine ⟨by decide, by rw [ml227]; exact Nat.le_of_ble_eq_true rfl, ?_⟩
  rw [ml227, pp227]
  show jEv _ none _ c227_0 0 0 _ (c227_0, [(2, 0), (2, (r1 : Int)), (2, (f2 : Int)), (1, a3), (9, 0), (0, a4), (9, 0), (9, 0)], [], h, 0, 0)
  have k0 := Kp.rf [(1000000, 0)] h
  have wr1 := g.qb q1
  have zr1 := q1.1
  refine ev_aload_n rfl ?_
  refine ev_callF (A := []) (S' := []) (r := f2) rfl (g.flt q2) (g.ffam q2) (Nat.le_of_ble_eq_true rfl) (famL (by decide) (fam_fearsWorst g q2)) (by decide) (by decide) (fun w27950 h27950 q27950 => ?_)
  obtain ⟨v27951, rfl, lv27951, uv27951, g27950, kk27950⟩ := q27950
  have k27950 := k0.tr kk27950 (by decide)
  show jEv _ _ _ _ _ _ _ (_, [(2, 0), (2, (r1 : Int)), (2, (f2 : Int)), (1, a3), (9, 0), (0, a4), (9, 0), (9, 0)], [(0, v27951)], _, _, _)
  refine ev_ifeq f227_17 (fun c27952 => ?_) (fun c27952 => ?_)
  · refine ev_aload_n rfl ?_
    refine ev_callF (A := []) (S' := []) (r := f2) rfl (g27950.flt q2) (g27950.ffam q2) (Nat.le_of_ble_eq_true rfl) (famL (by decide) (fam_regrets g27950 q2)) (by decide) (by decide) (fun w27953 h27953 q27953 => ?_)
    obtain ⟨v27954, rfl, lv27954, uv27954, g27953, kk27953⟩ := q27953
    have k27953 := k27950.tr kk27953 (by decide)
    show jEv _ _ _ _ _ _ _ (_, [(2, 0), (2, (r1 : Int)), (2, (f2 : Int)), (1, a3), (9, 0), (0, a4), (9, 0), (9, 0)], [(0, v27954)], _, _, _)
    refine ev_ifeq f227_36 (fun c27955 => ?_) (fun c27955 => ?_)
    · refine ev_lconst ?_
      refine ev_lstore (L' := [(2, 0), (2, (r1 : Int)), (2, (f2 : Int)), (1, a3), (9, 0), (0, a4), (1, 0), (9, 0)]) (Nat.le_of_ble_eq_true rfl) rfl ?_
      refine ev_lload_n rfl ?_
      refine ev_lload rfl ?_
      refine ev_lsub (r := a3) (by unfold w64; omega) ?_
      refine ev_ldc2_w ?_
      refine ev_aload_n rfl ?_
      refine g_getp (r := 0) (c := 1) g27953 ad0 (by decide) (by decide) rf0_0 ft11_0 ?_
      obtain ⟨v27956, ev27956, lv27956, uv27956⟩ := g27953.rd ad1 (show 1 < 8 by decide) rf1_1
      refine g_getv (r := 1) (v := v27956) g27953 ad1 (by decide) ft10_1 ev27956 ?_
      refine g_lmulG (fun v27957 ev27957 lv27957 uv27957 => ?_)
      refine ev_iload rfl ?_
      refine ev_call (jcall_s (A := [(0, a4), (1, v27957), (1, a3)]) (S' := []) (by decide) rfl (Nat.le_of_ble_eq_true rfl)) (jOk_le (by decide) (s223 g27953 (by omega) (by omega) (by omega) (by omega) (by omega) (by omega))) (by decide) (by decide) (fun w27958 h27958 q27958 => ?_)
      obtain ⟨v27959, rfl, lv27959, uv27959, g27958, kk27958⟩ := q27958
      have k27958 := k27953.tr kk27958 (by decide)
      show jEv _ _ _ _ _ _ _ (_, [(2, 0), (2, (r1 : Int)), (2, (f2 : Int)), (1, a3), (9, 0), (0, a4), (1, 0), (9, 0)], [(1, v27959)], _, _, _)
      exact ev_ret rfl (by decide) (by decide) ⟨_, rfl, by omega, by omega, g27958, k27958⟩
    · refine ev_aload_n rfl ?_
      refine ev_aload_n rfl ?_
      refine g_getp (r := 0) (c := 1) g27953 ad0 (by decide) (by decide) rf0_0 ft11_0 ?_
      refine ev_aload_n rfl ?_
      refine ev_call (jcall_v (A := [(2, (f2 : Int)), (2, 1)]) (S' := []) (r := r1) rfl (g27953.qlt q1) (g27953.qtg q1) (Nat.le_of_ble_eq_true rfl)) (jOk_le (by decide) (s51 g27953 q1 q2)) (by decide) (by decide) (fun w27960 h27960 q27960 => ?_)
      obtain ⟨v27961, rfl, lv27961, uv27961, g27960, kk27960⟩ := q27960
      have k27960 := k27953.tr kk27960 (by decide)
      show jEv _ _ _ _ _ _ _ (_, [(2, 0), (2, (r1 : Int)), (2, (f2 : Int)), (1, a3), (9, 0), (0, a4), (9, 0), (9, 0)], [(1, v27961)], _, _, _)
      refine ev_goto f227_37 ?_
      refine ev_lstore (L' := [(2, 0), (2, (r1 : Int)), (2, (f2 : Int)), (1, a3), (9, 0), (0, a4), (1, v27961), (9, 0)]) (Nat.le_of_ble_eq_true rfl) rfl ?_
      refine ev_lload_n rfl ?_
      refine ev_lload rfl ?_
      refine g_lsubG (fun v27962 ev27962 lv27962 uv27962 => ?_)
      refine ev_ldc2_w ?_
      refine ev_aload_n rfl ?_
      refine g_getp (r := 0) (c := 1) g27960 ad0 (by decide) (by decide) rf0_0 ft11_0 ?_
      obtain ⟨v27963, ev27963, lv27963, uv27963⟩ := g27960.rd ad1 (show 1 < 8 by decide) rf1_1
      refine g_getv (r := 1) (v := v27963) g27960 ad1 (by decide) ft10_1 ev27963 ?_
      refine g_lmulG (fun v27964 ev27964 lv27964 uv27964 => ?_)
      refine ev_iload rfl ?_
      refine ev_call (jcall_s (A := [(0, a4), (1, v27964), (1, v27962)]) (S' := []) (by decide) rfl (Nat.le_of_ble_eq_true rfl)) (jOk_le (by decide) (s223 g27960 (by omega) (by omega) (by omega) (by omega) (by omega) (by omega))) (by decide) (by decide) (fun w27965 h27965 q27965 => ?_)
      obtain ⟨v27966, rfl, lv27966, uv27966, g27965, kk27965⟩ := q27965
      have k27965 := k27960.tr kk27965 (by decide)
      show jEv _ _ _ _ _ _ _ (_, [(2, 0), (2, (r1 : Int)), (2, (f2 : Int)), (1, a3), (9, 0), (0, a4), (1, v27961), (9, 0)], [(1, v27966)], _, _, _)
      exact ev_ret rfl (by decide) (by decide) ⟨_, rfl, by omega, by omega, g27965, k27965⟩
  · refine ev_lload_n rfl ?_
    refine ev_ldc2_w ?_
    refine ev_iload rfl ?_
    refine ev_call (jcall_s (A := [(0, a4), (1, 100), (1, a3)]) (S' := []) (by decide) rfl (Nat.le_of_ble_eq_true rfl)) (jOk_le (by decide) (s223 g27950 (by omega) (by omega) (by omega) (by omega) (by omega) (by omega))) (by decide) (by decide) (fun w27967 h27967 q27967 => ?_)
    obtain ⟨v27968, rfl, lv27968, uv27968, g27967, kk27967⟩ := q27967
    have k27967 := k27950.tr kk27967 (by decide)
    show jEv _ _ _ _ _ _ _ (_, [(2, 0), (2, (r1 : Int)), (2, (f2 : Int)), (1, a3), (9, 0), (0, a4), (9, 0), (9, 0)], [(1, v27968)], _, _, _)
    exact ev_ret rfl (by decide) (by decide) ⟨_, rfl, by omega, by omega, g27967, k27967⟩
/-! 181 best -/
set_option maxHeartbeats 4000000 in
theorem s181 {G : GH} {h : JH} (g : Gd G h) {a1 : Int} (la1 : (-2147483648) ≤ a1) (ua1 : a1 ≤ 2147483647) {a2 : Int} (la2 : (-2147483648) ≤ a2) (ua2 : a2 ≤ 2147483647) {a3 : Int} (la3 : (-2147483648) ≤ a3) (ua3 : a3 ≤ 2147483647) : jOk 6 0 0 181 [(2, 0), (0, a1), (0, a2), (0, a3)] h (PI G [(1, 2), (1, 3), (5, 0), (6, 0), (1000000, 0)] h 1 (-9223372036854775808) 9223372036854775807) := by
  refine ⟨by decide, by rw [ml181]; exact Nat.le_of_ble_eq_true rfl, ?_⟩
  rw [ml181, pp181]
  show jEv _ none _ c181_0 0 0 _ (c181_0, [(2, 0), (0, a1), (0, a2), (0, a3), (9, 0), (9, 0), (9, 0), (9, 0)], [], h, 0, 0)
  have k0 := Kp.rf [(1, 2), (1, 3), (5, 0), (6, 0), (1000000, 0)] h
  refine ev_aload_n rfl ?_
  refine ev_iload_n rfl ?_
  refine ev_in (d := 4) (a := 0) (b := 0) (cd' := c219_0) (m := 2) (L0 := [(2, 0), (0, a1)]) (jcall_v (A := [(0, a1)]) (S' := []) (r := 0) rfl (g.lt ad0) (g.tg ad0) (Nat.le_of_ble_eq_true rfl)) (by decide) ml219 pp219 (Nat.le_of_ble_eq_true rfl) rfl (by decide) (by decide) ?_
  refine ev_iload_n rfl ?_
  refine ev_iflt f219_12 (fun c28049 => ?_) (fun c28049 => ?_)
  · refine ev_aconst_null ?_
    refine ev_goto f219_22 ?_
    refine ev_ret rfl (by decide) (by decide) ?_
    show jEv _ _ _ _ _ _ _ (_, [(2, 0), (0, a1), (0, a2), (0, a3), (9, 0), (9, 0), (9, 0), (9, 0)], [(2, (-1))], _, _, _)
    refine ev_astore (L' := [(2, 0), (0, a1), (0, a2), (0, a3), (2, (-1)), (9, 0), (9, 0), (9, 0)]) (Nat.le_of_ble_eq_true rfl) rfl ?_
    refine ev_aload_n rfl ?_
    refine ev_iload_n rfl ?_
    refine ev_in (d := 4) (a := 0) (b := 0) (cd' := c220_0) (m := 2) (L0 := [(2, 0), (0, a2)]) (jcall_v (A := [(0, a2)]) (S' := []) (r := 0) rfl (g.lt ad0) (g.tg ad0) (Nat.le_of_ble_eq_true rfl)) (by decide) ml220 pp220 (Nat.le_of_ble_eq_true rfl) rfl (by decide) (by decide) ?_
    refine ev_iload_n rfl ?_
    refine ev_iflt f220_12 (fun c28050 => ?_) (fun c28050 => ?_)
    · refine ev_aconst_null ?_
      refine ev_goto f220_22 ?_
      refine ev_ret rfl (by decide) (by decide) ?_
      show jEv _ _ _ _ _ _ _ (_, [(2, 0), (0, a1), (0, a2), (0, a3), (2, (-1)), (9, 0), (9, 0), (9, 0)], [(2, (-1))], _, _, _)
      refine ev_astore (L' := [(2, 0), (0, a1), (0, a2), (0, a3), (2, (-1)), (2, (-1)), (9, 0), (9, 0)]) (Nat.le_of_ble_eq_true rfl) rfl ?_
      refine ev_aload rfl ?_
      refine ev_ifnull f181_43 (fun c28051 => ?_) (fun c28051 => absurd c28051 (by decide))
      refine ev_ldc2_w ?_
      exact ev_ret rfl (by decide) (by decide) ⟨_, rfl, by omega, by omega, g, k0⟩
    · refine ev_iload_n rfl ?_
      refine ev_aload_n rfl ?_
      obtain ⟨v28052, ev28052, lv28052, uv28052⟩ := g.rd ad0 (show 7 < 17 by decide) rf0_7
      refine g_getv (r := 0) (v := v28052) g ad0 (by decide) ft11_7 ev28052 ?_
      refine ev_icmplt f220_16 (fun c28053 => ?_) (fun c28053 => ?_)
      · refine ev_aload_n rfl ?_
        refine g_getp (r := 0) (c := 24) g ad0 (by decide) (by decide) rf0_6 ft11_6 ?_
        refine ev_iload_n rfl ?_
        refine g_faald (g) (i := a2) (ev28052) (by omega) (by omega) (fun f28054 qf28054 => ?_)
        refine ev_ret rfl (by decide) (by decide) ?_
        show jEv _ _ _ _ _ _ _ (_, [(2, 0), (0, a1), (0, a2), (0, a3), (2, (-1)), (9, 0), (9, 0), (9, 0)], [(2, (f28054 : Int))], _, _, _)
        refine ev_astore (L' := [(2, 0), (0, a1), (0, a2), (0, a3), (2, (-1)), (2, (f28054 : Int)), (9, 0), (9, 0)]) (Nat.le_of_ble_eq_true rfl) rfl ?_
        refine ev_aload rfl ?_
        refine ev_ifnull f181_43 (fun c28055 => ?_) (fun c28055 => absurd c28055 (by decide))
        refine ev_ldc2_w ?_
        exact ev_ret rfl (by decide) (by decide) ⟨_, rfl, by omega, by omega, g, k0⟩
      · refine ev_aconst_null ?_
        refine ev_goto f220_22 ?_
        refine ev_ret rfl (by decide) (by decide) ?_
        show jEv _ _ _ _ _ _ _ (_, [(2, 0), (0, a1), (0, a2), (0, a3), (2, (-1)), (9, 0), (9, 0), (9, 0)], [(2, (-1))], _, _, _)
        refine ev_astore (L' := [(2, 0), (0, a1), (0, a2), (0, a3), (2, (-1)), (2, (-1)), (9, 0), (9, 0)]) (Nat.le_of_ble_eq_true rfl) rfl ?_
        refine ev_aload rfl ?_
        refine ev_ifnull f181_43 (fun c28056 => ?_) (fun c28056 => absurd c28056 (by decide))
        refine ev_ldc2_w ?_
        exact ev_ret rfl (by decide) (by decide) ⟨_, rfl, by omega, by omega, g, k0⟩
  · refine ev_iload_n rfl ?_
    refine ev_aload_n rfl ?_
    obtain ⟨v28057, ev28057, lv28057, uv28057⟩ := g.rd ad0 (show 3 < 17 by decide) rf0_3
    refine g_getv (r := 0) (v := v28057) g ad0 (by decide) ft11_3 ev28057 ?_
    refine ev_icmplt f219_16 (fun c28058 => ?_) (fun c28058 => ?_)
    · refine ev_aload_n rfl ?_
      refine g_getp (r := 0) (c := 18) g ad0 (by decide) (by decide) rf0_2 ft11_2 ?_
      refine ev_iload_n rfl ?_
      refine g_qaald (g) (i := a1) (ev28057) (by omega) (by omega) (fun r28059 m28060 qr28059 => ?_)
      have wr28059 := g.qb qr28059
      have zr28059 := qr28059.1
      refine ev_ret rfl (by decide) (by decide) ?_
      show jEv _ _ _ _ _ _ _ (_, [(2, 0), (0, a1), (0, a2), (0, a3), (9, 0), (9, 0), (9, 0), (9, 0)], [(2, (r28059 : Int))], _, _, _)
      refine ev_astore (L' := [(2, 0), (0, a1), (0, a2), (0, a3), (2, (r28059 : Int)), (9, 0), (9, 0), (9, 0)]) (Nat.le_of_ble_eq_true rfl) rfl ?_
      refine ev_aload_n rfl ?_
      refine ev_iload_n rfl ?_
      refine ev_in (d := 4) (a := 0) (b := 0) (cd' := c220_0) (m := 2) (L0 := [(2, 0), (0, a2)]) (jcall_v (A := [(0, a2)]) (S' := []) (r := 0) rfl (g.lt ad0) (g.tg ad0) (Nat.le_of_ble_eq_true rfl)) (by decide) ml220 pp220 (Nat.le_of_ble_eq_true rfl) rfl (by decide) (by decide) ?_
      refine ev_iload_n rfl ?_
      refine ev_iflt f220_12 (fun c28061 => ?_) (fun c28061 => ?_)
      · refine ev_aconst_null ?_
        refine ev_goto f220_22 ?_
        refine ev_ret rfl (by decide) (by decide) ?_
        show jEv _ _ _ _ _ _ _ (_, [(2, 0), (0, a1), (0, a2), (0, a3), (2, (r28059 : Int)), (9, 0), (9, 0), (9, 0)], [(2, (-1))], _, _, _)
        refine ev_astore (L' := [(2, 0), (0, a1), (0, a2), (0, a3), (2, (r28059 : Int)), (2, (-1)), (9, 0), (9, 0)]) (Nat.le_of_ble_eq_true rfl) rfl ?_
        refine ev_aload rfl ?_
        refine ev_ifnull f181_43 (fun c28062 => absurd c28062 (by omega)) (fun c28062 => ?_)
        refine ev_aload rfl ?_
        refine ev_ifnull f181_43 (fun c28063 => ?_) (fun c28063 => absurd c28063 (by decide))
        refine ev_ldc2_w ?_
        exact ev_ret rfl (by decide) (by decide) ⟨_, rfl, by omega, by omega, g, k0⟩
      · refine ev_iload_n rfl ?_
        refine ev_aload_n rfl ?_
        obtain ⟨v28064, ev28064, lv28064, uv28064⟩ := g.rd ad0 (show 7 < 17 by decide) rf0_7
        refine g_getv (r := 0) (v := v28064) g ad0 (by decide) ft11_7 ev28064 ?_
        refine ev_icmplt f220_16 (fun c28065 => ?_) (fun c28065 => ?_)
        · refine ev_aload_n rfl ?_
          refine g_getp (r := 0) (c := 24) g ad0 (by decide) (by decide) rf0_6 ft11_6 ?_
          refine ev_iload_n rfl ?_
          refine g_faald (g) (i := a2) (ev28064) (by omega) (by omega) (fun f28066 qf28066 => ?_)
          refine ev_ret rfl (by decide) (by decide) ?_
          show jEv _ _ _ _ _ _ _ (_, [(2, 0), (0, a1), (0, a2), (0, a3), (2, (r28059 : Int)), (9, 0), (9, 0), (9, 0)], [(2, (f28066 : Int))], _, _, _)
          refine ev_astore (L' := [(2, 0), (0, a1), (0, a2), (0, a3), (2, (r28059 : Int)), (2, (f28066 : Int)), (9, 0), (9, 0)]) (Nat.le_of_ble_eq_true rfl) rfl ?_
          refine ev_aload rfl ?_
          refine ev_ifnull f181_43 (fun c28067 => absurd c28067 (by omega)) (fun c28067 => ?_)
          refine ev_aload rfl ?_
          refine ev_ifnull f181_43 (fun c28068 => absurd c28068 (by omega)) (fun c28068 => ?_)
          refine ev_iload_n rfl ?_
          refine ev_iflt f181_43 (fun c28069 => ?_) (fun c28069 => ?_)
          · refine ev_ldc2_w ?_
            exact ev_ret rfl (by decide) (by decide) ⟨_, rfl, by omega, by omega, g, k0⟩
          · refine ev_iload_n rfl ?_
            refine ev_iconst ?_
            refine ev_icmpgt f181_43 (fun c28070 => ?_) (fun c28070 => ?_)
            · refine ev_ldc2_w ?_
              exact ev_ret rfl (by decide) (by decide) ⟨_, rfl, by omega, by omega, g, k0⟩
            · refine ev_aload_n rfl ?_
              refine g_getp (r := 0) (c := 1) g ad0 (by decide) (by decide) rf0_0 ft11_0 ?_
              refine ev_call (jcall_v (A := []) (S' := []) (r := 1) rfl (g.lt ad1) (g.tg ad1) (Nat.le_of_ble_eq_true rfl)) (jOk_le (by decide) (s153 g )) (by decide) (by decide) (fun w28071 h28071 q28071 => ?_)
              obtain ⟨v28072, rfl, lv28072, uv28072, g28071, kk28071⟩ := q28071
              have k28071 := k0.tr kk28071 (by decide)
              show jEv _ _ _ _ _ _ _ (_, [(2, 0), (0, a1), (0, a2), (0, a3), (2, (r28059 : Int)), (2, (f28066 : Int)), (9, 0), (9, 0)], [(0, v28072)], _, _, _)
              refine ev_ifne f181_47 (fun c28073 => ?_) (fun c28073 => ?_)
              · refine ev_aload rfl ?_
                refine ev_aload_n rfl ?_
                refine g_getp (r := 0) (c := 1) g28071 ad0 (by decide) (by decide) rf0_0 ft11_0 ?_
                refine ev_aload rfl ?_
                refine ev_iconst ?_
                refine ev_call (jcall_v (A := [(0, 0), (2, (f28066 : Int)), (2, 1)]) (S' := []) (r := r28059) rfl (g28071.qlt qr28059) (g28071.qtg qr28059) (Nat.le_of_ble_eq_true rfl)) (jOk_le (by decide) (s47 g28071 qr28059 qf28066 (by omega) (by omega))) (by decide) (by decide) (fun w28074 h28074 q28074 => ?_)
                obtain ⟨v28075, rfl, lv28075, uv28075, g28074, kk28074⟩ := q28074
                have k28074 := k28071.tr kk28074 (by decide)
                show jEv _ _ _ _ _ _ _ (_, [(2, 0), (0, a1), (0, a2), (0, a3), (2, (r28059 : Int)), (2, (f28066 : Int)), (9, 0), (9, 0)], [(1, v28075)], _, _, _)
                refine ev_lstore (L' := [(2, 0), (0, a1), (0, a2), (0, a3), (2, (r28059 : Int)), (2, (f28066 : Int)), (1, v28075), (9, 0)]) (Nat.le_of_ble_eq_true rfl) rfl ?_
                refine ev_iload_n rfl ?_
                refine ev_iconst ?_
                refine ev_icmpne f181_73 (fun c28076 => ?_) (fun c28076 => ?_)
                · refine ev_aload_n rfl ?_
                  refine ev_aload rfl ?_
                  refine ev_aload rfl ?_
                  refine ev_lload rfl ?_
                  refine ev_iload_n rfl ?_
                  refine ev_call (jcall_v (A := [(0, a3), (1, v28075), (2, (f28066 : Int)), (2, (r28059 : Int))]) (S' := []) (r := 0) rfl (g28074.lt ad0) (g28074.tg ad0) (Nat.le_of_ble_eq_true rfl)) (jOk_le (by decide) (s227 g28074 qr28059 qf28066 (by omega) (by omega) (by omega) (by omega))) (by decide) (by decide) (fun w28077 h28077 q28077 => ?_)
                  obtain ⟨v28078, rfl, lv28078, uv28078, g28077, kk28077⟩ := q28077
                  have k28077 := k28074.tr kk28077 (by decide)
                  show jEv _ _ _ _ _ _ _ (_, [(2, 0), (0, a1), (0, a2), (0, a3), (2, (r28059 : Int)), (2, (f28066 : Int)), (1, v28075), (9, 0)], [(1, v28078)], _, _, _)
                  exact ev_ret rfl (by decide) (by decide) ⟨_, rfl, by omega, by omega, g28077, k28077⟩
                · refine ev_aload rfl ?_
                  refine ev_call (jcall_v (A := []) (S' := []) (r := r28059) rfl (g28074.qlt qr28059) (g28074.qtg qr28059) (Nat.le_of_ble_eq_true rfl)) (jOk_le (by decide) (s39 g28074 qr28059)) (by decide) (by decide) (fun w28079 h28079 q28079 => ?_)
                  obtain ⟨rfl, g28079, kk28079⟩ := q28079
                  have k28079 := k28074.tr kk28079 (by decide)
                  show jEv _ _ _ _ _ _ _ (_, [(2, 0), (0, a1), (0, a2), (0, a3), (2, (r28059 : Int)), (2, (f28066 : Int)), (1, v28075), (9, 0)], [], _, _, _)
                  refine ev_lconst ?_
                  exact ev_ret rfl (by decide) (by decide) ⟨_, rfl, by omega, by omega, g28079, k28079⟩
              · refine ev_ldc2_w ?_
                exact ev_ret rfl (by decide) (by decide) ⟨_, rfl, by omega, by omega, g28071, k28071⟩
        · refine ev_aconst_null ?_
          refine ev_goto f220_22 ?_
          refine ev_ret rfl (by decide) (by decide) ?_
          show jEv _ _ _ _ _ _ _ (_, [(2, 0), (0, a1), (0, a2), (0, a3), (2, (r28059 : Int)), (9, 0), (9, 0), (9, 0)], [(2, (-1))], _, _, _)
          refine ev_astore (L' := [(2, 0), (0, a1), (0, a2), (0, a3), (2, (r28059 : Int)), (2, (-1)), (9, 0), (9, 0)]) (Nat.le_of_ble_eq_true rfl) rfl ?_
          refine ev_aload rfl ?_
          refine ev_ifnull f181_43 (fun c28080 => absurd c28080 (by omega)) (fun c28080 => ?_)
          refine ev_aload rfl ?_
          refine ev_ifnull f181_43 (fun c28081 => ?_) (fun c28081 => absurd c28081 (by decide))
          refine ev_ldc2_w ?_
          exact ev_ret rfl (by decide) (by decide) ⟨_, rfl, by omega, by omega, g, k0⟩
    · refine ev_aconst_null ?_
      refine ev_goto f219_22 ?_
      refine ev_ret rfl (by decide) (by decide) ?_
      show jEv _ _ _ _ _ _ _ (_, [(2, 0), (0, a1), (0, a2), (0, a3), (9, 0), (9, 0), (9, 0), (9, 0)], [(2, (-1))], _, _, _)
      refine ev_astore (L' := [(2, 0), (0, a1), (0, a2), (0, a3), (2, (-1)), (9, 0), (9, 0), (9, 0)]) (Nat.le_of_ble_eq_true rfl) rfl ?_
      refine ev_aload_n rfl ?_
      refine ev_iload_n rfl ?_
      refine ev_in (d := 4) (a := 0) (b := 0) (cd' := c220_0) (m := 2) (L0 := [(2, 0), (0, a2)]) (jcall_v (A := [(0, a2)]) (S' := []) (r := 0) rfl (g.lt ad0) (g.tg ad0) (Nat.le_of_ble_eq_true rfl)) (by decide) ml220 pp220 (Nat.le_of_ble_eq_true rfl) rfl (by decide) (by decide) ?_
      refine ev_iload_n rfl ?_
      refine ev_iflt f220_12 (fun c28082 => ?_) (fun c28082 => ?_)
      · refine ev_aconst_null ?_
        refine ev_goto f220_22 ?_
        refine ev_ret rfl (by decide) (by decide) ?_
        show jEv _ _ _ _ _ _ _ (_, [(2, 0), (0, a1), (0, a2), (0, a3), (2, (-1)), (9, 0), (9, 0), (9, 0)], [(2, (-1))], _, _, _)
        refine ev_astore (L' := [(2, 0), (0, a1), (0, a2), (0, a3), (2, (-1)), (2, (-1)), (9, 0), (9, 0)]) (Nat.le_of_ble_eq_true rfl) rfl ?_
        refine ev_aload rfl ?_
        refine ev_ifnull f181_43 (fun c28083 => ?_) (fun c28083 => absurd c28083 (by decide))
        refine ev_ldc2_w ?_
        exact ev_ret rfl (by decide) (by decide) ⟨_, rfl, by omega, by omega, g, k0⟩
      · refine ev_iload_n rfl ?_
        refine ev_aload_n rfl ?_
        obtain ⟨v28084, ev28084, lv28084, uv28084⟩ := g.rd ad0 (show 7 < 17 by decide) rf0_7
        refine g_getv (r := 0) (v := v28084) g ad0 (by decide) ft11_7 ev28084 ?_
        refine ev_icmplt f220_16 (fun c28085 => ?_) (fun c28085 => ?_)
        · refine ev_aload_n rfl ?_
          refine g_getp (r := 0) (c := 24) g ad0 (by decide) (by decide) rf0_6 ft11_6 ?_
          refine ev_iload_n rfl ?_
          refine g_faald (g) (i := a2) (ev28084) (by omega) (by omega) (fun f28086 qf28086 => ?_)
          refine ev_ret rfl (by decide) (by decide) ?_
          show jEv _ _ _ _ _ _ _ (_, [(2, 0), (0, a1), (0, a2), (0, a3), (2, (-1)), (9, 0), (9, 0), (9, 0)], [(2, (f28086 : Int))], _, _, _)
          refine ev_astore (L' := [(2, 0), (0, a1), (0, a2), (0, a3), (2, (-1)), (2, (f28086 : Int)), (9, 0), (9, 0)]) (Nat.le_of_ble_eq_true rfl) rfl ?_
          refine ev_aload rfl ?_
          refine ev_ifnull f181_43 (fun c28087 => ?_) (fun c28087 => absurd c28087 (by decide))
          refine ev_ldc2_w ?_
          exact ev_ret rfl (by decide) (by decide) ⟨_, rfl, by omega, by omega, g, k0⟩
        · refine ev_aconst_null ?_
          refine ev_goto f220_22 ?_
          refine ev_ret rfl (by decide) (by decide) ?_
          show jEv _ _ _ _ _ _ _ (_, [(2, 0), (0, a1), (0, a2), (0, a3), (2, (-1)), (9, 0), (9, 0), (9, 0)], [(2, (-1))], _, _, _)
          refine ev_astore (L' := [(2, 0), (0, a1), (0, a2), (0, a3), (2, (-1)), (2, (-1)), (9, 0), (9, 0)]) (Nat.le_of_ble_eq_true rfl) rfl ?_
          refine ev_aload rfl ?_
          refine ev_ifnull f181_43 (fun c28088 => ?_) (fun c28088 => absurd c28088 (by decide))
          refine ev_ldc2_w ?_
          exact ev_ret rfl (by decide) (by decide) ⟨_, rfl, by omega, by omega, g, k0⟩
/-! 182 plan -/
set_option maxHeartbeats 4000000 in
theorem s182 {G : GH} {h : JH} (g : Gd G h) {a1 : Int} (la1 : (-2147483648) ≤ a1) (ua1 : a1 ≤ 2147483647) {a2 : Int} (la2 : (-2147483648) ≤ a2) (ua2 : a2 ≤ 2147483647) {a3 : Int} (la3 : (-2147483648) ≤ a3) (ua3 : a3 ≤ 2147483647) : jOk 4 0 0 182 [(2, 0), (0, a1), (0, a2), (0, a3)] h (PI G [(1000000, 0)] h 0 (-1) 3) := by
  refine ⟨by decide, by rw [ml182]; exact Nat.le_of_ble_eq_true rfl, ?_⟩
  rw [ml182, pp182]
  show jEv _ none _ c182_0 0 0 _ (c182_0, [(2, 0), (0, a1), (0, a2), (0, a3), (9, 0), (9, 0)], [], h, 0, 0)
  have k0 := Kp.rf [(1000000, 0)] h
  refine ev_aload_n rfl ?_
  refine ev_iload_n rfl ?_
  refine ev_in (d := 2) (a := 0) (b := 0) (cd' := c219_0) (m := 2) (L0 := [(2, 0), (0, a1)]) (jcall_v (A := [(0, a1)]) (S' := []) (r := 0) rfl (g.lt ad0) (g.tg ad0) (Nat.le_of_ble_eq_true rfl)) (by decide) ml219 pp219 (Nat.le_of_ble_eq_true rfl) rfl (by decide) (by decide) ?_
  refine ev_iload_n rfl ?_
  refine ev_iflt f219_12 (fun c28199 => ?_) (fun c28199 => ?_)
  · refine ev_aconst_null ?_
    refine ev_goto f219_22 ?_
    refine ev_ret rfl (by decide) (by decide) ?_
    show jEv _ _ _ _ _ _ _ (_, [(2, 0), (0, a1), (0, a2), (0, a3), (9, 0), (9, 0)], [(2, (-1))], _, _, _)
    refine ev_astore (L' := [(2, 0), (0, a1), (0, a2), (0, a3), (2, (-1)), (9, 0)]) (Nat.le_of_ble_eq_true rfl) rfl ?_
    refine ev_aload rfl ?_
    refine ev_ifnull f182_35 (fun c28200 => ?_) (fun c28200 => absurd c28200 (by decide))
    refine ev_iconst ?_
    exact ev_ret rfl (by decide) (by decide) ⟨_, rfl, by omega, by omega, g, k0⟩
  · refine ev_iload_n rfl ?_
    refine ev_aload_n rfl ?_
    obtain ⟨v28201, ev28201, lv28201, uv28201⟩ := g.rd ad0 (show 3 < 17 by decide) rf0_3
    refine g_getv (r := 0) (v := v28201) g ad0 (by decide) ft11_3 ev28201 ?_
    refine ev_icmplt f219_16 (fun c28202 => ?_) (fun c28202 => ?_)
    · refine ev_aload_n rfl ?_
      refine g_getp (r := 0) (c := 18) g ad0 (by decide) (by decide) rf0_2 ft11_2 ?_
      refine ev_iload_n rfl ?_
      refine g_qaald (g) (i := a1) (ev28201) (by omega) (by omega) (fun r28203 m28204 qr28203 => ?_)
      have wr28203 := g.qb qr28203
      have zr28203 := qr28203.1
      refine ev_ret rfl (by decide) (by decide) ?_
      show jEv _ _ _ _ _ _ _ (_, [(2, 0), (0, a1), (0, a2), (0, a3), (9, 0), (9, 0)], [(2, (r28203 : Int))], _, _, _)
      refine ev_astore (L' := [(2, 0), (0, a1), (0, a2), (0, a3), (2, (r28203 : Int)), (9, 0)]) (Nat.le_of_ble_eq_true rfl) rfl ?_
      refine ev_aload rfl ?_
      refine ev_ifnull f182_35 (fun c28205 => absurd c28205 (by omega)) (fun c28205 => ?_)
      refine ev_iload_n rfl ?_
      refine ev_iconst ?_
      refine ev_icmplt f182_35 (fun c28206 => ?_) (fun c28206 => ?_)
      · refine ev_iconst ?_
        exact ev_ret rfl (by decide) (by decide) ⟨_, rfl, by omega, by omega, g, k0⟩
      · refine ev_aload rfl ?_
        refine ev_iload_n rfl ?_
        refine ev_iload_n rfl ?_
        refine ev_ifge f182_28 (fun c28207 => ?_) (fun c28207 => ?_)
        · refine ev_iload_n rfl ?_
          refine ev_in (d := 2) (a := 0) (b := 0) (cd' := c26_0) (m := 3) (L0 := [(2, (r28203 : Int)), (0, a2), (0, a3)]) (jcall_v (A := [(0, a3), (0, a2)]) (S' := []) (r := r28203) rfl (g.qlt qr28203) (g.qtg qr28203) (Nat.le_of_ble_eq_true rfl)) (by decide) ml26 pp26 (Nat.le_of_ble_eq_true rfl) rfl (by decide) (by decide) ?_
          refine ev_aload_n rfl ?_
          refine ev_iload_n rfl ?_
          refine ev_iload_n rfl ?_
          refine ev_in (d := 1) (a := 0) (b := 0) (cd' := c25_0) (m := 3) (L0 := [(2, (r28203 : Int)), (0, a2), (0, a3)]) (jcall_v (A := [(0, a3), (0, a2)]) (S' := []) (r := r28203) rfl (g.qlt qr28203) (g.qtg qr28203) (Nat.le_of_ble_eq_true rfl)) (by decide) ml25 pp25 (Nat.le_of_ble_eq_true rfl) rfl (by decide) (by decide) ?_
          refine ev_aload_n rfl ?_
          refine ev_iload_n rfl ?_
          refine ev_in (d := 0) (a := 0) (b := 0) (cd' := c24_0) (m := 2) (L0 := [(2, (r28203 : Int)), (0, a2)]) (jcall_v (A := [(0, a2)]) (S' := []) (r := r28203) rfl (g.qlt qr28203) (g.qtg qr28203) (Nat.le_of_ble_eq_true rfl)) (by decide) ml24 pp24 (Nat.le_of_ble_eq_true rfl) rfl (by decide) (by decide) ?_
          refine ev_iload_n rfl ?_
          refine ev_iflt f24_16 (fun c28208 => ?_) (fun c28208 => ?_)
          · refine ev_iconst ?_
            refine ev_ret rfl (by decide) (by decide) ?_
            show jEv _ _ _ _ _ _ _ (_, [(2, (r28203 : Int)), (0, a2), (0, a3)], [(0, 0)], _, _, _)
            refine ev_ifeq f25_26 (fun c28209 => ?_) (fun c28209 => absurd c28209 (by omega))
            refine ev_iconst ?_
            refine ev_ret rfl (by decide) (by decide) ?_
            show jEv _ _ _ _ _ _ _ (_, [(2, (r28203 : Int)), (0, a2), (0, a3)], [(0, 0)], _, _, _)
            refine ev_ifeq f26_23 (fun c28210 => ?_) (fun c28210 => absurd c28210 (by omega))
            refine ev_iconst ?_
            refine ev_ret rfl (by decide) (by decide) ?_
            show jEv _ _ _ _ _ _ _ (_, [(2, 0), (0, a1), (0, a2), (0, a3), (2, (r28203 : Int)), (9, 0)], [(0, 0)], _, _, _)
            refine ev_ifne f182_37 (fun c28211 => absurd c28211 (by omega)) (fun c28211 => ?_)
            refine ev_iconst ?_
            exact ev_ret rfl (by decide) (by decide) ⟨_, rfl, by omega, by omega, g, k0⟩
          · refine ev_iload_n rfl ?_
            refine ev_aload_n rfl ?_
            obtain ⟨v28212, ev28212, lv28212, uv28212⟩ := g.q0 qr28203
            refine g_qgetv (v := v28212) g qr28203 ft4_0 ev28212 ?_
            refine ev_icmpge f24_16 (fun c28213 => ?_) (fun c28213 => ?_)
            · refine ev_iconst ?_
              refine ev_ret rfl (by decide) (by decide) ?_
              show jEv _ _ _ _ _ _ _ (_, [(2, (r28203 : Int)), (0, a2), (0, a3)], [(0, 0)], _, _, _)
              refine ev_ifeq f25_26 (fun c28214 => ?_) (fun c28214 => absurd c28214 (by omega))
              refine ev_iconst ?_
              refine ev_ret rfl (by decide) (by decide) ?_
              show jEv _ _ _ _ _ _ _ (_, [(2, (r28203 : Int)), (0, a2), (0, a3)], [(0, 0)], _, _, _)
              refine ev_ifeq f26_23 (fun c28215 => ?_) (fun c28215 => absurd c28215 (by omega))
              refine ev_iconst ?_
              refine ev_ret rfl (by decide) (by decide) ?_
              show jEv _ _ _ _ _ _ _ (_, [(2, 0), (0, a1), (0, a2), (0, a3), (2, (r28203 : Int)), (9, 0)], [(0, 0)], _, _, _)
              refine ev_ifne f182_37 (fun c28216 => absurd c28216 (by omega)) (fun c28216 => ?_)
              refine ev_iconst ?_
              exact ev_ret rfl (by decide) (by decide) ⟨_, rfl, by omega, by omega, g, k0⟩
            · refine ev_iconst ?_
              refine ev_goto f24_17 ?_
              refine ev_ret rfl (by decide) (by decide) ?_
              show jEv _ _ _ _ _ _ _ (_, [(2, (r28203 : Int)), (0, a2), (0, a3)], [(0, 1)], _, _, _)
              refine ev_ifeq f25_26 (fun c28217 => absurd c28217 (by omega)) (fun c28217 => ?_)
              refine ev_iload_n rfl ?_
              refine ev_iflt f25_26 (fun c28218 => absurd c28218 (by omega)) (fun c28218 => ?_)
              refine ev_iload_n rfl ?_
              refine ev_aload_n rfl ?_
              refine g_qgetp g qr28203 (c := 4) (by decide) (by decide) ft4_4 ?_
              refine ev_iload_n rfl ?_
              refine g_qiald g qr28203 (c := 4) (by decide) (by decide) (by decide) (by omega) (by show a2 < m28204; omega) rfl (fun v28219 ev28219 lv28219 uv28219 => ?_)
              refine ev_icmpge f25_26 (fun c28220 => ?_) (fun c28220 => ?_)
              · refine ev_iconst ?_
                refine ev_ret rfl (by decide) (by decide) ?_
                show jEv _ _ _ _ _ _ _ (_, [(2, (r28203 : Int)), (0, a2), (0, a3)], [(0, 0)], _, _, _)
                refine ev_ifeq f26_23 (fun c28221 => ?_) (fun c28221 => absurd c28221 (by omega))
                refine ev_iconst ?_
                refine ev_ret rfl (by decide) (by decide) ?_
                show jEv _ _ _ _ _ _ _ (_, [(2, 0), (0, a1), (0, a2), (0, a3), (2, (r28203 : Int)), (9, 0)], [(0, 0)], _, _, _)
                refine ev_ifne f182_37 (fun c28222 => absurd c28222 (by omega)) (fun c28222 => ?_)
                refine ev_iconst ?_
                exact ev_ret rfl (by decide) (by decide) ⟨_, rfl, by omega, by omega, g, k0⟩
              · refine ev_iconst ?_
                refine ev_goto f25_27 ?_
                refine ev_ret rfl (by decide) (by decide) ?_
                show jEv _ _ _ _ _ _ _ (_, [(2, (r28203 : Int)), (0, a2), (0, a3)], [(0, 1)], _, _, _)
                refine ev_ifeq f26_23 (fun c28223 => absurd c28223 (by omega)) (fun c28223 => ?_)
                refine ev_aload_n rfl ?_
                refine g_qgetp g qr28203 (c := 2) (by decide) (by decide) ft4_2 ?_
                refine ev_iload_n rfl ?_
                refine g_qiald g qr28203 (c := 2) (by decide) (by decide) (by decide) (by omega) (by show a2 < m28204; omega) rfl (fun v28224 ev28224 lv28224 uv28224 => ?_)
                refine ev_iconst ?_
                refine ev_icmpne f26_23 (fun c28225 => ?_) (fun c28225 => ?_)
                · refine ev_iconst ?_
                  refine ev_ret rfl (by decide) (by decide) ?_
                  show jEv _ _ _ _ _ _ _ (_, [(2, 0), (0, a1), (0, a2), (0, a3), (2, (r28203 : Int)), (9, 0)], [(0, 0)], _, _, _)
                  refine ev_ifne f182_37 (fun c28226 => absurd c28226 (by omega)) (fun c28226 => ?_)
                  refine ev_iconst ?_
                  exact ev_ret rfl (by decide) (by decide) ⟨_, rfl, by omega, by omega, g, k0⟩
                · refine ev_iconst ?_
                  refine ev_goto f26_24 ?_
                  refine ev_ret rfl (by decide) (by decide) ?_
                  show jEv _ _ _ _ _ _ _ (_, [(2, 0), (0, a1), (0, a2), (0, a3), (2, (r28203 : Int)), (9, 0)], [(0, 1)], _, _, _)
                  refine ev_ifne f182_37 (fun c28227 => ?_) (fun c28227 => absurd c28227 (by omega))
                  refine ev_aload rfl ?_
                  refine ev_iload_n rfl ?_
                  refine ev_in (d := 2) (a := 0) (b := 0) (cd' := c36_0) (m := 2) (L0 := [(2, (r28203 : Int)), (0, a2)]) (jcall_v (A := [(0, a2)]) (S' := []) (r := r28203) rfl (g.qlt qr28203) (g.qtg qr28203) (Nat.le_of_ble_eq_true rfl)) (by decide) ml36 pp36 (Nat.le_of_ble_eq_true rfl) rfl (by decide) (by decide) ?_
                  refine ev_aload_n rfl ?_
                  refine g_qgetp g qr28203 (c := 9) (by decide) (by decide) ft4_9 ?_
                  refine ev_iload_n rfl ?_
                  refine g_qiald g qr28203 (c := 9) (by decide) (by decide) (by decide) (by omega) (by show a2 < m28204; omega) rfl (fun v28228 ev28228 lv28228 uv28228 => ?_)
                  refine ev_ret rfl (by decide) (by decide) ?_
                  show jEv _ _ _ _ _ _ _ (_, [(2, 0), (0, a1), (0, a2), (0, a3), (2, (r28203 : Int)), (9, 0)], [(0, v28228)], _, _, _)
                  refine ev_istore (L' := [(2, 0), (0, a1), (0, a2), (0, a3), (2, (r28203 : Int)), (0, v28228)]) (Nat.le_of_ble_eq_true rfl) rfl ?_
                  refine ev_iload_n rfl ?_
                  refine ev_iflt f182_56 (fun c28229 => absurd c28229 (by omega)) (fun c28229 => ?_)
                  refine ev_aload rfl ?_
                  refine ev_iload_n rfl ?_
                  refine ev_iload_n rfl ?_
                  refine ev_in (d := 2) (a := 0) (b := 0) (cd' := c37_0) (m := 3) (L0 := [(2, (r28203 : Int)), (0, a2), (0, a3)]) (jcall_v (A := [(0, a3), (0, a2)]) (S' := []) (r := r28203) rfl (g.qlt qr28203) (g.qtg qr28203) (Nat.le_of_ble_eq_true rfl)) (by decide) ml37 pp37 (Nat.le_of_ble_eq_true rfl) rfl (by decide) (by decide) ?_
                  refine ev_aload_n rfl ?_
                  refine g_qgetp g qr28203 (c := 9) (by decide) (by decide) ft4_9 ?_
                  refine ev_iload_n rfl ?_
                  refine ev_iload_n rfl ?_
                  refine g_qiast g qr28203 (c := 9) (by decide) (by decide) (by decide) (by omega) (by show a2 < m28204; omega) rfl (by omega) (by omega) (fun h28230 e28230 g28230 => ?_)
                  have k28230 := k0.wr e28230 (inW_dyn rfl (by have := qr28203.1; omega))
                  refine ev_ret rfl (by decide) (by decide) ?_
                  show jEv _ _ _ _ _ _ _ (_, [(2, 0), (0, a1), (0, a2), (0, a3), (2, (r28203 : Int)), (0, v28228)], [], _, _, _)
                  refine ev_iload rfl ?_
                  exact ev_ret rfl (by decide) (by decide) ⟨_, rfl, by omega, by omega, g28230, k28230⟩
        · refine ev_iconst ?_
          refine ev_goto f182_29 ?_
          refine ev_in (d := 2) (a := 0) (b := 0) (cd' := c26_0) (m := 3) (L0 := [(2, (r28203 : Int)), (0, a2), (0, 0)]) (jcall_v (A := [(0, 0), (0, a2)]) (S' := []) (r := r28203) rfl (g.qlt qr28203) (g.qtg qr28203) (Nat.le_of_ble_eq_true rfl)) (by decide) ml26 pp26 (Nat.le_of_ble_eq_true rfl) rfl (by decide) (by decide) ?_
          refine ev_aload_n rfl ?_
          refine ev_iload_n rfl ?_
          refine ev_iload_n rfl ?_
          refine ev_in (d := 1) (a := 0) (b := 0) (cd' := c25_0) (m := 3) (L0 := [(2, (r28203 : Int)), (0, a2), (0, 0)]) (jcall_v (A := [(0, 0), (0, a2)]) (S' := []) (r := r28203) rfl (g.qlt qr28203) (g.qtg qr28203) (Nat.le_of_ble_eq_true rfl)) (by decide) ml25 pp25 (Nat.le_of_ble_eq_true rfl) rfl (by decide) (by decide) ?_
          refine ev_aload_n rfl ?_
          refine ev_iload_n rfl ?_
          refine ev_in (d := 0) (a := 0) (b := 0) (cd' := c24_0) (m := 2) (L0 := [(2, (r28203 : Int)), (0, a2)]) (jcall_v (A := [(0, a2)]) (S' := []) (r := r28203) rfl (g.qlt qr28203) (g.qtg qr28203) (Nat.le_of_ble_eq_true rfl)) (by decide) ml24 pp24 (Nat.le_of_ble_eq_true rfl) rfl (by decide) (by decide) ?_
          refine ev_iload_n rfl ?_
          refine ev_iflt f24_16 (fun c28231 => ?_) (fun c28231 => ?_)
          · refine ev_iconst ?_
            refine ev_ret rfl (by decide) (by decide) ?_
            show jEv _ _ _ _ _ _ _ (_, [(2, (r28203 : Int)), (0, a2), (0, 0)], [(0, 0)], _, _, _)
            refine ev_ifeq f25_26 (fun c28232 => ?_) (fun c28232 => absurd c28232 (by omega))
            refine ev_iconst ?_
            refine ev_ret rfl (by decide) (by decide) ?_
            show jEv _ _ _ _ _ _ _ (_, [(2, (r28203 : Int)), (0, a2), (0, 0)], [(0, 0)], _, _, _)
            refine ev_ifeq f26_23 (fun c28233 => ?_) (fun c28233 => absurd c28233 (by omega))
            refine ev_iconst ?_
            refine ev_ret rfl (by decide) (by decide) ?_
            show jEv _ _ _ _ _ _ _ (_, [(2, 0), (0, a1), (0, a2), (0, a3), (2, (r28203 : Int)), (9, 0)], [(0, 0)], _, _, _)
            refine ev_ifne f182_37 (fun c28234 => absurd c28234 (by omega)) (fun c28234 => ?_)
            refine ev_iconst ?_
            exact ev_ret rfl (by decide) (by decide) ⟨_, rfl, by omega, by omega, g, k0⟩
          · refine ev_iload_n rfl ?_
            refine ev_aload_n rfl ?_
            obtain ⟨v28235, ev28235, lv28235, uv28235⟩ := g.q0 qr28203
            refine g_qgetv (v := v28235) g qr28203 ft4_0 ev28235 ?_
            refine ev_icmpge f24_16 (fun c28236 => ?_) (fun c28236 => ?_)
            · refine ev_iconst ?_
              refine ev_ret rfl (by decide) (by decide) ?_
              show jEv _ _ _ _ _ _ _ (_, [(2, (r28203 : Int)), (0, a2), (0, 0)], [(0, 0)], _, _, _)
              refine ev_ifeq f25_26 (fun c28237 => ?_) (fun c28237 => absurd c28237 (by omega))
              refine ev_iconst ?_
              refine ev_ret rfl (by decide) (by decide) ?_
              show jEv _ _ _ _ _ _ _ (_, [(2, (r28203 : Int)), (0, a2), (0, 0)], [(0, 0)], _, _, _)
              refine ev_ifeq f26_23 (fun c28238 => ?_) (fun c28238 => absurd c28238 (by omega))
              refine ev_iconst ?_
              refine ev_ret rfl (by decide) (by decide) ?_
              show jEv _ _ _ _ _ _ _ (_, [(2, 0), (0, a1), (0, a2), (0, a3), (2, (r28203 : Int)), (9, 0)], [(0, 0)], _, _, _)
              refine ev_ifne f182_37 (fun c28239 => absurd c28239 (by omega)) (fun c28239 => ?_)
              refine ev_iconst ?_
              exact ev_ret rfl (by decide) (by decide) ⟨_, rfl, by omega, by omega, g, k0⟩
            · refine ev_iconst ?_
              refine ev_goto f24_17 ?_
              refine ev_ret rfl (by decide) (by decide) ?_
              show jEv _ _ _ _ _ _ _ (_, [(2, (r28203 : Int)), (0, a2), (0, 0)], [(0, 1)], _, _, _)
              refine ev_ifeq f25_26 (fun c28240 => absurd c28240 (by omega)) (fun c28240 => ?_)
              refine ev_iload_n rfl ?_
              refine ev_iflt f25_26 (fun c28241 => absurd c28241 (by omega)) (fun c28241 => ?_)
              refine ev_iload_n rfl ?_
              refine ev_aload_n rfl ?_
              refine g_qgetp g qr28203 (c := 4) (by decide) (by decide) ft4_4 ?_
              refine ev_iload_n rfl ?_
              refine g_qiald g qr28203 (c := 4) (by decide) (by decide) (by decide) (by omega) (by show a2 < m28204; omega) rfl (fun v28242 ev28242 lv28242 uv28242 => ?_)
              refine ev_icmpge f25_26 (fun c28243 => ?_) (fun c28243 => ?_)
              · refine ev_iconst ?_
                refine ev_ret rfl (by decide) (by decide) ?_
                show jEv _ _ _ _ _ _ _ (_, [(2, (r28203 : Int)), (0, a2), (0, 0)], [(0, 0)], _, _, _)
                refine ev_ifeq f26_23 (fun c28244 => ?_) (fun c28244 => absurd c28244 (by omega))
                refine ev_iconst ?_
                refine ev_ret rfl (by decide) (by decide) ?_
                show jEv _ _ _ _ _ _ _ (_, [(2, 0), (0, a1), (0, a2), (0, a3), (2, (r28203 : Int)), (9, 0)], [(0, 0)], _, _, _)
                refine ev_ifne f182_37 (fun c28245 => absurd c28245 (by omega)) (fun c28245 => ?_)
                refine ev_iconst ?_
                exact ev_ret rfl (by decide) (by decide) ⟨_, rfl, by omega, by omega, g, k0⟩
              · refine ev_iconst ?_
                refine ev_goto f25_27 ?_
                refine ev_ret rfl (by decide) (by decide) ?_
                show jEv _ _ _ _ _ _ _ (_, [(2, (r28203 : Int)), (0, a2), (0, 0)], [(0, 1)], _, _, _)
                refine ev_ifeq f26_23 (fun c28246 => absurd c28246 (by omega)) (fun c28246 => ?_)
                refine ev_aload_n rfl ?_
                refine g_qgetp g qr28203 (c := 2) (by decide) (by decide) ft4_2 ?_
                refine ev_iload_n rfl ?_
                refine g_qiald g qr28203 (c := 2) (by decide) (by decide) (by decide) (by omega) (by show a2 < m28204; omega) rfl (fun v28247 ev28247 lv28247 uv28247 => ?_)
                refine ev_iconst ?_
                refine ev_icmpne f26_23 (fun c28248 => ?_) (fun c28248 => ?_)
                · refine ev_iconst ?_
                  refine ev_ret rfl (by decide) (by decide) ?_
                  show jEv _ _ _ _ _ _ _ (_, [(2, 0), (0, a1), (0, a2), (0, a3), (2, (r28203 : Int)), (9, 0)], [(0, 0)], _, _, _)
                  refine ev_ifne f182_37 (fun c28249 => absurd c28249 (by omega)) (fun c28249 => ?_)
                  refine ev_iconst ?_
                  exact ev_ret rfl (by decide) (by decide) ⟨_, rfl, by omega, by omega, g, k0⟩
                · refine ev_iconst ?_
                  refine ev_goto f26_24 ?_
                  refine ev_ret rfl (by decide) (by decide) ?_
                  show jEv _ _ _ _ _ _ _ (_, [(2, 0), (0, a1), (0, a2), (0, a3), (2, (r28203 : Int)), (9, 0)], [(0, 1)], _, _, _)
                  refine ev_ifne f182_37 (fun c28250 => ?_) (fun c28250 => absurd c28250 (by omega))
                  refine ev_aload rfl ?_
                  refine ev_iload_n rfl ?_
                  refine ev_in (d := 2) (a := 0) (b := 0) (cd' := c36_0) (m := 2) (L0 := [(2, (r28203 : Int)), (0, a2)]) (jcall_v (A := [(0, a2)]) (S' := []) (r := r28203) rfl (g.qlt qr28203) (g.qtg qr28203) (Nat.le_of_ble_eq_true rfl)) (by decide) ml36 pp36 (Nat.le_of_ble_eq_true rfl) rfl (by decide) (by decide) ?_
                  refine ev_aload_n rfl ?_
                  refine g_qgetp g qr28203 (c := 9) (by decide) (by decide) ft4_9 ?_
                  refine ev_iload_n rfl ?_
                  refine g_qiald g qr28203 (c := 9) (by decide) (by decide) (by decide) (by omega) (by show a2 < m28204; omega) rfl (fun v28251 ev28251 lv28251 uv28251 => ?_)
                  refine ev_ret rfl (by decide) (by decide) ?_
                  show jEv _ _ _ _ _ _ _ (_, [(2, 0), (0, a1), (0, a2), (0, a3), (2, (r28203 : Int)), (9, 0)], [(0, v28251)], _, _, _)
                  refine ev_istore (L' := [(2, 0), (0, a1), (0, a2), (0, a3), (2, (r28203 : Int)), (0, v28251)]) (Nat.le_of_ble_eq_true rfl) rfl ?_
                  refine ev_iload_n rfl ?_
                  refine ev_iflt f182_56 (fun c28252 => ?_) (fun c28252 => absurd c28252 (by omega))
                  refine ev_iload rfl ?_
                  exact ev_ret rfl (by decide) (by decide) ⟨_, rfl, by omega, by omega, g, k0⟩
    · refine ev_aconst_null ?_
      refine ev_goto f219_22 ?_
      refine ev_ret rfl (by decide) (by decide) ?_
      show jEv _ _ _ _ _ _ _ (_, [(2, 0), (0, a1), (0, a2), (0, a3), (9, 0), (9, 0)], [(2, (-1))], _, _, _)
      refine ev_astore (L' := [(2, 0), (0, a1), (0, a2), (0, a3), (2, (-1)), (9, 0)]) (Nat.le_of_ble_eq_true rfl) rfl ?_
      refine ev_aload rfl ?_
      refine ev_ifnull f182_35 (fun c28253 => ?_) (fun c28253 => absurd c28253 (by decide))
      refine ev_iconst ?_
      exact ev_ret rfl (by decide) (by decide) ⟨_, rfl, by omega, by omega, g, k0⟩
/-! 183 judge -/
set_option maxHeartbeats 4000000 in
theorem s183 {G : GH} {h : JH} (g : Gd G h) {a1 : Int} (la1 : (-2147483648) ≤ a1) (ua1 : a1 ≤ 2147483647) {a2 : Int} (la2 : (-2147483648) ≤ a2) (ua2 : a2 ≤ 2147483647) {a3 : Int} (la3 : (-2147483648) ≤ a3) (ua3 : a3 ≤ 2147483647) : jOk 6 0 0 183 [(2, 0), (0, a1), (0, a2), (0, a3)] h (PI G [(1, 2), (1, 3), (5, 0), (6, 0), (1000000, 0)] h 1 (-9223372036854775808) 9223372036854775807) := by
  refine ⟨by decide, by rw [ml183]; exact Nat.le_of_ble_eq_true rfl, ?_⟩
  rw [ml183, pp183]
  show jEv _ none _ c183_0 0 0 _ (c183_0, [(2, 0), (0, a1), (0, a2), (0, a3), (9, 0), (9, 0)], [], h, 0, 0)
  have k0 := Kp.rf [(1, 2), (1, 3), (5, 0), (6, 0), (1000000, 0)] h
  refine ev_aload_n rfl ?_
  refine ev_iload_n rfl ?_
  refine ev_in (d := 4) (a := 0) (b := 0) (cd' := c219_0) (m := 2) (L0 := [(2, 0), (0, a1)]) (jcall_v (A := [(0, a1)]) (S' := []) (r := 0) rfl (g.lt ad0) (g.tg ad0) (Nat.le_of_ble_eq_true rfl)) (by decide) ml219 pp219 (Nat.le_of_ble_eq_true rfl) rfl (by decide) (by decide) ?_
  refine ev_iload_n rfl ?_
  refine ev_iflt f219_12 (fun c28350 => ?_) (fun c28350 => ?_)
  · refine ev_aconst_null ?_
    refine ev_goto f219_22 ?_
    refine ev_ret rfl (by decide) (by decide) ?_
    show jEv _ _ _ _ _ _ _ (_, [(2, 0), (0, a1), (0, a2), (0, a3), (9, 0), (9, 0)], [(2, (-1))], _, _, _)
    refine ev_astore (L' := [(2, 0), (0, a1), (0, a2), (0, a3), (2, (-1)), (9, 0)]) (Nat.le_of_ble_eq_true rfl) rfl ?_
    refine ev_aload_n rfl ?_
    refine ev_iload_n rfl ?_
    refine ev_in (d := 4) (a := 0) (b := 0) (cd' := c220_0) (m := 2) (L0 := [(2, 0), (0, a2)]) (jcall_v (A := [(0, a2)]) (S' := []) (r := 0) rfl (g.lt ad0) (g.tg ad0) (Nat.le_of_ble_eq_true rfl)) (by decide) ml220 pp220 (Nat.le_of_ble_eq_true rfl) rfl (by decide) (by decide) ?_
    refine ev_iload_n rfl ?_
    refine ev_iflt f220_12 (fun c28351 => ?_) (fun c28351 => ?_)
    · refine ev_aconst_null ?_
      refine ev_goto f220_22 ?_
      refine ev_ret rfl (by decide) (by decide) ?_
      show jEv _ _ _ _ _ _ _ (_, [(2, 0), (0, a1), (0, a2), (0, a3), (2, (-1)), (9, 0)], [(2, (-1))], _, _, _)
      refine ev_astore (L' := [(2, 0), (0, a1), (0, a2), (0, a3), (2, (-1)), (2, (-1))]) (Nat.le_of_ble_eq_true rfl) rfl ?_
      refine ev_aload rfl ?_
      refine ev_ifnull f183_41 (fun c28352 => ?_) (fun c28352 => absurd c28352 (by decide))
      refine ev_ldc2_w ?_
      exact ev_ret rfl (by decide) (by decide) ⟨_, rfl, by omega, by omega, g, k0⟩
    · refine ev_iload_n rfl ?_
      refine ev_aload_n rfl ?_
      obtain ⟨v28353, ev28353, lv28353, uv28353⟩ := g.rd ad0 (show 7 < 17 by decide) rf0_7
      refine g_getv (r := 0) (v := v28353) g ad0 (by decide) ft11_7 ev28353 ?_
      refine ev_icmplt f220_16 (fun c28354 => ?_) (fun c28354 => ?_)
      · refine ev_aload_n rfl ?_
        refine g_getp (r := 0) (c := 24) g ad0 (by decide) (by decide) rf0_6 ft11_6 ?_
        refine ev_iload_n rfl ?_
        refine g_faald (g) (i := a2) (ev28353) (by omega) (by omega) (fun f28355 qf28355 => ?_)
        refine ev_ret rfl (by decide) (by decide) ?_
        show jEv _ _ _ _ _ _ _ (_, [(2, 0), (0, a1), (0, a2), (0, a3), (2, (-1)), (9, 0)], [(2, (f28355 : Int))], _, _, _)
        refine ev_astore (L' := [(2, 0), (0, a1), (0, a2), (0, a3), (2, (-1)), (2, (f28355 : Int))]) (Nat.le_of_ble_eq_true rfl) rfl ?_
        refine ev_aload rfl ?_
        refine ev_ifnull f183_41 (fun c28356 => ?_) (fun c28356 => absurd c28356 (by decide))
        refine ev_ldc2_w ?_
        exact ev_ret rfl (by decide) (by decide) ⟨_, rfl, by omega, by omega, g, k0⟩
      · refine ev_aconst_null ?_
        refine ev_goto f220_22 ?_
        refine ev_ret rfl (by decide) (by decide) ?_
        show jEv _ _ _ _ _ _ _ (_, [(2, 0), (0, a1), (0, a2), (0, a3), (2, (-1)), (9, 0)], [(2, (-1))], _, _, _)
        refine ev_astore (L' := [(2, 0), (0, a1), (0, a2), (0, a3), (2, (-1)), (2, (-1))]) (Nat.le_of_ble_eq_true rfl) rfl ?_
        refine ev_aload rfl ?_
        refine ev_ifnull f183_41 (fun c28357 => ?_) (fun c28357 => absurd c28357 (by decide))
        refine ev_ldc2_w ?_
        exact ev_ret rfl (by decide) (by decide) ⟨_, rfl, by omega, by omega, g, k0⟩
  · refine ev_iload_n rfl ?_
    refine ev_aload_n rfl ?_
    obtain ⟨v28358, ev28358, lv28358, uv28358⟩ := g.rd ad0 (show 3 < 17 by decide) rf0_3
    refine g_getv (r := 0) (v := v28358) g ad0 (by decide) ft11_3 ev28358 ?_
    refine ev_icmplt f219_16 (fun c28359 => ?_) (fun c28359 => ?_)
    · refine ev_aload_n rfl ?_
      refine g_getp (r := 0) (c := 18) g ad0 (by decide) (by decide) rf0_2 ft11_2 ?_
      refine ev_iload_n rfl ?_
      refine g_qaald (g) (i := a1) (ev28358) (by omega) (by omega) (fun r28360 m28361 qr28360 => ?_)
      have wr28360 := g.qb qr28360
      have zr28360 := qr28360.1
      refine ev_ret rfl (by decide) (by decide) ?_
      show jEv _ _ _ _ _ _ _ (_, [(2, 0), (0, a1), (0, a2), (0, a3), (9, 0), (9, 0)], [(2, (r28360 : Int))], _, _, _)
      refine ev_astore (L' := [(2, 0), (0, a1), (0, a2), (0, a3), (2, (r28360 : Int)), (9, 0)]) (Nat.le_of_ble_eq_true rfl) rfl ?_
      refine ev_aload_n rfl ?_
      refine ev_iload_n rfl ?_
      refine ev_in (d := 4) (a := 0) (b := 0) (cd' := c220_0) (m := 2) (L0 := [(2, 0), (0, a2)]) (jcall_v (A := [(0, a2)]) (S' := []) (r := 0) rfl (g.lt ad0) (g.tg ad0) (Nat.le_of_ble_eq_true rfl)) (by decide) ml220 pp220 (Nat.le_of_ble_eq_true rfl) rfl (by decide) (by decide) ?_
      refine ev_iload_n rfl ?_
      refine ev_iflt f220_12 (fun c28362 => ?_) (fun c28362 => ?_)
      · refine ev_aconst_null ?_
        refine ev_goto f220_22 ?_
        refine ev_ret rfl (by decide) (by decide) ?_
        show jEv _ _ _ _ _ _ _ (_, [(2, 0), (0, a1), (0, a2), (0, a3), (2, (r28360 : Int)), (9, 0)], [(2, (-1))], _, _, _)
        refine ev_astore (L' := [(2, 0), (0, a1), (0, a2), (0, a3), (2, (r28360 : Int)), (2, (-1))]) (Nat.le_of_ble_eq_true rfl) rfl ?_
        refine ev_aload rfl ?_
        refine ev_ifnull f183_41 (fun c28363 => absurd c28363 (by omega)) (fun c28363 => ?_)
        refine ev_aload rfl ?_
        refine ev_ifnull f183_41 (fun c28364 => ?_) (fun c28364 => absurd c28364 (by decide))
        refine ev_ldc2_w ?_
        exact ev_ret rfl (by decide) (by decide) ⟨_, rfl, by omega, by omega, g, k0⟩
      · refine ev_iload_n rfl ?_
        refine ev_aload_n rfl ?_
        obtain ⟨v28365, ev28365, lv28365, uv28365⟩ := g.rd ad0 (show 7 < 17 by decide) rf0_7
        refine g_getv (r := 0) (v := v28365) g ad0 (by decide) ft11_7 ev28365 ?_
        refine ev_icmplt f220_16 (fun c28366 => ?_) (fun c28366 => ?_)
        · refine ev_aload_n rfl ?_
          refine g_getp (r := 0) (c := 24) g ad0 (by decide) (by decide) rf0_6 ft11_6 ?_
          refine ev_iload_n rfl ?_
          refine g_faald (g) (i := a2) (ev28365) (by omega) (by omega) (fun f28367 qf28367 => ?_)
          refine ev_ret rfl (by decide) (by decide) ?_
          show jEv _ _ _ _ _ _ _ (_, [(2, 0), (0, a1), (0, a2), (0, a3), (2, (r28360 : Int)), (9, 0)], [(2, (f28367 : Int))], _, _, _)
          refine ev_astore (L' := [(2, 0), (0, a1), (0, a2), (0, a3), (2, (r28360 : Int)), (2, (f28367 : Int))]) (Nat.le_of_ble_eq_true rfl) rfl ?_
          refine ev_aload rfl ?_
          refine ev_ifnull f183_41 (fun c28368 => absurd c28368 (by omega)) (fun c28368 => ?_)
          refine ev_aload rfl ?_
          refine ev_ifnull f183_41 (fun c28369 => absurd c28369 (by omega)) (fun c28369 => ?_)
          refine ev_iload_n rfl ?_
          refine ev_in (d := 4) (a := 0) (b := 0) (cd' := c221_0) (m := 1) (L0 := [(0, a3)]) (jcall_s (A := [(0, a3)]) (S' := []) (by decide) rfl (Nat.le_of_ble_eq_true rfl)) (by decide) ml221 pp221 (Nat.le_of_ble_eq_true rfl) rfl (by decide) (by decide) ?_
          refine ev_iload_n rfl ?_
          refine ev_ifeq f221_9 (fun c28370 => ?_) (fun c28370 => ?_)
          · refine ev_iconst ?_
            refine ev_goto f221_14 ?_
            refine ev_ret rfl (by decide) (by decide) ?_
            show jEv _ _ _ _ _ _ _ (_, [(2, 0), (0, a1), (0, a2), (0, a3), (2, (r28360 : Int)), (2, (f28367 : Int))], [(0, 1)], _, _, _)
            refine ev_ifeq f183_41 (fun c28371 => absurd c28371 (by omega)) (fun c28371 => ?_)
            refine ev_aload_n rfl ?_
            refine g_getp (r := 0) (c := 1) g ad0 (by decide) (by decide) rf0_0 ft11_0 ?_
            refine ev_call (jcall_v (A := []) (S' := []) (r := 1) rfl (g.lt ad1) (g.tg ad1) (Nat.le_of_ble_eq_true rfl)) (jOk_le (by decide) (s153 g )) (by decide) (by decide) (fun w28372 h28372 q28372 => ?_)
            obtain ⟨v28373, rfl, lv28373, uv28373, g28372, kk28372⟩ := q28372
            have k28372 := k0.tr kk28372 (by decide)
            show jEv _ _ _ _ _ _ _ (_, [(2, 0), (0, a1), (0, a2), (0, a3), (2, (r28360 : Int)), (2, (f28367 : Int))], [(0, v28373)], _, _, _)
            refine ev_ifne f183_45 (fun c28374 => ?_) (fun c28374 => ?_)
            · refine ev_aload_n rfl ?_
              refine ev_aload rfl ?_
              refine ev_aload rfl ?_
              refine ev_aload rfl ?_
              refine ev_aload_n rfl ?_
              refine g_getp (r := 0) (c := 1) g28372 ad0 (by decide) (by decide) rf0_0 ft11_0 ?_
              refine ev_aload rfl ?_
              refine ev_call (jcall_v (A := [(2, (f28367 : Int)), (2, 1)]) (S' := [(2, (f28367 : Int)), (2, (r28360 : Int)), (2, 0)]) (r := r28360) rfl (g28372.qlt qr28360) (g28372.qtg qr28360) (Nat.le_of_ble_eq_true rfl)) (jOk_le (by decide) (s48 g28372 qr28360 qf28367)) (by decide) (by decide) (fun w28375 h28375 q28375 => ?_)
              obtain ⟨v28376, rfl, lv28376, uv28376, g28375, kk28375⟩ := q28375
              have k28375 := k28372.tr kk28375 (by decide)
              show jEv _ _ _ _ _ _ _ (_, [(2, 0), (0, a1), (0, a2), (0, a3), (2, (r28360 : Int)), (2, (f28367 : Int))], [(1, v28376), (2, (f28367 : Int)), (2, (r28360 : Int)), (2, 0)], _, _, _)
              refine ev_iload_n rfl ?_
              refine ev_call (jcall_v (A := [(0, a3), (1, v28376), (2, (f28367 : Int)), (2, (r28360 : Int))]) (S' := []) (r := 0) rfl (g28375.lt ad0) (g28375.tg ad0) (Nat.le_of_ble_eq_true rfl)) (jOk_le (by decide) (s227 g28375 qr28360 qf28367 (by omega) (by omega) (by omega) (by omega))) (by decide) (by decide) (fun w28377 h28377 q28377 => ?_)
              obtain ⟨v28378, rfl, lv28378, uv28378, g28377, kk28377⟩ := q28377
              have k28377 := k28375.tr kk28377 (by decide)
              show jEv _ _ _ _ _ _ _ (_, [(2, 0), (0, a1), (0, a2), (0, a3), (2, (r28360 : Int)), (2, (f28367 : Int))], [(1, v28378)], _, _, _)
              exact ev_ret rfl (by decide) (by decide) ⟨_, rfl, by omega, by omega, g28377, k28377⟩
            · refine ev_ldc2_w ?_
              exact ev_ret rfl (by decide) (by decide) ⟨_, rfl, by omega, by omega, g28372, k28372⟩
          · refine ev_iload_n rfl ?_
            refine ev_iconst ?_
            refine ev_icmpne f221_13 (fun c28379 => ?_) (fun c28379 => ?_)
            · refine ev_iconst ?_
              refine ev_ret rfl (by decide) (by decide) ?_
              show jEv _ _ _ _ _ _ _ (_, [(2, 0), (0, a1), (0, a2), (0, a3), (2, (r28360 : Int)), (2, (f28367 : Int))], [(0, 0)], _, _, _)
              refine ev_ifeq f183_41 (fun c28380 => ?_) (fun c28380 => absurd c28380 (by omega))
              refine ev_ldc2_w ?_
              exact ev_ret rfl (by decide) (by decide) ⟨_, rfl, by omega, by omega, g, k0⟩
            · refine ev_iconst ?_
              refine ev_goto f221_14 ?_
              refine ev_ret rfl (by decide) (by decide) ?_
              show jEv _ _ _ _ _ _ _ (_, [(2, 0), (0, a1), (0, a2), (0, a3), (2, (r28360 : Int)), (2, (f28367 : Int))], [(0, 1)], _, _, _)
              refine ev_ifeq f183_41 (fun c28381 => absurd c28381 (by omega)) (fun c28381 => ?_)
              refine ev_aload_n rfl ?_
              refine g_getp (r := 0) (c := 1) g ad0 (by decide) (by decide) rf0_0 ft11_0 ?_
              refine ev_call (jcall_v (A := []) (S' := []) (r := 1) rfl (g.lt ad1) (g.tg ad1) (Nat.le_of_ble_eq_true rfl)) (jOk_le (by decide) (s153 g )) (by decide) (by decide) (fun w28382 h28382 q28382 => ?_)
              obtain ⟨v28383, rfl, lv28383, uv28383, g28382, kk28382⟩ := q28382
              have k28382 := k0.tr kk28382 (by decide)
              show jEv _ _ _ _ _ _ _ (_, [(2, 0), (0, a1), (0, a2), (0, a3), (2, (r28360 : Int)), (2, (f28367 : Int))], [(0, v28383)], _, _, _)
              refine ev_ifne f183_45 (fun c28384 => ?_) (fun c28384 => ?_)
              · refine ev_aload_n rfl ?_
                refine ev_aload rfl ?_
                refine ev_aload rfl ?_
                refine ev_aload rfl ?_
                refine ev_aload_n rfl ?_
                refine g_getp (r := 0) (c := 1) g28382 ad0 (by decide) (by decide) rf0_0 ft11_0 ?_
                refine ev_aload rfl ?_
                refine ev_call (jcall_v (A := [(2, (f28367 : Int)), (2, 1)]) (S' := [(2, (f28367 : Int)), (2, (r28360 : Int)), (2, 0)]) (r := r28360) rfl (g28382.qlt qr28360) (g28382.qtg qr28360) (Nat.le_of_ble_eq_true rfl)) (jOk_le (by decide) (s48 g28382 qr28360 qf28367)) (by decide) (by decide) (fun w28385 h28385 q28385 => ?_)
                obtain ⟨v28386, rfl, lv28386, uv28386, g28385, kk28385⟩ := q28385
                have k28385 := k28382.tr kk28385 (by decide)
                show jEv _ _ _ _ _ _ _ (_, [(2, 0), (0, a1), (0, a2), (0, a3), (2, (r28360 : Int)), (2, (f28367 : Int))], [(1, v28386), (2, (f28367 : Int)), (2, (r28360 : Int)), (2, 0)], _, _, _)
                refine ev_iload_n rfl ?_
                refine ev_call (jcall_v (A := [(0, a3), (1, v28386), (2, (f28367 : Int)), (2, (r28360 : Int))]) (S' := []) (r := 0) rfl (g28385.lt ad0) (g28385.tg ad0) (Nat.le_of_ble_eq_true rfl)) (jOk_le (by decide) (s227 g28385 qr28360 qf28367 (by omega) (by omega) (by omega) (by omega))) (by decide) (by decide) (fun w28387 h28387 q28387 => ?_)
                obtain ⟨v28388, rfl, lv28388, uv28388, g28387, kk28387⟩ := q28387
                have k28387 := k28385.tr kk28387 (by decide)
                show jEv _ _ _ _ _ _ _ (_, [(2, 0), (0, a1), (0, a2), (0, a3), (2, (r28360 : Int)), (2, (f28367 : Int))], [(1, v28388)], _, _, _)
                exact ev_ret rfl (by decide) (by decide) ⟨_, rfl, by omega, by omega, g28387, k28387⟩
              · refine ev_ldc2_w ?_
                exact ev_ret rfl (by decide) (by decide) ⟨_, rfl, by omega, by omega, g28382, k28382⟩
        · refine ev_aconst_null ?_
          refine ev_goto f220_22 ?_
          refine ev_ret rfl (by decide) (by decide) ?_
          show jEv _ _ _ _ _ _ _ (_, [(2, 0), (0, a1), (0, a2), (0, a3), (2, (r28360 : Int)), (9, 0)], [(2, (-1))], _, _, _)
          refine ev_astore (L' := [(2, 0), (0, a1), (0, a2), (0, a3), (2, (r28360 : Int)), (2, (-1))]) (Nat.le_of_ble_eq_true rfl) rfl ?_
          refine ev_aload rfl ?_
          refine ev_ifnull f183_41 (fun c28389 => absurd c28389 (by omega)) (fun c28389 => ?_)
          refine ev_aload rfl ?_
          refine ev_ifnull f183_41 (fun c28390 => ?_) (fun c28390 => absurd c28390 (by decide))
          refine ev_ldc2_w ?_
          exact ev_ret rfl (by decide) (by decide) ⟨_, rfl, by omega, by omega, g, k0⟩
    · refine ev_aconst_null ?_
      refine ev_goto f219_22 ?_
      refine ev_ret rfl (by decide) (by decide) ?_
      show jEv _ _ _ _ _ _ _ (_, [(2, 0), (0, a1), (0, a2), (0, a3), (9, 0), (9, 0)], [(2, (-1))], _, _, _)
      refine ev_astore (L' := [(2, 0), (0, a1), (0, a2), (0, a3), (2, (-1)), (9, 0)]) (Nat.le_of_ble_eq_true rfl) rfl ?_
      refine ev_aload_n rfl ?_
      refine ev_iload_n rfl ?_
      refine ev_in (d := 4) (a := 0) (b := 0) (cd' := c220_0) (m := 2) (L0 := [(2, 0), (0, a2)]) (jcall_v (A := [(0, a2)]) (S' := []) (r := 0) rfl (g.lt ad0) (g.tg ad0) (Nat.le_of_ble_eq_true rfl)) (by decide) ml220 pp220 (Nat.le_of_ble_eq_true rfl) rfl (by decide) (by decide) ?_
      refine ev_iload_n rfl ?_
      refine ev_iflt f220_12 (fun c28391 => ?_) (fun c28391 => ?_)
      · refine ev_aconst_null ?_
        refine ev_goto f220_22 ?_
        refine ev_ret rfl (by decide) (by decide) ?_
        show jEv _ _ _ _ _ _ _ (_, [(2, 0), (0, a1), (0, a2), (0, a3), (2, (-1)), (9, 0)], [(2, (-1))], _, _, _)
        refine ev_astore (L' := [(2, 0), (0, a1), (0, a2), (0, a3), (2, (-1)), (2, (-1))]) (Nat.le_of_ble_eq_true rfl) rfl ?_
        refine ev_aload rfl ?_
        refine ev_ifnull f183_41 (fun c28392 => ?_) (fun c28392 => absurd c28392 (by decide))
        refine ev_ldc2_w ?_
        exact ev_ret rfl (by decide) (by decide) ⟨_, rfl, by omega, by omega, g, k0⟩
      · refine ev_iload_n rfl ?_
        refine ev_aload_n rfl ?_
        obtain ⟨v28393, ev28393, lv28393, uv28393⟩ := g.rd ad0 (show 7 < 17 by decide) rf0_7
        refine g_getv (r := 0) (v := v28393) g ad0 (by decide) ft11_7 ev28393 ?_
        refine ev_icmplt f220_16 (fun c28394 => ?_) (fun c28394 => ?_)
        · refine ev_aload_n rfl ?_
          refine g_getp (r := 0) (c := 24) g ad0 (by decide) (by decide) rf0_6 ft11_6 ?_
          refine ev_iload_n rfl ?_
          refine g_faald (g) (i := a2) (ev28393) (by omega) (by omega) (fun f28395 qf28395 => ?_)
          refine ev_ret rfl (by decide) (by decide) ?_
          show jEv _ _ _ _ _ _ _ (_, [(2, 0), (0, a1), (0, a2), (0, a3), (2, (-1)), (9, 0)], [(2, (f28395 : Int))], _, _, _)
          refine ev_astore (L' := [(2, 0), (0, a1), (0, a2), (0, a3), (2, (-1)), (2, (f28395 : Int))]) (Nat.le_of_ble_eq_true rfl) rfl ?_
          refine ev_aload rfl ?_
          refine ev_ifnull f183_41 (fun c28396 => ?_) (fun c28396 => absurd c28396 (by decide))
          refine ev_ldc2_w ?_
          exact ev_ret rfl (by decide) (by decide) ⟨_, rfl, by omega, by omega, g, k0⟩
        · refine ev_aconst_null ?_
          refine ev_goto f220_22 ?_
          refine ev_ret rfl (by decide) (by decide) ?_
          show jEv _ _ _ _ _ _ _ (_, [(2, 0), (0, a1), (0, a2), (0, a3), (2, (-1)), (9, 0)], [(2, (-1))], _, _, _)
          refine ev_astore (L' := [(2, 0), (0, a1), (0, a2), (0, a3), (2, (-1)), (2, (-1))]) (Nat.le_of_ble_eq_true rfl) rfl ?_
          refine ev_aload rfl ?_
          refine ev_ifnull f183_41 (fun c28397 => ?_) (fun c28397 => absurd c28397 (by decide))
          refine ev_ldc2_w ?_
          exact ev_ret rfl (by decide) (by decide) ⟨_, rfl, by omega, by omega, g, k0⟩
/-! 184 shortOf -/
set_option maxHeartbeats 4000000 in
theorem s184 {G : GH} {h : JH} (g : Gd G h) {a1 : Int} (la1 : (-2147483648) ≤ a1) (ua1 : a1 ≤ 2147483647) {a2 : Int} (la2 : (-2147483648) ≤ a2) (ua2 : a2 ≤ 2147483647) : jOk 7 0 0 184 [(2, 0), (0, a1), (0, a2)] h (PI G [(1, 2), (1, 3), (5, 0), (6, 0), (1000000, 0)] h 0 (-4) 99) := by
  refine ⟨by decide, by rw [ml184]; exact Nat.le_of_ble_eq_true rfl, ?_⟩
  rw [ml184, pp184]
  show jEv _ none _ c184_0 0 0 _ (c184_0, [(2, 0), (0, a1), (0, a2), (9, 0), (9, 0)], [], h, 0, 0)
  have k0 := Kp.rf [(1, 2), (1, 3), (5, 0), (6, 0), (1000000, 0)] h
  refine ev_aload_n rfl ?_
  refine ev_iload_n rfl ?_
  refine ev_in (d := 5) (a := 0) (b := 0) (cd' := c219_0) (m := 2) (L0 := [(2, 0), (0, a1)]) (jcall_v (A := [(0, a1)]) (S' := []) (r := 0) rfl (g.lt ad0) (g.tg ad0) (Nat.le_of_ble_eq_true rfl)) (by decide) ml219 pp219 (Nat.le_of_ble_eq_true rfl) rfl (by decide) (by decide) ?_
  refine ev_iload_n rfl ?_
  refine ev_iflt f219_12 (fun c28466 => ?_) (fun c28466 => ?_)
  · refine ev_aconst_null ?_
    refine ev_goto f219_22 ?_
    refine ev_ret rfl (by decide) (by decide) ?_
    show jEv _ _ _ _ _ _ _ (_, [(2, 0), (0, a1), (0, a2), (9, 0), (9, 0)], [(2, (-1))], _, _, _)
    refine ev_astore_n (L' := [(2, 0), (0, a1), (0, a2), (2, (-1)), (9, 0)]) (Nat.le_of_ble_eq_true rfl) rfl ?_
    refine ev_aload_n rfl ?_
    refine ev_iload_n rfl ?_
    refine ev_in (d := 5) (a := 0) (b := 0) (cd' := c220_0) (m := 2) (L0 := [(2, 0), (0, a2)]) (jcall_v (A := [(0, a2)]) (S' := []) (r := 0) rfl (g.lt ad0) (g.tg ad0) (Nat.le_of_ble_eq_true rfl)) (by decide) ml220 pp220 (Nat.le_of_ble_eq_true rfl) rfl (by decide) (by decide) ?_
    refine ev_iload_n rfl ?_
    refine ev_iflt f220_12 (fun c28467 => ?_) (fun c28467 => ?_)
    · refine ev_aconst_null ?_
      refine ev_goto f220_22 ?_
      refine ev_ret rfl (by decide) (by decide) ?_
      show jEv _ _ _ _ _ _ _ (_, [(2, 0), (0, a1), (0, a2), (2, (-1)), (9, 0)], [(2, (-1))], _, _, _)
      refine ev_astore (L' := [(2, 0), (0, a1), (0, a2), (2, (-1)), (2, (-1))]) (Nat.le_of_ble_eq_true rfl) rfl ?_
      refine ev_aload_n rfl ?_
      refine ev_ifnull f184_22 (fun c28468 => ?_) (fun c28468 => absurd c28468 (by decide))
      refine ev_iconst ?_
      exact ev_ret rfl (by decide) (by decide) ⟨_, rfl, by omega, by omega, g, k0⟩
    · refine ev_iload_n rfl ?_
      refine ev_aload_n rfl ?_
      obtain ⟨v28469, ev28469, lv28469, uv28469⟩ := g.rd ad0 (show 7 < 17 by decide) rf0_7
      refine g_getv (r := 0) (v := v28469) g ad0 (by decide) ft11_7 ev28469 ?_
      refine ev_icmplt f220_16 (fun c28470 => ?_) (fun c28470 => ?_)
      · refine ev_aload_n rfl ?_
        refine g_getp (r := 0) (c := 24) g ad0 (by decide) (by decide) rf0_6 ft11_6 ?_
        refine ev_iload_n rfl ?_
        refine g_faald (g) (i := a2) (ev28469) (by omega) (by omega) (fun f28471 qf28471 => ?_)
        refine ev_ret rfl (by decide) (by decide) ?_
        show jEv _ _ _ _ _ _ _ (_, [(2, 0), (0, a1), (0, a2), (2, (-1)), (9, 0)], [(2, (f28471 : Int))], _, _, _)
        refine ev_astore (L' := [(2, 0), (0, a1), (0, a2), (2, (-1)), (2, (f28471 : Int))]) (Nat.le_of_ble_eq_true rfl) rfl ?_
        refine ev_aload_n rfl ?_
        refine ev_ifnull f184_22 (fun c28472 => ?_) (fun c28472 => absurd c28472 (by decide))
        refine ev_iconst ?_
        exact ev_ret rfl (by decide) (by decide) ⟨_, rfl, by omega, by omega, g, k0⟩
      · refine ev_aconst_null ?_
        refine ev_goto f220_22 ?_
        refine ev_ret rfl (by decide) (by decide) ?_
        show jEv _ _ _ _ _ _ _ (_, [(2, 0), (0, a1), (0, a2), (2, (-1)), (9, 0)], [(2, (-1))], _, _, _)
        refine ev_astore (L' := [(2, 0), (0, a1), (0, a2), (2, (-1)), (2, (-1))]) (Nat.le_of_ble_eq_true rfl) rfl ?_
        refine ev_aload_n rfl ?_
        refine ev_ifnull f184_22 (fun c28473 => ?_) (fun c28473 => absurd c28473 (by decide))
        refine ev_iconst ?_
        exact ev_ret rfl (by decide) (by decide) ⟨_, rfl, by omega, by omega, g, k0⟩
  · refine ev_iload_n rfl ?_
    refine ev_aload_n rfl ?_
    obtain ⟨v28474, ev28474, lv28474, uv28474⟩ := g.rd ad0 (show 3 < 17 by decide) rf0_3
    refine g_getv (r := 0) (v := v28474) g ad0 (by decide) ft11_3 ev28474 ?_
    refine ev_icmplt f219_16 (fun c28475 => ?_) (fun c28475 => ?_)
    · refine ev_aload_n rfl ?_
      refine g_getp (r := 0) (c := 18) g ad0 (by decide) (by decide) rf0_2 ft11_2 ?_
      refine ev_iload_n rfl ?_
      refine g_qaald (g) (i := a1) (ev28474) (by omega) (by omega) (fun r28476 m28477 qr28476 => ?_)
      have wr28476 := g.qb qr28476
      have zr28476 := qr28476.1
      refine ev_ret rfl (by decide) (by decide) ?_
      show jEv _ _ _ _ _ _ _ (_, [(2, 0), (0, a1), (0, a2), (9, 0), (9, 0)], [(2, (r28476 : Int))], _, _, _)
      refine ev_astore_n (L' := [(2, 0), (0, a1), (0, a2), (2, (r28476 : Int)), (9, 0)]) (Nat.le_of_ble_eq_true rfl) rfl ?_
      refine ev_aload_n rfl ?_
      refine ev_iload_n rfl ?_
      refine ev_in (d := 5) (a := 0) (b := 0) (cd' := c220_0) (m := 2) (L0 := [(2, 0), (0, a2)]) (jcall_v (A := [(0, a2)]) (S' := []) (r := 0) rfl (g.lt ad0) (g.tg ad0) (Nat.le_of_ble_eq_true rfl)) (by decide) ml220 pp220 (Nat.le_of_ble_eq_true rfl) rfl (by decide) (by decide) ?_
      refine ev_iload_n rfl ?_
      refine ev_iflt f220_12 (fun c28478 => ?_) (fun c28478 => ?_)
      · refine ev_aconst_null ?_
        refine ev_goto f220_22 ?_
        refine ev_ret rfl (by decide) (by decide) ?_
        show jEv _ _ _ _ _ _ _ (_, [(2, 0), (0, a1), (0, a2), (2, (r28476 : Int)), (9, 0)], [(2, (-1))], _, _, _)
        refine ev_astore (L' := [(2, 0), (0, a1), (0, a2), (2, (r28476 : Int)), (2, (-1))]) (Nat.le_of_ble_eq_true rfl) rfl ?_
        refine ev_aload_n rfl ?_
        refine ev_ifnull f184_22 (fun c28479 => absurd c28479 (by omega)) (fun c28479 => ?_)
        refine ev_aload rfl ?_
        refine ev_ifnonnull f184_24 (fun c28480 => absurd c28480 (by decide)) (fun c28480 => ?_)
        refine ev_iconst ?_
        exact ev_ret rfl (by decide) (by decide) ⟨_, rfl, by omega, by omega, g, k0⟩
      · refine ev_iload_n rfl ?_
        refine ev_aload_n rfl ?_
        obtain ⟨v28481, ev28481, lv28481, uv28481⟩ := g.rd ad0 (show 7 < 17 by decide) rf0_7
        refine g_getv (r := 0) (v := v28481) g ad0 (by decide) ft11_7 ev28481 ?_
        refine ev_icmplt f220_16 (fun c28482 => ?_) (fun c28482 => ?_)
        · refine ev_aload_n rfl ?_
          refine g_getp (r := 0) (c := 24) g ad0 (by decide) (by decide) rf0_6 ft11_6 ?_
          refine ev_iload_n rfl ?_
          refine g_faald (g) (i := a2) (ev28481) (by omega) (by omega) (fun f28483 qf28483 => ?_)
          refine ev_ret rfl (by decide) (by decide) ?_
          show jEv _ _ _ _ _ _ _ (_, [(2, 0), (0, a1), (0, a2), (2, (r28476 : Int)), (9, 0)], [(2, (f28483 : Int))], _, _, _)
          refine ev_astore (L' := [(2, 0), (0, a1), (0, a2), (2, (r28476 : Int)), (2, (f28483 : Int))]) (Nat.le_of_ble_eq_true rfl) rfl ?_
          refine ev_aload_n rfl ?_
          refine ev_ifnull f184_22 (fun c28484 => absurd c28484 (by omega)) (fun c28484 => ?_)
          refine ev_aload rfl ?_
          refine ev_ifnonnull f184_24 (fun c28485 => ?_) (fun c28485 => absurd c28485 (by omega))
          refine ev_aload_n rfl ?_
          refine g_getp (r := 0) (c := 1) g ad0 (by decide) (by decide) rf0_0 ft11_0 ?_
          refine ev_call (jcall_v (A := []) (S' := []) (r := 1) rfl (g.lt ad1) (g.tg ad1) (Nat.le_of_ble_eq_true rfl)) (jOk_le (by decide) (s153 g )) (by decide) (by decide) (fun w28486 h28486 q28486 => ?_)
          obtain ⟨v28487, rfl, lv28487, uv28487, g28486, kk28486⟩ := q28486
          have k28486 := k0.tr kk28486 (by decide)
          show jEv _ _ _ _ _ _ _ (_, [(2, 0), (0, a1), (0, a2), (2, (r28476 : Int)), (2, (f28483 : Int))], [(0, v28487)], _, _, _)
          refine ev_ifeq f184_47 (fun c28488 => ?_) (fun c28488 => ?_)
          · refine ev_bipush ?_
            exact ev_ret rfl (by decide) (by decide) ⟨_, rfl, by omega, by omega, g28486, k28486⟩
          · refine ev_aload_n rfl ?_
            refine ev_aload_n rfl ?_
            refine g_getp (r := 0) (c := 1) g28486 ad0 (by decide) (by decide) rf0_0 ft11_0 ?_
            refine ev_aload rfl ?_
            refine ev_call (jcall_v (A := [(2, (f28483 : Int)), (2, 1)]) (S' := []) (r := r28476) rfl (g28486.qlt qr28476) (g28486.qtg qr28476) (Nat.le_of_ble_eq_true rfl)) (jOk_le (by decide) (s56 g28486 qr28476 qf28483)) (by decide) (by decide) (fun w28489 h28489 q28489 => ?_)
            obtain ⟨v28490, rfl, lv28490, uv28490, g28489, kk28489⟩ := q28489
            have k28489 := k28486.tr kk28489 (by decide)
            show jEv _ _ _ _ _ _ _ (_, [(2, 0), (0, a1), (0, a2), (2, (r28476 : Int)), (2, (f28483 : Int))], [(0, v28490)], _, _, _)
            refine ev_goto f184_49 ?_
            exact ev_ret rfl (by decide) (by decide) ⟨_, rfl, by omega, by omega, g28489, k28489⟩
        · refine ev_aconst_null ?_
          refine ev_goto f220_22 ?_
          refine ev_ret rfl (by decide) (by decide) ?_
          show jEv _ _ _ _ _ _ _ (_, [(2, 0), (0, a1), (0, a2), (2, (r28476 : Int)), (9, 0)], [(2, (-1))], _, _, _)
          refine ev_astore (L' := [(2, 0), (0, a1), (0, a2), (2, (r28476 : Int)), (2, (-1))]) (Nat.le_of_ble_eq_true rfl) rfl ?_
          refine ev_aload_n rfl ?_
          refine ev_ifnull f184_22 (fun c28491 => absurd c28491 (by omega)) (fun c28491 => ?_)
          refine ev_aload rfl ?_
          refine ev_ifnonnull f184_24 (fun c28492 => absurd c28492 (by decide)) (fun c28492 => ?_)
          refine ev_iconst ?_
          exact ev_ret rfl (by decide) (by decide) ⟨_, rfl, by omega, by omega, g, k0⟩
    · refine ev_aconst_null ?_
      refine ev_goto f219_22 ?_
      refine ev_ret rfl (by decide) (by decide) ?_
      show jEv _ _ _ _ _ _ _ (_, [(2, 0), (0, a1), (0, a2), (9, 0), (9, 0)], [(2, (-1))], _, _, _)
      refine ev_astore_n (L' := [(2, 0), (0, a1), (0, a2), (2, (-1)), (9, 0)]) (Nat.le_of_ble_eq_true rfl) rfl ?_
      refine ev_aload_n rfl ?_
      refine ev_iload_n rfl ?_
      refine ev_in (d := 5) (a := 0) (b := 0) (cd' := c220_0) (m := 2) (L0 := [(2, 0), (0, a2)]) (jcall_v (A := [(0, a2)]) (S' := []) (r := 0) rfl (g.lt ad0) (g.tg ad0) (Nat.le_of_ble_eq_true rfl)) (by decide) ml220 pp220 (Nat.le_of_ble_eq_true rfl) rfl (by decide) (by decide) ?_
      refine ev_iload_n rfl ?_
      refine ev_iflt f220_12 (fun c28493 => ?_) (fun c28493 => ?_)
      · refine ev_aconst_null ?_
        refine ev_goto f220_22 ?_
        refine ev_ret rfl (by decide) (by decide) ?_
        show jEv _ _ _ _ _ _ _ (_, [(2, 0), (0, a1), (0, a2), (2, (-1)), (9, 0)], [(2, (-1))], _, _, _)
        refine ev_astore (L' := [(2, 0), (0, a1), (0, a2), (2, (-1)), (2, (-1))]) (Nat.le_of_ble_eq_true rfl) rfl ?_
        refine ev_aload_n rfl ?_
        refine ev_ifnull f184_22 (fun c28494 => ?_) (fun c28494 => absurd c28494 (by decide))
        refine ev_iconst ?_
        exact ev_ret rfl (by decide) (by decide) ⟨_, rfl, by omega, by omega, g, k0⟩
      · refine ev_iload_n rfl ?_
        refine ev_aload_n rfl ?_
        obtain ⟨v28495, ev28495, lv28495, uv28495⟩ := g.rd ad0 (show 7 < 17 by decide) rf0_7
        refine g_getv (r := 0) (v := v28495) g ad0 (by decide) ft11_7 ev28495 ?_
        refine ev_icmplt f220_16 (fun c28496 => ?_) (fun c28496 => ?_)
        · refine ev_aload_n rfl ?_
          refine g_getp (r := 0) (c := 24) g ad0 (by decide) (by decide) rf0_6 ft11_6 ?_
          refine ev_iload_n rfl ?_
          refine g_faald (g) (i := a2) (ev28495) (by omega) (by omega) (fun f28497 qf28497 => ?_)
          refine ev_ret rfl (by decide) (by decide) ?_
          show jEv _ _ _ _ _ _ _ (_, [(2, 0), (0, a1), (0, a2), (2, (-1)), (9, 0)], [(2, (f28497 : Int))], _, _, _)
          refine ev_astore (L' := [(2, 0), (0, a1), (0, a2), (2, (-1)), (2, (f28497 : Int))]) (Nat.le_of_ble_eq_true rfl) rfl ?_
          refine ev_aload_n rfl ?_
          refine ev_ifnull f184_22 (fun c28498 => ?_) (fun c28498 => absurd c28498 (by decide))
          refine ev_iconst ?_
          exact ev_ret rfl (by decide) (by decide) ⟨_, rfl, by omega, by omega, g, k0⟩
        · refine ev_aconst_null ?_
          refine ev_goto f220_22 ?_
          refine ev_ret rfl (by decide) (by decide) ?_
          show jEv _ _ _ _ _ _ _ (_, [(2, 0), (0, a1), (0, a2), (2, (-1)), (9, 0)], [(2, (-1))], _, _, _)
          refine ev_astore (L' := [(2, 0), (0, a1), (0, a2), (2, (-1)), (2, (-1))]) (Nat.le_of_ble_eq_true rfl) rfl ?_
          refine ev_aload_n rfl ?_
          refine ev_ifnull f184_22 (fun c28499 => ?_) (fun c28499 => absurd c28499 (by decide))
          refine ev_iconst ?_
          exact ev_ret rfl (by decide) (by decide) ⟨_, rfl, by omega, by omega, g, k0⟩
/-! 185 fork -/
set_option maxHeartbeats 4000000 in
theorem s185 {G : GH} {h : JH} (g : Gd G h) {a1 : Int} (la1 : (-2147483648) ≤ a1) (ua1 : a1 ≤ 2147483647) {a2 : Int} (la2 : (-2147483648) ≤ a2) (ua2 : a2 ≤ 2147483647) {a3 : Int} (la3 : (-2147483648) ≤ a3) (ua3 : a3 ≤ 2147483647) {a4 : Int} (la4 : (-2147483648) ≤ a4) (ua4 : a4 ≤ 2147483647) : jOk 6 0 0 185 [(2, 0), (0, a1), (0, a2), (0, a3), (0, a4)] h (PI G [(1, 2), (1, 3), (5, 0), (6, 0), (1000000, 0)] h 1 (-9223372036854775808) 9223372036854775807) := by
  refine ⟨by decide, by rw [ml185]; exact Nat.le_of_ble_eq_true rfl, ?_⟩
  rw [ml185, pp185]
  show jEv _ none _ c185_0 0 0 _ (c185_0, [(2, 0), (0, a1), (0, a2), (0, a3), (0, a4), (9, 0)], [], h, 0, 0)
  have k0 := Kp.rf [(1, 2), (1, 3), (5, 0), (6, 0), (1000000, 0)] h
  refine ev_aload_n rfl ?_
  refine ev_iload_n rfl ?_
  refine ev_in (d := 4) (a := 0) (b := 0) (cd' := c219_0) (m := 2) (L0 := [(2, 0), (0, a1)]) (jcall_v (A := [(0, a1)]) (S' := []) (r := 0) rfl (g.lt ad0) (g.tg ad0) (Nat.le_of_ble_eq_true rfl)) (by decide) ml219 pp219 (Nat.le_of_ble_eq_true rfl) rfl (by decide) (by decide) ?_
  refine ev_iload_n rfl ?_
  refine ev_iflt f219_12 (fun c28650 => ?_) (fun c28650 => ?_)
  · refine ev_aconst_null ?_
    refine ev_goto f219_22 ?_
    refine ev_ret rfl (by decide) (by decide) ?_
    show jEv _ _ _ _ _ _ _ (_, [(2, 0), (0, a1), (0, a2), (0, a3), (0, a4), (9, 0)], [(2, (-1))], _, _, _)
    refine ev_astore (L' := [(2, 0), (0, a1), (0, a2), (0, a3), (0, a4), (2, (-1))]) (Nat.le_of_ble_eq_true rfl) rfl ?_
    refine ev_aload rfl ?_
    refine ev_ifnull f185_40 (fun c28651 => ?_) (fun c28651 => absurd c28651 (by decide))
    refine ev_ldc2_w ?_
    exact ev_ret rfl (by decide) (by decide) ⟨_, rfl, by omega, by omega, g, k0⟩
  · refine ev_iload_n rfl ?_
    refine ev_aload_n rfl ?_
    obtain ⟨v28652, ev28652, lv28652, uv28652⟩ := g.rd ad0 (show 3 < 17 by decide) rf0_3
    refine g_getv (r := 0) (v := v28652) g ad0 (by decide) ft11_3 ev28652 ?_
    refine ev_icmplt f219_16 (fun c28653 => ?_) (fun c28653 => ?_)
    · refine ev_aload_n rfl ?_
      refine g_getp (r := 0) (c := 18) g ad0 (by decide) (by decide) rf0_2 ft11_2 ?_
      refine ev_iload_n rfl ?_
      refine g_qaald (g) (i := a1) (ev28652) (by omega) (by omega) (fun r28654 m28655 qr28654 => ?_)
      have wr28654 := g.qb qr28654
      have zr28654 := qr28654.1
      refine ev_ret rfl (by decide) (by decide) ?_
      show jEv _ _ _ _ _ _ _ (_, [(2, 0), (0, a1), (0, a2), (0, a3), (0, a4), (9, 0)], [(2, (r28654 : Int))], _, _, _)
      refine ev_astore (L' := [(2, 0), (0, a1), (0, a2), (0, a3), (0, a4), (2, (r28654 : Int))]) (Nat.le_of_ble_eq_true rfl) rfl ?_
      refine ev_aload rfl ?_
      refine ev_ifnull f185_40 (fun c28656 => absurd c28656 (by omega)) (fun c28656 => ?_)
      refine ev_aload rfl ?_
      refine ev_iload_n rfl ?_
      refine ev_iload_n rfl ?_
      refine ev_in (d := 4) (a := 0) (b := 0) (cd' := c26_0) (m := 3) (L0 := [(2, (r28654 : Int)), (0, a2), (0, a3)]) (jcall_v (A := [(0, a3), (0, a2)]) (S' := []) (r := r28654) rfl (g.qlt qr28654) (g.qtg qr28654) (Nat.le_of_ble_eq_true rfl)) (by decide) ml26 pp26 (Nat.le_of_ble_eq_true rfl) rfl (by decide) (by decide) ?_
      refine ev_aload_n rfl ?_
      refine ev_iload_n rfl ?_
      refine ev_iload_n rfl ?_
      refine ev_in (d := 3) (a := 0) (b := 0) (cd' := c25_0) (m := 3) (L0 := [(2, (r28654 : Int)), (0, a2), (0, a3)]) (jcall_v (A := [(0, a3), (0, a2)]) (S' := []) (r := r28654) rfl (g.qlt qr28654) (g.qtg qr28654) (Nat.le_of_ble_eq_true rfl)) (by decide) ml25 pp25 (Nat.le_of_ble_eq_true rfl) rfl (by decide) (by decide) ?_
      refine ev_aload_n rfl ?_
      refine ev_iload_n rfl ?_
      refine ev_in (d := 2) (a := 0) (b := 0) (cd' := c24_0) (m := 2) (L0 := [(2, (r28654 : Int)), (0, a2)]) (jcall_v (A := [(0, a2)]) (S' := []) (r := r28654) rfl (g.qlt qr28654) (g.qtg qr28654) (Nat.le_of_ble_eq_true rfl)) (by decide) ml24 pp24 (Nat.le_of_ble_eq_true rfl) rfl (by decide) (by decide) ?_
      refine ev_iload_n rfl ?_
      refine ev_iflt f24_16 (fun c28657 => ?_) (fun c28657 => ?_)
      · refine ev_iconst ?_
        refine ev_ret rfl (by decide) (by decide) ?_
        show jEv _ _ _ _ _ _ _ (_, [(2, (r28654 : Int)), (0, a2), (0, a3)], [(0, 0)], _, _, _)
        refine ev_ifeq f25_26 (fun c28658 => ?_) (fun c28658 => absurd c28658 (by omega))
        refine ev_iconst ?_
        refine ev_ret rfl (by decide) (by decide) ?_
        show jEv _ _ _ _ _ _ _ (_, [(2, (r28654 : Int)), (0, a2), (0, a3)], [(0, 0)], _, _, _)
        refine ev_ifeq f26_23 (fun c28659 => ?_) (fun c28659 => absurd c28659 (by omega))
        refine ev_iconst ?_
        refine ev_ret rfl (by decide) (by decide) ?_
        show jEv _ _ _ _ _ _ _ (_, [(2, 0), (0, a1), (0, a2), (0, a3), (0, a4), (2, (r28654 : Int))], [(0, 0)], _, _, _)
        refine ev_ifeq f185_40 (fun c28660 => ?_) (fun c28660 => absurd c28660 (by omega))
        refine ev_ldc2_w ?_
        exact ev_ret rfl (by decide) (by decide) ⟨_, rfl, by omega, by omega, g, k0⟩
      · refine ev_iload_n rfl ?_
        refine ev_aload_n rfl ?_
        obtain ⟨v28661, ev28661, lv28661, uv28661⟩ := g.q0 qr28654
        refine g_qgetv (v := v28661) g qr28654 ft4_0 ev28661 ?_
        refine ev_icmpge f24_16 (fun c28662 => ?_) (fun c28662 => ?_)
        · refine ev_iconst ?_
          refine ev_ret rfl (by decide) (by decide) ?_
          show jEv _ _ _ _ _ _ _ (_, [(2, (r28654 : Int)), (0, a2), (0, a3)], [(0, 0)], _, _, _)
          refine ev_ifeq f25_26 (fun c28663 => ?_) (fun c28663 => absurd c28663 (by omega))
          refine ev_iconst ?_
          refine ev_ret rfl (by decide) (by decide) ?_
          show jEv _ _ _ _ _ _ _ (_, [(2, (r28654 : Int)), (0, a2), (0, a3)], [(0, 0)], _, _, _)
          refine ev_ifeq f26_23 (fun c28664 => ?_) (fun c28664 => absurd c28664 (by omega))
          refine ev_iconst ?_
          refine ev_ret rfl (by decide) (by decide) ?_
          show jEv _ _ _ _ _ _ _ (_, [(2, 0), (0, a1), (0, a2), (0, a3), (0, a4), (2, (r28654 : Int))], [(0, 0)], _, _, _)
          refine ev_ifeq f185_40 (fun c28665 => ?_) (fun c28665 => absurd c28665 (by omega))
          refine ev_ldc2_w ?_
          exact ev_ret rfl (by decide) (by decide) ⟨_, rfl, by omega, by omega, g, k0⟩
        · refine ev_iconst ?_
          refine ev_goto f24_17 ?_
          refine ev_ret rfl (by decide) (by decide) ?_
          show jEv _ _ _ _ _ _ _ (_, [(2, (r28654 : Int)), (0, a2), (0, a3)], [(0, 1)], _, _, _)
          refine ev_ifeq f25_26 (fun c28666 => absurd c28666 (by omega)) (fun c28666 => ?_)
          refine ev_iload_n rfl ?_
          refine ev_iflt f25_26 (fun c28667 => ?_) (fun c28667 => ?_)
          · refine ev_iconst ?_
            refine ev_ret rfl (by decide) (by decide) ?_
            show jEv _ _ _ _ _ _ _ (_, [(2, (r28654 : Int)), (0, a2), (0, a3)], [(0, 0)], _, _, _)
            refine ev_ifeq f26_23 (fun c28668 => ?_) (fun c28668 => absurd c28668 (by omega))
            refine ev_iconst ?_
            refine ev_ret rfl (by decide) (by decide) ?_
            show jEv _ _ _ _ _ _ _ (_, [(2, 0), (0, a1), (0, a2), (0, a3), (0, a4), (2, (r28654 : Int))], [(0, 0)], _, _, _)
            refine ev_ifeq f185_40 (fun c28669 => ?_) (fun c28669 => absurd c28669 (by omega))
            refine ev_ldc2_w ?_
            exact ev_ret rfl (by decide) (by decide) ⟨_, rfl, by omega, by omega, g, k0⟩
          · refine ev_iload_n rfl ?_
            refine ev_aload_n rfl ?_
            refine g_qgetp g qr28654 (c := 4) (by decide) (by decide) ft4_4 ?_
            refine ev_iload_n rfl ?_
            refine g_qiald g qr28654 (c := 4) (by decide) (by decide) (by decide) (by omega) (by show a2 < m28655; omega) rfl (fun v28670 ev28670 lv28670 uv28670 => ?_)
            refine ev_icmpge f25_26 (fun c28671 => ?_) (fun c28671 => ?_)
            · refine ev_iconst ?_
              refine ev_ret rfl (by decide) (by decide) ?_
              show jEv _ _ _ _ _ _ _ (_, [(2, (r28654 : Int)), (0, a2), (0, a3)], [(0, 0)], _, _, _)
              refine ev_ifeq f26_23 (fun c28672 => ?_) (fun c28672 => absurd c28672 (by omega))
              refine ev_iconst ?_
              refine ev_ret rfl (by decide) (by decide) ?_
              show jEv _ _ _ _ _ _ _ (_, [(2, 0), (0, a1), (0, a2), (0, a3), (0, a4), (2, (r28654 : Int))], [(0, 0)], _, _, _)
              refine ev_ifeq f185_40 (fun c28673 => ?_) (fun c28673 => absurd c28673 (by omega))
              refine ev_ldc2_w ?_
              exact ev_ret rfl (by decide) (by decide) ⟨_, rfl, by omega, by omega, g, k0⟩
            · refine ev_iconst ?_
              refine ev_goto f25_27 ?_
              refine ev_ret rfl (by decide) (by decide) ?_
              show jEv _ _ _ _ _ _ _ (_, [(2, (r28654 : Int)), (0, a2), (0, a3)], [(0, 1)], _, _, _)
              refine ev_ifeq f26_23 (fun c28674 => absurd c28674 (by omega)) (fun c28674 => ?_)
              refine ev_aload_n rfl ?_
              refine g_qgetp g qr28654 (c := 2) (by decide) (by decide) ft4_2 ?_
              refine ev_iload_n rfl ?_
              refine g_qiald g qr28654 (c := 2) (by decide) (by decide) (by decide) (by omega) (by show a2 < m28655; omega) rfl (fun v28675 ev28675 lv28675 uv28675 => ?_)
              refine ev_iconst ?_
              refine ev_icmpne f26_23 (fun c28676 => ?_) (fun c28676 => ?_)
              · refine ev_iconst ?_
                refine ev_ret rfl (by decide) (by decide) ?_
                show jEv _ _ _ _ _ _ _ (_, [(2, 0), (0, a1), (0, a2), (0, a3), (0, a4), (2, (r28654 : Int))], [(0, 0)], _, _, _)
                refine ev_ifeq f185_40 (fun c28677 => ?_) (fun c28677 => absurd c28677 (by omega))
                refine ev_ldc2_w ?_
                exact ev_ret rfl (by decide) (by decide) ⟨_, rfl, by omega, by omega, g, k0⟩
              · refine ev_iconst ?_
                refine ev_goto f26_24 ?_
                refine ev_ret rfl (by decide) (by decide) ?_
                show jEv _ _ _ _ _ _ _ (_, [(2, 0), (0, a1), (0, a2), (0, a3), (0, a4), (2, (r28654 : Int))], [(0, 1)], _, _, _)
                refine ev_ifeq f185_40 (fun c28678 => absurd c28678 (by omega)) (fun c28678 => ?_)
                refine ev_iload rfl ?_
                refine ev_in (d := 4) (a := 0) (b := 0) (cd' := c221_0) (m := 1) (L0 := [(0, a4)]) (jcall_s (A := [(0, a4)]) (S' := []) (by decide) rfl (Nat.le_of_ble_eq_true rfl)) (by decide) ml221 pp221 (Nat.le_of_ble_eq_true rfl) rfl (by decide) (by decide) ?_
                refine ev_iload_n rfl ?_
                refine ev_ifeq f221_9 (fun c28679 => ?_) (fun c28679 => ?_)
                · refine ev_iconst ?_
                  refine ev_goto f221_14 ?_
                  refine ev_ret rfl (by decide) (by decide) ?_
                  show jEv _ _ _ _ _ _ _ (_, [(2, 0), (0, a1), (0, a2), (0, a3), (0, a4), (2, (r28654 : Int))], [(0, 1)], _, _, _)
                  refine ev_ifeq f185_40 (fun c28680 => absurd c28680 (by omega)) (fun c28680 => ?_)
                  refine ev_aload_n rfl ?_
                  refine g_getp (r := 0) (c := 1) g ad0 (by decide) (by decide) rf0_0 ft11_0 ?_
                  refine ev_call (jcall_v (A := []) (S' := []) (r := 1) rfl (g.lt ad1) (g.tg ad1) (Nat.le_of_ble_eq_true rfl)) (jOk_le (by decide) (s153 g )) (by decide) (by decide) (fun w28681 h28681 q28681 => ?_)
                  obtain ⟨v28682, rfl, lv28682, uv28682, g28681, kk28681⟩ := q28681
                  have k28681 := k0.tr kk28681 (by decide)
                  show jEv _ _ _ _ _ _ _ (_, [(2, 0), (0, a1), (0, a2), (0, a3), (0, a4), (2, (r28654 : Int))], [(0, v28682)], _, _, _)
                  refine ev_ifne f185_44 (fun c28683 => ?_) (fun c28683 => ?_)
                  · refine ev_aload rfl ?_
                    refine ev_aload_n rfl ?_
                    refine g_getp (r := 0) (c := 1) g28681 ad0 (by decide) (by decide) rf0_0 ft11_0 ?_
                    refine ev_aload_n rfl ?_
                    refine g_getp (r := 0) (c := 23) g28681 ad0 (by decide) (by decide) rf0_5 ft11_5 ?_
                    refine ev_iconst ?_
                    refine ev_call (jcall_v (A := [(0, 0), (2, 23), (2, 1)]) (S' := []) (r := r28654) rfl (g28681.qlt qr28654) (g28681.qtg qr28654) (Nat.le_of_ble_eq_true rfl)) (jOk_le (by decide) (s47 g28681 qr28654 (Or.inl rfl) (by omega) (by omega))) (by decide) (by decide) (fun w28684 h28684 q28684 => ?_)
                    obtain ⟨v28685, rfl, lv28685, uv28685, g28684, kk28684⟩ := q28684
                    have k28684 := k28681.tr kk28684 (by decide)
                    show jEv _ _ _ _ _ _ _ (_, [(2, 0), (0, a1), (0, a2), (0, a3), (0, a4), (2, (r28654 : Int))], [(1, v28685)], _, _, _)
                    refine ev_pop2 ?_
                    refine ev_aload rfl ?_
                    refine ev_aload_n rfl ?_
                    refine g_getp (r := 0) (c := 1) g28684 ad0 (by decide) (by decide) rf0_0 ft11_0 ?_
                    refine ev_iload_n rfl ?_
                    refine ev_iload_n rfl ?_
                    refine ev_call (jcall_v (A := [(0, a3), (0, a2), (2, 1)]) (S' := []) (r := r28654) rfl (g28684.qlt qr28654) (g28684.qtg qr28654) (Nat.le_of_ble_eq_true rfl)) (jOk_le (by decide) (s59 g28684 qr28654 (by omega) (by omega) (by omega) (by omega))) (by decide) (by decide) (fun w28686 h28686 q28686 => ?_)
                    obtain ⟨v28687, rfl, lv28687, uv28687, g28686, kk28686⟩ := q28686
                    have k28686 := k28684.tr kk28686 (by decide)
                    show jEv _ _ _ _ _ _ _ (_, [(2, 0), (0, a1), (0, a2), (0, a3), (0, a4), (2, (r28654 : Int))], [(1, v28687)], _, _, _)
                    refine ev_ldc2_w ?_
                    refine ev_aload rfl ?_
                    refine ev_aload_n rfl ?_
                    refine g_getp (r := 0) (c := 1) g28686 ad0 (by decide) (by decide) rf0_0 ft11_0 ?_
                    refine ev_iload_n rfl ?_
                    refine ev_in (d := 4) (a := 0) (b := 0) (cd' := c58_0) (m := 3) (L0 := [(2, (r28654 : Int)), (2, 1), (0, a2)]) (jcall_v (A := [(0, a2), (2, 1)]) (S' := [(1, 100), (1, v28687)]) (r := r28654) rfl (g28686.qlt qr28654) (g28686.qtg qr28654) (Nat.le_of_ble_eq_true rfl)) (by decide) ml58 pp58 (Nat.le_of_ble_eq_true rfl) rfl (by decide) (by decide) ?_
                    refine ev_aload_n rfl ?_
                    refine ev_aload_n rfl ?_
                    refine g_qgetp g28686 qr28654 (c := 8) (by decide) (by decide) ft4_8 ?_
                    refine ev_iload_n rfl ?_
                    refine g_qiald g28686 qr28654 (c := 8) (by decide) (by decide) (by decide) (by omega) (by show a2 < m28655; omega) rfl (fun v28688 ev28688 lv28688 uv28688 => ?_)
                    refine ev_in (d := 3) (a := 0) (b := 0) (cd' := c161_0) (m := 2) (L0 := [(2, 1), (0, v28688)]) (jcall_v (A := [(0, v28688)]) (S' := []) (r := 1) rfl (g28686.lt ad1) (g28686.tg ad1) (Nat.le_of_ble_eq_true rfl)) (by decide) ml161 pp161 (Nat.le_of_ble_eq_true rfl) rfl (by decide) (by decide) ?_
                    refine ev_iload_n rfl ?_
                    refine ev_iflt f161_12 (fun c28689 => ?_) (fun c28689 => ?_)
                    · refine ev_lconst ?_
                      refine ev_goto f161_22 ?_
                      refine ev_ret rfl (by decide) (by decide) ?_
                      show jEv _ _ _ _ _ _ _ (_, [(2, (r28654 : Int)), (2, 1), (0, a2)], [(1, 0)], _, _, _)
                      refine ev_ret rfl (by decide) (by decide) ?_
                      show jEv _ _ _ _ _ _ _ (_, [(2, 0), (0, a1), (0, a2), (0, a3), (0, a4), (2, (r28654 : Int))], [(1, 0), (1, 100), (1, v28687)], _, _, _)
                      refine ev_lmul (r := 0) (by decide) ?_
                      refine ev_iload rfl ?_
                      refine ev_call (jcall_s (A := [(0, a4), (1, 0), (1, v28687)]) (S' := []) (by decide) rfl (Nat.le_of_ble_eq_true rfl)) (jOk_le (by decide) (s223 g28686 (by omega) (by omega) (by omega) (by omega) (by omega) (by omega))) (by decide) (by decide) (fun w28690 h28690 q28690 => ?_)
                      obtain ⟨v28691, rfl, lv28691, uv28691, g28690, kk28690⟩ := q28690
                      have k28690 := k28686.tr kk28690 (by decide)
                      show jEv _ _ _ _ _ _ _ (_, [(2, 0), (0, a1), (0, a2), (0, a3), (0, a4), (2, (r28654 : Int))], [(1, v28691)], _, _, _)
                      exact ev_ret rfl (by decide) (by decide) ⟨_, rfl, by omega, by omega, g28690, k28690⟩
                    · refine ev_iload_n rfl ?_
                      refine ev_aload_n rfl ?_
                      refine ev_in (d := 2) (a := 0) (b := 0) (cd' := c157_0) (m := 1) (L0 := [(2, 1)]) (jcall_v (A := []) (S' := [(0, v28688)]) (r := 1) rfl (g28686.lt ad1) (g28686.tg ad1) (Nat.le_of_ble_eq_true rfl)) (by decide) ml157 pp157 (Nat.le_of_ble_eq_true rfl) rfl (by decide) (by decide) ?_
                      refine ev_iconst ?_
                      refine ev_iconst ?_
                      refine ev_aload_n rfl ?_
                      obtain ⟨v28692, ev28692, lv28692, uv28692⟩ := g28686.rd ad1 (show 0 < 8 by decide) rf1_0
                      refine g_getv (r := 1) (v := v28692) g28686 ad1 (by decide) ft10_0 ev28692 ?_
                      refine ev_imul (r := (2 * v28692)) (by unfold w32; omega) ?_
                      refine g_ishlB (a' := 1) (a := 1) (b := 8) (hi := 256) (by omega) (by omega) (by omega) (by omega) (by decide) (by decide) (fun v28693 ev28693 lv28693 uv28693 => ?_)
                      refine ev_ret rfl (by decide) (by decide) ?_
                      show jEv _ _ _ _ _ _ _ (_, [(2, 1), (0, v28688)], [(0, v28693), (0, v28688)], _, _, _)
                      refine ev_icmplt f161_16 (fun c28694 => ?_) (fun c28694 => ?_)
                      · refine ev_aload_n rfl ?_
                        refine g_getp (r := 1) (c := 6) g28686 ad1 (by decide) (by decide) rf1_7 ft10_7 ?_
                        refine ev_iload_n rfl ?_
                        refine g_lald g28686 ad6 rt6 (by omega) (by omega) (fun v28695 ev28695 lv28695 uv28695 => ?_)
                        refine ev_ret rfl (by decide) (by decide) ?_
                        show jEv _ _ _ _ _ _ _ (_, [(2, (r28654 : Int)), (2, 1), (0, a2)], [(1, v28695)], _, _, _)
                        refine ev_ret rfl (by decide) (by decide) ?_
                        show jEv _ _ _ _ _ _ _ (_, [(2, 0), (0, a1), (0, a2), (0, a3), (0, a4), (2, (r28654 : Int))], [(1, v28695), (1, 100), (1, v28687)], _, _, _)
                        refine g_lmulG (fun v28696 ev28696 lv28696 uv28696 => ?_)
                        refine ev_iload rfl ?_
                        refine ev_call (jcall_s (A := [(0, a4), (1, v28696), (1, v28687)]) (S' := []) (by decide) rfl (Nat.le_of_ble_eq_true rfl)) (jOk_le (by decide) (s223 g28686 (by omega) (by omega) (by omega) (by omega) (by omega) (by omega))) (by decide) (by decide) (fun w28697 h28697 q28697 => ?_)
                        obtain ⟨v28698, rfl, lv28698, uv28698, g28697, kk28697⟩ := q28697
                        have k28697 := k28686.tr kk28697 (by decide)
                        show jEv _ _ _ _ _ _ _ (_, [(2, 0), (0, a1), (0, a2), (0, a3), (0, a4), (2, (r28654 : Int))], [(1, v28698)], _, _, _)
                        exact ev_ret rfl (by decide) (by decide) ⟨_, rfl, by omega, by omega, g28697, k28697⟩
                      · refine ev_lconst ?_
                        refine ev_goto f161_22 ?_
                        refine ev_ret rfl (by decide) (by decide) ?_
                        show jEv _ _ _ _ _ _ _ (_, [(2, (r28654 : Int)), (2, 1), (0, a2)], [(1, 0)], _, _, _)
                        refine ev_ret rfl (by decide) (by decide) ?_
                        show jEv _ _ _ _ _ _ _ (_, [(2, 0), (0, a1), (0, a2), (0, a3), (0, a4), (2, (r28654 : Int))], [(1, 0), (1, 100), (1, v28687)], _, _, _)
                        refine ev_lmul (r := 0) (by decide) ?_
                        refine ev_iload rfl ?_
                        refine ev_call (jcall_s (A := [(0, a4), (1, 0), (1, v28687)]) (S' := []) (by decide) rfl (Nat.le_of_ble_eq_true rfl)) (jOk_le (by decide) (s223 g28686 (by omega) (by omega) (by omega) (by omega) (by omega) (by omega))) (by decide) (by decide) (fun w28699 h28699 q28699 => ?_)
                        obtain ⟨v28700, rfl, lv28700, uv28700, g28699, kk28699⟩ := q28699
                        have k28699 := k28686.tr kk28699 (by decide)
                        show jEv _ _ _ _ _ _ _ (_, [(2, 0), (0, a1), (0, a2), (0, a3), (0, a4), (2, (r28654 : Int))], [(1, v28700)], _, _, _)
                        exact ev_ret rfl (by decide) (by decide) ⟨_, rfl, by omega, by omega, g28699, k28699⟩
                  · refine ev_ldc2_w ?_
                    exact ev_ret rfl (by decide) (by decide) ⟨_, rfl, by omega, by omega, g28681, k28681⟩
                · refine ev_iload_n rfl ?_
                  refine ev_iconst ?_
                  refine ev_icmpne f221_13 (fun c28701 => ?_) (fun c28701 => ?_)
                  · refine ev_iconst ?_
                    refine ev_ret rfl (by decide) (by decide) ?_
                    show jEv _ _ _ _ _ _ _ (_, [(2, 0), (0, a1), (0, a2), (0, a3), (0, a4), (2, (r28654 : Int))], [(0, 0)], _, _, _)
                    refine ev_ifeq f185_40 (fun c28702 => ?_) (fun c28702 => absurd c28702 (by omega))
                    refine ev_ldc2_w ?_
                    exact ev_ret rfl (by decide) (by decide) ⟨_, rfl, by omega, by omega, g, k0⟩
                  · refine ev_iconst ?_
                    refine ev_goto f221_14 ?_
                    refine ev_ret rfl (by decide) (by decide) ?_
                    show jEv _ _ _ _ _ _ _ (_, [(2, 0), (0, a1), (0, a2), (0, a3), (0, a4), (2, (r28654 : Int))], [(0, 1)], _, _, _)
                    refine ev_ifeq f185_40 (fun c28703 => absurd c28703 (by omega)) (fun c28703 => ?_)
                    refine ev_aload_n rfl ?_
                    refine g_getp (r := 0) (c := 1) g ad0 (by decide) (by decide) rf0_0 ft11_0 ?_
                    refine ev_call (jcall_v (A := []) (S' := []) (r := 1) rfl (g.lt ad1) (g.tg ad1) (Nat.le_of_ble_eq_true rfl)) (jOk_le (by decide) (s153 g )) (by decide) (by decide) (fun w28704 h28704 q28704 => ?_)
                    obtain ⟨v28705, rfl, lv28705, uv28705, g28704, kk28704⟩ := q28704
                    have k28704 := k0.tr kk28704 (by decide)
                    show jEv _ _ _ _ _ _ _ (_, [(2, 0), (0, a1), (0, a2), (0, a3), (0, a4), (2, (r28654 : Int))], [(0, v28705)], _, _, _)
                    refine ev_ifne f185_44 (fun c28706 => ?_) (fun c28706 => ?_)
                    · refine ev_aload rfl ?_
                      refine ev_aload_n rfl ?_
                      refine g_getp (r := 0) (c := 1) g28704 ad0 (by decide) (by decide) rf0_0 ft11_0 ?_
                      refine ev_aload_n rfl ?_
                      refine g_getp (r := 0) (c := 23) g28704 ad0 (by decide) (by decide) rf0_5 ft11_5 ?_
                      refine ev_iconst ?_
                      refine ev_call (jcall_v (A := [(0, 0), (2, 23), (2, 1)]) (S' := []) (r := r28654) rfl (g28704.qlt qr28654) (g28704.qtg qr28654) (Nat.le_of_ble_eq_true rfl)) (jOk_le (by decide) (s47 g28704 qr28654 (Or.inl rfl) (by omega) (by omega))) (by decide) (by decide) (fun w28707 h28707 q28707 => ?_)
                      obtain ⟨v28708, rfl, lv28708, uv28708, g28707, kk28707⟩ := q28707
                      have k28707 := k28704.tr kk28707 (by decide)
                      show jEv _ _ _ _ _ _ _ (_, [(2, 0), (0, a1), (0, a2), (0, a3), (0, a4), (2, (r28654 : Int))], [(1, v28708)], _, _, _)
                      refine ev_pop2 ?_
                      refine ev_aload rfl ?_
                      refine ev_aload_n rfl ?_
                      refine g_getp (r := 0) (c := 1) g28707 ad0 (by decide) (by decide) rf0_0 ft11_0 ?_
                      refine ev_iload_n rfl ?_
                      refine ev_iload_n rfl ?_
                      refine ev_call (jcall_v (A := [(0, a3), (0, a2), (2, 1)]) (S' := []) (r := r28654) rfl (g28707.qlt qr28654) (g28707.qtg qr28654) (Nat.le_of_ble_eq_true rfl)) (jOk_le (by decide) (s59 g28707 qr28654 (by omega) (by omega) (by omega) (by omega))) (by decide) (by decide) (fun w28709 h28709 q28709 => ?_)
                      obtain ⟨v28710, rfl, lv28710, uv28710, g28709, kk28709⟩ := q28709
                      have k28709 := k28707.tr kk28709 (by decide)
                      show jEv _ _ _ _ _ _ _ (_, [(2, 0), (0, a1), (0, a2), (0, a3), (0, a4), (2, (r28654 : Int))], [(1, v28710)], _, _, _)
                      refine ev_ldc2_w ?_
                      refine ev_aload rfl ?_
                      refine ev_aload_n rfl ?_
                      refine g_getp (r := 0) (c := 1) g28709 ad0 (by decide) (by decide) rf0_0 ft11_0 ?_
                      refine ev_iload_n rfl ?_
                      refine ev_in (d := 4) (a := 0) (b := 0) (cd' := c58_0) (m := 3) (L0 := [(2, (r28654 : Int)), (2, 1), (0, a2)]) (jcall_v (A := [(0, a2), (2, 1)]) (S' := [(1, 100), (1, v28710)]) (r := r28654) rfl (g28709.qlt qr28654) (g28709.qtg qr28654) (Nat.le_of_ble_eq_true rfl)) (by decide) ml58 pp58 (Nat.le_of_ble_eq_true rfl) rfl (by decide) (by decide) ?_
                      refine ev_aload_n rfl ?_
                      refine ev_aload_n rfl ?_
                      refine g_qgetp g28709 qr28654 (c := 8) (by decide) (by decide) ft4_8 ?_
                      refine ev_iload_n rfl ?_
                      refine g_qiald g28709 qr28654 (c := 8) (by decide) (by decide) (by decide) (by omega) (by show a2 < m28655; omega) rfl (fun v28711 ev28711 lv28711 uv28711 => ?_)
                      refine ev_in (d := 3) (a := 0) (b := 0) (cd' := c161_0) (m := 2) (L0 := [(2, 1), (0, v28711)]) (jcall_v (A := [(0, v28711)]) (S' := []) (r := 1) rfl (g28709.lt ad1) (g28709.tg ad1) (Nat.le_of_ble_eq_true rfl)) (by decide) ml161 pp161 (Nat.le_of_ble_eq_true rfl) rfl (by decide) (by decide) ?_
                      refine ev_iload_n rfl ?_
                      refine ev_iflt f161_12 (fun c28712 => ?_) (fun c28712 => ?_)
                      · refine ev_lconst ?_
                        refine ev_goto f161_22 ?_
                        refine ev_ret rfl (by decide) (by decide) ?_
                        show jEv _ _ _ _ _ _ _ (_, [(2, (r28654 : Int)), (2, 1), (0, a2)], [(1, 0)], _, _, _)
                        refine ev_ret rfl (by decide) (by decide) ?_
                        show jEv _ _ _ _ _ _ _ (_, [(2, 0), (0, a1), (0, a2), (0, a3), (0, a4), (2, (r28654 : Int))], [(1, 0), (1, 100), (1, v28710)], _, _, _)
                        refine ev_lmul (r := 0) (by decide) ?_
                        refine ev_iload rfl ?_
                        refine ev_call (jcall_s (A := [(0, a4), (1, 0), (1, v28710)]) (S' := []) (by decide) rfl (Nat.le_of_ble_eq_true rfl)) (jOk_le (by decide) (s223 g28709 (by omega) (by omega) (by omega) (by omega) (by omega) (by omega))) (by decide) (by decide) (fun w28713 h28713 q28713 => ?_)
                        obtain ⟨v28714, rfl, lv28714, uv28714, g28713, kk28713⟩ := q28713
                        have k28713 := k28709.tr kk28713 (by decide)
                        show jEv _ _ _ _ _ _ _ (_, [(2, 0), (0, a1), (0, a2), (0, a3), (0, a4), (2, (r28654 : Int))], [(1, v28714)], _, _, _)
                        exact ev_ret rfl (by decide) (by decide) ⟨_, rfl, by omega, by omega, g28713, k28713⟩
                      · refine ev_iload_n rfl ?_
                        refine ev_aload_n rfl ?_
                        refine ev_in (d := 2) (a := 0) (b := 0) (cd' := c157_0) (m := 1) (L0 := [(2, 1)]) (jcall_v (A := []) (S' := [(0, v28711)]) (r := 1) rfl (g28709.lt ad1) (g28709.tg ad1) (Nat.le_of_ble_eq_true rfl)) (by decide) ml157 pp157 (Nat.le_of_ble_eq_true rfl) rfl (by decide) (by decide) ?_
                        refine ev_iconst ?_
                        refine ev_iconst ?_
                        refine ev_aload_n rfl ?_
                        obtain ⟨v28715, ev28715, lv28715, uv28715⟩ := g28709.rd ad1 (show 0 < 8 by decide) rf1_0
                        refine g_getv (r := 1) (v := v28715) g28709 ad1 (by decide) ft10_0 ev28715 ?_
                        refine ev_imul (r := (2 * v28715)) (by unfold w32; omega) ?_
                        refine g_ishlB (a' := 1) (a := 1) (b := 8) (hi := 256) (by omega) (by omega) (by omega) (by omega) (by decide) (by decide) (fun v28716 ev28716 lv28716 uv28716 => ?_)
                        refine ev_ret rfl (by decide) (by decide) ?_
                        show jEv _ _ _ _ _ _ _ (_, [(2, 1), (0, v28711)], [(0, v28716), (0, v28711)], _, _, _)
                        refine ev_icmplt f161_16 (fun c28717 => ?_) (fun c28717 => ?_)
                        · refine ev_aload_n rfl ?_
                          refine g_getp (r := 1) (c := 6) g28709 ad1 (by decide) (by decide) rf1_7 ft10_7 ?_
                          refine ev_iload_n rfl ?_
                          refine g_lald g28709 ad6 rt6 (by omega) (by omega) (fun v28718 ev28718 lv28718 uv28718 => ?_)
                          refine ev_ret rfl (by decide) (by decide) ?_
                          show jEv _ _ _ _ _ _ _ (_, [(2, (r28654 : Int)), (2, 1), (0, a2)], [(1, v28718)], _, _, _)
                          refine ev_ret rfl (by decide) (by decide) ?_
                          show jEv _ _ _ _ _ _ _ (_, [(2, 0), (0, a1), (0, a2), (0, a3), (0, a4), (2, (r28654 : Int))], [(1, v28718), (1, 100), (1, v28710)], _, _, _)
                          refine g_lmulG (fun v28719 ev28719 lv28719 uv28719 => ?_)
                          refine ev_iload rfl ?_
                          refine ev_call (jcall_s (A := [(0, a4), (1, v28719), (1, v28710)]) (S' := []) (by decide) rfl (Nat.le_of_ble_eq_true rfl)) (jOk_le (by decide) (s223 g28709 (by omega) (by omega) (by omega) (by omega) (by omega) (by omega))) (by decide) (by decide) (fun w28720 h28720 q28720 => ?_)
                          obtain ⟨v28721, rfl, lv28721, uv28721, g28720, kk28720⟩ := q28720
                          have k28720 := k28709.tr kk28720 (by decide)
                          show jEv _ _ _ _ _ _ _ (_, [(2, 0), (0, a1), (0, a2), (0, a3), (0, a4), (2, (r28654 : Int))], [(1, v28721)], _, _, _)
                          exact ev_ret rfl (by decide) (by decide) ⟨_, rfl, by omega, by omega, g28720, k28720⟩
                        · refine ev_lconst ?_
                          refine ev_goto f161_22 ?_
                          refine ev_ret rfl (by decide) (by decide) ?_
                          show jEv _ _ _ _ _ _ _ (_, [(2, (r28654 : Int)), (2, 1), (0, a2)], [(1, 0)], _, _, _)
                          refine ev_ret rfl (by decide) (by decide) ?_
                          show jEv _ _ _ _ _ _ _ (_, [(2, 0), (0, a1), (0, a2), (0, a3), (0, a4), (2, (r28654 : Int))], [(1, 0), (1, 100), (1, v28710)], _, _, _)
                          refine ev_lmul (r := 0) (by decide) ?_
                          refine ev_iload rfl ?_
                          refine ev_call (jcall_s (A := [(0, a4), (1, 0), (1, v28710)]) (S' := []) (by decide) rfl (Nat.le_of_ble_eq_true rfl)) (jOk_le (by decide) (s223 g28709 (by omega) (by omega) (by omega) (by omega) (by omega) (by omega))) (by decide) (by decide) (fun w28722 h28722 q28722 => ?_)
                          obtain ⟨v28723, rfl, lv28723, uv28723, g28722, kk28722⟩ := q28722
                          have k28722 := k28709.tr kk28722 (by decide)
                          show jEv _ _ _ _ _ _ _ (_, [(2, 0), (0, a1), (0, a2), (0, a3), (0, a4), (2, (r28654 : Int))], [(1, v28723)], _, _, _)
                          exact ev_ret rfl (by decide) (by decide) ⟨_, rfl, by omega, by omega, g28722, k28722⟩
                    · refine ev_ldc2_w ?_
                      exact ev_ret rfl (by decide) (by decide) ⟨_, rfl, by omega, by omega, g28704, k28704⟩
    · refine ev_aconst_null ?_
      refine ev_goto f219_22 ?_
      refine ev_ret rfl (by decide) (by decide) ?_
      show jEv _ _ _ _ _ _ _ (_, [(2, 0), (0, a1), (0, a2), (0, a3), (0, a4), (9, 0)], [(2, (-1))], _, _, _)
      refine ev_astore (L' := [(2, 0), (0, a1), (0, a2), (0, a3), (0, a4), (2, (-1))]) (Nat.le_of_ble_eq_true rfl) rfl ?_
      refine ev_aload rfl ?_
      refine ev_ifnull f185_40 (fun c28724 => ?_) (fun c28724 => absurd c28724 (by decide))
      refine ev_ldc2_w ?_
      exact ev_ret rfl (by decide) (by decide) ⟨_, rfl, by omega, by omega, g, k0⟩
/-! 186 tell -/
set_option maxHeartbeats 4000000 in
theorem s186 {G : GH} {h : JH} (g : Gd G h) {a1 : Int} (la1 : (-2147483648) ≤ a1) (ua1 : a1 ≤ 2147483647) {a2 : Int} (la2 : (-2147483648) ≤ a2) (ua2 : a2 ≤ 2147483647) : jOk 4 0 0 186 [(2, 0), (0, a1), (0, a2)] h (PI G [(1000000, 0)] h 0 (-2147483648) 2147483647) := by
  refine ⟨by decide, by rw [ml186]; exact Nat.le_of_ble_eq_true rfl, ?_⟩
  rw [ml186, pp186]
  show jEv _ none _ c186_0 0 0 _ (c186_0, [(2, 0), (0, a1), (0, a2), (9, 0)], [], h, 0, 0)
  have k0 := Kp.rf [(1000000, 0)] h
  refine ev_aload_n rfl ?_
  refine ev_iload_n rfl ?_
  refine ev_in (d := 2) (a := 0) (b := 0) (cd' := c219_0) (m := 2) (L0 := [(2, 0), (0, a1)]) (jcall_v (A := [(0, a1)]) (S' := []) (r := 0) rfl (g.lt ad0) (g.tg ad0) (Nat.le_of_ble_eq_true rfl)) (by decide) ml219 pp219 (Nat.le_of_ble_eq_true rfl) rfl (by decide) (by decide) ?_
  refine ev_iload_n rfl ?_
  refine ev_iflt f219_12 (fun c28747 => ?_) (fun c28747 => ?_)
  · refine ev_aconst_null ?_
    refine ev_goto f219_22 ?_
    refine ev_ret rfl (by decide) (by decide) ?_
    show jEv _ _ _ _ _ _ _ (_, [(2, 0), (0, a1), (0, a2), (9, 0)], [(2, (-1))], _, _, _)
    refine ev_astore_n (L' := [(2, 0), (0, a1), (0, a2), (2, (-1))]) (Nat.le_of_ble_eq_true rfl) rfl ?_
    refine ev_aload_n rfl ?_
    refine ev_ifnull f186_15 (fun c28748 => ?_) (fun c28748 => absurd c28748 (by decide))
    refine ev_iconst ?_
    refine ev_goto f186_24 ?_
    exact ev_ret rfl (by decide) (by decide) ⟨_, rfl, by omega, by omega, g, k0⟩
  · refine ev_iload_n rfl ?_
    refine ev_aload_n rfl ?_
    obtain ⟨v28749, ev28749, lv28749, uv28749⟩ := g.rd ad0 (show 3 < 17 by decide) rf0_3
    refine g_getv (r := 0) (v := v28749) g ad0 (by decide) ft11_3 ev28749 ?_
    refine ev_icmplt f219_16 (fun c28750 => ?_) (fun c28750 => ?_)
    · refine ev_aload_n rfl ?_
      refine g_getp (r := 0) (c := 18) g ad0 (by decide) (by decide) rf0_2 ft11_2 ?_
      refine ev_iload_n rfl ?_
      refine g_qaald (g) (i := a1) (ev28749) (by omega) (by omega) (fun r28751 m28752 qr28751 => ?_)
      have wr28751 := g.qb qr28751
      have zr28751 := qr28751.1
      refine ev_ret rfl (by decide) (by decide) ?_
      show jEv _ _ _ _ _ _ _ (_, [(2, 0), (0, a1), (0, a2), (9, 0)], [(2, (r28751 : Int))], _, _, _)
      refine ev_astore_n (L' := [(2, 0), (0, a1), (0, a2), (2, (r28751 : Int))]) (Nat.le_of_ble_eq_true rfl) rfl ?_
      refine ev_aload_n rfl ?_
      refine ev_ifnull f186_15 (fun c28753 => absurd c28753 (by omega)) (fun c28753 => ?_)
      refine ev_iload_n rfl ?_
      refine ev_iconst ?_
      refine ev_icmpge f186_19 (fun c28754 => ?_) (fun c28754 => ?_)
      · refine ev_aload_n rfl ?_
        refine ev_iload_n rfl ?_
        refine ev_call (jcall_v (A := [(0, a2)]) (S' := []) (r := r28751) rfl (g.qlt qr28751) (g.qtg qr28751) (Nat.le_of_ble_eq_true rfl)) (jOk_le (by decide) (s55 g qr28751 (by omega) (by omega))) (by decide) (by decide) (fun w28755 h28755 q28755 => ?_)
        obtain ⟨v28756, rfl, lv28756, uv28756, g28755, kk28755⟩ := q28755
        have k28755 := k0.tr kk28755 (by decide)
        show jEv _ _ _ _ _ _ _ (_, [(2, 0), (0, a1), (0, a2), (2, (r28751 : Int))], [(0, v28756)], _, _, _)
        exact ev_ret rfl (by decide) (by decide) ⟨_, rfl, by omega, by omega, g28755, k28755⟩
      · refine ev_iconst ?_
        refine ev_goto f186_24 ?_
        exact ev_ret rfl (by decide) (by decide) ⟨_, rfl, by omega, by omega, g, k0⟩
    · refine ev_aconst_null ?_
      refine ev_goto f219_22 ?_
      refine ev_ret rfl (by decide) (by decide) ?_
      show jEv _ _ _ _ _ _ _ (_, [(2, 0), (0, a1), (0, a2), (9, 0)], [(2, (-1))], _, _, _)
      refine ev_astore_n (L' := [(2, 0), (0, a1), (0, a2), (2, (-1))]) (Nat.le_of_ble_eq_true rfl) rfl ?_
      refine ev_aload_n rfl ?_
      refine ev_ifnull f186_15 (fun c28757 => ?_) (fun c28757 => absurd c28757 (by decide))
      refine ev_iconst ?_
      refine ev_goto f186_24 ?_
      exact ev_ret rfl (by decide) (by decide) ⟨_, rfl, by omega, by omega, g, k0⟩
/-! 187 ask -/
set_option maxHeartbeats 4000000 in
theorem s187 {G : GH} {h : JH} (g : Gd G h) {a1 : Int} (la1 : (-2147483648) ≤ a1) (ua1 : a1 ≤ 2147483647) {a2 : Int} (la2 : (-2147483648) ≤ a2) (ua2 : a2 ≤ 2147483647) {a3 : Int} (la3 : (-2147483648) ≤ a3) (ua3 : a3 ≤ 2147483647) : jOk 7 0 0 187 [(2, 0), (0, a1), (0, a2), (0, a3)] h (PI G [(1, 2), (1, 3), (5, 0), (6, 0), (1000000, 0)] h 1 (-9223372036854775808) 9223372036854775807) := by
  refine ⟨by decide, by rw [ml187]; exact Nat.le_of_ble_eq_true rfl, ?_⟩
  rw [ml187, pp187]
  show jEv _ none _ c187_0 0 0 _ (c187_0, [(2, 0), (0, a1), (0, a2), (0, a3), (9, 0), (9, 0), (9, 0), (9, 0), (9, 0)], [], h, 0, 0)
  have k0 := Kp.rf [(1, 2), (1, 3), (5, 0), (6, 0), (1000000, 0)] h
  refine ev_aload_n rfl ?_
  refine ev_iload_n rfl ?_
  refine ev_in (d := 5) (a := 0) (b := 0) (cd' := c219_0) (m := 2) (L0 := [(2, 0), (0, a1)]) (jcall_v (A := [(0, a1)]) (S' := []) (r := 0) rfl (g.lt ad0) (g.tg ad0) (Nat.le_of_ble_eq_true rfl)) (by decide) ml219 pp219 (Nat.le_of_ble_eq_true rfl) rfl (by decide) (by decide) ?_
  refine ev_iload_n rfl ?_
  refine ev_iflt f219_12 (fun c28912 => ?_) (fun c28912 => ?_)
  · refine ev_aconst_null ?_
    refine ev_goto f219_22 ?_
    refine ev_ret rfl (by decide) (by decide) ?_
    show jEv _ _ _ _ _ _ _ (_, [(2, 0), (0, a1), (0, a2), (0, a3), (9, 0), (9, 0), (9, 0), (9, 0), (9, 0)], [(2, (-1))], _, _, _)
    refine ev_astore (L' := [(2, 0), (0, a1), (0, a2), (0, a3), (2, (-1)), (9, 0), (9, 0), (9, 0), (9, 0)]) (Nat.le_of_ble_eq_true rfl) rfl ?_
    refine ev_aload rfl ?_
    refine ev_ifnull f187_45 (fun c28913 => ?_) (fun c28913 => absurd c28913 (by decide))
    refine ev_ldc2_w ?_
    exact ev_ret rfl (by decide) (by decide) ⟨_, rfl, by omega, by omega, g, k0⟩
  · refine ev_iload_n rfl ?_
    refine ev_aload_n rfl ?_
    obtain ⟨v28914, ev28914, lv28914, uv28914⟩ := g.rd ad0 (show 3 < 17 by decide) rf0_3
    refine g_getv (r := 0) (v := v28914) g ad0 (by decide) ft11_3 ev28914 ?_
    refine ev_icmplt f219_16 (fun c28915 => ?_) (fun c28915 => ?_)
    · refine ev_aload_n rfl ?_
      refine g_getp (r := 0) (c := 18) g ad0 (by decide) (by decide) rf0_2 ft11_2 ?_
      refine ev_iload_n rfl ?_
      refine g_qaald (g) (i := a1) (ev28914) (by omega) (by omega) (fun r28916 m28917 qr28916 => ?_)
      have wr28916 := g.qb qr28916
      have zr28916 := qr28916.1
      refine ev_ret rfl (by decide) (by decide) ?_
      show jEv _ _ _ _ _ _ _ (_, [(2, 0), (0, a1), (0, a2), (0, a3), (9, 0), (9, 0), (9, 0), (9, 0), (9, 0)], [(2, (r28916 : Int))], _, _, _)
      refine ev_astore (L' := [(2, 0), (0, a1), (0, a2), (0, a3), (2, (r28916 : Int)), (9, 0), (9, 0), (9, 0), (9, 0)]) (Nat.le_of_ble_eq_true rfl) rfl ?_
      refine ev_aload rfl ?_
      refine ev_ifnull f187_45 (fun c28918 => absurd c28918 (by omega)) (fun c28918 => ?_)
      refine ev_iload_n rfl ?_
      refine ev_iconst ?_
      refine ev_icmpeq f187_28 (fun c28919 => ?_) (fun c28919 => ?_)
      · refine ev_iload_n rfl ?_
        refine ev_in (d := 5) (a := 0) (b := 0) (cd' := c221_0) (m := 1) (L0 := [(0, a3)]) (jcall_s (A := [(0, a3)]) (S' := []) (by decide) rfl (Nat.le_of_ble_eq_true rfl)) (by decide) ml221 pp221 (Nat.le_of_ble_eq_true rfl) rfl (by decide) (by decide) ?_
        refine ev_iload_n rfl ?_
        refine ev_ifeq f221_9 (fun c28920 => ?_) (fun c28920 => ?_)
        · refine ev_iconst ?_
          refine ev_goto f221_14 ?_
          refine ev_ret rfl (by decide) (by decide) ?_
          show jEv _ _ _ _ _ _ _ (_, [(2, 0), (0, a1), (0, a2), (0, a3), (2, (r28916 : Int)), (9, 0), (9, 0), (9, 0), (9, 0)], [(0, 1)], _, _, _)
          refine ev_ifeq f187_45 (fun c28921 => absurd c28921 (by omega)) (fun c28921 => ?_)
          refine ev_aload_n rfl ?_
          refine g_getp (r := 0) (c := 1) g ad0 (by decide) (by decide) rf0_0 ft11_0 ?_
          refine ev_call (jcall_v (A := []) (S' := []) (r := 1) rfl (g.lt ad1) (g.tg ad1) (Nat.le_of_ble_eq_true rfl)) (jOk_le (by decide) (s153 g )) (by decide) (by decide) (fun w28922 h28922 q28922 => ?_)
          obtain ⟨v28923, rfl, lv28923, uv28923, g28922, kk28922⟩ := q28922
          have k28922 := k0.tr kk28922 (by decide)
          show jEv _ _ _ _ _ _ _ (_, [(2, 0), (0, a1), (0, a2), (0, a3), (2, (r28916 : Int)), (9, 0), (9, 0), (9, 0), (9, 0)], [(0, v28923)], _, _, _)
          refine ev_ifne f187_49 (fun c28924 => ?_) (fun c28924 => ?_)
          · refine ev_aload rfl ?_
            refine ev_aload_n rfl ?_
            refine g_getp (r := 0) (c := 1) g28922 ad0 (by decide) (by decide) rf0_0 ft11_0 ?_
            refine ev_aload_n rfl ?_
            refine g_getp (r := 0) (c := 23) g28922 ad0 (by decide) (by decide) rf0_5 ft11_5 ?_
            refine ev_iconst ?_
            refine ev_call (jcall_v (A := [(0, 0), (2, 23), (2, 1)]) (S' := []) (r := r28916) rfl (g28922.qlt qr28916) (g28922.qtg qr28916) (Nat.le_of_ble_eq_true rfl)) (jOk_le (by decide) (s47 g28922 qr28916 (Or.inl rfl) (by omega) (by omega))) (by decide) (by decide) (fun w28925 h28925 q28925 => ?_)
            obtain ⟨v28926, rfl, lv28926, uv28926, g28925, kk28925⟩ := q28925
            have k28925 := k28922.tr kk28925 (by decide)
            show jEv _ _ _ _ _ _ _ (_, [(2, 0), (0, a1), (0, a2), (0, a3), (2, (r28916 : Int)), (9, 0), (9, 0), (9, 0), (9, 0)], [(1, v28926)], _, _, _)
            refine ev_lstore (L' := [(2, 0), (0, a1), (0, a2), (0, a3), (2, (r28916 : Int)), (1, v28926), (9, 0), (9, 0), (9, 0)]) (Nat.le_of_ble_eq_true rfl) rfl ?_
            refine ev_iload_n rfl ?_
            refine ev_ifge f187_85 (fun c28927 => absurd c28927 (by omega)) (fun c28927 => ?_)
            refine ev_aload rfl ?_
            refine ev_aload_n rfl ?_
            refine g_getp (r := 0) (c := 1) g28925 ad0 (by decide) (by decide) rf0_0 ft11_0 ?_
            refine ev_aload_n rfl ?_
            refine g_getp (r := 0) (c := 23) g28925 ad0 (by decide) (by decide) rf0_5 ft11_5 ?_
            refine ev_call (jcall_v (A := [(2, 23), (2, 1)]) (S' := []) (r := r28916) rfl (g28925.qlt qr28916) (g28925.qtg qr28916) (Nat.le_of_ble_eq_true rfl)) (jOk_le (by decide) (s51 g28925 qr28916 (Or.inl rfl))) (by decide) (by decide) (fun w28928 h28928 q28928 => ?_)
            obtain ⟨v28929, rfl, lv28929, uv28929, g28928, kk28928⟩ := q28928
            have k28928 := k28925.tr kk28928 (by decide)
            show jEv _ _ _ _ _ _ _ (_, [(2, 0), (0, a1), (0, a2), (0, a3), (2, (r28916 : Int)), (1, v28926), (9, 0), (9, 0), (9, 0)], [(1, v28929)], _, _, _)
            refine ev_goto f187_100 ?_
            refine ev_lstore (L' := [(2, 0), (0, a1), (0, a2), (0, a3), (2, (r28916 : Int)), (1, v28926), (9, 0), (1, v28929), (9, 0)]) (Nat.le_of_ble_eq_true rfl) rfl ?_
            refine ev_lload rfl ?_
            refine ev_lload rfl ?_
            refine g_lsubG (fun v28930 ev28930 lv28930 uv28930 => ?_)
            refine ev_ldc2_w ?_
            refine ev_aload_n rfl ?_
            refine g_getp (r := 0) (c := 1) g28928 ad0 (by decide) (by decide) rf0_0 ft11_0 ?_
            obtain ⟨v28931, ev28931, lv28931, uv28931⟩ := g28928.rd ad1 (show 1 < 8 by decide) rf1_1
            refine g_getv (r := 1) (v := v28931) g28928 ad1 (by decide) ft10_1 ev28931 ?_
            refine g_lmulG (fun v28932 ev28932 lv28932 uv28932 => ?_)
            refine ev_iload_n rfl ?_
            refine ev_call (jcall_s (A := [(0, a3), (1, v28932), (1, v28930)]) (S' := []) (by decide) rfl (Nat.le_of_ble_eq_true rfl)) (jOk_le (by decide) (s223 g28928 (by omega) (by omega) (by omega) (by omega) (by omega) (by omega))) (by decide) (by decide) (fun w28933 h28933 q28933 => ?_)
            obtain ⟨v28934, rfl, lv28934, uv28934, g28933, kk28933⟩ := q28933
            have k28933 := k28928.tr kk28933 (by decide)
            show jEv _ _ _ _ _ _ _ (_, [(2, 0), (0, a1), (0, a2), (0, a3), (2, (r28916 : Int)), (1, v28926), (9, 0), (1, v28929), (9, 0)], [(1, v28934)], _, _, _)
            exact ev_ret rfl (by decide) (by decide) ⟨_, rfl, by omega, by omega, g28933, k28933⟩
          · refine ev_ldc2_w ?_
            exact ev_ret rfl (by decide) (by decide) ⟨_, rfl, by omega, by omega, g28922, k28922⟩
        · refine ev_iload_n rfl ?_
          refine ev_iconst ?_
          refine ev_icmpne f221_13 (fun c28935 => ?_) (fun c28935 => ?_)
          · refine ev_iconst ?_
            refine ev_ret rfl (by decide) (by decide) ?_
            show jEv _ _ _ _ _ _ _ (_, [(2, 0), (0, a1), (0, a2), (0, a3), (2, (r28916 : Int)), (9, 0), (9, 0), (9, 0), (9, 0)], [(0, 0)], _, _, _)
            refine ev_ifeq f187_45 (fun c28936 => ?_) (fun c28936 => absurd c28936 (by omega))
            refine ev_ldc2_w ?_
            exact ev_ret rfl (by decide) (by decide) ⟨_, rfl, by omega, by omega, g, k0⟩
          · refine ev_iconst ?_
            refine ev_goto f221_14 ?_
            refine ev_ret rfl (by decide) (by decide) ?_
            show jEv _ _ _ _ _ _ _ (_, [(2, 0), (0, a1), (0, a2), (0, a3), (2, (r28916 : Int)), (9, 0), (9, 0), (9, 0), (9, 0)], [(0, 1)], _, _, _)
            refine ev_ifeq f187_45 (fun c28937 => absurd c28937 (by omega)) (fun c28937 => ?_)
            refine ev_aload_n rfl ?_
            refine g_getp (r := 0) (c := 1) g ad0 (by decide) (by decide) rf0_0 ft11_0 ?_
            refine ev_call (jcall_v (A := []) (S' := []) (r := 1) rfl (g.lt ad1) (g.tg ad1) (Nat.le_of_ble_eq_true rfl)) (jOk_le (by decide) (s153 g )) (by decide) (by decide) (fun w28938 h28938 q28938 => ?_)
            obtain ⟨v28939, rfl, lv28939, uv28939, g28938, kk28938⟩ := q28938
            have k28938 := k0.tr kk28938 (by decide)
            show jEv _ _ _ _ _ _ _ (_, [(2, 0), (0, a1), (0, a2), (0, a3), (2, (r28916 : Int)), (9, 0), (9, 0), (9, 0), (9, 0)], [(0, v28939)], _, _, _)
            refine ev_ifne f187_49 (fun c28940 => ?_) (fun c28940 => ?_)
            · refine ev_aload rfl ?_
              refine ev_aload_n rfl ?_
              refine g_getp (r := 0) (c := 1) g28938 ad0 (by decide) (by decide) rf0_0 ft11_0 ?_
              refine ev_aload_n rfl ?_
              refine g_getp (r := 0) (c := 23) g28938 ad0 (by decide) (by decide) rf0_5 ft11_5 ?_
              refine ev_iconst ?_
              refine ev_call (jcall_v (A := [(0, 0), (2, 23), (2, 1)]) (S' := []) (r := r28916) rfl (g28938.qlt qr28916) (g28938.qtg qr28916) (Nat.le_of_ble_eq_true rfl)) (jOk_le (by decide) (s47 g28938 qr28916 (Or.inl rfl) (by omega) (by omega))) (by decide) (by decide) (fun w28941 h28941 q28941 => ?_)
              obtain ⟨v28942, rfl, lv28942, uv28942, g28941, kk28941⟩ := q28941
              have k28941 := k28938.tr kk28941 (by decide)
              show jEv _ _ _ _ _ _ _ (_, [(2, 0), (0, a1), (0, a2), (0, a3), (2, (r28916 : Int)), (9, 0), (9, 0), (9, 0), (9, 0)], [(1, v28942)], _, _, _)
              refine ev_lstore (L' := [(2, 0), (0, a1), (0, a2), (0, a3), (2, (r28916 : Int)), (1, v28942), (9, 0), (9, 0), (9, 0)]) (Nat.le_of_ble_eq_true rfl) rfl ?_
              refine ev_iload_n rfl ?_
              refine ev_ifge f187_85 (fun c28943 => absurd c28943 (by omega)) (fun c28943 => ?_)
              refine ev_aload rfl ?_
              refine ev_aload_n rfl ?_
              refine g_getp (r := 0) (c := 1) g28941 ad0 (by decide) (by decide) rf0_0 ft11_0 ?_
              refine ev_aload_n rfl ?_
              refine g_getp (r := 0) (c := 23) g28941 ad0 (by decide) (by decide) rf0_5 ft11_5 ?_
              refine ev_call (jcall_v (A := [(2, 23), (2, 1)]) (S' := []) (r := r28916) rfl (g28941.qlt qr28916) (g28941.qtg qr28916) (Nat.le_of_ble_eq_true rfl)) (jOk_le (by decide) (s51 g28941 qr28916 (Or.inl rfl))) (by decide) (by decide) (fun w28944 h28944 q28944 => ?_)
              obtain ⟨v28945, rfl, lv28945, uv28945, g28944, kk28944⟩ := q28944
              have k28944 := k28941.tr kk28944 (by decide)
              show jEv _ _ _ _ _ _ _ (_, [(2, 0), (0, a1), (0, a2), (0, a3), (2, (r28916 : Int)), (1, v28942), (9, 0), (9, 0), (9, 0)], [(1, v28945)], _, _, _)
              refine ev_goto f187_100 ?_
              refine ev_lstore (L' := [(2, 0), (0, a1), (0, a2), (0, a3), (2, (r28916 : Int)), (1, v28942), (9, 0), (1, v28945), (9, 0)]) (Nat.le_of_ble_eq_true rfl) rfl ?_
              refine ev_lload rfl ?_
              refine ev_lload rfl ?_
              refine g_lsubG (fun v28946 ev28946 lv28946 uv28946 => ?_)
              refine ev_ldc2_w ?_
              refine ev_aload_n rfl ?_
              refine g_getp (r := 0) (c := 1) g28944 ad0 (by decide) (by decide) rf0_0 ft11_0 ?_
              obtain ⟨v28947, ev28947, lv28947, uv28947⟩ := g28944.rd ad1 (show 1 < 8 by decide) rf1_1
              refine g_getv (r := 1) (v := v28947) g28944 ad1 (by decide) ft10_1 ev28947 ?_
              refine g_lmulG (fun v28948 ev28948 lv28948 uv28948 => ?_)
              refine ev_iload_n rfl ?_
              refine ev_call (jcall_s (A := [(0, a3), (1, v28948), (1, v28946)]) (S' := []) (by decide) rfl (Nat.le_of_ble_eq_true rfl)) (jOk_le (by decide) (s223 g28944 (by omega) (by omega) (by omega) (by omega) (by omega) (by omega))) (by decide) (by decide) (fun w28949 h28949 q28949 => ?_)
              obtain ⟨v28950, rfl, lv28950, uv28950, g28949, kk28949⟩ := q28949
              have k28949 := k28944.tr kk28949 (by decide)
              show jEv _ _ _ _ _ _ _ (_, [(2, 0), (0, a1), (0, a2), (0, a3), (2, (r28916 : Int)), (1, v28942), (9, 0), (1, v28945), (9, 0)], [(1, v28950)], _, _, _)
              exact ev_ret rfl (by decide) (by decide) ⟨_, rfl, by omega, by omega, g28949, k28949⟩
            · refine ev_ldc2_w ?_
              exact ev_ret rfl (by decide) (by decide) ⟨_, rfl, by omega, by omega, g28938, k28938⟩
      · refine ev_aload_n rfl ?_
        refine g_getp (r := 0) (c := 1) g ad0 (by decide) (by decide) rf0_0 ft11_0 ?_
        refine ev_iload_n rfl ?_
        refine ev_in (d := 5) (a := 0) (b := 0) (cd' := c140_0) (m := 2) (L0 := [(2, 1), (0, a2)]) (jcall_v (A := [(0, a2)]) (S' := []) (r := 1) rfl (g.lt ad1) (g.tg ad1) (Nat.le_of_ble_eq_true rfl)) (by decide) ml140 pp140 (Nat.le_of_ble_eq_true rfl) rfl (by decide) (by decide) ?_
        refine ev_iload_n rfl ?_
        refine ev_iflt f140_16 (fun c28951 => ?_) (fun c28951 => ?_)
        · refine ev_iconst ?_
          refine ev_ret rfl (by decide) (by decide) ?_
          show jEv _ _ _ _ _ _ _ (_, [(2, 0), (0, a1), (0, a2), (0, a3), (2, (r28916 : Int)), (9, 0), (9, 0), (9, 0), (9, 0)], [(0, 0)], _, _, _)
          refine ev_ifeq f187_45 (fun c28952 => ?_) (fun c28952 => absurd c28952 (by omega))
          refine ev_ldc2_w ?_
          exact ev_ret rfl (by decide) (by decide) ⟨_, rfl, by omega, by omega, g, k0⟩
        · refine ev_iload_n rfl ?_
          refine ev_aload_n rfl ?_
          obtain ⟨v28953, ev28953, lv28953, uv28953⟩ := g.rd ad1 (show 0 < 8 by decide) rf1_0
          refine g_getv (r := 1) (v := v28953) g ad1 (by decide) ft10_0 ev28953 ?_
          refine ev_icmpge f140_16 (fun c28954 => ?_) (fun c28954 => ?_)
          · refine ev_iconst ?_
            refine ev_ret rfl (by decide) (by decide) ?_
            show jEv _ _ _ _ _ _ _ (_, [(2, 0), (0, a1), (0, a2), (0, a3), (2, (r28916 : Int)), (9, 0), (9, 0), (9, 0), (9, 0)], [(0, 0)], _, _, _)
            refine ev_ifeq f187_45 (fun c28955 => ?_) (fun c28955 => absurd c28955 (by omega))
            refine ev_ldc2_w ?_
            exact ev_ret rfl (by decide) (by decide) ⟨_, rfl, by omega, by omega, g, k0⟩
          · refine ev_iconst ?_
            refine ev_goto f140_17 ?_
            refine ev_ret rfl (by decide) (by decide) ?_
            show jEv _ _ _ _ _ _ _ (_, [(2, 0), (0, a1), (0, a2), (0, a3), (2, (r28916 : Int)), (9, 0), (9, 0), (9, 0), (9, 0)], [(0, 1)], _, _, _)
            refine ev_ifeq f187_45 (fun c28956 => absurd c28956 (by omega)) (fun c28956 => ?_)
            refine ev_iload_n rfl ?_
            refine ev_in (d := 5) (a := 0) (b := 0) (cd' := c221_0) (m := 1) (L0 := [(0, a3)]) (jcall_s (A := [(0, a3)]) (S' := []) (by decide) rfl (Nat.le_of_ble_eq_true rfl)) (by decide) ml221 pp221 (Nat.le_of_ble_eq_true rfl) rfl (by decide) (by decide) ?_
            refine ev_iload_n rfl ?_
            refine ev_ifeq f221_9 (fun c28957 => ?_) (fun c28957 => ?_)
            · refine ev_iconst ?_
              refine ev_goto f221_14 ?_
              refine ev_ret rfl (by decide) (by decide) ?_
              show jEv _ _ _ _ _ _ _ (_, [(2, 0), (0, a1), (0, a2), (0, a3), (2, (r28916 : Int)), (9, 0), (9, 0), (9, 0), (9, 0)], [(0, 1)], _, _, _)
              refine ev_ifeq f187_45 (fun c28958 => absurd c28958 (by omega)) (fun c28958 => ?_)
              refine ev_aload_n rfl ?_
              refine g_getp (r := 0) (c := 1) g ad0 (by decide) (by decide) rf0_0 ft11_0 ?_
              refine ev_call (jcall_v (A := []) (S' := []) (r := 1) rfl (g.lt ad1) (g.tg ad1) (Nat.le_of_ble_eq_true rfl)) (jOk_le (by decide) (s153 g )) (by decide) (by decide) (fun w28959 h28959 q28959 => ?_)
              obtain ⟨v28960, rfl, lv28960, uv28960, g28959, kk28959⟩ := q28959
              have k28959 := k0.tr kk28959 (by decide)
              show jEv _ _ _ _ _ _ _ (_, [(2, 0), (0, a1), (0, a2), (0, a3), (2, (r28916 : Int)), (9, 0), (9, 0), (9, 0), (9, 0)], [(0, v28960)], _, _, _)
              refine ev_ifne f187_49 (fun c28961 => ?_) (fun c28961 => ?_)
              · refine ev_aload rfl ?_
                refine ev_aload_n rfl ?_
                refine g_getp (r := 0) (c := 1) g28959 ad0 (by decide) (by decide) rf0_0 ft11_0 ?_
                refine ev_aload_n rfl ?_
                refine g_getp (r := 0) (c := 23) g28959 ad0 (by decide) (by decide) rf0_5 ft11_5 ?_
                refine ev_iconst ?_
                refine ev_call (jcall_v (A := [(0, 0), (2, 23), (2, 1)]) (S' := []) (r := r28916) rfl (g28959.qlt qr28916) (g28959.qtg qr28916) (Nat.le_of_ble_eq_true rfl)) (jOk_le (by decide) (s47 g28959 qr28916 (Or.inl rfl) (by omega) (by omega))) (by decide) (by decide) (fun w28962 h28962 q28962 => ?_)
                obtain ⟨v28963, rfl, lv28963, uv28963, g28962, kk28962⟩ := q28962
                have k28962 := k28959.tr kk28962 (by decide)
                show jEv _ _ _ _ _ _ _ (_, [(2, 0), (0, a1), (0, a2), (0, a3), (2, (r28916 : Int)), (9, 0), (9, 0), (9, 0), (9, 0)], [(1, v28963)], _, _, _)
                refine ev_lstore (L' := [(2, 0), (0, a1), (0, a2), (0, a3), (2, (r28916 : Int)), (1, v28963), (9, 0), (9, 0), (9, 0)]) (Nat.le_of_ble_eq_true rfl) rfl ?_
                refine ev_iload_n rfl ?_
                refine ev_ifge f187_85 (fun c28964 => ?_) (fun c28964 => absurd c28964 (by omega))
                refine ev_aload rfl ?_
                refine ev_aload_n rfl ?_
                refine g_getp (r := 0) (c := 1) g28962 ad0 (by decide) (by decide) rf0_0 ft11_0 ?_
                refine ev_aload_n rfl ?_
                refine g_getp (r := 0) (c := 23) g28962 ad0 (by decide) (by decide) rf0_5 ft11_5 ?_
                refine ev_iload_n rfl ?_
                refine ev_iconst ?_
                refine ev_call (jcall_v (A := [(0, (-1)), (0, a2), (2, 23), (2, 1)]) (S' := []) (r := r28916) rfl (g28962.qlt qr28916) (g28962.qtg qr28916) (Nat.le_of_ble_eq_true rfl)) (jOk_le (by decide) (s50 g28962 qr28916 (Or.inl rfl) (by omega) (by omega) (by omega) (by omega))) (by decide) (by decide) (fun w28965 h28965 q28965 => ?_)
                obtain ⟨v28966, rfl, lv28966, uv28966, g28965, kk28965⟩ := q28965
                have k28965 := k28962.tr kk28965 (by decide)
                show jEv _ _ _ _ _ _ _ (_, [(2, 0), (0, a1), (0, a2), (0, a3), (2, (r28916 : Int)), (1, v28963), (9, 0), (9, 0), (9, 0)], [(1, v28966)], _, _, _)
                refine ev_lstore (L' := [(2, 0), (0, a1), (0, a2), (0, a3), (2, (r28916 : Int)), (1, v28963), (9, 0), (1, v28966), (9, 0)]) (Nat.le_of_ble_eq_true rfl) rfl ?_
                refine ev_lload rfl ?_
                refine ev_lload rfl ?_
                refine g_lsubG (fun v28967 ev28967 lv28967 uv28967 => ?_)
                refine ev_ldc2_w ?_
                refine ev_aload_n rfl ?_
                refine g_getp (r := 0) (c := 1) g28965 ad0 (by decide) (by decide) rf0_0 ft11_0 ?_
                obtain ⟨v28968, ev28968, lv28968, uv28968⟩ := g28965.rd ad1 (show 1 < 8 by decide) rf1_1
                refine g_getv (r := 1) (v := v28968) g28965 ad1 (by decide) ft10_1 ev28968 ?_
                refine g_lmulG (fun v28969 ev28969 lv28969 uv28969 => ?_)
                refine ev_iload_n rfl ?_
                refine ev_call (jcall_s (A := [(0, a3), (1, v28969), (1, v28967)]) (S' := []) (by decide) rfl (Nat.le_of_ble_eq_true rfl)) (jOk_le (by decide) (s223 g28965 (by omega) (by omega) (by omega) (by omega) (by omega) (by omega))) (by decide) (by decide) (fun w28970 h28970 q28970 => ?_)
                obtain ⟨v28971, rfl, lv28971, uv28971, g28970, kk28970⟩ := q28970
                have k28970 := k28965.tr kk28970 (by decide)
                show jEv _ _ _ _ _ _ _ (_, [(2, 0), (0, a1), (0, a2), (0, a3), (2, (r28916 : Int)), (1, v28963), (9, 0), (1, v28966), (9, 0)], [(1, v28971)], _, _, _)
                exact ev_ret rfl (by decide) (by decide) ⟨_, rfl, by omega, by omega, g28970, k28970⟩
              · refine ev_ldc2_w ?_
                exact ev_ret rfl (by decide) (by decide) ⟨_, rfl, by omega, by omega, g28959, k28959⟩
            · refine ev_iload_n rfl ?_
              refine ev_iconst ?_
              refine ev_icmpne f221_13 (fun c28972 => ?_) (fun c28972 => ?_)
              · refine ev_iconst ?_
                refine ev_ret rfl (by decide) (by decide) ?_
                show jEv _ _ _ _ _ _ _ (_, [(2, 0), (0, a1), (0, a2), (0, a3), (2, (r28916 : Int)), (9, 0), (9, 0), (9, 0), (9, 0)], [(0, 0)], _, _, _)
                refine ev_ifeq f187_45 (fun c28973 => ?_) (fun c28973 => absurd c28973 (by omega))
                refine ev_ldc2_w ?_
                exact ev_ret rfl (by decide) (by decide) ⟨_, rfl, by omega, by omega, g, k0⟩
              · refine ev_iconst ?_
                refine ev_goto f221_14 ?_
                refine ev_ret rfl (by decide) (by decide) ?_
                show jEv _ _ _ _ _ _ _ (_, [(2, 0), (0, a1), (0, a2), (0, a3), (2, (r28916 : Int)), (9, 0), (9, 0), (9, 0), (9, 0)], [(0, 1)], _, _, _)
                refine ev_ifeq f187_45 (fun c28974 => absurd c28974 (by omega)) (fun c28974 => ?_)
                refine ev_aload_n rfl ?_
                refine g_getp (r := 0) (c := 1) g ad0 (by decide) (by decide) rf0_0 ft11_0 ?_
                refine ev_call (jcall_v (A := []) (S' := []) (r := 1) rfl (g.lt ad1) (g.tg ad1) (Nat.le_of_ble_eq_true rfl)) (jOk_le (by decide) (s153 g )) (by decide) (by decide) (fun w28975 h28975 q28975 => ?_)
                obtain ⟨v28976, rfl, lv28976, uv28976, g28975, kk28975⟩ := q28975
                have k28975 := k0.tr kk28975 (by decide)
                show jEv _ _ _ _ _ _ _ (_, [(2, 0), (0, a1), (0, a2), (0, a3), (2, (r28916 : Int)), (9, 0), (9, 0), (9, 0), (9, 0)], [(0, v28976)], _, _, _)
                refine ev_ifne f187_49 (fun c28977 => ?_) (fun c28977 => ?_)
                · refine ev_aload rfl ?_
                  refine ev_aload_n rfl ?_
                  refine g_getp (r := 0) (c := 1) g28975 ad0 (by decide) (by decide) rf0_0 ft11_0 ?_
                  refine ev_aload_n rfl ?_
                  refine g_getp (r := 0) (c := 23) g28975 ad0 (by decide) (by decide) rf0_5 ft11_5 ?_
                  refine ev_iconst ?_
                  refine ev_call (jcall_v (A := [(0, 0), (2, 23), (2, 1)]) (S' := []) (r := r28916) rfl (g28975.qlt qr28916) (g28975.qtg qr28916) (Nat.le_of_ble_eq_true rfl)) (jOk_le (by decide) (s47 g28975 qr28916 (Or.inl rfl) (by omega) (by omega))) (by decide) (by decide) (fun w28978 h28978 q28978 => ?_)
                  obtain ⟨v28979, rfl, lv28979, uv28979, g28978, kk28978⟩ := q28978
                  have k28978 := k28975.tr kk28978 (by decide)
                  show jEv _ _ _ _ _ _ _ (_, [(2, 0), (0, a1), (0, a2), (0, a3), (2, (r28916 : Int)), (9, 0), (9, 0), (9, 0), (9, 0)], [(1, v28979)], _, _, _)
                  refine ev_lstore (L' := [(2, 0), (0, a1), (0, a2), (0, a3), (2, (r28916 : Int)), (1, v28979), (9, 0), (9, 0), (9, 0)]) (Nat.le_of_ble_eq_true rfl) rfl ?_
                  refine ev_iload_n rfl ?_
                  refine ev_ifge f187_85 (fun c28980 => ?_) (fun c28980 => absurd c28980 (by omega))
                  refine ev_aload rfl ?_
                  refine ev_aload_n rfl ?_
                  refine g_getp (r := 0) (c := 1) g28978 ad0 (by decide) (by decide) rf0_0 ft11_0 ?_
                  refine ev_aload_n rfl ?_
                  refine g_getp (r := 0) (c := 23) g28978 ad0 (by decide) (by decide) rf0_5 ft11_5 ?_
                  refine ev_iload_n rfl ?_
                  refine ev_iconst ?_
                  refine ev_call (jcall_v (A := [(0, (-1)), (0, a2), (2, 23), (2, 1)]) (S' := []) (r := r28916) rfl (g28978.qlt qr28916) (g28978.qtg qr28916) (Nat.le_of_ble_eq_true rfl)) (jOk_le (by decide) (s50 g28978 qr28916 (Or.inl rfl) (by omega) (by omega) (by omega) (by omega))) (by decide) (by decide) (fun w28981 h28981 q28981 => ?_)
                  obtain ⟨v28982, rfl, lv28982, uv28982, g28981, kk28981⟩ := q28981
                  have k28981 := k28978.tr kk28981 (by decide)
                  show jEv _ _ _ _ _ _ _ (_, [(2, 0), (0, a1), (0, a2), (0, a3), (2, (r28916 : Int)), (1, v28979), (9, 0), (9, 0), (9, 0)], [(1, v28982)], _, _, _)
                  refine ev_lstore (L' := [(2, 0), (0, a1), (0, a2), (0, a3), (2, (r28916 : Int)), (1, v28979), (9, 0), (1, v28982), (9, 0)]) (Nat.le_of_ble_eq_true rfl) rfl ?_
                  refine ev_lload rfl ?_
                  refine ev_lload rfl ?_
                  refine g_lsubG (fun v28983 ev28983 lv28983 uv28983 => ?_)
                  refine ev_ldc2_w ?_
                  refine ev_aload_n rfl ?_
                  refine g_getp (r := 0) (c := 1) g28981 ad0 (by decide) (by decide) rf0_0 ft11_0 ?_
                  obtain ⟨v28984, ev28984, lv28984, uv28984⟩ := g28981.rd ad1 (show 1 < 8 by decide) rf1_1
                  refine g_getv (r := 1) (v := v28984) g28981 ad1 (by decide) ft10_1 ev28984 ?_
                  refine g_lmulG (fun v28985 ev28985 lv28985 uv28985 => ?_)
                  refine ev_iload_n rfl ?_
                  refine ev_call (jcall_s (A := [(0, a3), (1, v28985), (1, v28983)]) (S' := []) (by decide) rfl (Nat.le_of_ble_eq_true rfl)) (jOk_le (by decide) (s223 g28981 (by omega) (by omega) (by omega) (by omega) (by omega) (by omega))) (by decide) (by decide) (fun w28986 h28986 q28986 => ?_)
                  obtain ⟨v28987, rfl, lv28987, uv28987, g28986, kk28986⟩ := q28986
                  have k28986 := k28981.tr kk28986 (by decide)
                  show jEv _ _ _ _ _ _ _ (_, [(2, 0), (0, a1), (0, a2), (0, a3), (2, (r28916 : Int)), (1, v28979), (9, 0), (1, v28982), (9, 0)], [(1, v28987)], _, _, _)
                  exact ev_ret rfl (by decide) (by decide) ⟨_, rfl, by omega, by omega, g28986, k28986⟩
                · refine ev_ldc2_w ?_
                  exact ev_ret rfl (by decide) (by decide) ⟨_, rfl, by omega, by omega, g28975, k28975⟩
    · refine ev_aconst_null ?_
      refine ev_goto f219_22 ?_
      refine ev_ret rfl (by decide) (by decide) ?_
      show jEv _ _ _ _ _ _ _ (_, [(2, 0), (0, a1), (0, a2), (0, a3), (9, 0), (9, 0), (9, 0), (9, 0), (9, 0)], [(2, (-1))], _, _, _)
      refine ev_astore (L' := [(2, 0), (0, a1), (0, a2), (0, a3), (2, (-1)), (9, 0), (9, 0), (9, 0), (9, 0)]) (Nat.le_of_ble_eq_true rfl) rfl ?_
      refine ev_aload rfl ?_
      refine ev_ifnull f187_45 (fun c28988 => ?_) (fun c28988 => absurd c28988 (by decide))
      refine ev_ldc2_w ?_
      exact ev_ret rfl (by decide) (by decide) ⟨_, rfl, by omega, by omega, g, k0⟩
/-! 188 together -/
set_option maxHeartbeats 4000000 in
theorem s188 {G : GH} {h : JH} (g : Gd G h) {a1 : Int} (la1 : (-2147483648) ≤ a1) (ua1 : a1 ≤ 2147483647) {a2 : Int} (la2 : (-2147483648) ≤ a2) (ua2 : a2 ≤ 2147483647) {a3 : Int} (la3 : (-2147483648) ≤ a3) (ua3 : a3 ≤ 2147483647) {a4 : Int} (la4 : (-2147483648) ≤ a4) (ua4 : a4 ≤ 2147483647) : jOk 7 0 0 188 [(2, 0), (0, a1), (0, a2), (0, a3), (0, a4)] h (PI G [(1, 2), (1, 3), (5, 0), (6, 0), (1000000, 0)] h 1 (-9223372036854775808) 9223372036854775807) := by
  refine ⟨by decide, by rw [ml188]; exact Nat.le_of_ble_eq_true rfl, ?_⟩
  rw [ml188, pp188]
  show jEv _ none _ c188_0 0 0 _ (c188_0, [(2, 0), (0, a1), (0, a2), (0, a3), (0, a4), (9, 0), (9, 0), (9, 0), (9, 0), (9, 0), (9, 0), (9, 0), (9, 0), (9, 0)], [], h, 0, 0)
  have k0 := Kp.rf [(1, 2), (1, 3), (5, 0), (6, 0), (1000000, 0)] h
  refine ev_aload_n rfl ?_
  refine ev_iload_n rfl ?_
  refine ev_in (d := 5) (a := 0) (b := 0) (cd' := c219_0) (m := 2) (L0 := [(2, 0), (0, a1)]) (jcall_v (A := [(0, a1)]) (S' := []) (r := 0) rfl (g.lt ad0) (g.tg ad0) (Nat.le_of_ble_eq_true rfl)) (by decide) ml219 pp219 (Nat.le_of_ble_eq_true rfl) rfl (by decide) (by decide) ?_
  refine ev_iload_n rfl ?_
  refine ev_iflt f219_12 (fun c29111 => ?_) (fun c29111 => ?_)
  · refine ev_aconst_null ?_
    refine ev_goto f219_22 ?_
    refine ev_ret rfl (by decide) (by decide) ?_
    show jEv _ _ _ _ _ _ _ (_, [(2, 0), (0, a1), (0, a2), (0, a3), (0, a4), (9, 0), (9, 0), (9, 0), (9, 0), (9, 0), (9, 0), (9, 0), (9, 0), (9, 0)], [(2, (-1))], _, _, _)
    refine ev_astore (L' := [(2, 0), (0, a1), (0, a2), (0, a3), (0, a4), (2, (-1)), (9, 0), (9, 0), (9, 0), (9, 0), (9, 0), (9, 0), (9, 0), (9, 0)]) (Nat.le_of_ble_eq_true rfl) rfl ?_
    refine ev_aload rfl ?_
    refine ev_ifnull f188_57 (fun c29112 => ?_) (fun c29112 => absurd c29112 (by decide))
    refine ev_ldc2_w ?_
    exact ev_ret rfl (by decide) (by decide) ⟨_, rfl, by omega, by omega, g, k0⟩
  · refine ev_iload_n rfl ?_
    refine ev_aload_n rfl ?_
    obtain ⟨v29113, ev29113, lv29113, uv29113⟩ := g.rd ad0 (show 3 < 17 by decide) rf0_3
    refine g_getv (r := 0) (v := v29113) g ad0 (by decide) ft11_3 ev29113 ?_
    refine ev_icmplt f219_16 (fun c29114 => ?_) (fun c29114 => ?_)
    · refine ev_aload_n rfl ?_
      refine g_getp (r := 0) (c := 18) g ad0 (by decide) (by decide) rf0_2 ft11_2 ?_
      refine ev_iload_n rfl ?_
      refine g_qaald (g) (i := a1) (ev29113) (by omega) (by omega) (fun r29115 m29116 qr29115 => ?_)
      have wr29115 := g.qb qr29115
      have zr29115 := qr29115.1
      refine ev_ret rfl (by decide) (by decide) ?_
      show jEv _ _ _ _ _ _ _ (_, [(2, 0), (0, a1), (0, a2), (0, a3), (0, a4), (9, 0), (9, 0), (9, 0), (9, 0), (9, 0), (9, 0), (9, 0), (9, 0), (9, 0)], [(2, (r29115 : Int))], _, _, _)
      refine ev_astore (L' := [(2, 0), (0, a1), (0, a2), (0, a3), (0, a4), (2, (r29115 : Int)), (9, 0), (9, 0), (9, 0), (9, 0), (9, 0), (9, 0), (9, 0), (9, 0)]) (Nat.le_of_ble_eq_true rfl) rfl ?_
      refine ev_aload rfl ?_
      refine ev_ifnull f188_57 (fun c29117 => absurd c29117 (by omega)) (fun c29117 => ?_)
      refine ev_aload_n rfl ?_
      refine g_getp (r := 0) (c := 1) g ad0 (by decide) (by decide) rf0_0 ft11_0 ?_
      refine ev_iload_n rfl ?_
      refine ev_in (d := 5) (a := 0) (b := 0) (cd' := c140_0) (m := 2) (L0 := [(2, 1), (0, a2)]) (jcall_v (A := [(0, a2)]) (S' := []) (r := 1) rfl (g.lt ad1) (g.tg ad1) (Nat.le_of_ble_eq_true rfl)) (by decide) ml140 pp140 (Nat.le_of_ble_eq_true rfl) rfl (by decide) (by decide) ?_
      refine ev_iload_n rfl ?_
      refine ev_iflt f140_16 (fun c29118 => ?_) (fun c29118 => ?_)
      · refine ev_iconst ?_
        refine ev_ret rfl (by decide) (by decide) ?_
        show jEv _ _ _ _ _ _ _ (_, [(2, 0), (0, a1), (0, a2), (0, a3), (0, a4), (2, (r29115 : Int)), (9, 0), (9, 0), (9, 0), (9, 0), (9, 0), (9, 0), (9, 0), (9, 0)], [(0, 0)], _, _, _)
        refine ev_ifeq f188_57 (fun c29119 => ?_) (fun c29119 => absurd c29119 (by omega))
        refine ev_ldc2_w ?_
        exact ev_ret rfl (by decide) (by decide) ⟨_, rfl, by omega, by omega, g, k0⟩
      · refine ev_iload_n rfl ?_
        refine ev_aload_n rfl ?_
        obtain ⟨v29120, ev29120, lv29120, uv29120⟩ := g.rd ad1 (show 0 < 8 by decide) rf1_0
        refine g_getv (r := 1) (v := v29120) g ad1 (by decide) ft10_0 ev29120 ?_
        refine ev_icmpge f140_16 (fun c29121 => ?_) (fun c29121 => ?_)
        · refine ev_iconst ?_
          refine ev_ret rfl (by decide) (by decide) ?_
          show jEv _ _ _ _ _ _ _ (_, [(2, 0), (0, a1), (0, a2), (0, a3), (0, a4), (2, (r29115 : Int)), (9, 0), (9, 0), (9, 0), (9, 0), (9, 0), (9, 0), (9, 0), (9, 0)], [(0, 0)], _, _, _)
          refine ev_ifeq f188_57 (fun c29122 => ?_) (fun c29122 => absurd c29122 (by omega))
          refine ev_ldc2_w ?_
          exact ev_ret rfl (by decide) (by decide) ⟨_, rfl, by omega, by omega, g, k0⟩
        · refine ev_iconst ?_
          refine ev_goto f140_17 ?_
          refine ev_ret rfl (by decide) (by decide) ?_
          show jEv _ _ _ _ _ _ _ (_, [(2, 0), (0, a1), (0, a2), (0, a3), (0, a4), (2, (r29115 : Int)), (9, 0), (9, 0), (9, 0), (9, 0), (9, 0), (9, 0), (9, 0), (9, 0)], [(0, 1)], _, _, _)
          refine ev_ifeq f188_57 (fun c29123 => absurd c29123 (by omega)) (fun c29123 => ?_)
          refine ev_aload_n rfl ?_
          refine g_getp (r := 0) (c := 1) g ad0 (by decide) (by decide) rf0_0 ft11_0 ?_
          refine ev_iload_n rfl ?_
          refine ev_in (d := 5) (a := 0) (b := 0) (cd' := c140_0) (m := 2) (L0 := [(2, 1), (0, a3)]) (jcall_v (A := [(0, a3)]) (S' := []) (r := 1) rfl (g.lt ad1) (g.tg ad1) (Nat.le_of_ble_eq_true rfl)) (by decide) ml140 pp140 (Nat.le_of_ble_eq_true rfl) rfl (by decide) (by decide) ?_
          refine ev_iload_n rfl ?_
          refine ev_iflt f140_16 (fun c29124 => ?_) (fun c29124 => ?_)
          · refine ev_iconst ?_
            refine ev_ret rfl (by decide) (by decide) ?_
            show jEv _ _ _ _ _ _ _ (_, [(2, 0), (0, a1), (0, a2), (0, a3), (0, a4), (2, (r29115 : Int)), (9, 0), (9, 0), (9, 0), (9, 0), (9, 0), (9, 0), (9, 0), (9, 0)], [(0, 0)], _, _, _)
            refine ev_ifeq f188_57 (fun c29125 => ?_) (fun c29125 => absurd c29125 (by omega))
            refine ev_ldc2_w ?_
            exact ev_ret rfl (by decide) (by decide) ⟨_, rfl, by omega, by omega, g, k0⟩
          · refine ev_iload_n rfl ?_
            refine ev_aload_n rfl ?_
            refine g_getv (r := 1) (v := v29120) g ad1 (by decide) ft10_0 (ev29120) ?_
            refine ev_icmpge f140_16 (fun c29126 => ?_) (fun c29126 => ?_)
            · refine ev_iconst ?_
              refine ev_ret rfl (by decide) (by decide) ?_
              show jEv _ _ _ _ _ _ _ (_, [(2, 0), (0, a1), (0, a2), (0, a3), (0, a4), (2, (r29115 : Int)), (9, 0), (9, 0), (9, 0), (9, 0), (9, 0), (9, 0), (9, 0), (9, 0)], [(0, 0)], _, _, _)
              refine ev_ifeq f188_57 (fun c29127 => ?_) (fun c29127 => absurd c29127 (by omega))
              refine ev_ldc2_w ?_
              exact ev_ret rfl (by decide) (by decide) ⟨_, rfl, by omega, by omega, g, k0⟩
            · refine ev_iconst ?_
              refine ev_goto f140_17 ?_
              refine ev_ret rfl (by decide) (by decide) ?_
              show jEv _ _ _ _ _ _ _ (_, [(2, 0), (0, a1), (0, a2), (0, a3), (0, a4), (2, (r29115 : Int)), (9, 0), (9, 0), (9, 0), (9, 0), (9, 0), (9, 0), (9, 0), (9, 0)], [(0, 1)], _, _, _)
              refine ev_ifeq f188_57 (fun c29128 => absurd c29128 (by omega)) (fun c29128 => ?_)
              refine ev_iload_n rfl ?_
              refine ev_iload_n rfl ?_
              refine ev_icmpeq f188_57 (fun c29129 => ?_) (fun c29129 => ?_)
              · refine ev_ldc2_w ?_
                exact ev_ret rfl (by decide) (by decide) ⟨_, rfl, by omega, by omega, g, k0⟩
              · refine ev_iload rfl ?_
                refine ev_in (d := 5) (a := 0) (b := 0) (cd' := c221_0) (m := 1) (L0 := [(0, a4)]) (jcall_s (A := [(0, a4)]) (S' := []) (by decide) rfl (Nat.le_of_ble_eq_true rfl)) (by decide) ml221 pp221 (Nat.le_of_ble_eq_true rfl) rfl (by decide) (by decide) ?_
                refine ev_iload_n rfl ?_
                refine ev_ifeq f221_9 (fun c29130 => ?_) (fun c29130 => ?_)
                · refine ev_iconst ?_
                  refine ev_goto f221_14 ?_
                  refine ev_ret rfl (by decide) (by decide) ?_
                  show jEv _ _ _ _ _ _ _ (_, [(2, 0), (0, a1), (0, a2), (0, a3), (0, a4), (2, (r29115 : Int)), (9, 0), (9, 0), (9, 0), (9, 0), (9, 0), (9, 0), (9, 0), (9, 0)], [(0, 1)], _, _, _)
                  refine ev_ifeq f188_57 (fun c29131 => absurd c29131 (by omega)) (fun c29131 => ?_)
                  refine ev_aload_n rfl ?_
                  refine g_getp (r := 0) (c := 1) g ad0 (by decide) (by decide) rf0_0 ft11_0 ?_
                  refine ev_call (jcall_v (A := []) (S' := []) (r := 1) rfl (g.lt ad1) (g.tg ad1) (Nat.le_of_ble_eq_true rfl)) (jOk_le (by decide) (s153 g )) (by decide) (by decide) (fun w29132 h29132 q29132 => ?_)
                  obtain ⟨v29133, rfl, lv29133, uv29133, g29132, kk29132⟩ := q29132
                  have k29132 := k0.tr kk29132 (by decide)
                  show jEv _ _ _ _ _ _ _ (_, [(2, 0), (0, a1), (0, a2), (0, a3), (0, a4), (2, (r29115 : Int)), (9, 0), (9, 0), (9, 0), (9, 0), (9, 0), (9, 0), (9, 0), (9, 0)], [(0, v29133)], _, _, _)
                  refine ev_ifne f188_61 (fun c29134 => ?_) (fun c29134 => ?_)
                  · refine ev_aload rfl ?_
                    refine ev_aload_n rfl ?_
                    refine g_getp (r := 0) (c := 1) g29132 ad0 (by decide) (by decide) rf0_0 ft11_0 ?_
                    refine ev_aload_n rfl ?_
                    refine g_getp (r := 0) (c := 23) g29132 ad0 (by decide) (by decide) rf0_5 ft11_5 ?_
                    refine ev_iload_n rfl ?_
                    refine ev_iload_n rfl ?_
                    refine ev_call (jcall_v (A := [(0, a3), (0, a2), (2, 23), (2, 1)]) (S' := []) (r := r29115) rfl (g29132.qlt qr29115) (g29132.qtg qr29115) (Nat.le_of_ble_eq_true rfl)) (jOk_le (by decide) (s50 g29132 qr29115 (Or.inl rfl) (by omega) (by omega) (by omega) (by omega))) (by decide) (by decide) (fun w29135 h29135 q29135 => ?_)
                    obtain ⟨v29136, rfl, lv29136, uv29136, g29135, kk29135⟩ := q29135
                    have k29135 := k29132.tr kk29135 (by decide)
                    show jEv _ _ _ _ _ _ _ (_, [(2, 0), (0, a1), (0, a2), (0, a3), (0, a4), (2, (r29115 : Int)), (9, 0), (9, 0), (9, 0), (9, 0), (9, 0), (9, 0), (9, 0), (9, 0)], [(1, v29136)], _, _, _)
                    refine ev_lstore (L' := [(2, 0), (0, a1), (0, a2), (0, a3), (0, a4), (2, (r29115 : Int)), (1, v29136), (9, 0), (9, 0), (9, 0), (9, 0), (9, 0), (9, 0), (9, 0)]) (Nat.le_of_ble_eq_true rfl) rfl ?_
                    refine ev_aload rfl ?_
                    refine ev_aload_n rfl ?_
                    refine g_getp (r := 0) (c := 1) g29135 ad0 (by decide) (by decide) rf0_0 ft11_0 ?_
                    refine ev_aload_n rfl ?_
                    refine g_getp (r := 0) (c := 23) g29135 ad0 (by decide) (by decide) rf0_5 ft11_5 ?_
                    refine ev_iload_n rfl ?_
                    refine ev_iconst ?_
                    refine ev_call (jcall_v (A := [(0, (-1)), (0, a2), (2, 23), (2, 1)]) (S' := []) (r := r29115) rfl (g29135.qlt qr29115) (g29135.qtg qr29115) (Nat.le_of_ble_eq_true rfl)) (jOk_le (by decide) (s50 g29135 qr29115 (Or.inl rfl) (by omega) (by omega) (by omega) (by omega))) (by decide) (by decide) (fun w29137 h29137 q29137 => ?_)
                    obtain ⟨v29138, rfl, lv29138, uv29138, g29137, kk29137⟩ := q29137
                    have k29137 := k29135.tr kk29137 (by decide)
                    show jEv _ _ _ _ _ _ _ (_, [(2, 0), (0, a1), (0, a2), (0, a3), (0, a4), (2, (r29115 : Int)), (1, v29136), (9, 0), (9, 0), (9, 0), (9, 0), (9, 0), (9, 0), (9, 0)], [(1, v29138)], _, _, _)
                    refine ev_lstore (L' := [(2, 0), (0, a1), (0, a2), (0, a3), (0, a4), (2, (r29115 : Int)), (1, v29136), (9, 0), (1, v29138), (9, 0), (9, 0), (9, 0), (9, 0), (9, 0)]) (Nat.le_of_ble_eq_true rfl) rfl ?_
                    refine ev_aload rfl ?_
                    refine ev_aload_n rfl ?_
                    refine g_getp (r := 0) (c := 1) g29137 ad0 (by decide) (by decide) rf0_0 ft11_0 ?_
                    refine ev_aload_n rfl ?_
                    refine g_getp (r := 0) (c := 23) g29137 ad0 (by decide) (by decide) rf0_5 ft11_5 ?_
                    refine ev_iload_n rfl ?_
                    refine ev_iconst ?_
                    refine ev_call (jcall_v (A := [(0, (-1)), (0, a3), (2, 23), (2, 1)]) (S' := []) (r := r29115) rfl (g29137.qlt qr29115) (g29137.qtg qr29115) (Nat.le_of_ble_eq_true rfl)) (jOk_le (by decide) (s50 g29137 qr29115 (Or.inl rfl) (by omega) (by omega) (by omega) (by omega))) (by decide) (by decide) (fun w29139 h29139 q29139 => ?_)
                    obtain ⟨v29140, rfl, lv29140, uv29140, g29139, kk29139⟩ := q29139
                    have k29139 := k29137.tr kk29139 (by decide)
                    show jEv _ _ _ _ _ _ _ (_, [(2, 0), (0, a1), (0, a2), (0, a3), (0, a4), (2, (r29115 : Int)), (1, v29136), (9, 0), (1, v29138), (9, 0), (9, 0), (9, 0), (9, 0), (9, 0)], [(1, v29140)], _, _, _)
                    refine ev_lstore (L' := [(2, 0), (0, a1), (0, a2), (0, a3), (0, a4), (2, (r29115 : Int)), (1, v29136), (9, 0), (1, v29138), (9, 0), (1, v29140), (9, 0), (9, 0), (9, 0)]) (Nat.le_of_ble_eq_true rfl) rfl ?_
                    refine ev_aload rfl ?_
                    refine ev_aload_n rfl ?_
                    refine g_getp (r := 0) (c := 1) g29139 ad0 (by decide) (by decide) rf0_0 ft11_0 ?_
                    refine ev_aload_n rfl ?_
                    refine g_getp (r := 0) (c := 23) g29139 ad0 (by decide) (by decide) rf0_5 ft11_5 ?_
                    refine ev_iconst ?_
                    refine ev_call (jcall_v (A := [(0, 0), (2, 23), (2, 1)]) (S' := []) (r := r29115) rfl (g29139.qlt qr29115) (g29139.qtg qr29115) (Nat.le_of_ble_eq_true rfl)) (jOk_le (by decide) (s47 g29139 qr29115 (Or.inl rfl) (by omega) (by omega))) (by decide) (by decide) (fun w29141 h29141 q29141 => ?_)
                    obtain ⟨v29142, rfl, lv29142, uv29142, g29141, kk29141⟩ := q29141
                    have k29141 := k29139.tr kk29141 (by decide)
                    show jEv _ _ _ _ _ _ _ (_, [(2, 0), (0, a1), (0, a2), (0, a3), (0, a4), (2, (r29115 : Int)), (1, v29136), (9, 0), (1, v29138), (9, 0), (1, v29140), (9, 0), (9, 0), (9, 0)], [(1, v29142)], _, _, _)
                    refine ev_lstore (L' := [(2, 0), (0, a1), (0, a2), (0, a3), (0, a4), (2, (r29115 : Int)), (1, v29136), (9, 0), (1, v29138), (9, 0), (1, v29140), (9, 0), (1, v29142), (9, 0)]) (Nat.le_of_ble_eq_true rfl) rfl ?_
                    refine ev_lload rfl ?_
                    refine ev_lload rfl ?_
                    refine g_lsubG (fun v29143 ev29143 lv29143 uv29143 => ?_)
                    refine ev_lload rfl ?_
                    refine g_lsubG (fun v29144 ev29144 lv29144 uv29144 => ?_)
                    refine ev_lload rfl ?_
                    refine g_laddG (fun v29145 ev29145 lv29145 uv29145 => ?_)
                    refine ev_ldc2_w ?_
                    refine ev_aload_n rfl ?_
                    refine g_getp (r := 0) (c := 1) g29141 ad0 (by decide) (by decide) rf0_0 ft11_0 ?_
                    obtain ⟨v29146, ev29146, lv29146, uv29146⟩ := g29141.rd ad1 (show 1 < 8 by decide) rf1_1
                    refine g_getv (r := 1) (v := v29146) g29141 ad1 (by decide) ft10_1 ev29146 ?_
                    refine g_lmulG (fun v29147 ev29147 lv29147 uv29147 => ?_)
                    refine ev_iload rfl ?_
                    refine ev_call (jcall_s (A := [(0, a4), (1, v29147), (1, v29145)]) (S' := []) (by decide) rfl (Nat.le_of_ble_eq_true rfl)) (jOk_le (by decide) (s223 g29141 (by omega) (by omega) (by omega) (by omega) (by omega) (by omega))) (by decide) (by decide) (fun w29148 h29148 q29148 => ?_)
                    obtain ⟨v29149, rfl, lv29149, uv29149, g29148, kk29148⟩ := q29148
                    have k29148 := k29141.tr kk29148 (by decide)
                    show jEv _ _ _ _ _ _ _ (_, [(2, 0), (0, a1), (0, a2), (0, a3), (0, a4), (2, (r29115 : Int)), (1, v29136), (9, 0), (1, v29138), (9, 0), (1, v29140), (9, 0), (1, v29142), (9, 0)], [(1, v29149)], _, _, _)
                    exact ev_ret rfl (by decide) (by decide) ⟨_, rfl, by omega, by omega, g29148, k29148⟩
                  · refine ev_ldc2_w ?_
                    exact ev_ret rfl (by decide) (by decide) ⟨_, rfl, by omega, by omega, g29132, k29132⟩
                · refine ev_iload_n rfl ?_
                  refine ev_iconst ?_
                  refine ev_icmpne f221_13 (fun c29150 => ?_) (fun c29150 => ?_)
                  · refine ev_iconst ?_
                    refine ev_ret rfl (by decide) (by decide) ?_
                    show jEv _ _ _ _ _ _ _ (_, [(2, 0), (0, a1), (0, a2), (0, a3), (0, a4), (2, (r29115 : Int)), (9, 0), (9, 0), (9, 0), (9, 0), (9, 0), (9, 0), (9, 0), (9, 0)], [(0, 0)], _, _, _)
                    refine ev_ifeq f188_57 (fun c29151 => ?_) (fun c29151 => absurd c29151 (by omega))
                    refine ev_ldc2_w ?_
                    exact ev_ret rfl (by decide) (by decide) ⟨_, rfl, by omega, by omega, g, k0⟩
                  · refine ev_iconst ?_
                    refine ev_goto f221_14 ?_
                    refine ev_ret rfl (by decide) (by decide) ?_
                    show jEv _ _ _ _ _ _ _ (_, [(2, 0), (0, a1), (0, a2), (0, a3), (0, a4), (2, (r29115 : Int)), (9, 0), (9, 0), (9, 0), (9, 0), (9, 0), (9, 0), (9, 0), (9, 0)], [(0, 1)], _, _, _)
                    refine ev_ifeq f188_57 (fun c29152 => absurd c29152 (by omega)) (fun c29152 => ?_)
                    refine ev_aload_n rfl ?_
                    refine g_getp (r := 0) (c := 1) g ad0 (by decide) (by decide) rf0_0 ft11_0 ?_
                    refine ev_call (jcall_v (A := []) (S' := []) (r := 1) rfl (g.lt ad1) (g.tg ad1) (Nat.le_of_ble_eq_true rfl)) (jOk_le (by decide) (s153 g )) (by decide) (by decide) (fun w29153 h29153 q29153 => ?_)
                    obtain ⟨v29154, rfl, lv29154, uv29154, g29153, kk29153⟩ := q29153
                    have k29153 := k0.tr kk29153 (by decide)
                    show jEv _ _ _ _ _ _ _ (_, [(2, 0), (0, a1), (0, a2), (0, a3), (0, a4), (2, (r29115 : Int)), (9, 0), (9, 0), (9, 0), (9, 0), (9, 0), (9, 0), (9, 0), (9, 0)], [(0, v29154)], _, _, _)
                    refine ev_ifne f188_61 (fun c29155 => ?_) (fun c29155 => ?_)
                    · refine ev_aload rfl ?_
                      refine ev_aload_n rfl ?_
                      refine g_getp (r := 0) (c := 1) g29153 ad0 (by decide) (by decide) rf0_0 ft11_0 ?_
                      refine ev_aload_n rfl ?_
                      refine g_getp (r := 0) (c := 23) g29153 ad0 (by decide) (by decide) rf0_5 ft11_5 ?_
                      refine ev_iload_n rfl ?_
                      refine ev_iload_n rfl ?_
                      refine ev_call (jcall_v (A := [(0, a3), (0, a2), (2, 23), (2, 1)]) (S' := []) (r := r29115) rfl (g29153.qlt qr29115) (g29153.qtg qr29115) (Nat.le_of_ble_eq_true rfl)) (jOk_le (by decide) (s50 g29153 qr29115 (Or.inl rfl) (by omega) (by omega) (by omega) (by omega))) (by decide) (by decide) (fun w29156 h29156 q29156 => ?_)
                      obtain ⟨v29157, rfl, lv29157, uv29157, g29156, kk29156⟩ := q29156
                      have k29156 := k29153.tr kk29156 (by decide)
                      show jEv _ _ _ _ _ _ _ (_, [(2, 0), (0, a1), (0, a2), (0, a3), (0, a4), (2, (r29115 : Int)), (9, 0), (9, 0), (9, 0), (9, 0), (9, 0), (9, 0), (9, 0), (9, 0)], [(1, v29157)], _, _, _)
                      refine ev_lstore (L' := [(2, 0), (0, a1), (0, a2), (0, a3), (0, a4), (2, (r29115 : Int)), (1, v29157), (9, 0), (9, 0), (9, 0), (9, 0), (9, 0), (9, 0), (9, 0)]) (Nat.le_of_ble_eq_true rfl) rfl ?_
                      refine ev_aload rfl ?_
                      refine ev_aload_n rfl ?_
                      refine g_getp (r := 0) (c := 1) g29156 ad0 (by decide) (by decide) rf0_0 ft11_0 ?_
                      refine ev_aload_n rfl ?_
                      refine g_getp (r := 0) (c := 23) g29156 ad0 (by decide) (by decide) rf0_5 ft11_5 ?_
                      refine ev_iload_n rfl ?_
                      refine ev_iconst ?_
                      refine ev_call (jcall_v (A := [(0, (-1)), (0, a2), (2, 23), (2, 1)]) (S' := []) (r := r29115) rfl (g29156.qlt qr29115) (g29156.qtg qr29115) (Nat.le_of_ble_eq_true rfl)) (jOk_le (by decide) (s50 g29156 qr29115 (Or.inl rfl) (by omega) (by omega) (by omega) (by omega))) (by decide) (by decide) (fun w29158 h29158 q29158 => ?_)
                      obtain ⟨v29159, rfl, lv29159, uv29159, g29158, kk29158⟩ := q29158
                      have k29158 := k29156.tr kk29158 (by decide)
                      show jEv _ _ _ _ _ _ _ (_, [(2, 0), (0, a1), (0, a2), (0, a3), (0, a4), (2, (r29115 : Int)), (1, v29157), (9, 0), (9, 0), (9, 0), (9, 0), (9, 0), (9, 0), (9, 0)], [(1, v29159)], _, _, _)
                      refine ev_lstore (L' := [(2, 0), (0, a1), (0, a2), (0, a3), (0, a4), (2, (r29115 : Int)), (1, v29157), (9, 0), (1, v29159), (9, 0), (9, 0), (9, 0), (9, 0), (9, 0)]) (Nat.le_of_ble_eq_true rfl) rfl ?_
                      refine ev_aload rfl ?_
                      refine ev_aload_n rfl ?_
                      refine g_getp (r := 0) (c := 1) g29158 ad0 (by decide) (by decide) rf0_0 ft11_0 ?_
                      refine ev_aload_n rfl ?_
                      refine g_getp (r := 0) (c := 23) g29158 ad0 (by decide) (by decide) rf0_5 ft11_5 ?_
                      refine ev_iload_n rfl ?_
                      refine ev_iconst ?_
                      refine ev_call (jcall_v (A := [(0, (-1)), (0, a3), (2, 23), (2, 1)]) (S' := []) (r := r29115) rfl (g29158.qlt qr29115) (g29158.qtg qr29115) (Nat.le_of_ble_eq_true rfl)) (jOk_le (by decide) (s50 g29158 qr29115 (Or.inl rfl) (by omega) (by omega) (by omega) (by omega))) (by decide) (by decide) (fun w29160 h29160 q29160 => ?_)
                      obtain ⟨v29161, rfl, lv29161, uv29161, g29160, kk29160⟩ := q29160
                      have k29160 := k29158.tr kk29160 (by decide)
                      show jEv _ _ _ _ _ _ _ (_, [(2, 0), (0, a1), (0, a2), (0, a3), (0, a4), (2, (r29115 : Int)), (1, v29157), (9, 0), (1, v29159), (9, 0), (9, 0), (9, 0), (9, 0), (9, 0)], [(1, v29161)], _, _, _)
                      refine ev_lstore (L' := [(2, 0), (0, a1), (0, a2), (0, a3), (0, a4), (2, (r29115 : Int)), (1, v29157), (9, 0), (1, v29159), (9, 0), (1, v29161), (9, 0), (9, 0), (9, 0)]) (Nat.le_of_ble_eq_true rfl) rfl ?_
                      refine ev_aload rfl ?_
                      refine ev_aload_n rfl ?_
                      refine g_getp (r := 0) (c := 1) g29160 ad0 (by decide) (by decide) rf0_0 ft11_0 ?_
                      refine ev_aload_n rfl ?_
                      refine g_getp (r := 0) (c := 23) g29160 ad0 (by decide) (by decide) rf0_5 ft11_5 ?_
                      refine ev_iconst ?_
                      refine ev_call (jcall_v (A := [(0, 0), (2, 23), (2, 1)]) (S' := []) (r := r29115) rfl (g29160.qlt qr29115) (g29160.qtg qr29115) (Nat.le_of_ble_eq_true rfl)) (jOk_le (by decide) (s47 g29160 qr29115 (Or.inl rfl) (by omega) (by omega))) (by decide) (by decide) (fun w29162 h29162 q29162 => ?_)
                      obtain ⟨v29163, rfl, lv29163, uv29163, g29162, kk29162⟩ := q29162
                      have k29162 := k29160.tr kk29162 (by decide)
                      show jEv _ _ _ _ _ _ _ (_, [(2, 0), (0, a1), (0, a2), (0, a3), (0, a4), (2, (r29115 : Int)), (1, v29157), (9, 0), (1, v29159), (9, 0), (1, v29161), (9, 0), (9, 0), (9, 0)], [(1, v29163)], _, _, _)
                      refine ev_lstore (L' := [(2, 0), (0, a1), (0, a2), (0, a3), (0, a4), (2, (r29115 : Int)), (1, v29157), (9, 0), (1, v29159), (9, 0), (1, v29161), (9, 0), (1, v29163), (9, 0)]) (Nat.le_of_ble_eq_true rfl) rfl ?_
                      refine ev_lload rfl ?_
                      refine ev_lload rfl ?_
                      refine g_lsubG (fun v29164 ev29164 lv29164 uv29164 => ?_)
                      refine ev_lload rfl ?_
                      refine g_lsubG (fun v29165 ev29165 lv29165 uv29165 => ?_)
                      refine ev_lload rfl ?_
                      refine g_laddG (fun v29166 ev29166 lv29166 uv29166 => ?_)
                      refine ev_ldc2_w ?_
                      refine ev_aload_n rfl ?_
                      refine g_getp (r := 0) (c := 1) g29162 ad0 (by decide) (by decide) rf0_0 ft11_0 ?_
                      obtain ⟨v29167, ev29167, lv29167, uv29167⟩ := g29162.rd ad1 (show 1 < 8 by decide) rf1_1
                      refine g_getv (r := 1) (v := v29167) g29162 ad1 (by decide) ft10_1 ev29167 ?_
                      refine g_lmulG (fun v29168 ev29168 lv29168 uv29168 => ?_)
                      refine ev_iload rfl ?_
                      refine ev_call (jcall_s (A := [(0, a4), (1, v29168), (1, v29166)]) (S' := []) (by decide) rfl (Nat.le_of_ble_eq_true rfl)) (jOk_le (by decide) (s223 g29162 (by omega) (by omega) (by omega) (by omega) (by omega) (by omega))) (by decide) (by decide) (fun w29169 h29169 q29169 => ?_)
                      obtain ⟨v29170, rfl, lv29170, uv29170, g29169, kk29169⟩ := q29169
                      have k29169 := k29162.tr kk29169 (by decide)
                      show jEv _ _ _ _ _ _ _ (_, [(2, 0), (0, a1), (0, a2), (0, a3), (0, a4), (2, (r29115 : Int)), (1, v29157), (9, 0), (1, v29159), (9, 0), (1, v29161), (9, 0), (1, v29163), (9, 0)], [(1, v29170)], _, _, _)
                      exact ev_ret rfl (by decide) (by decide) ⟨_, rfl, by omega, by omega, g29169, k29169⟩
                    · refine ev_ldc2_w ?_
                      exact ev_ret rfl (by decide) (by decide) ⟨_, rfl, by omega, by omega, g29153, k29153⟩
    · refine ev_aconst_null ?_
      refine ev_goto f219_22 ?_
      refine ev_ret rfl (by decide) (by decide) ?_
      show jEv _ _ _ _ _ _ _ (_, [(2, 0), (0, a1), (0, a2), (0, a3), (0, a4), (9, 0), (9, 0), (9, 0), (9, 0), (9, 0), (9, 0), (9, 0), (9, 0), (9, 0)], [(2, (-1))], _, _, _)
      refine ev_astore (L' := [(2, 0), (0, a1), (0, a2), (0, a3), (0, a4), (2, (-1)), (9, 0), (9, 0), (9, 0), (9, 0), (9, 0), (9, 0), (9, 0), (9, 0)]) (Nat.le_of_ble_eq_true rfl) rfl ?_
      refine ev_aload rfl ?_
      refine ev_ifnull f188_57 (fun c29171 => ?_) (fun c29171 => absurd c29171 (by decide))
      refine ev_ldc2_w ?_
      exact ev_ret rfl (by decide) (by decide) ⟨_, rfl, by omega, by omega, g, k0⟩
/-! 189 first -/
set_option maxHeartbeats 4000000 in
theorem s189_l {G : GH} {h : JH} {a1 : Int} (la1 : (-2147483648) ≤ a1) (ua1 : a1 ≤ 2147483647) : ∀ N : Nat, (∀ (h1 : JH) (R2 : Nat) (M2 : Int) (x3 x4 x6 : Int) (j7 : AV), IsQ G R2 M2 → Gd G h1 → Kp [(1, 2), (1, 3), (5, 0), (6, 0), (1000000, 0)] h h1 → 0 ≤ a1 → a1 ≤ 5 → 0 ≤ x3 → x3 ≤ 3 → (-9223372036854775808) ≤ x4 → x4 ≤ 9223372036854775807 → 1 ≤ x6 → x6 ≤ 4 → ((-x6) + 4) < N → jEv (jOk 6) none (fun _ => 0) c189_0 0 0 (PI G [(1, 2), (1, 3), (5, 0), (6, 0), (1000000, 0)] h 0 (-4) 3) (c189_56, [(2, 0), (0, a1), (2, (R2 : Int)), (0, x3), (1, x4), (9, 0), (0, x6), j7, (9, 0)], [], h1, 0, 0)) := by
  intro N
  induction N with
  | zero => exact fun h1 R2 M2 x3 x4 x6 j7 Q2 g1 k1 b0 b1 b2 b3 b4 b5 b6 b7 hm => absurd hm (by omega)
  | succ N ih =>
    show _
    intro h1 R2 M2 x3 x4 x6 j7 Q2 g1 k1 b0 b1 b2 b3 b4 b5 b6 b7 hm
    have wR2 := g1.qb Q2
    have zR2 := Q2.1
    refine ev_iload rfl ?_
    refine ev_aload_n rfl ?_
    refine g_getp (r := 0) (c := 1) g1 ad0 (by decide) (by decide) rf0_0 ft11_0 ?_
    obtain ⟨v29227, ev29227, lv29227, uv29227⟩ := g1.rd ad1 (show 0 < 8 by decide) rf1_0
    refine g_getv (r := 1) (v := v29227) g1 ad1 (by decide) ft10_0 ev29227 ?_
    refine ev_icmpge f189_106 (fun c29228 => ?_) (fun c29228 => ?_)
    · refine ev_iload_n rfl ?_
      exact ev_ret rfl (by decide) (by decide) ⟨_, rfl, by omega, by omega, g1, k1⟩
    · refine ev_aload_n rfl ?_
      refine ev_aload_n rfl ?_
      refine g_getp (r := 0) (c := 1) g1 ad0 (by decide) (by decide) rf0_0 ft11_0 ?_
      refine ev_aload_n rfl ?_
      refine g_getp (r := 0) (c := 23) g1 ad0 (by decide) (by decide) rf0_5 ft11_5 ?_
      refine ev_iload rfl ?_
      refine ev_iconst ?_
      refine ev_call (jcall_v (A := [(0, (-1)), (0, x6), (2, 23), (2, 1)]) (S' := []) (r := R2) rfl (g1.qlt Q2) (g1.qtg Q2) (Nat.le_of_ble_eq_true rfl)) (jOk_le (by decide) (s50 g1 Q2 (Or.inl rfl) (by omega) (by omega) (by omega) (by omega))) (by decide) (by decide) (fun w29229 h29229 q29229 => ?_)
      obtain ⟨v29230, rfl, lv29230, uv29230, g29229, kk29229⟩ := q29229
      have k29229 := k1.tr kk29229 (by decide)
      show jEv _ _ _ _ _ _ _ (_, [(2, 0), (0, a1), (2, (R2 : Int)), (0, x3), (1, x4), (9, 0), (0, x6), j7, (9, 0)], [(1, v29230)], _, _, _)
      refine ev_lstore (L' := [(2, 0), (0, a1), (2, (R2 : Int)), (0, x3), (1, x4), (9, 0), (0, x6), (1, v29230), (9, 0)]) (Nat.le_of_ble_eq_true rfl) rfl ?_
      refine ev_lload rfl ?_
      refine ev_lload rfl ?_
      refine ev_lcmp ?_
      refine ev_ifle f189_100 (fun c29231 => ?_) (fun c29231 => ?_)
      · have c29231b := jcmpL_le c29231
        refine ev_iinc (w := (x6 + 1)) (L' := [(2, 0), (0, a1), (2, (R2 : Int)), (0, x3), (1, x4), (9, 0), (0, (x6 + 1)), (1, v29230), (9, 0)]) rfl (by unfold w32; omega) rfl ?_
        refine ev_goto f189_56 ?_
        exact ih _ _ _ _ _ _ _ Q2 g29229 k29229 (by omega) (by omega) (by omega) (by omega) (by omega) (by omega) (by omega) (by omega) (by omega)
      · have c29231b := jcmpL_leN c29231
        refine ev_lload rfl ?_
        refine ev_lstore (L' := [(2, 0), (0, a1), (2, (R2 : Int)), (0, x3), (1, v29230), (9, 0), (0, x6), (1, v29230), (9, 0)]) (Nat.le_of_ble_eq_true rfl) rfl ?_
        refine ev_iload rfl ?_
        refine ev_istore_n (L' := [(2, 0), (0, a1), (2, (R2 : Int)), (0, x6), (1, v29230), (9, 0), (0, x6), (1, v29230), (9, 0)]) (Nat.le_of_ble_eq_true rfl) rfl ?_
        refine ev_iinc (w := (x6 + 1)) (L' := [(2, 0), (0, a1), (2, (R2 : Int)), (0, x6), (1, v29230), (9, 0), (0, (x6 + 1)), (1, v29230), (9, 0)]) rfl (by unfold w32; omega) rfl ?_
        refine ev_goto f189_56 ?_
        exact ih _ _ _ _ _ _ _ Q2 g29229 k29229 (by omega) (by omega) (by omega) (by omega) (by omega) (by omega) (by omega) (by omega) (by omega)
set_option maxHeartbeats 4000000 in
theorem s189 {G : GH} {h : JH} (g : Gd G h) {a1 : Int} (la1 : (-2147483648) ≤ a1) (ua1 : a1 ≤ 2147483647) : jOk 7 0 0 189 [(2, 0), (0, a1)] h (PI G [(1, 2), (1, 3), (5, 0), (6, 0), (1000000, 0)] h 0 (-4) 3) := by
  refine ⟨by decide, by rw [ml189]; exact Nat.le_of_ble_eq_true rfl, ?_⟩
  rw [ml189, pp189]
  show jEv _ none _ c189_0 0 0 _ (c189_0, [(2, 0), (0, a1), (9, 0), (9, 0), (9, 0), (9, 0), (9, 0), (9, 0), (9, 0)], [], h, 0, 0)
  have k0 := Kp.rf [(1, 2), (1, 3), (5, 0), (6, 0), (1000000, 0)] h
  refine ev_aload_n rfl ?_
  refine ev_iload_n rfl ?_
  refine ev_in (d := 5) (a := 0) (b := 0) (cd' := c219_0) (m := 2) (L0 := [(2, 0), (0, a1)]) (jcall_v (A := [(0, a1)]) (S' := []) (r := 0) rfl (g.lt ad0) (g.tg ad0) (Nat.le_of_ble_eq_true rfl)) (by decide) ml219 pp219 (Nat.le_of_ble_eq_true rfl) rfl (by decide) (by decide) ?_
  refine ev_iload_n rfl ?_
  refine ev_iflt f219_12 (fun c29232 => ?_) (fun c29232 => ?_)
  · refine ev_aconst_null ?_
    refine ev_goto f219_22 ?_
    refine ev_ret rfl (by decide) (by decide) ?_
    show jEv _ _ _ _ _ _ _ (_, [(2, 0), (0, a1), (9, 0), (9, 0), (9, 0), (9, 0), (9, 0), (9, 0), (9, 0)], [(2, (-1))], _, _, _)
    refine ev_astore_n (L' := [(2, 0), (0, a1), (2, (-1)), (9, 0), (9, 0), (9, 0), (9, 0), (9, 0), (9, 0)]) (Nat.le_of_ble_eq_true rfl) rfl ?_
    refine ev_aload_n rfl ?_
    refine ev_ifnull f189_20 (fun c29233 => ?_) (fun c29233 => absurd c29233 (by decide))
    refine ev_iconst ?_
    exact ev_ret rfl (by decide) (by decide) ⟨_, rfl, by omega, by omega, g, k0⟩
  · refine ev_iload_n rfl ?_
    refine ev_aload_n rfl ?_
    obtain ⟨v29234, ev29234, lv29234, uv29234⟩ := g.rd ad0 (show 3 < 17 by decide) rf0_3
    refine g_getv (r := 0) (v := v29234) g ad0 (by decide) ft11_3 ev29234 ?_
    refine ev_icmplt f219_16 (fun c29235 => ?_) (fun c29235 => ?_)
    · refine ev_aload_n rfl ?_
      refine g_getp (r := 0) (c := 18) g ad0 (by decide) (by decide) rf0_2 ft11_2 ?_
      refine ev_iload_n rfl ?_
      refine g_qaald (g) (i := a1) (ev29234) (by omega) (by omega) (fun r29236 m29237 qr29236 => ?_)
      have wr29236 := g.qb qr29236
      have zr29236 := qr29236.1
      refine ev_ret rfl (by decide) (by decide) ?_
      show jEv _ _ _ _ _ _ _ (_, [(2, 0), (0, a1), (9, 0), (9, 0), (9, 0), (9, 0), (9, 0), (9, 0), (9, 0)], [(2, (r29236 : Int))], _, _, _)
      refine ev_astore_n (L' := [(2, 0), (0, a1), (2, (r29236 : Int)), (9, 0), (9, 0), (9, 0), (9, 0), (9, 0), (9, 0)]) (Nat.le_of_ble_eq_true rfl) rfl ?_
      refine ev_aload_n rfl ?_
      refine ev_ifnull f189_20 (fun c29238 => absurd c29238 (by omega)) (fun c29238 => ?_)
      refine ev_aload_n rfl ?_
      refine g_getp (r := 0) (c := 1) g ad0 (by decide) (by decide) rf0_0 ft11_0 ?_
      obtain ⟨v29239, ev29239, lv29239, uv29239⟩ := g.rd ad1 (show 0 < 8 by decide) rf1_0
      refine g_getv (r := 1) (v := v29239) g ad1 (by decide) ft10_0 ev29239 ?_
      refine ev_ifne f189_22 (fun c29240 => ?_) (fun c29240 => ?_)
      · refine ev_aload_n rfl ?_
        refine g_getp (r := 0) (c := 1) g ad0 (by decide) (by decide) rf0_0 ft11_0 ?_
        refine ev_call (jcall_v (A := []) (S' := []) (r := 1) rfl (g.lt ad1) (g.tg ad1) (Nat.le_of_ble_eq_true rfl)) (jOk_le (by decide) (s153 g )) (by decide) (by decide) (fun w29241 h29241 q29241 => ?_)
        obtain ⟨v29242, rfl, lv29242, uv29242, g29241, kk29241⟩ := q29241
        have k29241 := k0.tr kk29241 (by decide)
        show jEv _ _ _ _ _ _ _ (_, [(2, 0), (0, a1), (2, (r29236 : Int)), (9, 0), (9, 0), (9, 0), (9, 0), (9, 0), (9, 0)], [(0, v29242)], _, _, _)
        refine ev_ifne f189_35 (fun c29243 => ?_) (fun c29243 => ?_)
        · refine ev_iconst ?_
          refine ev_istore_n (L' := [(2, 0), (0, a1), (2, (r29236 : Int)), (0, 0), (9, 0), (9, 0), (9, 0), (9, 0), (9, 0)]) (Nat.le_of_ble_eq_true rfl) rfl ?_
          refine ev_aload_n rfl ?_
          refine ev_aload_n rfl ?_
          refine g_getp (r := 0) (c := 1) g29241 ad0 (by decide) (by decide) rf0_0 ft11_0 ?_
          refine ev_aload_n rfl ?_
          refine g_getp (r := 0) (c := 23) g29241 ad0 (by decide) (by decide) rf0_5 ft11_5 ?_
          refine ev_iconst ?_
          refine ev_iconst ?_
          refine ev_call (jcall_v (A := [(0, (-1)), (0, 0), (2, 23), (2, 1)]) (S' := []) (r := r29236) rfl (g29241.qlt qr29236) (g29241.qtg qr29236) (Nat.le_of_ble_eq_true rfl)) (jOk_le (by decide) (s50 g29241 qr29236 (Or.inl rfl) (by omega) (by omega) (by omega) (by omega))) (by decide) (by decide) (fun w29244 h29244 q29244 => ?_)
          obtain ⟨v29245, rfl, lv29245, uv29245, g29244, kk29244⟩ := q29244
          have k29244 := k29241.tr kk29244 (by decide)
          show jEv _ _ _ _ _ _ _ (_, [(2, 0), (0, a1), (2, (r29236 : Int)), (0, 0), (9, 0), (9, 0), (9, 0), (9, 0), (9, 0)], [(1, v29245)], _, _, _)
          refine ev_lstore (L' := [(2, 0), (0, a1), (2, (r29236 : Int)), (0, 0), (1, v29245), (9, 0), (9, 0), (9, 0), (9, 0)]) (Nat.le_of_ble_eq_true rfl) rfl ?_
          refine ev_iconst ?_
          refine ev_istore (L' := [(2, 0), (0, a1), (2, (r29236 : Int)), (0, 0), (1, v29245), (9, 0), (0, 1), (9, 0), (9, 0)]) (Nat.le_of_ble_eq_true rfl) rfl ?_
          exact (s189_l la1 ua1 8) _ _ _ _ _ _ _ qr29236 g29244 k29244 (by omega) (by omega) (by omega) (by omega) (by omega) (by omega) (by omega) (by omega) (by omega)
        · refine ev_bipush ?_
          exact ev_ret rfl (by decide) (by decide) ⟨_, rfl, by omega, by omega, g29241, k29241⟩
      · refine ev_iconst ?_
        exact ev_ret rfl (by decide) (by decide) ⟨_, rfl, by omega, by omega, g, k0⟩
    · refine ev_aconst_null ?_
      refine ev_goto f219_22 ?_
      refine ev_ret rfl (by decide) (by decide) ?_
      show jEv _ _ _ _ _ _ _ (_, [(2, 0), (0, a1), (9, 0), (9, 0), (9, 0), (9, 0), (9, 0), (9, 0), (9, 0)], [(2, (-1))], _, _, _)
      refine ev_astore_n (L' := [(2, 0), (0, a1), (2, (-1)), (9, 0), (9, 0), (9, 0), (9, 0), (9, 0), (9, 0)]) (Nat.le_of_ble_eq_true rfl) rfl ?_
      refine ev_aload_n rfl ?_
      refine ev_ifnull f189_20 (fun c29246 => ?_) (fun c29246 => absurd c29246 (by decide))
      refine ev_iconst ?_
      exact ev_ret rfl (by decide) (by decide) ⟨_, rfl, by omega, by omega, g, k0⟩
/-! 231 edgeOfWeight -/
set_option maxHeartbeats 4000000 in
theorem s231_l {G : GH} {h : JH} {r1 : Nat} {m1 : Int} (q1 : IsQ G r1 m1) {a2 : Int} (la2 : 0 ≤ a2) (ua2 : a2 ≤ 35) {a3 : Int} (la3 : 0 ≤ a3) (ua3 : a3 ≤ 1) : ∀ N : Nat, (∀ (h1 : JH) (x4 x5 x6 x7 x8 : Int), Gd G h1 → Kp [(1, 2), (1, 3), (5, 0), (6, 0), (4, 0), (1000000, 0)] h h1 → 0 ≤ a2 → a2 ≤ 35 → 0 ≤ a3 → a3 ≤ 1 → (-2147483648) ≤ x4 → x4 ≤ 2147483647 → (-1) ≤ x5 → x5 ≤ 3 → (-2) ≤ x6 → x6 ≤ 40 → (-2147483648) ≤ x7 → x7 ≤ 40 → 1 ≤ x8 → x8 ≤ 41 → ((-x8) + 41) < N → jEv (jOk 5) none (fun _ => 0) c231_0 0 0 (PI G [(1, 2), (1, 3), (5, 0), (6, 0), (4, 0), (1000000, 0)] h 0 (-2) 40) (c231_65, [(2, 0), (2, (r1 : Int)), (0, a2), (0, a3), (0, x4), (0, x5), (0, x6), (0, x7), (0, x8)], [], h1, 0, 0)) := by
  intro N
  induction N with
  | zero => exact fun h1 x4 x5 x6 x7 x8 g1 k1 b0 b1 b2 b3 b4 b5 b6 b7 b8 b9 b10 b11 b12 b13 hm => absurd hm (by omega)
  | succ N ih =>
    show _
    intro h1 x4 x5 x6 x7 x8 g1 k1 b0 b1 b2 b3 b4 b5 b6 b7 b8 b9 b10 b11 b12 b13 hm
    have wr1 := g1.qb q1
    have zr1 := q1.1
    refine ev_iload rfl ?_
    refine ev_iload rfl ?_
    refine ev_icmpgt f231_155 (fun c32348 => ?_) (fun c32348 => ?_)
    · refine ev_aload_n rfl ?_
      refine g_getp (r := 0) (c := 1) g1 ad0 (by decide) (by decide) rf0_0 ft11_0 ?_
      refine ev_iload_n rfl ?_
      refine ev_iload rfl ?_
      refine ev_in (d := 4) (a := 0) (b := 0) (cd' := c149_0) (m := 3) (L0 := [(2, 1), (0, a2), (0, x4)]) (jcall_v (A := [(0, x4), (0, a2)]) (S' := []) (r := 1) rfl (g1.lt ad1) (g1.tg ad1) (Nat.le_of_ble_eq_true rfl)) (by decide) ml149 pp149 (Nat.le_of_ble_eq_true rfl) rfl (by decide) (by decide) ?_
      refine ev_iload_n rfl ?_
      refine ev_iflt f149_32 (fun c32349 => absurd c32349 (by omega)) (fun c32349 => ?_)
      refine ev_iload_n rfl ?_
      refine ev_bipush ?_
      refine ev_icmpge f149_32 (fun c32350 => absurd c32350 (by omega)) (fun c32350 => ?_)
      refine ev_aload_n rfl ?_
      refine g_getp (r := 1) (c := 4) g1 ad1 (by decide) (by decide) rf1_5 ft10_5 ?_
      refine ev_iload_n rfl ?_
      refine g_iald g1 ad4 rt4 (by omega) (by omega) (fun v32351 ev32351 lv32351 uv32351 => ?_)
      refine ev_iload_n rfl ?_
      refine ev_icmpeq f149_32 (fun c32352 => ?_) (fun c32352 => ?_)
      · refine ev_ret rfl (by decide) (by decide) ?_
        show jEv _ _ _ _ _ _ _ (_, [(2, 0), (2, (r1 : Int)), (0, a2), (0, a3), (0, x4), (0, x5), (0, x6), (0, x7), (0, x8)], [], _, _, _)
        refine ev_iload rfl ?_
        exact ev_ret rfl (by decide) (by decide) ⟨_, rfl, by omega, by omega, g1, k1⟩
      · refine ev_aload_n rfl ?_
        refine g_getp (r := 1) (c := 4) g1 ad1 (by decide) (by decide) rf1_5 ft10_5 ?_
        refine ev_iload_n rfl ?_
        refine ev_iload_n rfl ?_
        refine g_iast g1 ad4 rt4 (fun _ => rfl) (by omega) (by omega) (by omega) (by omega) (fun h32353 e32353 g32353 => ?_)
        have k32353 := k1.wr e32353 rfl
        refine ev_aload_n rfl ?_
        refine ev_iconst ?_
        refine g_putf (r := 1) g32353 ad1 (by decide) ft10_2 (by decide) (fun _ => by omega) rf1_2 (by decide) (by omega) (by omega) (fun h32354 e32354 g32354 => ?_)
        have k32354 := k32353.wr e32354 rfl
        refine ev_ret rfl (by decide) (by decide) ?_
        show jEv _ _ _ _ _ _ _ (_, [(2, 0), (2, (r1 : Int)), (0, a2), (0, a3), (0, x4), (0, x5), (0, x6), (0, x7), (0, x8)], [], _, _, _)
        refine ev_iload rfl ?_
        exact ev_ret rfl (by decide) (by decide) ⟨_, rfl, by omega, by omega, g32354, k32354⟩
    · refine ev_iload rfl ?_
      refine ev_bipush ?_
      refine ev_icmpne f231_155 (fun c32355 => ?_) (fun c32355 => ?_)
      · refine ev_aload_n rfl ?_
        refine g_getp (r := 0) (c := 1) g1 ad0 (by decide) (by decide) rf0_0 ft11_0 ?_
        refine ev_iload_n rfl ?_
        refine ev_iload rfl ?_
        refine ev_in (d := 4) (a := 0) (b := 0) (cd' := c149_0) (m := 3) (L0 := [(2, 1), (0, a2), (0, x4)]) (jcall_v (A := [(0, x4), (0, a2)]) (S' := []) (r := 1) rfl (g1.lt ad1) (g1.tg ad1) (Nat.le_of_ble_eq_true rfl)) (by decide) ml149 pp149 (Nat.le_of_ble_eq_true rfl) rfl (by decide) (by decide) ?_
        refine ev_iload_n rfl ?_
        refine ev_iflt f149_32 (fun c32356 => absurd c32356 (by omega)) (fun c32356 => ?_)
        refine ev_iload_n rfl ?_
        refine ev_bipush ?_
        refine ev_icmpge f149_32 (fun c32357 => absurd c32357 (by omega)) (fun c32357 => ?_)
        refine ev_aload_n rfl ?_
        refine g_getp (r := 1) (c := 4) g1 ad1 (by decide) (by decide) rf1_5 ft10_5 ?_
        refine ev_iload_n rfl ?_
        refine g_iald g1 ad4 rt4 (by omega) (by omega) (fun v32358 ev32358 lv32358 uv32358 => ?_)
        refine ev_iload_n rfl ?_
        refine ev_icmpeq f149_32 (fun c32359 => ?_) (fun c32359 => ?_)
        · refine ev_ret rfl (by decide) (by decide) ?_
          show jEv _ _ _ _ _ _ _ (_, [(2, 0), (2, (r1 : Int)), (0, a2), (0, a3), (0, x4), (0, x5), (0, x6), (0, x7), (0, x8)], [], _, _, _)
          refine ev_iload rfl ?_
          exact ev_ret rfl (by decide) (by decide) ⟨_, rfl, by omega, by omega, g1, k1⟩
        · refine ev_aload_n rfl ?_
          refine g_getp (r := 1) (c := 4) g1 ad1 (by decide) (by decide) rf1_5 ft10_5 ?_
          refine ev_iload_n rfl ?_
          refine ev_iload_n rfl ?_
          refine g_iast g1 ad4 rt4 (fun _ => rfl) (by omega) (by omega) (by omega) (by omega) (fun h32360 e32360 g32360 => ?_)
          have k32360 := k1.wr e32360 rfl
          refine ev_aload_n rfl ?_
          refine ev_iconst ?_
          refine g_putf (r := 1) g32360 ad1 (by decide) ft10_2 (by decide) (fun _ => by omega) rf1_2 (by decide) (by omega) (by omega) (fun h32361 e32361 g32361 => ?_)
          have k32361 := k32360.wr e32361 rfl
          refine ev_ret rfl (by decide) (by decide) ?_
          show jEv _ _ _ _ _ _ _ (_, [(2, 0), (2, (r1 : Int)), (0, a2), (0, a3), (0, x4), (0, x5), (0, x6), (0, x7), (0, x8)], [], _, _, _)
          refine ev_iload rfl ?_
          exact ev_ret rfl (by decide) (by decide) ⟨_, rfl, by omega, by omega, g32361, k32361⟩
      · refine ev_aload_n rfl ?_
        refine g_getp (r := 0) (c := 1) g1 ad0 (by decide) (by decide) rf0_0 ft11_0 ?_
        refine ev_iload_n rfl ?_
        refine ev_iload_n rfl ?_
        refine ev_iconst ?_
        refine ev_icmpne f231_97 (fun c32362 => ?_) (fun c32362 => ?_)
        · refine ev_iload rfl ?_
          refine ev_iload rfl ?_
          refine g_isubG (fun v32363 ev32363 lv32363 uv32363 => ?_)
          refine ev_in (d := 4) (a := 0) (b := 0) (cd' := c149_0) (m := 3) (L0 := [(2, 1), (0, a2), (0, v32363)]) (jcall_v (A := [(0, v32363), (0, a2)]) (S' := []) (r := 1) rfl (g1.lt ad1) (g1.tg ad1) (Nat.le_of_ble_eq_true rfl)) (by decide) ml149 pp149 (Nat.le_of_ble_eq_true rfl) rfl (by decide) (by decide) ?_
          refine ev_iload_n rfl ?_
          refine ev_iflt f149_32 (fun c32364 => absurd c32364 (by omega)) (fun c32364 => ?_)
          refine ev_iload_n rfl ?_
          refine ev_bipush ?_
          refine ev_icmpge f149_32 (fun c32365 => absurd c32365 (by omega)) (fun c32365 => ?_)
          refine ev_aload_n rfl ?_
          refine g_getp (r := 1) (c := 4) g1 ad1 (by decide) (by decide) rf1_5 ft10_5 ?_
          refine ev_iload_n rfl ?_
          refine g_iald g1 ad4 rt4 (by omega) (by omega) (fun v32366 ev32366 lv32366 uv32366 => ?_)
          refine ev_iload_n rfl ?_
          refine ev_icmpeq f149_32 (fun c32367 => ?_) (fun c32367 => ?_)
          · refine ev_ret rfl (by decide) (by decide) ?_
            show jEv _ _ _ _ _ _ _ (_, [(2, 0), (2, (r1 : Int)), (0, a2), (0, a3), (0, x4), (0, x5), (0, x6), (0, x7), (0, x8)], [], _, _, _)
            refine ev_aload_n rfl ?_
            refine g_getp (r := 0) (c := 1) g1 ad0 (by decide) (by decide) rf0_0 ft11_0 ?_
            refine ev_call (jcall_v (A := []) (S' := []) (r := 1) rfl (g1.lt ad1) (g1.tg ad1) (Nat.le_of_ble_eq_true rfl)) (jOk_le (by decide) (s153 g1 )) (by decide) (by decide) (fun w32368 h32368 q32368 => ?_)
            obtain ⟨v32369, rfl, lv32369, uv32369, g32368, kk32368⟩ := q32368
            have k32368 := k1.tr kk32368 (by decide)
            show jEv _ _ _ _ _ _ _ (_, [(2, 0), (2, (r1 : Int)), (0, a2), (0, a3), (0, x4), (0, x5), (0, x6), (0, x7), (0, x8)], [(0, v32369)], _, _, _)
            refine ev_ifne f231_118 (fun c32370 => ?_) (fun c32370 => ?_)
            · refine ev_aload_n rfl ?_
              refine ev_aload_n rfl ?_
              refine g_getp (r := 0) (c := 1) g32368 ad0 (by decide) (by decide) rf0_0 ft11_0 ?_
              refine ev_aload_n rfl ?_
              refine g_getp (r := 0) (c := 23) g32368 ad0 (by decide) (by decide) rf0_5 ft11_5 ?_
              refine ev_iconst ?_
              refine ev_call (jcall_v (A := [(0, 0), (2, 23), (2, 1)]) (S' := []) (r := r1) rfl (g32368.qlt q1) (g32368.qtg q1) (Nat.le_of_ble_eq_true rfl)) (jOk_le (by decide) (s47 g32368 q1 (Or.inl rfl) (by omega) (by omega))) (by decide) (by decide) (fun w32371 h32371 q32371 => ?_)
              obtain ⟨v32372, rfl, lv32372, uv32372, g32371, kk32371⟩ := q32371
              have k32371 := k32368.tr kk32371 (by decide)
              show jEv _ _ _ _ _ _ _ (_, [(2, 0), (2, (r1 : Int)), (0, a2), (0, a3), (0, x4), (0, x5), (0, x6), (0, x7), (0, x8)], [(1, v32372)], _, _, _)
              refine ev_pop2 ?_
              refine ev_aload_n rfl ?_
              refine ev_aload_n rfl ?_
              obtain ⟨v32373, ev32373, lv32373, uv32373⟩ := g32371.q1 q1
              refine g_qgetv (v := v32373) g32371 q1 ft4_1 ev32373 ?_
              refine ev_in (d := 4) (a := 0) (b := 0) (cd' := c38_0) (m := 2) (L0 := [(2, (r1 : Int)), (0, v32373)]) (jcall_v (A := [(0, v32373)]) (S' := []) (r := r1) rfl (g32371.qlt q1) (g32371.qtg q1) (Nat.le_of_ble_eq_true rfl)) (by decide) ml38 pp38 (Nat.le_of_ble_eq_true rfl) rfl (by decide) (by decide) ?_
              refine ev_aload_n rfl ?_
              refine ev_iload_n rfl ?_
              refine ev_in (d := 3) (a := 0) (b := 0) (cd' := c24_0) (m := 2) (L0 := [(2, (r1 : Int)), (0, v32373)]) (jcall_v (A := [(0, v32373)]) (S' := []) (r := r1) rfl (g32371.qlt q1) (g32371.qtg q1) (Nat.le_of_ble_eq_true rfl)) (by decide) ml24 pp24 (Nat.le_of_ble_eq_true rfl) rfl (by decide) (by decide) ?_
              refine ev_iload_n rfl ?_
              refine ev_iflt f24_16 (fun c32374 => ?_) (fun c32374 => ?_)
              · refine ev_iconst ?_
                refine ev_ret rfl (by decide) (by decide) ?_
                show jEv _ _ _ _ _ _ _ (_, [(2, (r1 : Int)), (0, v32373)], [(0, 0)], _, _, _)
                refine ev_ifeq f38_17 (fun c32375 => ?_) (fun c32375 => absurd c32375 (by omega))
                refine ev_iconst ?_
                refine ev_ret rfl (by decide) (by decide) ?_
                show jEv _ _ _ _ _ _ _ (_, [(2, 0), (2, (r1 : Int)), (0, a2), (0, a3), (0, x4), (0, x5), (0, x6), (0, x7), (0, x8)], [(0, (-1))], _, _, _)
                refine ev_iload rfl ?_
                refine ev_icmpeq f231_149 (fun c32376 => ?_) (fun c32376 => ?_)
                · refine ev_iinc (w := (x8 + 1)) (L' := [(2, 0), (2, (r1 : Int)), (0, a2), (0, a3), (0, x4), (0, x5), (0, x6), (0, x7), (0, (x8 + 1))]) rfl (by unfold w32; omega) rfl ?_
                  refine ev_goto f231_65 ?_
                  exact ih _ _ _ _ _ _ g32371 k32371 (by omega) (by omega) (by omega) (by omega) (by omega) (by omega) (by omega) (by omega) (by omega) (by omega) (by omega) (by omega) (by omega) (by omega) (by omega)
                · refine ev_iload rfl ?_
                  refine ev_istore (L' := [(2, 0), (2, (r1 : Int)), (0, a2), (0, a3), (0, x4), (0, x5), (0, x8), (0, x7), (0, x8)]) (Nat.le_of_ble_eq_true rfl) rfl ?_
                  refine ev_iinc (w := (x8 + 1)) (L' := [(2, 0), (2, (r1 : Int)), (0, a2), (0, a3), (0, x4), (0, x5), (0, x8), (0, x7), (0, (x8 + 1))]) rfl (by unfold w32; omega) rfl ?_
                  refine ev_goto f231_65 ?_
                  exact ih _ _ _ _ _ _ g32371 k32371 (by omega) (by omega) (by omega) (by omega) (by omega) (by omega) (by omega) (by omega) (by omega) (by omega) (by omega) (by omega) (by omega) (by omega) (by omega)
              · refine ev_iload_n rfl ?_
                refine ev_aload_n rfl ?_
                obtain ⟨v32377, ev32377, lv32377, uv32377⟩ := g32371.q0 q1
                refine g_qgetv (v := v32377) g32371 q1 ft4_0 ev32377 ?_
                refine ev_icmpge f24_16 (fun c32378 => ?_) (fun c32378 => ?_)
                · refine ev_iconst ?_
                  refine ev_ret rfl (by decide) (by decide) ?_
                  show jEv _ _ _ _ _ _ _ (_, [(2, (r1 : Int)), (0, v32373)], [(0, 0)], _, _, _)
                  refine ev_ifeq f38_17 (fun c32379 => ?_) (fun c32379 => absurd c32379 (by omega))
                  refine ev_iconst ?_
                  refine ev_ret rfl (by decide) (by decide) ?_
                  show jEv _ _ _ _ _ _ _ (_, [(2, 0), (2, (r1 : Int)), (0, a2), (0, a3), (0, x4), (0, x5), (0, x6), (0, x7), (0, x8)], [(0, (-1))], _, _, _)
                  refine ev_iload rfl ?_
                  refine ev_icmpeq f231_149 (fun c32380 => ?_) (fun c32380 => ?_)
                  · refine ev_iinc (w := (x8 + 1)) (L' := [(2, 0), (2, (r1 : Int)), (0, a2), (0, a3), (0, x4), (0, x5), (0, x6), (0, x7), (0, (x8 + 1))]) rfl (by unfold w32; omega) rfl ?_
                    refine ev_goto f231_65 ?_
                    exact ih _ _ _ _ _ _ g32371 k32371 (by omega) (by omega) (by omega) (by omega) (by omega) (by omega) (by omega) (by omega) (by omega) (by omega) (by omega) (by omega) (by omega) (by omega) (by omega)
                  · refine ev_iload rfl ?_
                    refine ev_istore (L' := [(2, 0), (2, (r1 : Int)), (0, a2), (0, a3), (0, x4), (0, x5), (0, x8), (0, x7), (0, x8)]) (Nat.le_of_ble_eq_true rfl) rfl ?_
                    refine ev_iinc (w := (x8 + 1)) (L' := [(2, 0), (2, (r1 : Int)), (0, a2), (0, a3), (0, x4), (0, x5), (0, x8), (0, x7), (0, (x8 + 1))]) rfl (by unfold w32; omega) rfl ?_
                    refine ev_goto f231_65 ?_
                    exact ih _ _ _ _ _ _ g32371 k32371 (by omega) (by omega) (by omega) (by omega) (by omega) (by omega) (by omega) (by omega) (by omega) (by omega) (by omega) (by omega) (by omega) (by omega) (by omega)
                · refine ev_iconst ?_
                  refine ev_goto f24_17 ?_
                  refine ev_ret rfl (by decide) (by decide) ?_
                  show jEv _ _ _ _ _ _ _ (_, [(2, (r1 : Int)), (0, v32373)], [(0, 1)], _, _, _)
                  refine ev_ifeq f38_17 (fun c32381 => absurd c32381 (by omega)) (fun c32381 => ?_)
                  refine ev_aload_n rfl ?_
                  refine g_qgetp g32371 q1 (c := 10) (by decide) (by decide) ft4_10 ?_
                  refine ev_iload_n rfl ?_
                  refine g_qiald g32371 q1 (c := 10) (by decide) (by decide) (by decide) (by omega) (by show v32373 < m1; omega) rfl (fun v32382 ev32382 lv32382 uv32382 => ?_)
                  refine ev_goto f38_18 ?_
                  refine ev_ret rfl (by decide) (by decide) ?_
                  show jEv _ _ _ _ _ _ _ (_, [(2, 0), (2, (r1 : Int)), (0, a2), (0, a3), (0, x4), (0, x5), (0, x6), (0, x7), (0, x8)], [(0, v32382)], _, _, _)
                  refine ev_iload rfl ?_
                  refine ev_icmpeq f231_149 (fun c32383 => ?_) (fun c32383 => ?_)
                  · refine ev_iinc (w := (x8 + 1)) (L' := [(2, 0), (2, (r1 : Int)), (0, a2), (0, a3), (0, x4), (0, x5), (0, x6), (0, x7), (0, (x8 + 1))]) rfl (by unfold w32; omega) rfl ?_
                    refine ev_goto f231_65 ?_
                    exact ih _ _ _ _ _ _ g32371 k32371 (by omega) (by omega) (by omega) (by omega) (by omega) (by omega) (by omega) (by omega) (by omega) (by omega) (by omega) (by omega) (by omega) (by omega) (by omega)
                  · refine ev_iload rfl ?_
                    refine ev_istore (L' := [(2, 0), (2, (r1 : Int)), (0, a2), (0, a3), (0, x4), (0, x5), (0, x8), (0, x7), (0, x8)]) (Nat.le_of_ble_eq_true rfl) rfl ?_
                    refine ev_iinc (w := (x8 + 1)) (L' := [(2, 0), (2, (r1 : Int)), (0, a2), (0, a3), (0, x4), (0, x5), (0, x8), (0, x7), (0, (x8 + 1))]) rfl (by unfold w32; omega) rfl ?_
                    refine ev_goto f231_65 ?_
                    exact ih _ _ _ _ _ _ g32371 k32371 (by omega) (by omega) (by omega) (by omega) (by omega) (by omega) (by omega) (by omega) (by omega) (by omega) (by omega) (by omega) (by omega) (by omega) (by omega)
            · refine ev_goto f231_155 ?_
              refine ev_aload_n rfl ?_
              refine g_getp (r := 0) (c := 1) g32368 ad0 (by decide) (by decide) rf0_0 ft11_0 ?_
              refine ev_iload_n rfl ?_
              refine ev_iload rfl ?_
              refine ev_in (d := 4) (a := 0) (b := 0) (cd' := c149_0) (m := 3) (L0 := [(2, 1), (0, a2), (0, x4)]) (jcall_v (A := [(0, x4), (0, a2)]) (S' := []) (r := 1) rfl (g32368.lt ad1) (g32368.tg ad1) (Nat.le_of_ble_eq_true rfl)) (by decide) ml149 pp149 (Nat.le_of_ble_eq_true rfl) rfl (by decide) (by decide) ?_
              refine ev_iload_n rfl ?_
              refine ev_iflt f149_32 (fun c32384 => absurd c32384 (by omega)) (fun c32384 => ?_)
              refine ev_iload_n rfl ?_
              refine ev_bipush ?_
              refine ev_icmpge f149_32 (fun c32385 => absurd c32385 (by omega)) (fun c32385 => ?_)
              refine ev_aload_n rfl ?_
              refine g_getp (r := 1) (c := 4) g32368 ad1 (by decide) (by decide) rf1_5 ft10_5 ?_
              refine ev_iload_n rfl ?_
              refine g_ialdv (v := v32366) g32368 ad4 (by omega) (by omega) (((kk32368.v rfl).trans ev32366)) ?_
              refine ev_iload_n rfl ?_
              refine ev_icmpeq f149_32 (fun c32386 => ?_) (fun c32386 => ?_)
              · refine ev_ret rfl (by decide) (by decide) ?_
                show jEv _ _ _ _ _ _ _ (_, [(2, 0), (2, (r1 : Int)), (0, a2), (0, a3), (0, x4), (0, x5), (0, x6), (0, x7), (0, x8)], [], _, _, _)
                refine ev_iload rfl ?_
                exact ev_ret rfl (by decide) (by decide) ⟨_, rfl, by omega, by omega, g32368, k32368⟩
              · refine ev_aload_n rfl ?_
                refine g_getp (r := 1) (c := 4) g32368 ad1 (by decide) (by decide) rf1_5 ft10_5 ?_
                refine ev_iload_n rfl ?_
                refine ev_iload_n rfl ?_
                refine g_iast g32368 ad4 rt4 (fun _ => rfl) (by omega) (by omega) (by omega) (by omega) (fun h32387 e32387 g32387 => ?_)
                have k32387 := k32368.wr e32387 rfl
                refine ev_aload_n rfl ?_
                refine ev_iconst ?_
                refine g_putf (r := 1) g32387 ad1 (by decide) ft10_2 (by decide) (fun _ => by omega) rf1_2 (by decide) (by omega) (by omega) (fun h32388 e32388 g32388 => ?_)
                have k32388 := k32387.wr e32388 rfl
                refine ev_ret rfl (by decide) (by decide) ?_
                show jEv _ _ _ _ _ _ _ (_, [(2, 0), (2, (r1 : Int)), (0, a2), (0, a3), (0, x4), (0, x5), (0, x6), (0, x7), (0, x8)], [], _, _, _)
                refine ev_iload rfl ?_
                exact ev_ret rfl (by decide) (by decide) ⟨_, rfl, by omega, by omega, g32388, k32388⟩
          · refine ev_aload_n rfl ?_
            refine g_getp (r := 1) (c := 4) g1 ad1 (by decide) (by decide) rf1_5 ft10_5 ?_
            refine ev_iload_n rfl ?_
            refine ev_iload_n rfl ?_
            refine g_iast g1 ad4 rt4 (fun _ => rfl) (by omega) (by omega) (by omega) (by omega) (fun h32389 e32389 g32389 => ?_)
            have k32389 := k1.wr e32389 rfl
            refine ev_aload_n rfl ?_
            refine ev_iconst ?_
            refine g_putf (r := 1) g32389 ad1 (by decide) ft10_2 (by decide) (fun _ => by omega) rf1_2 (by decide) (by omega) (by omega) (fun h32390 e32390 g32390 => ?_)
            have k32390 := k32389.wr e32390 rfl
            refine ev_ret rfl (by decide) (by decide) ?_
            show jEv _ _ _ _ _ _ _ (_, [(2, 0), (2, (r1 : Int)), (0, a2), (0, a3), (0, x4), (0, x5), (0, x6), (0, x7), (0, x8)], [], _, _, _)
            refine ev_aload_n rfl ?_
            refine g_getp (r := 0) (c := 1) g32390 ad0 (by decide) (by decide) rf0_0 ft11_0 ?_
            refine ev_call (jcall_v (A := []) (S' := []) (r := 1) rfl (g32390.lt ad1) (g32390.tg ad1) (Nat.le_of_ble_eq_true rfl)) (jOk_le (by decide) (s153 g32390 )) (by decide) (by decide) (fun w32391 h32391 q32391 => ?_)
            obtain ⟨v32392, rfl, lv32392, uv32392, g32391, kk32391⟩ := q32391
            have k32391 := k32390.tr kk32391 (by decide)
            show jEv _ _ _ _ _ _ _ (_, [(2, 0), (2, (r1 : Int)), (0, a2), (0, a3), (0, x4), (0, x5), (0, x6), (0, x7), (0, x8)], [(0, v32392)], _, _, _)
            refine ev_ifne f231_118 (fun c32393 => ?_) (fun c32393 => ?_)
            · refine ev_aload_n rfl ?_
              refine ev_aload_n rfl ?_
              refine g_getp (r := 0) (c := 1) g32391 ad0 (by decide) (by decide) rf0_0 ft11_0 ?_
              refine ev_aload_n rfl ?_
              refine g_getp (r := 0) (c := 23) g32391 ad0 (by decide) (by decide) rf0_5 ft11_5 ?_
              refine ev_iconst ?_
              refine ev_call (jcall_v (A := [(0, 0), (2, 23), (2, 1)]) (S' := []) (r := r1) rfl (g32391.qlt q1) (g32391.qtg q1) (Nat.le_of_ble_eq_true rfl)) (jOk_le (by decide) (s47 g32391 q1 (Or.inl rfl) (by omega) (by omega))) (by decide) (by decide) (fun w32394 h32394 q32394 => ?_)
              obtain ⟨v32395, rfl, lv32395, uv32395, g32394, kk32394⟩ := q32394
              have k32394 := k32391.tr kk32394 (by decide)
              show jEv _ _ _ _ _ _ _ (_, [(2, 0), (2, (r1 : Int)), (0, a2), (0, a3), (0, x4), (0, x5), (0, x6), (0, x7), (0, x8)], [(1, v32395)], _, _, _)
              refine ev_pop2 ?_
              refine ev_aload_n rfl ?_
              refine ev_aload_n rfl ?_
              obtain ⟨v32396, ev32396, lv32396, uv32396⟩ := g32394.q1 q1
              refine g_qgetv (v := v32396) g32394 q1 ft4_1 ev32396 ?_
              refine ev_in (d := 4) (a := 0) (b := 0) (cd' := c38_0) (m := 2) (L0 := [(2, (r1 : Int)), (0, v32396)]) (jcall_v (A := [(0, v32396)]) (S' := []) (r := r1) rfl (g32394.qlt q1) (g32394.qtg q1) (Nat.le_of_ble_eq_true rfl)) (by decide) ml38 pp38 (Nat.le_of_ble_eq_true rfl) rfl (by decide) (by decide) ?_
              refine ev_aload_n rfl ?_
              refine ev_iload_n rfl ?_
              refine ev_in (d := 3) (a := 0) (b := 0) (cd' := c24_0) (m := 2) (L0 := [(2, (r1 : Int)), (0, v32396)]) (jcall_v (A := [(0, v32396)]) (S' := []) (r := r1) rfl (g32394.qlt q1) (g32394.qtg q1) (Nat.le_of_ble_eq_true rfl)) (by decide) ml24 pp24 (Nat.le_of_ble_eq_true rfl) rfl (by decide) (by decide) ?_
              refine ev_iload_n rfl ?_
              refine ev_iflt f24_16 (fun c32397 => ?_) (fun c32397 => ?_)
              · refine ev_iconst ?_
                refine ev_ret rfl (by decide) (by decide) ?_
                show jEv _ _ _ _ _ _ _ (_, [(2, (r1 : Int)), (0, v32396)], [(0, 0)], _, _, _)
                refine ev_ifeq f38_17 (fun c32398 => ?_) (fun c32398 => absurd c32398 (by omega))
                refine ev_iconst ?_
                refine ev_ret rfl (by decide) (by decide) ?_
                show jEv _ _ _ _ _ _ _ (_, [(2, 0), (2, (r1 : Int)), (0, a2), (0, a3), (0, x4), (0, x5), (0, x6), (0, x7), (0, x8)], [(0, (-1))], _, _, _)
                refine ev_iload rfl ?_
                refine ev_icmpeq f231_149 (fun c32399 => ?_) (fun c32399 => ?_)
                · refine ev_iinc (w := (x8 + 1)) (L' := [(2, 0), (2, (r1 : Int)), (0, a2), (0, a3), (0, x4), (0, x5), (0, x6), (0, x7), (0, (x8 + 1))]) rfl (by unfold w32; omega) rfl ?_
                  refine ev_goto f231_65 ?_
                  exact ih _ _ _ _ _ _ g32394 k32394 (by omega) (by omega) (by omega) (by omega) (by omega) (by omega) (by omega) (by omega) (by omega) (by omega) (by omega) (by omega) (by omega) (by omega) (by omega)
                · refine ev_iload rfl ?_
                  refine ev_istore (L' := [(2, 0), (2, (r1 : Int)), (0, a2), (0, a3), (0, x4), (0, x5), (0, x8), (0, x7), (0, x8)]) (Nat.le_of_ble_eq_true rfl) rfl ?_
                  refine ev_iinc (w := (x8 + 1)) (L' := [(2, 0), (2, (r1 : Int)), (0, a2), (0, a3), (0, x4), (0, x5), (0, x8), (0, x7), (0, (x8 + 1))]) rfl (by unfold w32; omega) rfl ?_
                  refine ev_goto f231_65 ?_
                  exact ih _ _ _ _ _ _ g32394 k32394 (by omega) (by omega) (by omega) (by omega) (by omega) (by omega) (by omega) (by omega) (by omega) (by omega) (by omega) (by omega) (by omega) (by omega) (by omega)
              · refine ev_iload_n rfl ?_
                refine ev_aload_n rfl ?_
                obtain ⟨v32400, ev32400, lv32400, uv32400⟩ := g32394.q0 q1
                refine g_qgetv (v := v32400) g32394 q1 ft4_0 ev32400 ?_
                refine ev_icmpge f24_16 (fun c32401 => ?_) (fun c32401 => ?_)
                · refine ev_iconst ?_
                  refine ev_ret rfl (by decide) (by decide) ?_
                  show jEv _ _ _ _ _ _ _ (_, [(2, (r1 : Int)), (0, v32396)], [(0, 0)], _, _, _)
                  refine ev_ifeq f38_17 (fun c32402 => ?_) (fun c32402 => absurd c32402 (by omega))
                  refine ev_iconst ?_
                  refine ev_ret rfl (by decide) (by decide) ?_
                  show jEv _ _ _ _ _ _ _ (_, [(2, 0), (2, (r1 : Int)), (0, a2), (0, a3), (0, x4), (0, x5), (0, x6), (0, x7), (0, x8)], [(0, (-1))], _, _, _)
                  refine ev_iload rfl ?_
                  refine ev_icmpeq f231_149 (fun c32403 => ?_) (fun c32403 => ?_)
                  · refine ev_iinc (w := (x8 + 1)) (L' := [(2, 0), (2, (r1 : Int)), (0, a2), (0, a3), (0, x4), (0, x5), (0, x6), (0, x7), (0, (x8 + 1))]) rfl (by unfold w32; omega) rfl ?_
                    refine ev_goto f231_65 ?_
                    exact ih _ _ _ _ _ _ g32394 k32394 (by omega) (by omega) (by omega) (by omega) (by omega) (by omega) (by omega) (by omega) (by omega) (by omega) (by omega) (by omega) (by omega) (by omega) (by omega)
                  · refine ev_iload rfl ?_
                    refine ev_istore (L' := [(2, 0), (2, (r1 : Int)), (0, a2), (0, a3), (0, x4), (0, x5), (0, x8), (0, x7), (0, x8)]) (Nat.le_of_ble_eq_true rfl) rfl ?_
                    refine ev_iinc (w := (x8 + 1)) (L' := [(2, 0), (2, (r1 : Int)), (0, a2), (0, a3), (0, x4), (0, x5), (0, x8), (0, x7), (0, (x8 + 1))]) rfl (by unfold w32; omega) rfl ?_
                    refine ev_goto f231_65 ?_
                    exact ih _ _ _ _ _ _ g32394 k32394 (by omega) (by omega) (by omega) (by omega) (by omega) (by omega) (by omega) (by omega) (by omega) (by omega) (by omega) (by omega) (by omega) (by omega) (by omega)
                · refine ev_iconst ?_
                  refine ev_goto f24_17 ?_
                  refine ev_ret rfl (by decide) (by decide) ?_
                  show jEv _ _ _ _ _ _ _ (_, [(2, (r1 : Int)), (0, v32396)], [(0, 1)], _, _, _)
                  refine ev_ifeq f38_17 (fun c32404 => absurd c32404 (by omega)) (fun c32404 => ?_)
                  refine ev_aload_n rfl ?_
                  refine g_qgetp g32394 q1 (c := 10) (by decide) (by decide) ft4_10 ?_
                  refine ev_iload_n rfl ?_
                  refine g_qiald g32394 q1 (c := 10) (by decide) (by decide) (by decide) (by omega) (by show v32396 < m1; omega) rfl (fun v32405 ev32405 lv32405 uv32405 => ?_)
                  refine ev_goto f38_18 ?_
                  refine ev_ret rfl (by decide) (by decide) ?_
                  show jEv _ _ _ _ _ _ _ (_, [(2, 0), (2, (r1 : Int)), (0, a2), (0, a3), (0, x4), (0, x5), (0, x6), (0, x7), (0, x8)], [(0, v32405)], _, _, _)
                  refine ev_iload rfl ?_
                  refine ev_icmpeq f231_149 (fun c32406 => ?_) (fun c32406 => ?_)
                  · refine ev_iinc (w := (x8 + 1)) (L' := [(2, 0), (2, (r1 : Int)), (0, a2), (0, a3), (0, x4), (0, x5), (0, x6), (0, x7), (0, (x8 + 1))]) rfl (by unfold w32; omega) rfl ?_
                    refine ev_goto f231_65 ?_
                    exact ih _ _ _ _ _ _ g32394 k32394 (by omega) (by omega) (by omega) (by omega) (by omega) (by omega) (by omega) (by omega) (by omega) (by omega) (by omega) (by omega) (by omega) (by omega) (by omega)
                  · refine ev_iload rfl ?_
                    refine ev_istore (L' := [(2, 0), (2, (r1 : Int)), (0, a2), (0, a3), (0, x4), (0, x5), (0, x8), (0, x7), (0, x8)]) (Nat.le_of_ble_eq_true rfl) rfl ?_
                    refine ev_iinc (w := (x8 + 1)) (L' := [(2, 0), (2, (r1 : Int)), (0, a2), (0, a3), (0, x4), (0, x5), (0, x8), (0, x7), (0, (x8 + 1))]) rfl (by unfold w32; omega) rfl ?_
                    refine ev_goto f231_65 ?_
                    exact ih _ _ _ _ _ _ g32394 k32394 (by omega) (by omega) (by omega) (by omega) (by omega) (by omega) (by omega) (by omega) (by omega) (by omega) (by omega) (by omega) (by omega) (by omega) (by omega)
            · refine ev_goto f231_155 ?_
              refine ev_aload_n rfl ?_
              refine g_getp (r := 0) (c := 1) g32391 ad0 (by decide) (by decide) rf0_0 ft11_0 ?_
              refine ev_iload_n rfl ?_
              refine ev_iload rfl ?_
              refine ev_in (d := 4) (a := 0) (b := 0) (cd' := c149_0) (m := 3) (L0 := [(2, 1), (0, a2), (0, x4)]) (jcall_v (A := [(0, x4), (0, a2)]) (S' := []) (r := 1) rfl (g32391.lt ad1) (g32391.tg ad1) (Nat.le_of_ble_eq_true rfl)) (by decide) ml149 pp149 (Nat.le_of_ble_eq_true rfl) rfl (by decide) (by decide) ?_
              refine ev_iload_n rfl ?_
              refine ev_iflt f149_32 (fun c32407 => absurd c32407 (by omega)) (fun c32407 => ?_)
              refine ev_iload_n rfl ?_
              refine ev_bipush ?_
              refine ev_icmpge f149_32 (fun c32408 => absurd c32408 (by omega)) (fun c32408 => ?_)
              refine ev_aload_n rfl ?_
              refine g_getp (r := 1) (c := 4) g32391 ad1 (by decide) (by decide) rf1_5 ft10_5 ?_
              refine ev_iload_n rfl ?_
              refine g_ialdv (v := v32363) g32391 ad4 (by omega) (by omega) (((kk32391.v rfl).trans ((jw_ne e32390 (Or.inl (by decide))).trans (jw_eq e32389)))) ?_
              refine ev_iload_n rfl ?_
              refine ev_icmpeq f149_32 (fun c32409 => ?_) (fun c32409 => ?_)
              · refine ev_ret rfl (by decide) (by decide) ?_
                show jEv _ _ _ _ _ _ _ (_, [(2, 0), (2, (r1 : Int)), (0, a2), (0, a3), (0, x4), (0, x5), (0, x6), (0, x7), (0, x8)], [], _, _, _)
                refine ev_iload rfl ?_
                exact ev_ret rfl (by decide) (by decide) ⟨_, rfl, by omega, by omega, g32391, k32391⟩
              · refine ev_aload_n rfl ?_
                refine g_getp (r := 1) (c := 4) g32391 ad1 (by decide) (by decide) rf1_5 ft10_5 ?_
                refine ev_iload_n rfl ?_
                refine ev_iload_n rfl ?_
                refine g_iast g32391 ad4 rt4 (fun _ => rfl) (by omega) (by omega) (by omega) (by omega) (fun h32410 e32410 g32410 => ?_)
                have k32410 := k32391.wr e32410 rfl
                refine ev_aload_n rfl ?_
                refine ev_iconst ?_
                refine g_putf (r := 1) g32410 ad1 (by decide) ft10_2 (by decide) (fun _ => by omega) rf1_2 (by decide) (by omega) (by omega) (fun h32411 e32411 g32411 => ?_)
                have k32411 := k32410.wr e32411 rfl
                refine ev_ret rfl (by decide) (by decide) ?_
                show jEv _ _ _ _ _ _ _ (_, [(2, 0), (2, (r1 : Int)), (0, a2), (0, a3), (0, x4), (0, x5), (0, x6), (0, x7), (0, x8)], [], _, _, _)
                refine ev_iload rfl ?_
                exact ev_ret rfl (by decide) (by decide) ⟨_, rfl, by omega, by omega, g32411, k32411⟩
        · refine ev_iload rfl ?_
          refine ev_iload rfl ?_
          refine g_iaddG (fun v32412 ev32412 lv32412 uv32412 => ?_)
          refine ev_goto f231_102 ?_
          refine ev_in (d := 4) (a := 0) (b := 0) (cd' := c149_0) (m := 3) (L0 := [(2, 1), (0, a2), (0, v32412)]) (jcall_v (A := [(0, v32412), (0, a2)]) (S' := []) (r := 1) rfl (g1.lt ad1) (g1.tg ad1) (Nat.le_of_ble_eq_true rfl)) (by decide) ml149 pp149 (Nat.le_of_ble_eq_true rfl) rfl (by decide) (by decide) ?_
          refine ev_iload_n rfl ?_
          refine ev_iflt f149_32 (fun c32413 => absurd c32413 (by omega)) (fun c32413 => ?_)
          refine ev_iload_n rfl ?_
          refine ev_bipush ?_
          refine ev_icmpge f149_32 (fun c32414 => absurd c32414 (by omega)) (fun c32414 => ?_)
          refine ev_aload_n rfl ?_
          refine g_getp (r := 1) (c := 4) g1 ad1 (by decide) (by decide) rf1_5 ft10_5 ?_
          refine ev_iload_n rfl ?_
          refine g_iald g1 ad4 rt4 (by omega) (by omega) (fun v32415 ev32415 lv32415 uv32415 => ?_)
          refine ev_iload_n rfl ?_
          refine ev_icmpeq f149_32 (fun c32416 => ?_) (fun c32416 => ?_)
          · refine ev_ret rfl (by decide) (by decide) ?_
            show jEv _ _ _ _ _ _ _ (_, [(2, 0), (2, (r1 : Int)), (0, a2), (0, a3), (0, x4), (0, x5), (0, x6), (0, x7), (0, x8)], [], _, _, _)
            refine ev_aload_n rfl ?_
            refine g_getp (r := 0) (c := 1) g1 ad0 (by decide) (by decide) rf0_0 ft11_0 ?_
            refine ev_call (jcall_v (A := []) (S' := []) (r := 1) rfl (g1.lt ad1) (g1.tg ad1) (Nat.le_of_ble_eq_true rfl)) (jOk_le (by decide) (s153 g1 )) (by decide) (by decide) (fun w32417 h32417 q32417 => ?_)
            obtain ⟨v32418, rfl, lv32418, uv32418, g32417, kk32417⟩ := q32417
            have k32417 := k1.tr kk32417 (by decide)
            show jEv _ _ _ _ _ _ _ (_, [(2, 0), (2, (r1 : Int)), (0, a2), (0, a3), (0, x4), (0, x5), (0, x6), (0, x7), (0, x8)], [(0, v32418)], _, _, _)
            refine ev_ifne f231_118 (fun c32419 => ?_) (fun c32419 => ?_)
            · refine ev_aload_n rfl ?_
              refine ev_aload_n rfl ?_
              refine g_getp (r := 0) (c := 1) g32417 ad0 (by decide) (by decide) rf0_0 ft11_0 ?_
              refine ev_aload_n rfl ?_
              refine g_getp (r := 0) (c := 23) g32417 ad0 (by decide) (by decide) rf0_5 ft11_5 ?_
              refine ev_iconst ?_
              refine ev_call (jcall_v (A := [(0, 0), (2, 23), (2, 1)]) (S' := []) (r := r1) rfl (g32417.qlt q1) (g32417.qtg q1) (Nat.le_of_ble_eq_true rfl)) (jOk_le (by decide) (s47 g32417 q1 (Or.inl rfl) (by omega) (by omega))) (by decide) (by decide) (fun w32420 h32420 q32420 => ?_)
              obtain ⟨v32421, rfl, lv32421, uv32421, g32420, kk32420⟩ := q32420
              have k32420 := k32417.tr kk32420 (by decide)
              show jEv _ _ _ _ _ _ _ (_, [(2, 0), (2, (r1 : Int)), (0, a2), (0, a3), (0, x4), (0, x5), (0, x6), (0, x7), (0, x8)], [(1, v32421)], _, _, _)
              refine ev_pop2 ?_
              refine ev_aload_n rfl ?_
              refine ev_aload_n rfl ?_
              obtain ⟨v32422, ev32422, lv32422, uv32422⟩ := g32420.q1 q1
              refine g_qgetv (v := v32422) g32420 q1 ft4_1 ev32422 ?_
              refine ev_in (d := 4) (a := 0) (b := 0) (cd' := c38_0) (m := 2) (L0 := [(2, (r1 : Int)), (0, v32422)]) (jcall_v (A := [(0, v32422)]) (S' := []) (r := r1) rfl (g32420.qlt q1) (g32420.qtg q1) (Nat.le_of_ble_eq_true rfl)) (by decide) ml38 pp38 (Nat.le_of_ble_eq_true rfl) rfl (by decide) (by decide) ?_
              refine ev_aload_n rfl ?_
              refine ev_iload_n rfl ?_
              refine ev_in (d := 3) (a := 0) (b := 0) (cd' := c24_0) (m := 2) (L0 := [(2, (r1 : Int)), (0, v32422)]) (jcall_v (A := [(0, v32422)]) (S' := []) (r := r1) rfl (g32420.qlt q1) (g32420.qtg q1) (Nat.le_of_ble_eq_true rfl)) (by decide) ml24 pp24 (Nat.le_of_ble_eq_true rfl) rfl (by decide) (by decide) ?_
              refine ev_iload_n rfl ?_
              refine ev_iflt f24_16 (fun c32423 => ?_) (fun c32423 => ?_)
              · refine ev_iconst ?_
                refine ev_ret rfl (by decide) (by decide) ?_
                show jEv _ _ _ _ _ _ _ (_, [(2, (r1 : Int)), (0, v32422)], [(0, 0)], _, _, _)
                refine ev_ifeq f38_17 (fun c32424 => ?_) (fun c32424 => absurd c32424 (by omega))
                refine ev_iconst ?_
                refine ev_ret rfl (by decide) (by decide) ?_
                show jEv _ _ _ _ _ _ _ (_, [(2, 0), (2, (r1 : Int)), (0, a2), (0, a3), (0, x4), (0, x5), (0, x6), (0, x7), (0, x8)], [(0, (-1))], _, _, _)
                refine ev_iload rfl ?_
                refine ev_icmpeq f231_149 (fun c32425 => ?_) (fun c32425 => ?_)
                · refine ev_iinc (w := (x8 + 1)) (L' := [(2, 0), (2, (r1 : Int)), (0, a2), (0, a3), (0, x4), (0, x5), (0, x6), (0, x7), (0, (x8 + 1))]) rfl (by unfold w32; omega) rfl ?_
                  refine ev_goto f231_65 ?_
                  exact ih _ _ _ _ _ _ g32420 k32420 (by omega) (by omega) (by omega) (by omega) (by omega) (by omega) (by omega) (by omega) (by omega) (by omega) (by omega) (by omega) (by omega) (by omega) (by omega)
                · refine ev_iload rfl ?_
                  refine ev_istore (L' := [(2, 0), (2, (r1 : Int)), (0, a2), (0, a3), (0, x4), (0, x5), (0, x8), (0, x7), (0, x8)]) (Nat.le_of_ble_eq_true rfl) rfl ?_
                  refine ev_iinc (w := (x8 + 1)) (L' := [(2, 0), (2, (r1 : Int)), (0, a2), (0, a3), (0, x4), (0, x5), (0, x8), (0, x7), (0, (x8 + 1))]) rfl (by unfold w32; omega) rfl ?_
                  refine ev_goto f231_65 ?_
                  exact ih _ _ _ _ _ _ g32420 k32420 (by omega) (by omega) (by omega) (by omega) (by omega) (by omega) (by omega) (by omega) (by omega) (by omega) (by omega) (by omega) (by omega) (by omega) (by omega)
              · refine ev_iload_n rfl ?_
                refine ev_aload_n rfl ?_
                obtain ⟨v32426, ev32426, lv32426, uv32426⟩ := g32420.q0 q1
                refine g_qgetv (v := v32426) g32420 q1 ft4_0 ev32426 ?_
                refine ev_icmpge f24_16 (fun c32427 => ?_) (fun c32427 => ?_)
                · refine ev_iconst ?_
                  refine ev_ret rfl (by decide) (by decide) ?_
                  show jEv _ _ _ _ _ _ _ (_, [(2, (r1 : Int)), (0, v32422)], [(0, 0)], _, _, _)
                  refine ev_ifeq f38_17 (fun c32428 => ?_) (fun c32428 => absurd c32428 (by omega))
                  refine ev_iconst ?_
                  refine ev_ret rfl (by decide) (by decide) ?_
                  show jEv _ _ _ _ _ _ _ (_, [(2, 0), (2, (r1 : Int)), (0, a2), (0, a3), (0, x4), (0, x5), (0, x6), (0, x7), (0, x8)], [(0, (-1))], _, _, _)
                  refine ev_iload rfl ?_
                  refine ev_icmpeq f231_149 (fun c32429 => ?_) (fun c32429 => ?_)
                  · refine ev_iinc (w := (x8 + 1)) (L' := [(2, 0), (2, (r1 : Int)), (0, a2), (0, a3), (0, x4), (0, x5), (0, x6), (0, x7), (0, (x8 + 1))]) rfl (by unfold w32; omega) rfl ?_
                    refine ev_goto f231_65 ?_
                    exact ih _ _ _ _ _ _ g32420 k32420 (by omega) (by omega) (by omega) (by omega) (by omega) (by omega) (by omega) (by omega) (by omega) (by omega) (by omega) (by omega) (by omega) (by omega) (by omega)
                  · refine ev_iload rfl ?_
                    refine ev_istore (L' := [(2, 0), (2, (r1 : Int)), (0, a2), (0, a3), (0, x4), (0, x5), (0, x8), (0, x7), (0, x8)]) (Nat.le_of_ble_eq_true rfl) rfl ?_
                    refine ev_iinc (w := (x8 + 1)) (L' := [(2, 0), (2, (r1 : Int)), (0, a2), (0, a3), (0, x4), (0, x5), (0, x8), (0, x7), (0, (x8 + 1))]) rfl (by unfold w32; omega) rfl ?_
                    refine ev_goto f231_65 ?_
                    exact ih _ _ _ _ _ _ g32420 k32420 (by omega) (by omega) (by omega) (by omega) (by omega) (by omega) (by omega) (by omega) (by omega) (by omega) (by omega) (by omega) (by omega) (by omega) (by omega)
                · refine ev_iconst ?_
                  refine ev_goto f24_17 ?_
                  refine ev_ret rfl (by decide) (by decide) ?_
                  show jEv _ _ _ _ _ _ _ (_, [(2, (r1 : Int)), (0, v32422)], [(0, 1)], _, _, _)
                  refine ev_ifeq f38_17 (fun c32430 => absurd c32430 (by omega)) (fun c32430 => ?_)
                  refine ev_aload_n rfl ?_
                  refine g_qgetp g32420 q1 (c := 10) (by decide) (by decide) ft4_10 ?_
                  refine ev_iload_n rfl ?_
                  refine g_qiald g32420 q1 (c := 10) (by decide) (by decide) (by decide) (by omega) (by show v32422 < m1; omega) rfl (fun v32431 ev32431 lv32431 uv32431 => ?_)
                  refine ev_goto f38_18 ?_
                  refine ev_ret rfl (by decide) (by decide) ?_
                  show jEv _ _ _ _ _ _ _ (_, [(2, 0), (2, (r1 : Int)), (0, a2), (0, a3), (0, x4), (0, x5), (0, x6), (0, x7), (0, x8)], [(0, v32431)], _, _, _)
                  refine ev_iload rfl ?_
                  refine ev_icmpeq f231_149 (fun c32432 => ?_) (fun c32432 => ?_)
                  · refine ev_iinc (w := (x8 + 1)) (L' := [(2, 0), (2, (r1 : Int)), (0, a2), (0, a3), (0, x4), (0, x5), (0, x6), (0, x7), (0, (x8 + 1))]) rfl (by unfold w32; omega) rfl ?_
                    refine ev_goto f231_65 ?_
                    exact ih _ _ _ _ _ _ g32420 k32420 (by omega) (by omega) (by omega) (by omega) (by omega) (by omega) (by omega) (by omega) (by omega) (by omega) (by omega) (by omega) (by omega) (by omega) (by omega)
                  · refine ev_iload rfl ?_
                    refine ev_istore (L' := [(2, 0), (2, (r1 : Int)), (0, a2), (0, a3), (0, x4), (0, x5), (0, x8), (0, x7), (0, x8)]) (Nat.le_of_ble_eq_true rfl) rfl ?_
                    refine ev_iinc (w := (x8 + 1)) (L' := [(2, 0), (2, (r1 : Int)), (0, a2), (0, a3), (0, x4), (0, x5), (0, x8), (0, x7), (0, (x8 + 1))]) rfl (by unfold w32; omega) rfl ?_
                    refine ev_goto f231_65 ?_
                    exact ih _ _ _ _ _ _ g32420 k32420 (by omega) (by omega) (by omega) (by omega) (by omega) (by omega) (by omega) (by omega) (by omega) (by omega) (by omega) (by omega) (by omega) (by omega) (by omega)
            · refine ev_goto f231_155 ?_
              refine ev_aload_n rfl ?_
              refine g_getp (r := 0) (c := 1) g32417 ad0 (by decide) (by decide) rf0_0 ft11_0 ?_
              refine ev_iload_n rfl ?_
              refine ev_iload rfl ?_
              refine ev_in (d := 4) (a := 0) (b := 0) (cd' := c149_0) (m := 3) (L0 := [(2, 1), (0, a2), (0, x4)]) (jcall_v (A := [(0, x4), (0, a2)]) (S' := []) (r := 1) rfl (g32417.lt ad1) (g32417.tg ad1) (Nat.le_of_ble_eq_true rfl)) (by decide) ml149 pp149 (Nat.le_of_ble_eq_true rfl) rfl (by decide) (by decide) ?_
              refine ev_iload_n rfl ?_
              refine ev_iflt f149_32 (fun c32433 => absurd c32433 (by omega)) (fun c32433 => ?_)
              refine ev_iload_n rfl ?_
              refine ev_bipush ?_
              refine ev_icmpge f149_32 (fun c32434 => absurd c32434 (by omega)) (fun c32434 => ?_)
              refine ev_aload_n rfl ?_
              refine g_getp (r := 1) (c := 4) g32417 ad1 (by decide) (by decide) rf1_5 ft10_5 ?_
              refine ev_iload_n rfl ?_
              refine g_ialdv (v := v32415) g32417 ad4 (by omega) (by omega) (((kk32417.v rfl).trans ev32415)) ?_
              refine ev_iload_n rfl ?_
              refine ev_icmpeq f149_32 (fun c32435 => ?_) (fun c32435 => ?_)
              · refine ev_ret rfl (by decide) (by decide) ?_
                show jEv _ _ _ _ _ _ _ (_, [(2, 0), (2, (r1 : Int)), (0, a2), (0, a3), (0, x4), (0, x5), (0, x6), (0, x7), (0, x8)], [], _, _, _)
                refine ev_iload rfl ?_
                exact ev_ret rfl (by decide) (by decide) ⟨_, rfl, by omega, by omega, g32417, k32417⟩
              · refine ev_aload_n rfl ?_
                refine g_getp (r := 1) (c := 4) g32417 ad1 (by decide) (by decide) rf1_5 ft10_5 ?_
                refine ev_iload_n rfl ?_
                refine ev_iload_n rfl ?_
                refine g_iast g32417 ad4 rt4 (fun _ => rfl) (by omega) (by omega) (by omega) (by omega) (fun h32436 e32436 g32436 => ?_)
                have k32436 := k32417.wr e32436 rfl
                refine ev_aload_n rfl ?_
                refine ev_iconst ?_
                refine g_putf (r := 1) g32436 ad1 (by decide) ft10_2 (by decide) (fun _ => by omega) rf1_2 (by decide) (by omega) (by omega) (fun h32437 e32437 g32437 => ?_)
                have k32437 := k32436.wr e32437 rfl
                refine ev_ret rfl (by decide) (by decide) ?_
                show jEv _ _ _ _ _ _ _ (_, [(2, 0), (2, (r1 : Int)), (0, a2), (0, a3), (0, x4), (0, x5), (0, x6), (0, x7), (0, x8)], [], _, _, _)
                refine ev_iload rfl ?_
                exact ev_ret rfl (by decide) (by decide) ⟨_, rfl, by omega, by omega, g32437, k32437⟩
          · refine ev_aload_n rfl ?_
            refine g_getp (r := 1) (c := 4) g1 ad1 (by decide) (by decide) rf1_5 ft10_5 ?_
            refine ev_iload_n rfl ?_
            refine ev_iload_n rfl ?_
            refine g_iast g1 ad4 rt4 (fun _ => rfl) (by omega) (by omega) (by omega) (by omega) (fun h32438 e32438 g32438 => ?_)
            have k32438 := k1.wr e32438 rfl
            refine ev_aload_n rfl ?_
            refine ev_iconst ?_
            refine g_putf (r := 1) g32438 ad1 (by decide) ft10_2 (by decide) (fun _ => by omega) rf1_2 (by decide) (by omega) (by omega) (fun h32439 e32439 g32439 => ?_)
            have k32439 := k32438.wr e32439 rfl
            refine ev_ret rfl (by decide) (by decide) ?_
            show jEv _ _ _ _ _ _ _ (_, [(2, 0), (2, (r1 : Int)), (0, a2), (0, a3), (0, x4), (0, x5), (0, x6), (0, x7), (0, x8)], [], _, _, _)
            refine ev_aload_n rfl ?_
            refine g_getp (r := 0) (c := 1) g32439 ad0 (by decide) (by decide) rf0_0 ft11_0 ?_
            refine ev_call (jcall_v (A := []) (S' := []) (r := 1) rfl (g32439.lt ad1) (g32439.tg ad1) (Nat.le_of_ble_eq_true rfl)) (jOk_le (by decide) (s153 g32439 )) (by decide) (by decide) (fun w32440 h32440 q32440 => ?_)
            obtain ⟨v32441, rfl, lv32441, uv32441, g32440, kk32440⟩ := q32440
            have k32440 := k32439.tr kk32440 (by decide)
            show jEv _ _ _ _ _ _ _ (_, [(2, 0), (2, (r1 : Int)), (0, a2), (0, a3), (0, x4), (0, x5), (0, x6), (0, x7), (0, x8)], [(0, v32441)], _, _, _)
            refine ev_ifne f231_118 (fun c32442 => ?_) (fun c32442 => ?_)
            · refine ev_aload_n rfl ?_
              refine ev_aload_n rfl ?_
              refine g_getp (r := 0) (c := 1) g32440 ad0 (by decide) (by decide) rf0_0 ft11_0 ?_
              refine ev_aload_n rfl ?_
              refine g_getp (r := 0) (c := 23) g32440 ad0 (by decide) (by decide) rf0_5 ft11_5 ?_
              refine ev_iconst ?_
              refine ev_call (jcall_v (A := [(0, 0), (2, 23), (2, 1)]) (S' := []) (r := r1) rfl (g32440.qlt q1) (g32440.qtg q1) (Nat.le_of_ble_eq_true rfl)) (jOk_le (by decide) (s47 g32440 q1 (Or.inl rfl) (by omega) (by omega))) (by decide) (by decide) (fun w32443 h32443 q32443 => ?_)
              obtain ⟨v32444, rfl, lv32444, uv32444, g32443, kk32443⟩ := q32443
              have k32443 := k32440.tr kk32443 (by decide)
              show jEv _ _ _ _ _ _ _ (_, [(2, 0), (2, (r1 : Int)), (0, a2), (0, a3), (0, x4), (0, x5), (0, x6), (0, x7), (0, x8)], [(1, v32444)], _, _, _)
              refine ev_pop2 ?_
              refine ev_aload_n rfl ?_
              refine ev_aload_n rfl ?_
              obtain ⟨v32445, ev32445, lv32445, uv32445⟩ := g32443.q1 q1
              refine g_qgetv (v := v32445) g32443 q1 ft4_1 ev32445 ?_
              refine ev_in (d := 4) (a := 0) (b := 0) (cd' := c38_0) (m := 2) (L0 := [(2, (r1 : Int)), (0, v32445)]) (jcall_v (A := [(0, v32445)]) (S' := []) (r := r1) rfl (g32443.qlt q1) (g32443.qtg q1) (Nat.le_of_ble_eq_true rfl)) (by decide) ml38 pp38 (Nat.le_of_ble_eq_true rfl) rfl (by decide) (by decide) ?_
              refine ev_aload_n rfl ?_
              refine ev_iload_n rfl ?_
              refine ev_in (d := 3) (a := 0) (b := 0) (cd' := c24_0) (m := 2) (L0 := [(2, (r1 : Int)), (0, v32445)]) (jcall_v (A := [(0, v32445)]) (S' := []) (r := r1) rfl (g32443.qlt q1) (g32443.qtg q1) (Nat.le_of_ble_eq_true rfl)) (by decide) ml24 pp24 (Nat.le_of_ble_eq_true rfl) rfl (by decide) (by decide) ?_
              refine ev_iload_n rfl ?_
              refine ev_iflt f24_16 (fun c32446 => ?_) (fun c32446 => ?_)
              · refine ev_iconst ?_
                refine ev_ret rfl (by decide) (by decide) ?_
                show jEv _ _ _ _ _ _ _ (_, [(2, (r1 : Int)), (0, v32445)], [(0, 0)], _, _, _)
                refine ev_ifeq f38_17 (fun c32447 => ?_) (fun c32447 => absurd c32447 (by omega))
                refine ev_iconst ?_
                refine ev_ret rfl (by decide) (by decide) ?_
                show jEv _ _ _ _ _ _ _ (_, [(2, 0), (2, (r1 : Int)), (0, a2), (0, a3), (0, x4), (0, x5), (0, x6), (0, x7), (0, x8)], [(0, (-1))], _, _, _)
                refine ev_iload rfl ?_
                refine ev_icmpeq f231_149 (fun c32448 => ?_) (fun c32448 => ?_)
                · refine ev_iinc (w := (x8 + 1)) (L' := [(2, 0), (2, (r1 : Int)), (0, a2), (0, a3), (0, x4), (0, x5), (0, x6), (0, x7), (0, (x8 + 1))]) rfl (by unfold w32; omega) rfl ?_
                  refine ev_goto f231_65 ?_
                  exact ih _ _ _ _ _ _ g32443 k32443 (by omega) (by omega) (by omega) (by omega) (by omega) (by omega) (by omega) (by omega) (by omega) (by omega) (by omega) (by omega) (by omega) (by omega) (by omega)
                · refine ev_iload rfl ?_
                  refine ev_istore (L' := [(2, 0), (2, (r1 : Int)), (0, a2), (0, a3), (0, x4), (0, x5), (0, x8), (0, x7), (0, x8)]) (Nat.le_of_ble_eq_true rfl) rfl ?_
                  refine ev_iinc (w := (x8 + 1)) (L' := [(2, 0), (2, (r1 : Int)), (0, a2), (0, a3), (0, x4), (0, x5), (0, x8), (0, x7), (0, (x8 + 1))]) rfl (by unfold w32; omega) rfl ?_
                  refine ev_goto f231_65 ?_
                  exact ih _ _ _ _ _ _ g32443 k32443 (by omega) (by omega) (by omega) (by omega) (by omega) (by omega) (by omega) (by omega) (by omega) (by omega) (by omega) (by omega) (by omega) (by omega) (by omega)
              · refine ev_iload_n rfl ?_
                refine ev_aload_n rfl ?_
                obtain ⟨v32449, ev32449, lv32449, uv32449⟩ := g32443.q0 q1
                refine g_qgetv (v := v32449) g32443 q1 ft4_0 ev32449 ?_
                refine ev_icmpge f24_16 (fun c32450 => ?_) (fun c32450 => ?_)
                · refine ev_iconst ?_
                  refine ev_ret rfl (by decide) (by decide) ?_
                  show jEv _ _ _ _ _ _ _ (_, [(2, (r1 : Int)), (0, v32445)], [(0, 0)], _, _, _)
                  refine ev_ifeq f38_17 (fun c32451 => ?_) (fun c32451 => absurd c32451 (by omega))
                  refine ev_iconst ?_
                  refine ev_ret rfl (by decide) (by decide) ?_
                  show jEv _ _ _ _ _ _ _ (_, [(2, 0), (2, (r1 : Int)), (0, a2), (0, a3), (0, x4), (0, x5), (0, x6), (0, x7), (0, x8)], [(0, (-1))], _, _, _)
                  refine ev_iload rfl ?_
                  refine ev_icmpeq f231_149 (fun c32452 => ?_) (fun c32452 => ?_)
                  · refine ev_iinc (w := (x8 + 1)) (L' := [(2, 0), (2, (r1 : Int)), (0, a2), (0, a3), (0, x4), (0, x5), (0, x6), (0, x7), (0, (x8 + 1))]) rfl (by unfold w32; omega) rfl ?_
                    refine ev_goto f231_65 ?_
                    exact ih _ _ _ _ _ _ g32443 k32443 (by omega) (by omega) (by omega) (by omega) (by omega) (by omega) (by omega) (by omega) (by omega) (by omega) (by omega) (by omega) (by omega) (by omega) (by omega)
                  · refine ev_iload rfl ?_
                    refine ev_istore (L' := [(2, 0), (2, (r1 : Int)), (0, a2), (0, a3), (0, x4), (0, x5), (0, x8), (0, x7), (0, x8)]) (Nat.le_of_ble_eq_true rfl) rfl ?_
                    refine ev_iinc (w := (x8 + 1)) (L' := [(2, 0), (2, (r1 : Int)), (0, a2), (0, a3), (0, x4), (0, x5), (0, x8), (0, x7), (0, (x8 + 1))]) rfl (by unfold w32; omega) rfl ?_
                    refine ev_goto f231_65 ?_
                    exact ih _ _ _ _ _ _ g32443 k32443 (by omega) (by omega) (by omega) (by omega) (by omega) (by omega) (by omega) (by omega) (by omega) (by omega) (by omega) (by omega) (by omega) (by omega) (by omega)
                · refine ev_iconst ?_
                  refine ev_goto f24_17 ?_
                  refine ev_ret rfl (by decide) (by decide) ?_
                  show jEv _ _ _ _ _ _ _ (_, [(2, (r1 : Int)), (0, v32445)], [(0, 1)], _, _, _)
                  refine ev_ifeq f38_17 (fun c32453 => absurd c32453 (by omega)) (fun c32453 => ?_)
                  refine ev_aload_n rfl ?_
                  refine g_qgetp g32443 q1 (c := 10) (by decide) (by decide) ft4_10 ?_
                  refine ev_iload_n rfl ?_
                  refine g_qiald g32443 q1 (c := 10) (by decide) (by decide) (by decide) (by omega) (by show v32445 < m1; omega) rfl (fun v32454 ev32454 lv32454 uv32454 => ?_)
                  refine ev_goto f38_18 ?_
                  refine ev_ret rfl (by decide) (by decide) ?_
                  show jEv _ _ _ _ _ _ _ (_, [(2, 0), (2, (r1 : Int)), (0, a2), (0, a3), (0, x4), (0, x5), (0, x6), (0, x7), (0, x8)], [(0, v32454)], _, _, _)
                  refine ev_iload rfl ?_
                  refine ev_icmpeq f231_149 (fun c32455 => ?_) (fun c32455 => ?_)
                  · refine ev_iinc (w := (x8 + 1)) (L' := [(2, 0), (2, (r1 : Int)), (0, a2), (0, a3), (0, x4), (0, x5), (0, x6), (0, x7), (0, (x8 + 1))]) rfl (by unfold w32; omega) rfl ?_
                    refine ev_goto f231_65 ?_
                    exact ih _ _ _ _ _ _ g32443 k32443 (by omega) (by omega) (by omega) (by omega) (by omega) (by omega) (by omega) (by omega) (by omega) (by omega) (by omega) (by omega) (by omega) (by omega) (by omega)
                  · refine ev_iload rfl ?_
                    refine ev_istore (L' := [(2, 0), (2, (r1 : Int)), (0, a2), (0, a3), (0, x4), (0, x5), (0, x8), (0, x7), (0, x8)]) (Nat.le_of_ble_eq_true rfl) rfl ?_
                    refine ev_iinc (w := (x8 + 1)) (L' := [(2, 0), (2, (r1 : Int)), (0, a2), (0, a3), (0, x4), (0, x5), (0, x8), (0, x7), (0, (x8 + 1))]) rfl (by unfold w32; omega) rfl ?_
                    refine ev_goto f231_65 ?_
                    exact ih _ _ _ _ _ _ g32443 k32443 (by omega) (by omega) (by omega) (by omega) (by omega) (by omega) (by omega) (by omega) (by omega) (by omega) (by omega) (by omega) (by omega) (by omega) (by omega)
            · refine ev_goto f231_155 ?_
              refine ev_aload_n rfl ?_
              refine g_getp (r := 0) (c := 1) g32440 ad0 (by decide) (by decide) rf0_0 ft11_0 ?_
              refine ev_iload_n rfl ?_
              refine ev_iload rfl ?_
              refine ev_in (d := 4) (a := 0) (b := 0) (cd' := c149_0) (m := 3) (L0 := [(2, 1), (0, a2), (0, x4)]) (jcall_v (A := [(0, x4), (0, a2)]) (S' := []) (r := 1) rfl (g32440.lt ad1) (g32440.tg ad1) (Nat.le_of_ble_eq_true rfl)) (by decide) ml149 pp149 (Nat.le_of_ble_eq_true rfl) rfl (by decide) (by decide) ?_
              refine ev_iload_n rfl ?_
              refine ev_iflt f149_32 (fun c32456 => absurd c32456 (by omega)) (fun c32456 => ?_)
              refine ev_iload_n rfl ?_
              refine ev_bipush ?_
              refine ev_icmpge f149_32 (fun c32457 => absurd c32457 (by omega)) (fun c32457 => ?_)
              refine ev_aload_n rfl ?_
              refine g_getp (r := 1) (c := 4) g32440 ad1 (by decide) (by decide) rf1_5 ft10_5 ?_
              refine ev_iload_n rfl ?_
              refine g_ialdv (v := v32412) g32440 ad4 (by omega) (by omega) (((kk32440.v rfl).trans ((jw_ne e32439 (Or.inl (by decide))).trans (jw_eq e32438)))) ?_
              refine ev_iload_n rfl ?_
              refine ev_icmpeq f149_32 (fun c32458 => ?_) (fun c32458 => ?_)
              · refine ev_ret rfl (by decide) (by decide) ?_
                show jEv _ _ _ _ _ _ _ (_, [(2, 0), (2, (r1 : Int)), (0, a2), (0, a3), (0, x4), (0, x5), (0, x6), (0, x7), (0, x8)], [], _, _, _)
                refine ev_iload rfl ?_
                exact ev_ret rfl (by decide) (by decide) ⟨_, rfl, by omega, by omega, g32440, k32440⟩
              · refine ev_aload_n rfl ?_
                refine g_getp (r := 1) (c := 4) g32440 ad1 (by decide) (by decide) rf1_5 ft10_5 ?_
                refine ev_iload_n rfl ?_
                refine ev_iload_n rfl ?_
                refine g_iast g32440 ad4 rt4 (fun _ => rfl) (by omega) (by omega) (by omega) (by omega) (fun h32459 e32459 g32459 => ?_)
                have k32459 := k32440.wr e32459 rfl
                refine ev_aload_n rfl ?_
                refine ev_iconst ?_
                refine g_putf (r := 1) g32459 ad1 (by decide) ft10_2 (by decide) (fun _ => by omega) rf1_2 (by decide) (by omega) (by omega) (fun h32460 e32460 g32460 => ?_)
                have k32460 := k32459.wr e32460 rfl
                refine ev_ret rfl (by decide) (by decide) ?_
                show jEv _ _ _ _ _ _ _ (_, [(2, 0), (2, (r1 : Int)), (0, a2), (0, a3), (0, x4), (0, x5), (0, x6), (0, x7), (0, x8)], [], _, _, _)
                refine ev_iload rfl ?_
                exact ev_ret rfl (by decide) (by decide) ⟨_, rfl, by omega, by omega, g32460, k32460⟩
set_option maxHeartbeats 4000000 in
theorem s231 {G : GH} {h : JH} (g : Gd G h) {r1 : Nat} {m1 : Int} (q1 : IsQ G r1 m1) {a2 : Int} (la2 : 0 ≤ a2) (ua2 : a2 ≤ 35) {a3 : Int} (la3 : 0 ≤ a3) (ua3 : a3 ≤ 1) : jOk 6 0 0 231 [(2, 0), (2, (r1 : Int)), (0, a2), (0, a3)] h (PI G [(1, 2), (1, 3), (5, 0), (6, 0), (4, 0), (1000000, 0)] h 0 (-2) 40) := by
  refine ⟨by decide, by rw [ml231]; exact Nat.le_of_ble_eq_true rfl, ?_⟩
  rw [ml231, pp231]
  show jEv _ none _ c231_0 0 0 _ (c231_0, [(2, 0), (2, (r1 : Int)), (0, a2), (0, a3), (9, 0), (9, 0), (9, 0), (9, 0), (9, 0)], [], h, 0, 0)
  have k0 := Kp.rf [(1, 2), (1, 3), (5, 0), (6, 0), (4, 0), (1000000, 0)] h
  have wr1 := g.qb q1
  have zr1 := q1.1
  refine ev_aload_n rfl ?_
  refine g_getp (r := 0) (c := 1) g ad0 (by decide) (by decide) rf0_0 ft11_0 ?_
  refine ev_iload_n rfl ?_
  refine ev_in (d := 4) (a := 0) (b := 0) (cd' := c148_0) (m := 2) (L0 := [(2, 1), (0, a2)]) (jcall_v (A := [(0, a2)]) (S' := []) (r := 1) rfl (g.lt ad1) (g.tg ad1) (Nat.le_of_ble_eq_true rfl)) (by decide) ml148 pp148 (Nat.le_of_ble_eq_true rfl) rfl (by decide) (by decide) ?_
  refine ev_iload_n rfl ?_
  refine ev_iflt f148_10 (fun c32461 => absurd c32461 (by omega)) (fun c32461 => ?_)
  refine ev_iload_n rfl ?_
  refine ev_bipush ?_
  refine ev_icmplt f148_14 (fun c32462 => ?_) (fun c32462 => absurd c32462 (by omega))
  refine ev_aload_n rfl ?_
  refine g_getp (r := 1) (c := 4) g ad1 (by decide) (by decide) rf1_5 ft10_5 ?_
  refine ev_iload_n rfl ?_
  refine g_iald g ad4 rt4 (by omega) (by omega) (fun v32463 ev32463 lv32463 uv32463 => ?_)
  refine ev_ret rfl (by decide) (by decide) ?_
  show jEv _ _ _ _ _ _ _ (_, [(2, 0), (2, (r1 : Int)), (0, a2), (0, a3), (9, 0), (9, 0), (9, 0), (9, 0), (9, 0)], [(0, v32463)], _, _, _)
  refine ev_istore (L' := [(2, 0), (2, (r1 : Int)), (0, a2), (0, a3), (0, v32463), (9, 0), (9, 0), (9, 0), (9, 0)]) (Nat.le_of_ble_eq_true rfl) rfl ?_
  refine ev_aload_n rfl ?_
  refine ev_aload_n rfl ?_
  refine g_getp (r := 0) (c := 1) g ad0 (by decide) (by decide) rf0_0 ft11_0 ?_
  refine ev_aload_n rfl ?_
  refine g_getp (r := 0) (c := 23) g ad0 (by decide) (by decide) rf0_5 ft11_5 ?_
  refine ev_iconst ?_
  refine ev_call (jcall_v (A := [(0, 0), (2, 23), (2, 1)]) (S' := []) (r := r1) rfl (g.qlt q1) (g.qtg q1) (Nat.le_of_ble_eq_true rfl)) (jOk_le (by decide) (s47 g q1 (Or.inl rfl) (by omega) (by omega))) (by decide) (by decide) (fun w32464 h32464 q32464 => ?_)
  obtain ⟨v32465, rfl, lv32465, uv32465, g32464, kk32464⟩ := q32464
  have k32464 := k0.tr kk32464 (by decide)
  show jEv _ _ _ _ _ _ _ (_, [(2, 0), (2, (r1 : Int)), (0, a2), (0, a3), (0, v32463), (9, 0), (9, 0), (9, 0), (9, 0)], [(1, v32465)], _, _, _)
  refine ev_pop2 ?_
  refine ev_aload_n rfl ?_
  refine ev_aload_n rfl ?_
  obtain ⟨v32466, ev32466, lv32466, uv32466⟩ := g32464.q1 q1
  refine g_qgetv (v := v32466) g32464 q1 ft4_1 ev32466 ?_
  refine ev_in (d := 4) (a := 0) (b := 0) (cd' := c38_0) (m := 2) (L0 := [(2, (r1 : Int)), (0, v32466)]) (jcall_v (A := [(0, v32466)]) (S' := []) (r := r1) rfl (g32464.qlt q1) (g32464.qtg q1) (Nat.le_of_ble_eq_true rfl)) (by decide) ml38 pp38 (Nat.le_of_ble_eq_true rfl) rfl (by decide) (by decide) ?_
  refine ev_aload_n rfl ?_
  refine ev_iload_n rfl ?_
  refine ev_in (d := 3) (a := 0) (b := 0) (cd' := c24_0) (m := 2) (L0 := [(2, (r1 : Int)), (0, v32466)]) (jcall_v (A := [(0, v32466)]) (S' := []) (r := r1) rfl (g32464.qlt q1) (g32464.qtg q1) (Nat.le_of_ble_eq_true rfl)) (by decide) ml24 pp24 (Nat.le_of_ble_eq_true rfl) rfl (by decide) (by decide) ?_
  refine ev_iload_n rfl ?_
  refine ev_iflt f24_16 (fun c32467 => ?_) (fun c32467 => ?_)
  · refine ev_iconst ?_
    refine ev_ret rfl (by decide) (by decide) ?_
    show jEv _ _ _ _ _ _ _ (_, [(2, (r1 : Int)), (0, v32466)], [(0, 0)], _, _, _)
    refine ev_ifeq f38_17 (fun c32468 => ?_) (fun c32468 => absurd c32468 (by omega))
    refine ev_iconst ?_
    refine ev_ret rfl (by decide) (by decide) ?_
    show jEv _ _ _ _ _ _ _ (_, [(2, 0), (2, (r1 : Int)), (0, a2), (0, a3), (0, v32463), (9, 0), (9, 0), (9, 0), (9, 0)], [(0, (-1))], _, _, _)
    refine ev_istore (L' := [(2, 0), (2, (r1 : Int)), (0, a2), (0, a3), (0, v32463), (0, (-1)), (9, 0), (9, 0), (9, 0)]) (Nat.le_of_ble_eq_true rfl) rfl ?_
    refine ev_bipush ?_
    refine ev_istore (L' := [(2, 0), (2, (r1 : Int)), (0, a2), (0, a3), (0, v32463), (0, (-1)), (0, (-2)), (9, 0), (9, 0)]) (Nat.le_of_ble_eq_true rfl) rfl ?_
    refine ev_bipush ?_
    refine ev_iload_n rfl ?_
    refine ev_iconst ?_
    refine ev_icmpne f231_53 (fun c32469 => ?_) (fun c32469 => ?_)
    · refine ev_iload rfl ?_
      refine ev_iconst ?_
      refine g_isubG (fun v32470 ev32470 lv32470 uv32470 => ?_)
      refine ev_in (d := 4) (a := 0) (b := 0) (cd' := c381_0) (m := 2) (L0 := [(0, 40), (0, v32470)]) (jcall_s (A := [(0, v32470), (0, 40)]) (S' := []) (by decide) rfl (Nat.le_of_ble_eq_true rfl)) (by decide) ml381 pp381 (Nat.le_of_ble_eq_true rfl) rfl (by decide) (by decide) ?_
      refine ev_iload_n rfl ?_
      refine ev_iload_n rfl ?_
      refine ev_icmpgt f381_9 (fun c32471 => ?_) (fun c32471 => ?_)
      · refine ev_iload_n rfl ?_
        refine ev_ret rfl (by decide) (by decide) ?_
        show jEv _ _ _ _ _ _ _ (_, [(2, 0), (2, (r1 : Int)), (0, a2), (0, a3), (0, v32463), (0, (-1)), (0, (-2)), (9, 0), (9, 0)], [(0, v32470)], _, _, _)
        refine ev_istore (L' := [(2, 0), (2, (r1 : Int)), (0, a2), (0, a3), (0, v32463), (0, (-1)), (0, (-2)), (0, v32470), (9, 0)]) (Nat.le_of_ble_eq_true rfl) rfl ?_
        refine ev_iconst ?_
        refine ev_istore (L' := [(2, 0), (2, (r1 : Int)), (0, a2), (0, a3), (0, v32463), (0, (-1)), (0, (-2)), (0, v32470), (0, 1)]) (Nat.le_of_ble_eq_true rfl) rfl ?_
        exact (s231_l q1 la2 ua2 la3 ua3 82) _ _ _ _ _ _ g32464 k32464 (by omega) (by omega) (by omega) (by omega) (by omega) (by omega) (by omega) (by omega) (by omega) (by omega) (by omega) (by omega) (by omega) (by omega) (by omega)
      · refine ev_iload_n rfl ?_
        refine ev_goto f381_10 ?_
        refine ev_ret rfl (by decide) (by decide) ?_
        show jEv _ _ _ _ _ _ _ (_, [(2, 0), (2, (r1 : Int)), (0, a2), (0, a3), (0, v32463), (0, (-1)), (0, (-2)), (9, 0), (9, 0)], [(0, 40)], _, _, _)
        refine ev_istore (L' := [(2, 0), (2, (r1 : Int)), (0, a2), (0, a3), (0, v32463), (0, (-1)), (0, (-2)), (0, 40), (9, 0)]) (Nat.le_of_ble_eq_true rfl) rfl ?_
        refine ev_iconst ?_
        refine ev_istore (L' := [(2, 0), (2, (r1 : Int)), (0, a2), (0, a3), (0, v32463), (0, (-1)), (0, (-2)), (0, 40), (0, 1)]) (Nat.le_of_ble_eq_true rfl) rfl ?_
        exact (s231_l q1 la2 ua2 la3 ua3 82) _ _ _ _ _ _ g32464 k32464 (by omega) (by omega) (by omega) (by omega) (by omega) (by omega) (by omega) (by omega) (by omega) (by omega) (by omega) (by omega) (by omega) (by omega) (by omega)
    · refine ev_bipush ?_
      refine ev_iload rfl ?_
      refine g_isubG (fun v32472 ev32472 lv32472 uv32472 => ?_)
      refine ev_goto f231_57 ?_
      refine ev_in (d := 4) (a := 0) (b := 0) (cd' := c381_0) (m := 2) (L0 := [(0, 40), (0, v32472)]) (jcall_s (A := [(0, v32472), (0, 40)]) (S' := []) (by decide) rfl (Nat.le_of_ble_eq_true rfl)) (by decide) ml381 pp381 (Nat.le_of_ble_eq_true rfl) rfl (by decide) (by decide) ?_
      refine ev_iload_n rfl ?_
      refine ev_iload_n rfl ?_
      refine ev_icmpgt f381_9 (fun c32473 => ?_) (fun c32473 => ?_)
      · refine ev_iload_n rfl ?_
        refine ev_ret rfl (by decide) (by decide) ?_
        show jEv _ _ _ _ _ _ _ (_, [(2, 0), (2, (r1 : Int)), (0, a2), (0, a3), (0, v32463), (0, (-1)), (0, (-2)), (9, 0), (9, 0)], [(0, v32472)], _, _, _)
        refine ev_istore (L' := [(2, 0), (2, (r1 : Int)), (0, a2), (0, a3), (0, v32463), (0, (-1)), (0, (-2)), (0, v32472), (9, 0)]) (Nat.le_of_ble_eq_true rfl) rfl ?_
        refine ev_iconst ?_
        refine ev_istore (L' := [(2, 0), (2, (r1 : Int)), (0, a2), (0, a3), (0, v32463), (0, (-1)), (0, (-2)), (0, v32472), (0, 1)]) (Nat.le_of_ble_eq_true rfl) rfl ?_
        exact (s231_l q1 la2 ua2 la3 ua3 82) _ _ _ _ _ _ g32464 k32464 (by omega) (by omega) (by omega) (by omega) (by omega) (by omega) (by omega) (by omega) (by omega) (by omega) (by omega) (by omega) (by omega) (by omega) (by omega)
      · refine ev_iload_n rfl ?_
        refine ev_goto f381_10 ?_
        refine ev_ret rfl (by decide) (by decide) ?_
        show jEv _ _ _ _ _ _ _ (_, [(2, 0), (2, (r1 : Int)), (0, a2), (0, a3), (0, v32463), (0, (-1)), (0, (-2)), (9, 0), (9, 0)], [(0, 40)], _, _, _)
        refine ev_istore (L' := [(2, 0), (2, (r1 : Int)), (0, a2), (0, a3), (0, v32463), (0, (-1)), (0, (-2)), (0, 40), (9, 0)]) (Nat.le_of_ble_eq_true rfl) rfl ?_
        refine ev_iconst ?_
        refine ev_istore (L' := [(2, 0), (2, (r1 : Int)), (0, a2), (0, a3), (0, v32463), (0, (-1)), (0, (-2)), (0, 40), (0, 1)]) (Nat.le_of_ble_eq_true rfl) rfl ?_
        exact (s231_l q1 la2 ua2 la3 ua3 82) _ _ _ _ _ _ g32464 k32464 (by omega) (by omega) (by omega) (by omega) (by omega) (by omega) (by omega) (by omega) (by omega) (by omega) (by omega) (by omega) (by omega) (by omega) (by omega)
  · refine ev_iload_n rfl ?_
    refine ev_aload_n rfl ?_
    obtain ⟨v32474, ev32474, lv32474, uv32474⟩ := g32464.q0 q1
    refine g_qgetv (v := v32474) g32464 q1 ft4_0 ev32474 ?_
    refine ev_icmpge f24_16 (fun c32475 => ?_) (fun c32475 => ?_)
    · refine ev_iconst ?_
      refine ev_ret rfl (by decide) (by decide) ?_
      show jEv _ _ _ _ _ _ _ (_, [(2, (r1 : Int)), (0, v32466)], [(0, 0)], _, _, _)
      refine ev_ifeq f38_17 (fun c32476 => ?_) (fun c32476 => absurd c32476 (by omega))
      refine ev_iconst ?_
      refine ev_ret rfl (by decide) (by decide) ?_
      show jEv _ _ _ _ _ _ _ (_, [(2, 0), (2, (r1 : Int)), (0, a2), (0, a3), (0, v32463), (9, 0), (9, 0), (9, 0), (9, 0)], [(0, (-1))], _, _, _)
      refine ev_istore (L' := [(2, 0), (2, (r1 : Int)), (0, a2), (0, a3), (0, v32463), (0, (-1)), (9, 0), (9, 0), (9, 0)]) (Nat.le_of_ble_eq_true rfl) rfl ?_
      refine ev_bipush ?_
      refine ev_istore (L' := [(2, 0), (2, (r1 : Int)), (0, a2), (0, a3), (0, v32463), (0, (-1)), (0, (-2)), (9, 0), (9, 0)]) (Nat.le_of_ble_eq_true rfl) rfl ?_
      refine ev_bipush ?_
      refine ev_iload_n rfl ?_
      refine ev_iconst ?_
      refine ev_icmpne f231_53 (fun c32477 => ?_) (fun c32477 => ?_)
      · refine ev_iload rfl ?_
        refine ev_iconst ?_
        refine g_isubG (fun v32478 ev32478 lv32478 uv32478 => ?_)
        refine ev_in (d := 4) (a := 0) (b := 0) (cd' := c381_0) (m := 2) (L0 := [(0, 40), (0, v32478)]) (jcall_s (A := [(0, v32478), (0, 40)]) (S' := []) (by decide) rfl (Nat.le_of_ble_eq_true rfl)) (by decide) ml381 pp381 (Nat.le_of_ble_eq_true rfl) rfl (by decide) (by decide) ?_
        refine ev_iload_n rfl ?_
        refine ev_iload_n rfl ?_
        refine ev_icmpgt f381_9 (fun c32479 => ?_) (fun c32479 => ?_)
        · refine ev_iload_n rfl ?_
          refine ev_ret rfl (by decide) (by decide) ?_
          show jEv _ _ _ _ _ _ _ (_, [(2, 0), (2, (r1 : Int)), (0, a2), (0, a3), (0, v32463), (0, (-1)), (0, (-2)), (9, 0), (9, 0)], [(0, v32478)], _, _, _)
          refine ev_istore (L' := [(2, 0), (2, (r1 : Int)), (0, a2), (0, a3), (0, v32463), (0, (-1)), (0, (-2)), (0, v32478), (9, 0)]) (Nat.le_of_ble_eq_true rfl) rfl ?_
          refine ev_iconst ?_
          refine ev_istore (L' := [(2, 0), (2, (r1 : Int)), (0, a2), (0, a3), (0, v32463), (0, (-1)), (0, (-2)), (0, v32478), (0, 1)]) (Nat.le_of_ble_eq_true rfl) rfl ?_
          exact (s231_l q1 la2 ua2 la3 ua3 82) _ _ _ _ _ _ g32464 k32464 (by omega) (by omega) (by omega) (by omega) (by omega) (by omega) (by omega) (by omega) (by omega) (by omega) (by omega) (by omega) (by omega) (by omega) (by omega)
        · refine ev_iload_n rfl ?_
          refine ev_goto f381_10 ?_
          refine ev_ret rfl (by decide) (by decide) ?_
          show jEv _ _ _ _ _ _ _ (_, [(2, 0), (2, (r1 : Int)), (0, a2), (0, a3), (0, v32463), (0, (-1)), (0, (-2)), (9, 0), (9, 0)], [(0, 40)], _, _, _)
          refine ev_istore (L' := [(2, 0), (2, (r1 : Int)), (0, a2), (0, a3), (0, v32463), (0, (-1)), (0, (-2)), (0, 40), (9, 0)]) (Nat.le_of_ble_eq_true rfl) rfl ?_
          refine ev_iconst ?_
          refine ev_istore (L' := [(2, 0), (2, (r1 : Int)), (0, a2), (0, a3), (0, v32463), (0, (-1)), (0, (-2)), (0, 40), (0, 1)]) (Nat.le_of_ble_eq_true rfl) rfl ?_
          exact (s231_l q1 la2 ua2 la3 ua3 82) _ _ _ _ _ _ g32464 k32464 (by omega) (by omega) (by omega) (by omega) (by omega) (by omega) (by omega) (by omega) (by omega) (by omega) (by omega) (by omega) (by omega) (by omega) (by omega)
      · refine ev_bipush ?_
        refine ev_iload rfl ?_
        refine g_isubG (fun v32480 ev32480 lv32480 uv32480 => ?_)
        refine ev_goto f231_57 ?_
        refine ev_in (d := 4) (a := 0) (b := 0) (cd' := c381_0) (m := 2) (L0 := [(0, 40), (0, v32480)]) (jcall_s (A := [(0, v32480), (0, 40)]) (S' := []) (by decide) rfl (Nat.le_of_ble_eq_true rfl)) (by decide) ml381 pp381 (Nat.le_of_ble_eq_true rfl) rfl (by decide) (by decide) ?_
        refine ev_iload_n rfl ?_
        refine ev_iload_n rfl ?_
        refine ev_icmpgt f381_9 (fun c32481 => ?_) (fun c32481 => ?_)
        · refine ev_iload_n rfl ?_
          refine ev_ret rfl (by decide) (by decide) ?_
          show jEv _ _ _ _ _ _ _ (_, [(2, 0), (2, (r1 : Int)), (0, a2), (0, a3), (0, v32463), (0, (-1)), (0, (-2)), (9, 0), (9, 0)], [(0, v32480)], _, _, _)
          refine ev_istore (L' := [(2, 0), (2, (r1 : Int)), (0, a2), (0, a3), (0, v32463), (0, (-1)), (0, (-2)), (0, v32480), (9, 0)]) (Nat.le_of_ble_eq_true rfl) rfl ?_
          refine ev_iconst ?_
          refine ev_istore (L' := [(2, 0), (2, (r1 : Int)), (0, a2), (0, a3), (0, v32463), (0, (-1)), (0, (-2)), (0, v32480), (0, 1)]) (Nat.le_of_ble_eq_true rfl) rfl ?_
          exact (s231_l q1 la2 ua2 la3 ua3 82) _ _ _ _ _ _ g32464 k32464 (by omega) (by omega) (by omega) (by omega) (by omega) (by omega) (by omega) (by omega) (by omega) (by omega) (by omega) (by omega) (by omega) (by omega) (by omega)
        · refine ev_iload_n rfl ?_
          refine ev_goto f381_10 ?_
          refine ev_ret rfl (by decide) (by decide) ?_
          show jEv _ _ _ _ _ _ _ (_, [(2, 0), (2, (r1 : Int)), (0, a2), (0, a3), (0, v32463), (0, (-1)), (0, (-2)), (9, 0), (9, 0)], [(0, 40)], _, _, _)
          refine ev_istore (L' := [(2, 0), (2, (r1 : Int)), (0, a2), (0, a3), (0, v32463), (0, (-1)), (0, (-2)), (0, 40), (9, 0)]) (Nat.le_of_ble_eq_true rfl) rfl ?_
          refine ev_iconst ?_
          refine ev_istore (L' := [(2, 0), (2, (r1 : Int)), (0, a2), (0, a3), (0, v32463), (0, (-1)), (0, (-2)), (0, 40), (0, 1)]) (Nat.le_of_ble_eq_true rfl) rfl ?_
          exact (s231_l q1 la2 ua2 la3 ua3 82) _ _ _ _ _ _ g32464 k32464 (by omega) (by omega) (by omega) (by omega) (by omega) (by omega) (by omega) (by omega) (by omega) (by omega) (by omega) (by omega) (by omega) (by omega) (by omega)
    · refine ev_iconst ?_
      refine ev_goto f24_17 ?_
      refine ev_ret rfl (by decide) (by decide) ?_
      show jEv _ _ _ _ _ _ _ (_, [(2, (r1 : Int)), (0, v32466)], [(0, 1)], _, _, _)
      refine ev_ifeq f38_17 (fun c32482 => absurd c32482 (by omega)) (fun c32482 => ?_)
      refine ev_aload_n rfl ?_
      refine g_qgetp g32464 q1 (c := 10) (by decide) (by decide) ft4_10 ?_
      refine ev_iload_n rfl ?_
      refine g_qiald g32464 q1 (c := 10) (by decide) (by decide) (by decide) (by omega) (by show v32466 < m1; omega) rfl (fun v32483 ev32483 lv32483 uv32483 => ?_)
      refine ev_goto f38_18 ?_
      refine ev_ret rfl (by decide) (by decide) ?_
      show jEv _ _ _ _ _ _ _ (_, [(2, 0), (2, (r1 : Int)), (0, a2), (0, a3), (0, v32463), (9, 0), (9, 0), (9, 0), (9, 0)], [(0, v32483)], _, _, _)
      refine ev_istore (L' := [(2, 0), (2, (r1 : Int)), (0, a2), (0, a3), (0, v32463), (0, v32483), (9, 0), (9, 0), (9, 0)]) (Nat.le_of_ble_eq_true rfl) rfl ?_
      refine ev_bipush ?_
      refine ev_istore (L' := [(2, 0), (2, (r1 : Int)), (0, a2), (0, a3), (0, v32463), (0, v32483), (0, (-2)), (9, 0), (9, 0)]) (Nat.le_of_ble_eq_true rfl) rfl ?_
      refine ev_bipush ?_
      refine ev_iload_n rfl ?_
      refine ev_iconst ?_
      refine ev_icmpne f231_53 (fun c32484 => ?_) (fun c32484 => ?_)
      · refine ev_iload rfl ?_
        refine ev_iconst ?_
        refine g_isubG (fun v32485 ev32485 lv32485 uv32485 => ?_)
        refine ev_in (d := 4) (a := 0) (b := 0) (cd' := c381_0) (m := 2) (L0 := [(0, 40), (0, v32485)]) (jcall_s (A := [(0, v32485), (0, 40)]) (S' := []) (by decide) rfl (Nat.le_of_ble_eq_true rfl)) (by decide) ml381 pp381 (Nat.le_of_ble_eq_true rfl) rfl (by decide) (by decide) ?_
        refine ev_iload_n rfl ?_
        refine ev_iload_n rfl ?_
        refine ev_icmpgt f381_9 (fun c32486 => ?_) (fun c32486 => ?_)
        · refine ev_iload_n rfl ?_
          refine ev_ret rfl (by decide) (by decide) ?_
          show jEv _ _ _ _ _ _ _ (_, [(2, 0), (2, (r1 : Int)), (0, a2), (0, a3), (0, v32463), (0, v32483), (0, (-2)), (9, 0), (9, 0)], [(0, v32485)], _, _, _)
          refine ev_istore (L' := [(2, 0), (2, (r1 : Int)), (0, a2), (0, a3), (0, v32463), (0, v32483), (0, (-2)), (0, v32485), (9, 0)]) (Nat.le_of_ble_eq_true rfl) rfl ?_
          refine ev_iconst ?_
          refine ev_istore (L' := [(2, 0), (2, (r1 : Int)), (0, a2), (0, a3), (0, v32463), (0, v32483), (0, (-2)), (0, v32485), (0, 1)]) (Nat.le_of_ble_eq_true rfl) rfl ?_
          exact (s231_l q1 la2 ua2 la3 ua3 82) _ _ _ _ _ _ g32464 k32464 (by omega) (by omega) (by omega) (by omega) (by omega) (by omega) (by omega) (by omega) (by omega) (by omega) (by omega) (by omega) (by omega) (by omega) (by omega)
        · refine ev_iload_n rfl ?_
          refine ev_goto f381_10 ?_
          refine ev_ret rfl (by decide) (by decide) ?_
          show jEv _ _ _ _ _ _ _ (_, [(2, 0), (2, (r1 : Int)), (0, a2), (0, a3), (0, v32463), (0, v32483), (0, (-2)), (9, 0), (9, 0)], [(0, 40)], _, _, _)
          refine ev_istore (L' := [(2, 0), (2, (r1 : Int)), (0, a2), (0, a3), (0, v32463), (0, v32483), (0, (-2)), (0, 40), (9, 0)]) (Nat.le_of_ble_eq_true rfl) rfl ?_
          refine ev_iconst ?_
          refine ev_istore (L' := [(2, 0), (2, (r1 : Int)), (0, a2), (0, a3), (0, v32463), (0, v32483), (0, (-2)), (0, 40), (0, 1)]) (Nat.le_of_ble_eq_true rfl) rfl ?_
          exact (s231_l q1 la2 ua2 la3 ua3 82) _ _ _ _ _ _ g32464 k32464 (by omega) (by omega) (by omega) (by omega) (by omega) (by omega) (by omega) (by omega) (by omega) (by omega) (by omega) (by omega) (by omega) (by omega) (by omega)
      · refine ev_bipush ?_
        refine ev_iload rfl ?_
        refine g_isubG (fun v32487 ev32487 lv32487 uv32487 => ?_)
        refine ev_goto f231_57 ?_
        refine ev_in (d := 4) (a := 0) (b := 0) (cd' := c381_0) (m := 2) (L0 := [(0, 40), (0, v32487)]) (jcall_s (A := [(0, v32487), (0, 40)]) (S' := []) (by decide) rfl (Nat.le_of_ble_eq_true rfl)) (by decide) ml381 pp381 (Nat.le_of_ble_eq_true rfl) rfl (by decide) (by decide) ?_
        refine ev_iload_n rfl ?_
        refine ev_iload_n rfl ?_
        refine ev_icmpgt f381_9 (fun c32488 => ?_) (fun c32488 => ?_)
        · refine ev_iload_n rfl ?_
          refine ev_ret rfl (by decide) (by decide) ?_
          show jEv _ _ _ _ _ _ _ (_, [(2, 0), (2, (r1 : Int)), (0, a2), (0, a3), (0, v32463), (0, v32483), (0, (-2)), (9, 0), (9, 0)], [(0, v32487)], _, _, _)
          refine ev_istore (L' := [(2, 0), (2, (r1 : Int)), (0, a2), (0, a3), (0, v32463), (0, v32483), (0, (-2)), (0, v32487), (9, 0)]) (Nat.le_of_ble_eq_true rfl) rfl ?_
          refine ev_iconst ?_
          refine ev_istore (L' := [(2, 0), (2, (r1 : Int)), (0, a2), (0, a3), (0, v32463), (0, v32483), (0, (-2)), (0, v32487), (0, 1)]) (Nat.le_of_ble_eq_true rfl) rfl ?_
          exact (s231_l q1 la2 ua2 la3 ua3 82) _ _ _ _ _ _ g32464 k32464 (by omega) (by omega) (by omega) (by omega) (by omega) (by omega) (by omega) (by omega) (by omega) (by omega) (by omega) (by omega) (by omega) (by omega) (by omega)
        · refine ev_iload_n rfl ?_
          refine ev_goto f381_10 ?_
          refine ev_ret rfl (by decide) (by decide) ?_
          show jEv _ _ _ _ _ _ _ (_, [(2, 0), (2, (r1 : Int)), (0, a2), (0, a3), (0, v32463), (0, v32483), (0, (-2)), (9, 0), (9, 0)], [(0, 40)], _, _, _)
          refine ev_istore (L' := [(2, 0), (2, (r1 : Int)), (0, a2), (0, a3), (0, v32463), (0, v32483), (0, (-2)), (0, 40), (9, 0)]) (Nat.le_of_ble_eq_true rfl) rfl ?_
          refine ev_iconst ?_
          refine ev_istore (L' := [(2, 0), (2, (r1 : Int)), (0, a2), (0, a3), (0, v32463), (0, v32483), (0, (-2)), (0, 40), (0, 1)]) (Nat.le_of_ble_eq_true rfl) rfl ?_
          exact (s231_l q1 la2 ua2 la3 ua3 82) _ _ _ _ _ _ g32464 k32464 (by omega) (by omega) (by omega) (by omega) (by omega) (by omega) (by omega) (by omega) (by omega) (by omega) (by omega) (by omega) (by omega) (by omega) (by omega)
/-! 190 edge -/
set_option maxHeartbeats 4000000 in
theorem s190 {G : GH} {h : JH} (g : Gd G h) {a1 : Int} (la1 : (-2147483648) ≤ a1) (ua1 : a1 ≤ 2147483647) {a2 : Int} (la2 : (-2147483648) ≤ a2) (ua2 : a2 ≤ 2147483647) {a3 : Int} (la3 : (-2147483648) ≤ a3) (ua3 : a3 ≤ 2147483647) : jOk 7 0 0 190 [(2, 0), (0, a1), (0, a2), (0, a3)] h (PI G [(1, 2), (1, 3), (5, 0), (6, 0), (4, 0), (1000000, 0)] h 0 (-4) 40) := by
  refine ⟨by decide, by rw [ml190]; exact Nat.le_of_ble_eq_true rfl, ?_⟩
  rw [ml190, pp190]
  show jEv _ none _ c190_0 0 0 _ (c190_0, [(2, 0), (0, a1), (0, a2), (0, a3), (9, 0)], [], h, 0, 0)
  have k0 := Kp.rf [(1, 2), (1, 3), (5, 0), (6, 0), (4, 0), (1000000, 0)] h
  refine ev_aload_n rfl ?_
  refine ev_iload_n rfl ?_
  refine ev_in (d := 5) (a := 0) (b := 0) (cd' := c219_0) (m := 2) (L0 := [(2, 0), (0, a1)]) (jcall_v (A := [(0, a1)]) (S' := []) (r := 0) rfl (g.lt ad0) (g.tg ad0) (Nat.le_of_ble_eq_true rfl)) (by decide) ml219 pp219 (Nat.le_of_ble_eq_true rfl) rfl (by decide) (by decide) ?_
  refine ev_iload_n rfl ?_
  refine ev_iflt f219_12 (fun c32615 => ?_) (fun c32615 => ?_)
  · refine ev_aconst_null ?_
    refine ev_goto f219_22 ?_
    refine ev_ret rfl (by decide) (by decide) ?_
    show jEv _ _ _ _ _ _ _ (_, [(2, 0), (0, a1), (0, a2), (0, a3), (9, 0)], [(2, (-1))], _, _, _)
    refine ev_astore (L' := [(2, 0), (0, a1), (0, a2), (0, a3), (2, (-1))]) (Nat.le_of_ble_eq_true rfl) rfl ?_
    refine ev_aload rfl ?_
    refine ev_ifnull f190_50 (fun c32616 => ?_) (fun c32616 => absurd c32616 (by decide))
    refine ev_iconst ?_
    exact ev_ret rfl (by decide) (by decide) ⟨_, rfl, by omega, by omega, g, k0⟩
  · refine ev_iload_n rfl ?_
    refine ev_aload_n rfl ?_
    obtain ⟨v32617, ev32617, lv32617, uv32617⟩ := g.rd ad0 (show 3 < 17 by decide) rf0_3
    refine g_getv (r := 0) (v := v32617) g ad0 (by decide) ft11_3 ev32617 ?_
    refine ev_icmplt f219_16 (fun c32618 => ?_) (fun c32618 => ?_)
    · refine ev_aload_n rfl ?_
      refine g_getp (r := 0) (c := 18) g ad0 (by decide) (by decide) rf0_2 ft11_2 ?_
      refine ev_iload_n rfl ?_
      refine g_qaald (g) (i := a1) (ev32617) (by omega) (by omega) (fun r32619 m32620 qr32619 => ?_)
      have wr32619 := g.qb qr32619
      have zr32619 := qr32619.1
      refine ev_ret rfl (by decide) (by decide) ?_
      show jEv _ _ _ _ _ _ _ (_, [(2, 0), (0, a1), (0, a2), (0, a3), (9, 0)], [(2, (r32619 : Int))], _, _, _)
      refine ev_astore (L' := [(2, 0), (0, a1), (0, a2), (0, a3), (2, (r32619 : Int))]) (Nat.le_of_ble_eq_true rfl) rfl ?_
      refine ev_aload rfl ?_
      refine ev_ifnull f190_50 (fun c32621 => absurd c32621 (by omega)) (fun c32621 => ?_)
      refine ev_iload_n rfl ?_
      refine ev_iflt f190_50 (fun c32622 => ?_) (fun c32622 => ?_)
      · refine ev_iconst ?_
        exact ev_ret rfl (by decide) (by decide) ⟨_, rfl, by omega, by omega, g, k0⟩
      · refine ev_aload_n rfl ?_
        refine g_getp (r := 0) (c := 1) g ad0 (by decide) (by decide) rf0_0 ft11_0 ?_
        refine ev_iload_n rfl ?_
        refine ev_bipush ?_
        refine g_idivP (c := 100) rfl (by decide) (by omega) (by omega) (fun v32623 ev32623 lv32623 uv32623 => ?_)
        refine ev_iload_n rfl ?_
        refine ev_bipush ?_
        refine g_idivP (c := 10) rfl (by decide) (by omega) (by omega) (fun v32624 ev32624 lv32624 uv32624 => ?_)
        refine ev_bipush ?_
        refine g_iremP (c := 10) rfl (by decide) (by omega) (fun v32625 ev32625 lv32625 uv32625 wv32625 => ?_)
        refine ev_iload_n rfl ?_
        refine ev_bipush ?_
        refine g_iremP (c := 10) rfl (by decide) (by omega) (fun v32626 ev32626 lv32626 uv32626 wv32626 => ?_)
        refine ev_in (d := 5) (a := 0) (b := 0) (cd' := c146_0) (m := 4) (L0 := [(2, 1), (0, v32623), (0, v32625), (0, v32626)]) (jcall_v (A := [(0, v32626), (0, v32625), (0, v32623)]) (S' := []) (r := 1) rfl (g.lt ad1) (g.tg ad1) (Nat.le_of_ble_eq_true rfl)) (by decide) ml146 pp146 (Nat.le_of_ble_eq_true rfl) rfl (by decide) (by decide) ?_
        refine ev_aload_n rfl ?_
        refine ev_iload_n rfl ?_
        refine ev_in (d := 4) (a := 0) (b := 0) (cd' := c140_0) (m := 2) (L0 := [(2, 1), (0, v32623)]) (jcall_v (A := [(0, v32623)]) (S' := []) (r := 1) rfl (g.lt ad1) (g.tg ad1) (Nat.le_of_ble_eq_true rfl)) (by decide) ml140 pp140 (Nat.le_of_ble_eq_true rfl) rfl (by decide) (by decide) ?_
        refine ev_iload_n rfl ?_
        refine ev_iflt f140_16 (fun c32627 => absurd c32627 (by omega)) (fun c32627 => ?_)
        refine ev_iload_n rfl ?_
        refine ev_aload_n rfl ?_
        obtain ⟨v32628, ev32628, lv32628, uv32628⟩ := g.rd ad1 (show 0 < 8 by decide) rf1_0
        refine g_getv (r := 1) (v := v32628) g ad1 (by decide) ft10_0 ev32628 ?_
        refine ev_icmpge f140_16 (fun c32629 => ?_) (fun c32629 => ?_)
        · refine ev_iconst ?_
          refine ev_ret rfl (by decide) (by decide) ?_
          show jEv _ _ _ _ _ _ _ (_, [(2, 1), (0, v32623), (0, v32625), (0, v32626)], [(0, 0)], _, _, _)
          refine ev_ifeq f146_39 (fun c32630 => ?_) (fun c32630 => absurd c32630 (by omega))
          refine ev_iconst ?_
          refine ev_ret rfl (by decide) (by decide) ?_
          show jEv _ _ _ _ _ _ _ (_, [(2, 0), (0, a1), (0, a2), (0, a3), (2, (r32619 : Int))], [(0, 0)], _, _, _)
          refine ev_ifeq f190_50 (fun c32631 => ?_) (fun c32631 => absurd c32631 (by omega))
          refine ev_iconst ?_
          exact ev_ret rfl (by decide) (by decide) ⟨_, rfl, by omega, by omega, g, k0⟩
        · refine ev_iconst ?_
          refine ev_goto f140_17 ?_
          refine ev_ret rfl (by decide) (by decide) ?_
          show jEv _ _ _ _ _ _ _ (_, [(2, 1), (0, v32623), (0, v32625), (0, v32626)], [(0, 1)], _, _, _)
          refine ev_ifeq f146_39 (fun c32632 => absurd c32632 (by omega)) (fun c32632 => ?_)
          refine ev_iload_n rfl ?_
          refine ev_iflt f146_39 (fun c32633 => absurd c32633 (by omega)) (fun c32633 => ?_)
          refine ev_iload_n rfl ?_
          refine ev_aload_n rfl ?_
          refine ev_iload_n rfl ?_
          refine ev_in (d := 4) (a := 0) (b := 0) (cd' := c145_0) (m := 2) (L0 := [(2, 1), (0, v32623)]) (jcall_v (A := [(0, v32623)]) (S' := [(0, v32625)]) (r := 1) rfl (g.lt ad1) (g.tg ad1) (Nat.le_of_ble_eq_true rfl)) (by decide) ml145 pp145 (Nat.le_of_ble_eq_true rfl) rfl (by decide) (by decide) ?_
          refine ev_aload_n rfl ?_
          refine g_getp (r := 1) (c := 3) g ad1 (by decide) (by decide) rf1_4 ft10_4 ?_
          refine ev_iload_n rfl ?_
          refine g_iald g ad3 rt3 (by omega) (by omega) (fun v32634 ev32634 lv32634 uv32634 => ?_)
          refine ev_ifge f145_13 (fun c32635 => ?_) (fun c32635 => ?_)
          · refine ev_aload_n rfl ?_
            refine g_getp (r := 1) (c := 2) g ad1 (by decide) (by decide) rf1_3 ft10_3 ?_
            refine ev_aload_n rfl ?_
            refine g_getp (r := 1) (c := 3) g ad1 (by decide) (by decide) rf1_4 ft10_4 ?_
            refine ev_iload_n rfl ?_
            refine g_ialdv (v := v32634) g ad3 (by omega) (by omega) (ev32634) ?_
            refine g_iald g ad2 rt2 (by omega) (by omega) (fun v32636 ev32636 lv32636 uv32636 => ?_)
            refine ev_ret rfl (by decide) (by decide) ?_
            show jEv _ _ _ _ _ _ _ (_, [(2, 1), (0, v32623), (0, v32625), (0, v32626)], [(0, v32636), (0, v32625)], _, _, _)
            refine ev_icmpge f146_39 (fun c32637 => ?_) (fun c32637 => ?_)
            · refine ev_iconst ?_
              refine ev_ret rfl (by decide) (by decide) ?_
              show jEv _ _ _ _ _ _ _ (_, [(2, 0), (0, a1), (0, a2), (0, a3), (2, (r32619 : Int))], [(0, 0)], _, _, _)
              refine ev_ifeq f190_50 (fun c32638 => ?_) (fun c32638 => absurd c32638 (by omega))
              refine ev_iconst ?_
              exact ev_ret rfl (by decide) (by decide) ⟨_, rfl, by omega, by omega, g, k0⟩
            · refine ev_iload_n rfl ?_
              refine ev_iflt f146_39 (fun c32639 => absurd c32639 (by omega)) (fun c32639 => ?_)
              refine ev_iload_n rfl ?_
              refine ev_aload_n rfl ?_
              refine g_getp (r := 1) (c := 2) g ad1 (by decide) (by decide) rf1_3 ft10_3 ?_
              refine ev_iload_n rfl ?_
              refine g_iald g ad2 rt2 (by omega) (by omega) (fun v32640 ev32640 lv32640 uv32640 => ?_)
              refine ev_icmpge f146_39 (fun c32641 => ?_) (fun c32641 => ?_)
              · refine ev_iconst ?_
                refine ev_ret rfl (by decide) (by decide) ?_
                show jEv _ _ _ _ _ _ _ (_, [(2, 0), (0, a1), (0, a2), (0, a3), (2, (r32619 : Int))], [(0, 0)], _, _, _)
                refine ev_ifeq f190_50 (fun c32642 => ?_) (fun c32642 => absurd c32642 (by omega))
                refine ev_iconst ?_
                exact ev_ret rfl (by decide) (by decide) ⟨_, rfl, by omega, by omega, g, k0⟩
              · refine ev_iconst ?_
                refine ev_goto f146_40 ?_
                refine ev_ret rfl (by decide) (by decide) ?_
                show jEv _ _ _ _ _ _ _ (_, [(2, 0), (0, a1), (0, a2), (0, a3), (2, (r32619 : Int))], [(0, 1)], _, _, _)
                refine ev_ifeq f190_50 (fun c32643 => absurd c32643 (by omega)) (fun c32643 => ?_)
                refine ev_iload_n rfl ?_
                refine ev_iflt f190_50 (fun c32644 => ?_) (fun c32644 => ?_)
                · refine ev_iconst ?_
                  exact ev_ret rfl (by decide) (by decide) ⟨_, rfl, by omega, by omega, g, k0⟩
                · refine ev_iload_n rfl ?_
                  refine ev_iconst ?_
                  refine ev_icmple f190_52 (fun c32645 => ?_) (fun c32645 => ?_)
                  · refine ev_aload_n rfl ?_
                    refine g_getp (r := 0) (c := 1) g ad0 (by decide) (by decide) rf0_0 ft11_0 ?_
                    refine ev_call (jcall_v (A := []) (S' := []) (r := 1) rfl (g.lt ad1) (g.tg ad1) (Nat.le_of_ble_eq_true rfl)) (jOk_le (by decide) (s153 g )) (by decide) (by decide) (fun w32646 h32646 q32646 => ?_)
                    obtain ⟨v32647, rfl, lv32647, uv32647, g32646, kk32646⟩ := q32646
                    have k32646 := k0.tr kk32646 (by decide)
                    show jEv _ _ _ _ _ _ _ (_, [(2, 0), (0, a1), (0, a2), (0, a3), (2, (r32619 : Int))], [(0, v32647)], _, _, _)
                    refine ev_ifne f190_65 (fun c32648 => ?_) (fun c32648 => ?_)
                    · refine ev_aload rfl ?_
                      obtain ⟨v32649, ev32649, lv32649, uv32649⟩ := g32646.q1 qr32619
                      refine g_qgetv (v := v32649) g32646 qr32619 ft4_1 ev32649 ?_
                      refine ev_ifge f190_78 (fun c32650 => ?_) (fun c32650 => ?_)
                      · refine ev_aload_n rfl ?_
                        refine ev_aload rfl ?_
                        refine ev_iload_n rfl ?_
                        refine ev_bipush ?_
                        refine g_idivP (c := 100) rfl (by decide) (by omega) (by omega) (fun v32651 ev32651 lv32651 uv32651 => ?_)
                        obtain rfl : v32623 = v32651 := by omega
                        refine ev_iload_n rfl ?_
                        refine ev_bipush ?_
                        refine g_idivP (c := 10) rfl (by decide) (by omega) (by omega) (fun v32652 ev32652 lv32652 uv32652 => ?_)
                        obtain rfl : v32624 = v32652 := by omega
                        refine ev_bipush ?_
                        refine g_iremP (c := 10) rfl (by decide) (by omega) (fun v32653 ev32653 lv32653 uv32653 wv32653 => ?_)
                        obtain rfl : v32625 = v32653 := by omega
                        refine ev_iload_n rfl ?_
                        refine ev_bipush ?_
                        refine g_iremP (c := 10) rfl (by decide) (by omega) (fun v32654 ev32654 lv32654 uv32654 wv32654 => ?_)
                        obtain rfl : v32626 = v32654 := by omega
                        refine ev_in (d := 5) (a := 0) (b := 0) (cd' := c147_0) (m := 3) (L0 := [(0, v32623), (0, v32625), (0, v32626)]) (jcall_s (A := [(0, v32626), (0, v32625), (0, v32623)]) (S' := [(2, (r32619 : Int)), (2, 0)]) (by decide) rfl (Nat.le_of_ble_eq_true rfl)) (by decide) ml147 pp147 (Nat.le_of_ble_eq_true rfl) rfl (by decide) (by decide) ?_
                        refine ev_bipush ?_
                        refine ev_iload_n rfl ?_
                        refine ev_imul (r := (9 * v32623)) (by unfold w32; omega) ?_
                        refine ev_iconst ?_
                        refine ev_iload_n rfl ?_
                        refine ev_imul (r := (3 * v32625)) (by unfold w32; omega) ?_
                        refine ev_iadd (r := (9 * v32623 + 3 * v32625)) (by unfold w32; omega) ?_
                        refine ev_iload_n rfl ?_
                        refine ev_iadd (r := (9 * v32623 + 3 * v32625 + v32626)) (by unfold w32; omega) ?_
                        refine ev_ret rfl (by decide) (by decide) ?_
                        show jEv _ _ _ _ _ _ _ (_, [(2, 0), (0, a1), (0, a2), (0, a3), (2, (r32619 : Int))], [(0, (9 * v32623 + 3 * v32625 + v32626)), (2, (r32619 : Int)), (2, 0)], _, _, _)
                        refine ev_iload_n rfl ?_
                        refine ev_call (jcall_v (A := [(0, a3), (0, (9 * v32623 + 3 * v32625 + v32626)), (2, (r32619 : Int))]) (S' := []) (r := 0) rfl (g32646.lt ad0) (g32646.tg ad0) (Nat.le_of_ble_eq_true rfl)) (jOk_le (by decide) (s231 g32646 qr32619 (by omega) (by omega) (by omega) (by omega))) (by decide) (by decide) (fun w32655 h32655 q32655 => ?_)
                        obtain ⟨v32656, rfl, lv32656, uv32656, g32655, kk32655⟩ := q32655
                        have k32655 := k32646.tr kk32655 (by decide)
                        show jEv _ _ _ _ _ _ _ (_, [(2, 0), (0, a1), (0, a2), (0, a3), (2, (r32619 : Int))], [(0, v32656)], _, _, _)
                        exact ev_ret rfl (by decide) (by decide) ⟨_, rfl, by omega, by omega, g32655, k32655⟩
                      · refine ev_bipush ?_
                        refine ev_goto f190_103 ?_
                        exact ev_ret rfl (by decide) (by decide) ⟨_, rfl, by omega, by omega, g32646, k32646⟩
                    · refine ev_bipush ?_
                      exact ev_ret rfl (by decide) (by decide) ⟨_, rfl, by omega, by omega, g32646, k32646⟩
                  · refine ev_iconst ?_
                    exact ev_ret rfl (by decide) (by decide) ⟨_, rfl, by omega, by omega, g, k0⟩
          · refine ev_iconst ?_
            refine ev_goto f145_24 ?_
            refine ev_ret rfl (by decide) (by decide) ?_
            show jEv _ _ _ _ _ _ _ (_, [(2, 1), (0, v32623), (0, v32625), (0, v32626)], [(0, 1), (0, v32625)], _, _, _)
            refine ev_icmpge f146_39 (fun c32657 => ?_) (fun c32657 => ?_)
            · refine ev_iconst ?_
              refine ev_ret rfl (by decide) (by decide) ?_
              show jEv _ _ _ _ _ _ _ (_, [(2, 0), (0, a1), (0, a2), (0, a3), (2, (r32619 : Int))], [(0, 0)], _, _, _)
              refine ev_ifeq f190_50 (fun c32658 => ?_) (fun c32658 => absurd c32658 (by omega))
              refine ev_iconst ?_
              exact ev_ret rfl (by decide) (by decide) ⟨_, rfl, by omega, by omega, g, k0⟩
            · refine ev_iload_n rfl ?_
              refine ev_iflt f146_39 (fun c32659 => absurd c32659 (by omega)) (fun c32659 => ?_)
              refine ev_iload_n rfl ?_
              refine ev_aload_n rfl ?_
              refine g_getp (r := 1) (c := 2) g ad1 (by decide) (by decide) rf1_3 ft10_3 ?_
              refine ev_iload_n rfl ?_
              refine g_iald g ad2 rt2 (by omega) (by omega) (fun v32660 ev32660 lv32660 uv32660 => ?_)
              refine ev_icmpge f146_39 (fun c32661 => ?_) (fun c32661 => ?_)
              · refine ev_iconst ?_
                refine ev_ret rfl (by decide) (by decide) ?_
                show jEv _ _ _ _ _ _ _ (_, [(2, 0), (0, a1), (0, a2), (0, a3), (2, (r32619 : Int))], [(0, 0)], _, _, _)
                refine ev_ifeq f190_50 (fun c32662 => ?_) (fun c32662 => absurd c32662 (by omega))
                refine ev_iconst ?_
                exact ev_ret rfl (by decide) (by decide) ⟨_, rfl, by omega, by omega, g, k0⟩
              · refine ev_iconst ?_
                refine ev_goto f146_40 ?_
                refine ev_ret rfl (by decide) (by decide) ?_
                show jEv _ _ _ _ _ _ _ (_, [(2, 0), (0, a1), (0, a2), (0, a3), (2, (r32619 : Int))], [(0, 1)], _, _, _)
                refine ev_ifeq f190_50 (fun c32663 => absurd c32663 (by omega)) (fun c32663 => ?_)
                refine ev_iload_n rfl ?_
                refine ev_iflt f190_50 (fun c32664 => ?_) (fun c32664 => ?_)
                · refine ev_iconst ?_
                  exact ev_ret rfl (by decide) (by decide) ⟨_, rfl, by omega, by omega, g, k0⟩
                · refine ev_iload_n rfl ?_
                  refine ev_iconst ?_
                  refine ev_icmple f190_52 (fun c32665 => ?_) (fun c32665 => ?_)
                  · refine ev_aload_n rfl ?_
                    refine g_getp (r := 0) (c := 1) g ad0 (by decide) (by decide) rf0_0 ft11_0 ?_
                    refine ev_call (jcall_v (A := []) (S' := []) (r := 1) rfl (g.lt ad1) (g.tg ad1) (Nat.le_of_ble_eq_true rfl)) (jOk_le (by decide) (s153 g )) (by decide) (by decide) (fun w32666 h32666 q32666 => ?_)
                    obtain ⟨v32667, rfl, lv32667, uv32667, g32666, kk32666⟩ := q32666
                    have k32666 := k0.tr kk32666 (by decide)
                    show jEv _ _ _ _ _ _ _ (_, [(2, 0), (0, a1), (0, a2), (0, a3), (2, (r32619 : Int))], [(0, v32667)], _, _, _)
                    refine ev_ifne f190_65 (fun c32668 => ?_) (fun c32668 => ?_)
                    · refine ev_aload rfl ?_
                      obtain ⟨v32669, ev32669, lv32669, uv32669⟩ := g32666.q1 qr32619
                      refine g_qgetv (v := v32669) g32666 qr32619 ft4_1 ev32669 ?_
                      refine ev_ifge f190_78 (fun c32670 => ?_) (fun c32670 => ?_)
                      · refine ev_aload_n rfl ?_
                        refine ev_aload rfl ?_
                        refine ev_iload_n rfl ?_
                        refine ev_bipush ?_
                        refine g_idivP (c := 100) rfl (by decide) (by omega) (by omega) (fun v32671 ev32671 lv32671 uv32671 => ?_)
                        obtain rfl : v32623 = v32671 := by omega
                        refine ev_iload_n rfl ?_
                        refine ev_bipush ?_
                        refine g_idivP (c := 10) rfl (by decide) (by omega) (by omega) (fun v32672 ev32672 lv32672 uv32672 => ?_)
                        obtain rfl : v32624 = v32672 := by omega
                        refine ev_bipush ?_
                        refine g_iremP (c := 10) rfl (by decide) (by omega) (fun v32673 ev32673 lv32673 uv32673 wv32673 => ?_)
                        obtain rfl : v32625 = v32673 := by omega
                        refine ev_iload_n rfl ?_
                        refine ev_bipush ?_
                        refine g_iremP (c := 10) rfl (by decide) (by omega) (fun v32674 ev32674 lv32674 uv32674 wv32674 => ?_)
                        obtain rfl : v32626 = v32674 := by omega
                        refine ev_in (d := 5) (a := 0) (b := 0) (cd' := c147_0) (m := 3) (L0 := [(0, v32623), (0, v32625), (0, v32626)]) (jcall_s (A := [(0, v32626), (0, v32625), (0, v32623)]) (S' := [(2, (r32619 : Int)), (2, 0)]) (by decide) rfl (Nat.le_of_ble_eq_true rfl)) (by decide) ml147 pp147 (Nat.le_of_ble_eq_true rfl) rfl (by decide) (by decide) ?_
                        refine ev_bipush ?_
                        refine ev_iload_n rfl ?_
                        refine ev_imul (r := (9 * v32623)) (by unfold w32; omega) ?_
                        refine ev_iconst ?_
                        refine ev_iload_n rfl ?_
                        refine ev_imul (r := (3 * v32625)) (by unfold w32; omega) ?_
                        refine ev_iadd (r := (9 * v32623 + 3 * v32625)) (by unfold w32; omega) ?_
                        refine ev_iload_n rfl ?_
                        refine ev_iadd (r := (9 * v32623 + 3 * v32625 + v32626)) (by unfold w32; omega) ?_
                        refine ev_ret rfl (by decide) (by decide) ?_
                        show jEv _ _ _ _ _ _ _ (_, [(2, 0), (0, a1), (0, a2), (0, a3), (2, (r32619 : Int))], [(0, (9 * v32623 + 3 * v32625 + v32626)), (2, (r32619 : Int)), (2, 0)], _, _, _)
                        refine ev_iload_n rfl ?_
                        refine ev_call (jcall_v (A := [(0, a3), (0, (9 * v32623 + 3 * v32625 + v32626)), (2, (r32619 : Int))]) (S' := []) (r := 0) rfl (g32666.lt ad0) (g32666.tg ad0) (Nat.le_of_ble_eq_true rfl)) (jOk_le (by decide) (s231 g32666 qr32619 (by omega) (by omega) (by omega) (by omega))) (by decide) (by decide) (fun w32675 h32675 q32675 => ?_)
                        obtain ⟨v32676, rfl, lv32676, uv32676, g32675, kk32675⟩ := q32675
                        have k32675 := k32666.tr kk32675 (by decide)
                        show jEv _ _ _ _ _ _ _ (_, [(2, 0), (0, a1), (0, a2), (0, a3), (2, (r32619 : Int))], [(0, v32676)], _, _, _)
                        exact ev_ret rfl (by decide) (by decide) ⟨_, rfl, by omega, by omega, g32675, k32675⟩
                      · refine ev_bipush ?_
                        refine ev_goto f190_103 ?_
                        exact ev_ret rfl (by decide) (by decide) ⟨_, rfl, by omega, by omega, g32666, k32666⟩
                    · refine ev_bipush ?_
                      exact ev_ret rfl (by decide) (by decide) ⟨_, rfl, by omega, by omega, g32666, k32666⟩
                  · refine ev_iconst ?_
                    exact ev_ret rfl (by decide) (by decide) ⟨_, rfl, by omega, by omega, g, k0⟩
    · refine ev_aconst_null ?_
      refine ev_goto f219_22 ?_
      refine ev_ret rfl (by decide) (by decide) ?_
      show jEv _ _ _ _ _ _ _ (_, [(2, 0), (0, a1), (0, a2), (0, a3), (9, 0)], [(2, (-1))], _, _, _)
      refine ev_astore (L' := [(2, 0), (0, a1), (0, a2), (0, a3), (2, (-1))]) (Nat.le_of_ble_eq_true rfl) rfl ?_
      refine ev_aload rfl ?_
      refine ev_ifnull f190_50 (fun c32677 => ?_) (fun c32677 => absurd c32677 (by decide))
      refine ev_iconst ?_
      exact ev_ret rfl (by decide) (by decide) ⟨_, rfl, by omega, by omega, g, k0⟩
/-! 191 edgeOf -/
set_option maxHeartbeats 4000000 in
theorem s191 {G : GH} {h : JH} (g : Gd G h) {a1 : Int} (la1 : (-2147483648) ≤ a1) (ua1 : a1 ≤ 2147483647) {a2 : Int} (la2 : (-2147483648) ≤ a2) (ua2 : a2 ≤ 2147483647) {a3 : Int} (la3 : (-2147483648) ≤ a3) (ua3 : a3 ≤ 2147483647) {a4 : Int} (la4 : (-2147483648) ≤ a4) (ua4 : a4 ≤ 2147483647) : jOk 6 0 0 191 [(2, 0), (0, a1), (0, a2), (0, a3), (0, a4)] h (PI G [(1, 2), (1, 3), (5, 0), (6, 0), (4, 0), (1000000, 0)] h 0 (-4) 40) := by
  refine ⟨by decide, by rw [ml191]; exact Nat.le_of_ble_eq_true rfl, ?_⟩
  rw [ml191, pp191]
  show jEv _ none _ c191_0 0 0 _ (c191_0, [(2, 0), (0, a1), (0, a2), (0, a3), (0, a4), (9, 0), (9, 0)], [], h, 0, 0)
  have k0 := Kp.rf [(1, 2), (1, 3), (5, 0), (6, 0), (4, 0), (1000000, 0)] h
  refine ev_aload_n rfl ?_
  refine ev_iload_n rfl ?_
  refine ev_in (d := 4) (a := 0) (b := 0) (cd' := c219_0) (m := 2) (L0 := [(2, 0), (0, a1)]) (jcall_v (A := [(0, a1)]) (S' := []) (r := 0) rfl (g.lt ad0) (g.tg ad0) (Nat.le_of_ble_eq_true rfl)) (by decide) ml219 pp219 (Nat.le_of_ble_eq_true rfl) rfl (by decide) (by decide) ?_
  refine ev_iload_n rfl ?_
  refine ev_iflt f219_12 (fun c32804 => ?_) (fun c32804 => ?_)
  · refine ev_aconst_null ?_
    refine ev_goto f219_22 ?_
    refine ev_ret rfl (by decide) (by decide) ?_
    show jEv _ _ _ _ _ _ _ (_, [(2, 0), (0, a1), (0, a2), (0, a3), (0, a4), (9, 0), (9, 0)], [(2, (-1))], _, _, _)
    refine ev_astore (L' := [(2, 0), (0, a1), (0, a2), (0, a3), (0, a4), (2, (-1)), (9, 0)]) (Nat.le_of_ble_eq_true rfl) rfl ?_
    refine ev_aload rfl ?_
    refine ev_ifnull f191_33 (fun c32805 => ?_) (fun c32805 => absurd c32805 (by decide))
    refine ev_iconst ?_
    exact ev_ret rfl (by decide) (by decide) ⟨_, rfl, by omega, by omega, g, k0⟩
  · refine ev_iload_n rfl ?_
    refine ev_aload_n rfl ?_
    obtain ⟨v32806, ev32806, lv32806, uv32806⟩ := g.rd ad0 (show 3 < 17 by decide) rf0_3
    refine g_getv (r := 0) (v := v32806) g ad0 (by decide) ft11_3 ev32806 ?_
    refine ev_icmplt f219_16 (fun c32807 => ?_) (fun c32807 => ?_)
    · refine ev_aload_n rfl ?_
      refine g_getp (r := 0) (c := 18) g ad0 (by decide) (by decide) rf0_2 ft11_2 ?_
      refine ev_iload_n rfl ?_
      refine g_qaald (g) (i := a1) (ev32806) (by omega) (by omega) (fun r32808 m32809 qr32808 => ?_)
      have wr32808 := g.qb qr32808
      have zr32808 := qr32808.1
      refine ev_ret rfl (by decide) (by decide) ?_
      show jEv _ _ _ _ _ _ _ (_, [(2, 0), (0, a1), (0, a2), (0, a3), (0, a4), (9, 0), (9, 0)], [(2, (r32808 : Int))], _, _, _)
      refine ev_astore (L' := [(2, 0), (0, a1), (0, a2), (0, a3), (0, a4), (2, (r32808 : Int)), (9, 0)]) (Nat.le_of_ble_eq_true rfl) rfl ?_
      refine ev_aload rfl ?_
      refine ev_ifnull f191_33 (fun c32810 => absurd c32810 (by omega)) (fun c32810 => ?_)
      refine ev_aload rfl ?_
      refine ev_iload_n rfl ?_
      refine ev_iload_n rfl ?_
      refine ev_in (d := 4) (a := 0) (b := 0) (cd' := c32_0) (m := 3) (L0 := [(2, (r32808 : Int)), (0, a2), (0, a3)]) (jcall_v (A := [(0, a3), (0, a2)]) (S' := []) (r := r32808) rfl (g.qlt qr32808) (g.qtg qr32808) (Nat.le_of_ble_eq_true rfl)) (by decide) ml32 pp32 (Nat.le_of_ble_eq_true rfl) rfl (by decide) (by decide) ?_
      refine ev_iload_n rfl ?_
      refine ev_iconst ?_
      refine ev_icmpne f32_30 (fun c32811 => ?_) (fun c32811 => ?_)
      · refine ev_aload_n rfl ?_
        refine ev_iload_n rfl ?_
        refine ev_iload_n rfl ?_
        refine ev_in (d := 3) (a := 0) (b := 0) (cd' := c26_0) (m := 3) (L0 := [(2, (r32808 : Int)), (0, a2), (0, a3)]) (jcall_v (A := [(0, a3), (0, a2)]) (S' := []) (r := r32808) rfl (g.qlt qr32808) (g.qtg qr32808) (Nat.le_of_ble_eq_true rfl)) (by decide) ml26 pp26 (Nat.le_of_ble_eq_true rfl) rfl (by decide) (by decide) ?_
        refine ev_aload_n rfl ?_
        refine ev_iload_n rfl ?_
        refine ev_iload_n rfl ?_
        refine ev_in (d := 2) (a := 0) (b := 0) (cd' := c25_0) (m := 3) (L0 := [(2, (r32808 : Int)), (0, a2), (0, a3)]) (jcall_v (A := [(0, a3), (0, a2)]) (S' := []) (r := r32808) rfl (g.qlt qr32808) (g.qtg qr32808) (Nat.le_of_ble_eq_true rfl)) (by decide) ml25 pp25 (Nat.le_of_ble_eq_true rfl) rfl (by decide) (by decide) ?_
        refine ev_aload_n rfl ?_
        refine ev_iload_n rfl ?_
        refine ev_in (d := 1) (a := 0) (b := 0) (cd' := c24_0) (m := 2) (L0 := [(2, (r32808 : Int)), (0, a2)]) (jcall_v (A := [(0, a2)]) (S' := []) (r := r32808) rfl (g.qlt qr32808) (g.qtg qr32808) (Nat.le_of_ble_eq_true rfl)) (by decide) ml24 pp24 (Nat.le_of_ble_eq_true rfl) rfl (by decide) (by decide) ?_
        refine ev_iload_n rfl ?_
        refine ev_iflt f24_16 (fun c32812 => ?_) (fun c32812 => ?_)
        · refine ev_iconst ?_
          refine ev_ret rfl (by decide) (by decide) ?_
          show jEv _ _ _ _ _ _ _ (_, [(2, (r32808 : Int)), (0, a2), (0, a3)], [(0, 0)], _, _, _)
          refine ev_ifeq f25_26 (fun c32813 => ?_) (fun c32813 => absurd c32813 (by omega))
          refine ev_iconst ?_
          refine ev_ret rfl (by decide) (by decide) ?_
          show jEv _ _ _ _ _ _ _ (_, [(2, (r32808 : Int)), (0, a2), (0, a3)], [(0, 0)], _, _, _)
          refine ev_ifeq f26_23 (fun c32814 => ?_) (fun c32814 => absurd c32814 (by omega))
          refine ev_iconst ?_
          refine ev_ret rfl (by decide) (by decide) ?_
          show jEv _ _ _ _ _ _ _ (_, [(2, (r32808 : Int)), (0, a2), (0, a3)], [(0, 0)], _, _, _)
          refine ev_ret rfl (by decide) (by decide) ?_
          show jEv _ _ _ _ _ _ _ (_, [(2, 0), (0, a1), (0, a2), (0, a3), (0, a4), (2, (r32808 : Int)), (9, 0)], [(0, 0)], _, _, _)
          refine ev_ifeq f191_33 (fun c32815 => ?_) (fun c32815 => absurd c32815 (by omega))
          refine ev_iconst ?_
          exact ev_ret rfl (by decide) (by decide) ⟨_, rfl, by omega, by omega, g, k0⟩
        · refine ev_iload_n rfl ?_
          refine ev_aload_n rfl ?_
          obtain ⟨v32816, ev32816, lv32816, uv32816⟩ := g.q0 qr32808
          refine g_qgetv (v := v32816) g qr32808 ft4_0 ev32816 ?_
          refine ev_icmpge f24_16 (fun c32817 => ?_) (fun c32817 => ?_)
          · refine ev_iconst ?_
            refine ev_ret rfl (by decide) (by decide) ?_
            show jEv _ _ _ _ _ _ _ (_, [(2, (r32808 : Int)), (0, a2), (0, a3)], [(0, 0)], _, _, _)
            refine ev_ifeq f25_26 (fun c32818 => ?_) (fun c32818 => absurd c32818 (by omega))
            refine ev_iconst ?_
            refine ev_ret rfl (by decide) (by decide) ?_
            show jEv _ _ _ _ _ _ _ (_, [(2, (r32808 : Int)), (0, a2), (0, a3)], [(0, 0)], _, _, _)
            refine ev_ifeq f26_23 (fun c32819 => ?_) (fun c32819 => absurd c32819 (by omega))
            refine ev_iconst ?_
            refine ev_ret rfl (by decide) (by decide) ?_
            show jEv _ _ _ _ _ _ _ (_, [(2, (r32808 : Int)), (0, a2), (0, a3)], [(0, 0)], _, _, _)
            refine ev_ret rfl (by decide) (by decide) ?_
            show jEv _ _ _ _ _ _ _ (_, [(2, 0), (0, a1), (0, a2), (0, a3), (0, a4), (2, (r32808 : Int)), (9, 0)], [(0, 0)], _, _, _)
            refine ev_ifeq f191_33 (fun c32820 => ?_) (fun c32820 => absurd c32820 (by omega))
            refine ev_iconst ?_
            exact ev_ret rfl (by decide) (by decide) ⟨_, rfl, by omega, by omega, g, k0⟩
          · refine ev_iconst ?_
            refine ev_goto f24_17 ?_
            refine ev_ret rfl (by decide) (by decide) ?_
            show jEv _ _ _ _ _ _ _ (_, [(2, (r32808 : Int)), (0, a2), (0, a3)], [(0, 1)], _, _, _)
            refine ev_ifeq f25_26 (fun c32821 => absurd c32821 (by omega)) (fun c32821 => ?_)
            refine ev_iload_n rfl ?_
            refine ev_iflt f25_26 (fun c32822 => ?_) (fun c32822 => ?_)
            · refine ev_iconst ?_
              refine ev_ret rfl (by decide) (by decide) ?_
              show jEv _ _ _ _ _ _ _ (_, [(2, (r32808 : Int)), (0, a2), (0, a3)], [(0, 0)], _, _, _)
              refine ev_ifeq f26_23 (fun c32823 => ?_) (fun c32823 => absurd c32823 (by omega))
              refine ev_iconst ?_
              refine ev_ret rfl (by decide) (by decide) ?_
              show jEv _ _ _ _ _ _ _ (_, [(2, (r32808 : Int)), (0, a2), (0, a3)], [(0, 0)], _, _, _)
              refine ev_ret rfl (by decide) (by decide) ?_
              show jEv _ _ _ _ _ _ _ (_, [(2, 0), (0, a1), (0, a2), (0, a3), (0, a4), (2, (r32808 : Int)), (9, 0)], [(0, 0)], _, _, _)
              refine ev_ifeq f191_33 (fun c32824 => ?_) (fun c32824 => absurd c32824 (by omega))
              refine ev_iconst ?_
              exact ev_ret rfl (by decide) (by decide) ⟨_, rfl, by omega, by omega, g, k0⟩
            · refine ev_iload_n rfl ?_
              refine ev_aload_n rfl ?_
              refine g_qgetp g qr32808 (c := 4) (by decide) (by decide) ft4_4 ?_
              refine ev_iload_n rfl ?_
              refine g_qiald g qr32808 (c := 4) (by decide) (by decide) (by decide) (by omega) (by show a2 < m32809; omega) rfl (fun v32825 ev32825 lv32825 uv32825 => ?_)
              refine ev_icmpge f25_26 (fun c32826 => ?_) (fun c32826 => ?_)
              · refine ev_iconst ?_
                refine ev_ret rfl (by decide) (by decide) ?_
                show jEv _ _ _ _ _ _ _ (_, [(2, (r32808 : Int)), (0, a2), (0, a3)], [(0, 0)], _, _, _)
                refine ev_ifeq f26_23 (fun c32827 => ?_) (fun c32827 => absurd c32827 (by omega))
                refine ev_iconst ?_
                refine ev_ret rfl (by decide) (by decide) ?_
                show jEv _ _ _ _ _ _ _ (_, [(2, (r32808 : Int)), (0, a2), (0, a3)], [(0, 0)], _, _, _)
                refine ev_ret rfl (by decide) (by decide) ?_
                show jEv _ _ _ _ _ _ _ (_, [(2, 0), (0, a1), (0, a2), (0, a3), (0, a4), (2, (r32808 : Int)), (9, 0)], [(0, 0)], _, _, _)
                refine ev_ifeq f191_33 (fun c32828 => ?_) (fun c32828 => absurd c32828 (by omega))
                refine ev_iconst ?_
                exact ev_ret rfl (by decide) (by decide) ⟨_, rfl, by omega, by omega, g, k0⟩
              · refine ev_iconst ?_
                refine ev_goto f25_27 ?_
                refine ev_ret rfl (by decide) (by decide) ?_
                show jEv _ _ _ _ _ _ _ (_, [(2, (r32808 : Int)), (0, a2), (0, a3)], [(0, 1)], _, _, _)
                refine ev_ifeq f26_23 (fun c32829 => absurd c32829 (by omega)) (fun c32829 => ?_)
                refine ev_aload_n rfl ?_
                refine g_qgetp g qr32808 (c := 2) (by decide) (by decide) ft4_2 ?_
                refine ev_iload_n rfl ?_
                refine g_qiald g qr32808 (c := 2) (by decide) (by decide) (by decide) (by omega) (by show a2 < m32809; omega) rfl (fun v32830 ev32830 lv32830 uv32830 => ?_)
                refine ev_iconst ?_
                refine ev_icmpne f26_23 (fun c32831 => ?_) (fun c32831 => ?_)
                · refine ev_iconst ?_
                  refine ev_ret rfl (by decide) (by decide) ?_
                  show jEv _ _ _ _ _ _ _ (_, [(2, (r32808 : Int)), (0, a2), (0, a3)], [(0, 0)], _, _, _)
                  refine ev_ret rfl (by decide) (by decide) ?_
                  show jEv _ _ _ _ _ _ _ (_, [(2, 0), (0, a1), (0, a2), (0, a3), (0, a4), (2, (r32808 : Int)), (9, 0)], [(0, 0)], _, _, _)
                  refine ev_ifeq f191_33 (fun c32832 => ?_) (fun c32832 => absurd c32832 (by omega))
                  refine ev_iconst ?_
                  exact ev_ret rfl (by decide) (by decide) ⟨_, rfl, by omega, by omega, g, k0⟩
                · refine ev_iconst ?_
                  refine ev_goto f26_24 ?_
                  refine ev_ret rfl (by decide) (by decide) ?_
                  show jEv _ _ _ _ _ _ _ (_, [(2, (r32808 : Int)), (0, a2), (0, a3)], [(0, 1)], _, _, _)
                  refine ev_ret rfl (by decide) (by decide) ?_
                  show jEv _ _ _ _ _ _ _ (_, [(2, 0), (0, a1), (0, a2), (0, a3), (0, a4), (2, (r32808 : Int)), (9, 0)], [(0, 1)], _, _, _)
                  refine ev_ifeq f191_33 (fun c32833 => absurd c32833 (by omega)) (fun c32833 => ?_)
                  refine ev_iload rfl ?_
                  refine ev_iflt f191_33 (fun c32834 => ?_) (fun c32834 => ?_)
                  · refine ev_iconst ?_
                    exact ev_ret rfl (by decide) (by decide) ⟨_, rfl, by omega, by omega, g, k0⟩
                  · refine ev_iload rfl ?_
                    refine ev_iconst ?_
                    refine ev_icmple f191_35 (fun c32835 => ?_) (fun c32835 => ?_)
                    · refine ev_aload_n rfl ?_
                      refine g_getp (r := 0) (c := 1) g ad0 (by decide) (by decide) rf0_0 ft11_0 ?_
                      refine ev_call (jcall_v (A := []) (S' := []) (r := 1) rfl (g.lt ad1) (g.tg ad1) (Nat.le_of_ble_eq_true rfl)) (jOk_le (by decide) (s153 g )) (by decide) (by decide) (fun w32836 h32836 q32836 => ?_)
                      obtain ⟨v32837, rfl, lv32837, uv32837, g32836, kk32836⟩ := q32836
                      have k32836 := k0.tr kk32836 (by decide)
                      show jEv _ _ _ _ _ _ _ (_, [(2, 0), (0, a1), (0, a2), (0, a3), (0, a4), (2, (r32808 : Int)), (9, 0)], [(0, v32837)], _, _, _)
                      refine ev_ifne f191_48 (fun c32838 => ?_) (fun c32838 => ?_)
                      · refine ev_aload rfl ?_
                        refine ev_aload_n rfl ?_
                        refine g_getp (r := 0) (c := 1) g32836 ad0 (by decide) (by decide) rf0_0 ft11_0 ?_
                        refine ev_aload_n rfl ?_
                        refine g_getp (r := 0) (c := 23) g32836 ad0 (by decide) (by decide) rf0_5 ft11_5 ?_
                        refine ev_iconst ?_
                        refine ev_call (jcall_v (A := [(0, 0), (2, 23), (2, 1)]) (S' := []) (r := r32808) rfl (g32836.qlt qr32808) (g32836.qtg qr32808) (Nat.le_of_ble_eq_true rfl)) (jOk_le (by decide) (s47 g32836 qr32808 (Or.inl rfl) (by omega) (by omega))) (by decide) (by decide) (fun w32839 h32839 q32839 => ?_)
                        obtain ⟨v32840, rfl, lv32840, uv32840, g32839, kk32839⟩ := q32839
                        have k32839 := k32836.tr kk32839 (by decide)
                        show jEv _ _ _ _ _ _ _ (_, [(2, 0), (0, a1), (0, a2), (0, a3), (0, a4), (2, (r32808 : Int)), (9, 0)], [(1, v32840)], _, _, _)
                        refine ev_pop2 ?_
                        refine ev_aload rfl ?_
                        refine ev_aload_n rfl ?_
                        refine g_getp (r := 0) (c := 1) g32839 ad0 (by decide) (by decide) rf0_0 ft11_0 ?_
                        refine ev_iload_n rfl ?_
                        refine ev_iload_n rfl ?_
                        refine ev_iload rfl ?_
                        refine ev_bipush ?_
                        refine ev_call (jcall_v (A := [(0, 40), (0, a4), (0, a3), (0, a2), (2, 1)]) (S' := []) (r := r32808) rfl (g32839.qlt qr32808) (g32839.qtg qr32808) (Nat.le_of_ble_eq_true rfl)) (jOk_le (by decide) (s60 g32839 qr32808 (by omega) (by omega) (by omega) (by omega) (by omega) (by omega) (by omega) (by omega))) (by decide) (by decide) (fun w32841 h32841 q32841 => ?_)
                        obtain ⟨v32842, rfl, lv32842, uv32842, g32841, kk32841⟩ := q32841
                        have k32841 := k32839.tr kk32841 (by decide)
                        show jEv _ _ _ _ _ _ _ (_, [(2, 0), (0, a1), (0, a2), (0, a3), (0, a4), (2, (r32808 : Int)), (9, 0)], [(0, v32842)], _, _, _)
                        refine ev_istore (L' := [(2, 0), (0, a1), (0, a2), (0, a3), (0, a4), (2, (r32808 : Int)), (0, v32842)]) (Nat.le_of_ble_eq_true rfl) rfl ?_
                        refine ev_iload rfl ?_
                        refine ev_ifne f191_90 (fun c32843 => ?_) (fun c32843 => ?_)
                        · refine ev_iload rfl ?_
                          exact ev_ret rfl (by decide) (by decide) ⟨_, rfl, by omega, by omega, g32841, k32841⟩
                        · refine ev_bipush ?_
                          refine ev_goto f191_92 ?_
                          exact ev_ret rfl (by decide) (by decide) ⟨_, rfl, by omega, by omega, g32841, k32841⟩
                      · refine ev_bipush ?_
                        exact ev_ret rfl (by decide) (by decide) ⟨_, rfl, by omega, by omega, g32836, k32836⟩
                    · refine ev_iconst ?_
                      exact ev_ret rfl (by decide) (by decide) ⟨_, rfl, by omega, by omega, g, k0⟩
      · refine ev_aload_n rfl ?_
        refine ev_iload_n rfl ?_
        refine ev_in (d := 3) (a := 0) (b := 0) (cd' := c24_0) (m := 2) (L0 := [(2, (r32808 : Int)), (0, a2)]) (jcall_v (A := [(0, a2)]) (S' := []) (r := r32808) rfl (g.qlt qr32808) (g.qtg qr32808) (Nat.le_of_ble_eq_true rfl)) (by decide) ml24 pp24 (Nat.le_of_ble_eq_true rfl) rfl (by decide) (by decide) ?_
        refine ev_iload_n rfl ?_
        refine ev_iflt f24_16 (fun c32844 => ?_) (fun c32844 => ?_)
        · refine ev_iconst ?_
          refine ev_ret rfl (by decide) (by decide) ?_
          show jEv _ _ _ _ _ _ _ (_, [(2, (r32808 : Int)), (0, a2), (0, a3)], [(0, 0)], _, _, _)
          refine ev_ifeq f32_26 (fun c32845 => ?_) (fun c32845 => absurd c32845 (by omega))
          refine ev_iconst ?_
          refine ev_goto f32_36 ?_
          refine ev_ret rfl (by decide) (by decide) ?_
          show jEv _ _ _ _ _ _ _ (_, [(2, 0), (0, a1), (0, a2), (0, a3), (0, a4), (2, (r32808 : Int)), (9, 0)], [(0, 0)], _, _, _)
          refine ev_ifeq f191_33 (fun c32846 => ?_) (fun c32846 => absurd c32846 (by omega))
          refine ev_iconst ?_
          exact ev_ret rfl (by decide) (by decide) ⟨_, rfl, by omega, by omega, g, k0⟩
        · refine ev_iload_n rfl ?_
          refine ev_aload_n rfl ?_
          obtain ⟨v32847, ev32847, lv32847, uv32847⟩ := g.q0 qr32808
          refine g_qgetv (v := v32847) g qr32808 ft4_0 ev32847 ?_
          refine ev_icmpge f24_16 (fun c32848 => ?_) (fun c32848 => ?_)
          · refine ev_iconst ?_
            refine ev_ret rfl (by decide) (by decide) ?_
            show jEv _ _ _ _ _ _ _ (_, [(2, (r32808 : Int)), (0, a2), (0, a3)], [(0, 0)], _, _, _)
            refine ev_ifeq f32_26 (fun c32849 => ?_) (fun c32849 => absurd c32849 (by omega))
            refine ev_iconst ?_
            refine ev_goto f32_36 ?_
            refine ev_ret rfl (by decide) (by decide) ?_
            show jEv _ _ _ _ _ _ _ (_, [(2, 0), (0, a1), (0, a2), (0, a3), (0, a4), (2, (r32808 : Int)), (9, 0)], [(0, 0)], _, _, _)
            refine ev_ifeq f191_33 (fun c32850 => ?_) (fun c32850 => absurd c32850 (by omega))
            refine ev_iconst ?_
            exact ev_ret rfl (by decide) (by decide) ⟨_, rfl, by omega, by omega, g, k0⟩
          · refine ev_iconst ?_
            refine ev_goto f24_17 ?_
            refine ev_ret rfl (by decide) (by decide) ?_
            show jEv _ _ _ _ _ _ _ (_, [(2, (r32808 : Int)), (0, a2), (0, a3)], [(0, 1)], _, _, _)
            refine ev_ifeq f32_26 (fun c32851 => absurd c32851 (by omega)) (fun c32851 => ?_)
            refine ev_aload_n rfl ?_
            refine g_qgetp g qr32808 (c := 2) (by decide) (by decide) ft4_2 ?_
            refine ev_iload_n rfl ?_
            refine g_qiald g qr32808 (c := 2) (by decide) (by decide) (by decide) (by omega) (by show a2 < m32809; omega) rfl (fun v32852 ev32852 lv32852 uv32852 => ?_)
            refine ev_ifne f32_26 (fun c32853 => ?_) (fun c32853 => ?_)
            · refine ev_iconst ?_
              refine ev_goto f32_36 ?_
              refine ev_ret rfl (by decide) (by decide) ?_
              show jEv _ _ _ _ _ _ _ (_, [(2, 0), (0, a1), (0, a2), (0, a3), (0, a4), (2, (r32808 : Int)), (9, 0)], [(0, 0)], _, _, _)
              refine ev_ifeq f191_33 (fun c32854 => ?_) (fun c32854 => absurd c32854 (by omega))
              refine ev_iconst ?_
              exact ev_ret rfl (by decide) (by decide) ⟨_, rfl, by omega, by omega, g, k0⟩
            · refine ev_iconst ?_
              refine ev_goto f32_36 ?_
              refine ev_ret rfl (by decide) (by decide) ?_
              show jEv _ _ _ _ _ _ _ (_, [(2, 0), (0, a1), (0, a2), (0, a3), (0, a4), (2, (r32808 : Int)), (9, 0)], [(0, 1)], _, _, _)
              refine ev_ifeq f191_33 (fun c32855 => absurd c32855 (by omega)) (fun c32855 => ?_)
              refine ev_iload rfl ?_
              refine ev_iflt f191_33 (fun c32856 => ?_) (fun c32856 => ?_)
              · refine ev_iconst ?_
                exact ev_ret rfl (by decide) (by decide) ⟨_, rfl, by omega, by omega, g, k0⟩
              · refine ev_iload rfl ?_
                refine ev_iconst ?_
                refine ev_icmple f191_35 (fun c32857 => ?_) (fun c32857 => ?_)
                · refine ev_aload_n rfl ?_
                  refine g_getp (r := 0) (c := 1) g ad0 (by decide) (by decide) rf0_0 ft11_0 ?_
                  refine ev_call (jcall_v (A := []) (S' := []) (r := 1) rfl (g.lt ad1) (g.tg ad1) (Nat.le_of_ble_eq_true rfl)) (jOk_le (by decide) (s153 g )) (by decide) (by decide) (fun w32858 h32858 q32858 => ?_)
                  obtain ⟨v32859, rfl, lv32859, uv32859, g32858, kk32858⟩ := q32858
                  have k32858 := k0.tr kk32858 (by decide)
                  show jEv _ _ _ _ _ _ _ (_, [(2, 0), (0, a1), (0, a2), (0, a3), (0, a4), (2, (r32808 : Int)), (9, 0)], [(0, v32859)], _, _, _)
                  refine ev_ifne f191_48 (fun c32860 => ?_) (fun c32860 => ?_)
                  · refine ev_aload rfl ?_
                    refine ev_aload_n rfl ?_
                    refine g_getp (r := 0) (c := 1) g32858 ad0 (by decide) (by decide) rf0_0 ft11_0 ?_
                    refine ev_aload_n rfl ?_
                    refine g_getp (r := 0) (c := 23) g32858 ad0 (by decide) (by decide) rf0_5 ft11_5 ?_
                    refine ev_iconst ?_
                    refine ev_call (jcall_v (A := [(0, 0), (2, 23), (2, 1)]) (S' := []) (r := r32808) rfl (g32858.qlt qr32808) (g32858.qtg qr32808) (Nat.le_of_ble_eq_true rfl)) (jOk_le (by decide) (s47 g32858 qr32808 (Or.inl rfl) (by omega) (by omega))) (by decide) (by decide) (fun w32861 h32861 q32861 => ?_)
                    obtain ⟨v32862, rfl, lv32862, uv32862, g32861, kk32861⟩ := q32861
                    have k32861 := k32858.tr kk32861 (by decide)
                    show jEv _ _ _ _ _ _ _ (_, [(2, 0), (0, a1), (0, a2), (0, a3), (0, a4), (2, (r32808 : Int)), (9, 0)], [(1, v32862)], _, _, _)
                    refine ev_pop2 ?_
                    refine ev_aload rfl ?_
                    refine ev_aload_n rfl ?_
                    refine g_getp (r := 0) (c := 1) g32861 ad0 (by decide) (by decide) rf0_0 ft11_0 ?_
                    refine ev_iload_n rfl ?_
                    refine ev_iload_n rfl ?_
                    refine ev_iload rfl ?_
                    refine ev_bipush ?_
                    refine ev_call (jcall_v (A := [(0, 40), (0, a4), (0, a3), (0, a2), (2, 1)]) (S' := []) (r := r32808) rfl (g32861.qlt qr32808) (g32861.qtg qr32808) (Nat.le_of_ble_eq_true rfl)) (jOk_le (by decide) (s60 g32861 qr32808 (by omega) (by omega) (by omega) (by omega) (by omega) (by omega) (by omega) (by omega))) (by decide) (by decide) (fun w32863 h32863 q32863 => ?_)
                    obtain ⟨v32864, rfl, lv32864, uv32864, g32863, kk32863⟩ := q32863
                    have k32863 := k32861.tr kk32863 (by decide)
                    show jEv _ _ _ _ _ _ _ (_, [(2, 0), (0, a1), (0, a2), (0, a3), (0, a4), (2, (r32808 : Int)), (9, 0)], [(0, v32864)], _, _, _)
                    refine ev_istore (L' := [(2, 0), (0, a1), (0, a2), (0, a3), (0, a4), (2, (r32808 : Int)), (0, v32864)]) (Nat.le_of_ble_eq_true rfl) rfl ?_
                    refine ev_iload rfl ?_
                    refine ev_ifne f191_90 (fun c32865 => ?_) (fun c32865 => ?_)
                    · refine ev_iload rfl ?_
                      exact ev_ret rfl (by decide) (by decide) ⟨_, rfl, by omega, by omega, g32863, k32863⟩
                    · refine ev_bipush ?_
                      refine ev_goto f191_92 ?_
                      exact ev_ret rfl (by decide) (by decide) ⟨_, rfl, by omega, by omega, g32863, k32863⟩
                  · refine ev_bipush ?_
                    exact ev_ret rfl (by decide) (by decide) ⟨_, rfl, by omega, by omega, g32858, k32858⟩
                · refine ev_iconst ?_
                  exact ev_ret rfl (by decide) (by decide) ⟨_, rfl, by omega, by omega, g, k0⟩
    · refine ev_aconst_null ?_
      refine ev_goto f219_22 ?_
      refine ev_ret rfl (by decide) (by decide) ?_
      show jEv _ _ _ _ _ _ _ (_, [(2, 0), (0, a1), (0, a2), (0, a3), (0, a4), (9, 0), (9, 0)], [(2, (-1))], _, _, _)
      refine ev_astore (L' := [(2, 0), (0, a1), (0, a2), (0, a3), (0, a4), (2, (-1)), (9, 0)]) (Nat.le_of_ble_eq_true rfl) rfl ?_
      refine ev_aload rfl ?_
      refine ev_ifnull f191_33 (fun c32866 => ?_) (fun c32866 => absurd c32866 (by decide))
      refine ev_iconst ?_
      exact ev_ret rfl (by decide) (by decide) ⟨_, rfl, by omega, by omega, g, k0⟩
/-! 192 most -/
set_option maxHeartbeats 4000000 in
theorem s192_l {G : GH} {h : JH} {a1 : Int} (la1 : (-2147483648) ≤ a1) (ua1 : a1 ≤ 2147483647) : ∀ N : Nat, (∀ (h1 : JH) (R2 : Nat) (M2 : Int) (x3 x4 x5 : Int) (j6 j7 : AV), IsQ G R2 M2 → Gd G h1 → Kp [(1, 2), (1, 3), (5, 0), (6, 0), (4, 0), (1000000, 0)] h h1 → 0 ≤ a1 → a1 ≤ 5 → (-2) ≤ x3 → x3 ≤ 99 → x3 ≤ M2 - 1 → 1 ≤ x4 → x4 ≤ 41 → 0 ≤ x5 → x5 ≤ 100 → ((-6) * x5 + 603) < N → jEv (jOk 5) none (fun _ => 0) c192_0 0 0 (PI G [(1, 2), (1, 3), (5, 0), (6, 0), (4, 0), (1000000, 0)] h 0 (-4) 99) (c192_49, [(2, 0), (0, a1), (2, (R2 : Int)), (0, x3), (0, x4), (0, x5), j6, j7], [], h1, 0, 0)) ∧ (∀ (h1 : JH) (R2 : Nat) (M2 : Int) (x3 x4 x5 x6 : Int) (j7 : AV), IsQ G R2 M2 → Gd G h1 → Kp [(1, 2), (1, 3), (5, 0), (6, 0), (4, 0), (1000000, 0)] h h1 → 0 ≤ a1 → a1 ≤ 5 → (-2) ≤ x3 → x3 ≤ 99 → x3 ≤ M2 - 1 → 1 ≤ x4 → x4 ≤ 41 → 0 ≤ x5 → x5 ≤ 99 → x5 ≤ M2 - 1 → 0 ≤ x6 → x6 ≤ 2 → ((-6) * x5 + (-x6) + 602) < N → jEv (jOk 5) none (fun _ => 0) c192_0 0 0 (PI G [(1, 2), (1, 3), (5, 0), (6, 0), (4, 0), (1000000, 0)] h 0 (-4) 99) (c192_61, [(2, 0), (0, a1), (2, (R2 : Int)), (0, x3), (0, x4), (0, x5), (0, x6), j7], [], h1, 0, 0)) := by
  intro N
  induction N with
  | zero => exact ⟨fun h1 R2 M2 x3 x4 x5 j6 j7 Q2 g1 k1 b0 b1 b2 b3 b4 b5 b6 b7 b8 hm => absurd hm (by omega), fun h1 R2 M2 x3 x4 x5 x6 j7 Q2 g1 k1 b0 b1 b2 b3 b4 b5 b6 b7 b8 b9 b10 b11 hm => absurd hm (by omega)⟩
  | succ N ih =>
    refine ⟨?_, ?_⟩
    · intro h1 R2 M2 x3 x4 x5 j6 j7 Q2 g1 k1 b0 b1 b2 b3 b4 b5 b6 b7 b8 hm
      have wR2 := g1.qb Q2
      have zR2 := Q2.1
      refine ev_iload rfl ?_
      refine ev_aload_n rfl ?_
      obtain ⟨v33207, ev33207, lv33207, uv33207⟩ := g1.q0 Q2
      refine g_qgetv (v := v33207) g1 Q2 ft4_0 ev33207 ?_
      refine ev_icmpge f192_119 (fun c33208 => ?_) (fun c33208 => ?_)
      · refine ev_iload_n rfl ?_
        exact ev_ret rfl (by decide) (by decide) ⟨_, rfl, by omega, by omega, g1, k1⟩
      · refine ev_iconst ?_
        refine ev_istore (L' := [(2, 0), (0, a1), (2, (R2 : Int)), (0, x3), (0, x4), (0, x5), (0, 0), j7]) (Nat.le_of_ble_eq_true rfl) rfl ?_
        exact ih.2 _ _ _ _ _ _ _ _ Q2 g1 k1 (by omega) (by omega) (by omega) (by omega) (by omega) (by omega) (by omega) (by omega) (by omega) (by omega) (by omega) (by omega) (by omega)
    · intro h1 R2 M2 x3 x4 x5 x6 j7 Q2 g1 k1 b0 b1 b2 b3 b4 b5 b6 b7 b8 b9 b10 b11 hm
      have wR2 := g1.qb Q2
      have zR2 := Q2.1
      refine ev_iload rfl ?_
      refine ev_iconst ?_
      refine ev_icmpgt f192_113 (fun c33209 => ?_) (fun c33209 => ?_)
      · refine ev_iinc (w := (x5 + 1)) (L' := [(2, 0), (0, a1), (2, (R2 : Int)), (0, x3), (0, x4), (0, (x5 + 1)), (0, x6), j7]) rfl (by unfold w32; omega) rfl ?_
        refine ev_goto f192_49 ?_
        exact ih.1 _ _ _ _ _ _ _ _ Q2 g1 k1 (by omega) (by omega) (by omega) (by omega) (by omega) (by omega) (by omega) (by omega) (by omega) (by omega)
      · refine ev_aload_n rfl ?_
        refine ev_iload rfl ?_
        refine ev_in (d := 4) (a := 0) (b := 0) (cd' := c27_0) (m := 2) (L0 := [(2, (R2 : Int)), (0, x5)]) (jcall_v (A := [(0, x5)]) (S' := []) (r := R2) rfl (g1.qlt Q2) (g1.qtg Q2) (Nat.le_of_ble_eq_true rfl)) (by decide) ml27 pp27 (Nat.le_of_ble_eq_true rfl) rfl (by decide) (by decide) ?_
        refine ev_aload_n rfl ?_
        refine g_qgetp g1 Q2 (c := 2) (by decide) (by decide) ft4_2 ?_
        refine ev_iload_n rfl ?_
        refine g_qiald g1 Q2 (c := 2) (by decide) (by decide) (by decide) (by omega) (by show x5 < M2; omega) rfl (fun v33210 ev33210 lv33210 uv33210 => ?_)
        refine ev_ret rfl (by decide) (by decide) ?_
        show jEv _ _ _ _ _ _ _ (_, [(2, 0), (0, a1), (2, (R2 : Int)), (0, x3), (0, x4), (0, x5), (0, x6), j7], [(0, v33210)], _, _, _)
        refine ev_ifne f192_113 (fun c33211 => ?_) (fun c33211 => ?_)
        · refine ev_iinc (w := (x5 + 1)) (L' := [(2, 0), (0, a1), (2, (R2 : Int)), (0, x3), (0, x4), (0, (x5 + 1)), (0, x6), j7]) rfl (by unfold w32; omega) rfl ?_
          refine ev_goto f192_49 ?_
          exact ih.1 _ _ _ _ _ _ _ _ Q2 g1 k1 (by omega) (by omega) (by omega) (by omega) (by omega) (by omega) (by omega) (by omega) (by omega) (by omega)
        · refine ev_aload_n rfl ?_
          refine ev_aload_n rfl ?_
          refine g_getp (r := 0) (c := 1) g1 ad0 (by decide) (by decide) rf0_0 ft11_0 ?_
          refine ev_iload rfl ?_
          refine ev_iconst ?_
          refine ev_iload rfl ?_
          refine ev_iload rfl ?_
          refine ev_iconst ?_
          refine ev_isub (r := (x4 - 1)) (by unfold w32; omega) ?_
          refine ev_call (jcall_v (A := [(0, (x4 - 1)), (0, x6), (0, (-1)), (0, x5), (2, 1)]) (S' := []) (r := R2) rfl (g1.qlt Q2) (g1.qtg Q2) (Nat.le_of_ble_eq_true rfl)) (jOk_le (by decide) (s60 g1 Q2 (by omega) (by omega) (by omega) (by omega) (by omega) (by omega) (by omega) (by omega))) (by decide) (by decide) (fun w33212 h33212 q33212 => ?_)
          obtain ⟨v33213, rfl, lv33213, uv33213, g33212, kk33212⟩ := q33212
          have k33212 := k1.tr kk33212 (by decide)
          show jEv _ _ _ _ _ _ _ (_, [(2, 0), (0, a1), (2, (R2 : Int)), (0, x3), (0, x4), (0, x5), (0, x6), j7], [(0, v33213)], _, _, _)
          refine ev_istore (L' := [(2, 0), (0, a1), (2, (R2 : Int)), (0, x3), (0, x4), (0, x5), (0, x6), (0, v33213)]) (Nat.le_of_ble_eq_true rfl) rfl ?_
          refine ev_iload rfl ?_
          refine ev_ifle f192_107 (fun c33214 => ?_) (fun c33214 => ?_)
          · refine ev_iinc (w := (x6 + 1)) (L' := [(2, 0), (0, a1), (2, (R2 : Int)), (0, x3), (0, x4), (0, x5), (0, (x6 + 1)), (0, v33213)]) rfl (by unfold w32; omega) rfl ?_
            refine ev_goto f192_61 ?_
            exact ih.2 _ _ _ _ _ _ _ _ Q2 g33212 k33212 (by omega) (by omega) (by omega) (by omega) (by omega) (by omega) (by omega) (by omega) (by omega) (by omega) (by omega) (by omega) (by omega)
          · refine ev_iload rfl ?_
            refine ev_istore (L' := [(2, 0), (0, a1), (2, (R2 : Int)), (0, x3), (0, v33213), (0, x5), (0, x6), (0, v33213)]) (Nat.le_of_ble_eq_true rfl) rfl ?_
            refine ev_iload rfl ?_
            refine ev_istore_n (L' := [(2, 0), (0, a1), (2, (R2 : Int)), (0, x5), (0, v33213), (0, x5), (0, x6), (0, v33213)]) (Nat.le_of_ble_eq_true rfl) rfl ?_
            refine ev_iinc (w := (x6 + 1)) (L' := [(2, 0), (0, a1), (2, (R2 : Int)), (0, x5), (0, v33213), (0, x5), (0, (x6 + 1)), (0, v33213)]) rfl (by unfold w32; omega) rfl ?_
            refine ev_goto f192_61 ?_
            exact ih.2 _ _ _ _ _ _ _ _ Q2 g33212 k33212 (by omega) (by omega) (by omega) (by omega) (by omega) (by omega) (by omega) (by omega) (by omega) (by omega) (by omega) (by omega) (by omega)
set_option maxHeartbeats 4000000 in
theorem s192 {G : GH} {h : JH} (g : Gd G h) {a1 : Int} (la1 : (-2147483648) ≤ a1) (ua1 : a1 ≤ 2147483647) : jOk 6 0 0 192 [(2, 0), (0, a1)] h (PI G [(1, 2), (1, 3), (5, 0), (6, 0), (4, 0), (1000000, 0)] h 0 (-4) 99) := by
  refine ⟨by decide, by rw [ml192]; exact Nat.le_of_ble_eq_true rfl, ?_⟩
  rw [ml192, pp192]
  show jEv _ none _ c192_0 0 0 _ (c192_0, [(2, 0), (0, a1), (9, 0), (9, 0), (9, 0), (9, 0), (9, 0), (9, 0)], [], h, 0, 0)
  have k0 := Kp.rf [(1, 2), (1, 3), (5, 0), (6, 0), (4, 0), (1000000, 0)] h
  refine ev_aload_n rfl ?_
  refine ev_iload_n rfl ?_
  refine ev_in (d := 4) (a := 0) (b := 0) (cd' := c219_0) (m := 2) (L0 := [(2, 0), (0, a1)]) (jcall_v (A := [(0, a1)]) (S' := []) (r := 0) rfl (g.lt ad0) (g.tg ad0) (Nat.le_of_ble_eq_true rfl)) (by decide) ml219 pp219 (Nat.le_of_ble_eq_true rfl) rfl (by decide) (by decide) ?_
  refine ev_iload_n rfl ?_
  refine ev_iflt f219_12 (fun c33215 => ?_) (fun c33215 => ?_)
  · refine ev_aconst_null ?_
    refine ev_goto f219_22 ?_
    refine ev_ret rfl (by decide) (by decide) ?_
    show jEv _ _ _ _ _ _ _ (_, [(2, 0), (0, a1), (9, 0), (9, 0), (9, 0), (9, 0), (9, 0), (9, 0)], [(2, (-1))], _, _, _)
    refine ev_astore_n (L' := [(2, 0), (0, a1), (2, (-1)), (9, 0), (9, 0), (9, 0), (9, 0), (9, 0)]) (Nat.le_of_ble_eq_true rfl) rfl ?_
    refine ev_aload_n rfl ?_
    refine ev_ifnonnull f192_12 (fun c33216 => absurd c33216 (by decide)) (fun c33216 => ?_)
    refine ev_iconst ?_
    exact ev_ret rfl (by decide) (by decide) ⟨_, rfl, by omega, by omega, g, k0⟩
  · refine ev_iload_n rfl ?_
    refine ev_aload_n rfl ?_
    obtain ⟨v33217, ev33217, lv33217, uv33217⟩ := g.rd ad0 (show 3 < 17 by decide) rf0_3
    refine g_getv (r := 0) (v := v33217) g ad0 (by decide) ft11_3 ev33217 ?_
    refine ev_icmplt f219_16 (fun c33218 => ?_) (fun c33218 => ?_)
    · refine ev_aload_n rfl ?_
      refine g_getp (r := 0) (c := 18) g ad0 (by decide) (by decide) rf0_2 ft11_2 ?_
      refine ev_iload_n rfl ?_
      refine g_qaald (g) (i := a1) (ev33217) (by omega) (by omega) (fun r33219 m33220 qr33219 => ?_)
      have wr33219 := g.qb qr33219
      have zr33219 := qr33219.1
      refine ev_ret rfl (by decide) (by decide) ?_
      show jEv _ _ _ _ _ _ _ (_, [(2, 0), (0, a1), (9, 0), (9, 0), (9, 0), (9, 0), (9, 0), (9, 0)], [(2, (r33219 : Int))], _, _, _)
      refine ev_astore_n (L' := [(2, 0), (0, a1), (2, (r33219 : Int)), (9, 0), (9, 0), (9, 0), (9, 0), (9, 0)]) (Nat.le_of_ble_eq_true rfl) rfl ?_
      refine ev_aload_n rfl ?_
      refine ev_ifnonnull f192_12 (fun c33221 => ?_) (fun c33221 => absurd c33221 (by omega))
      refine ev_aload_n rfl ?_
      refine g_getp (r := 0) (c := 1) g ad0 (by decide) (by decide) rf0_0 ft11_0 ?_
      refine ev_call (jcall_v (A := []) (S' := []) (r := 1) rfl (g.lt ad1) (g.tg ad1) (Nat.le_of_ble_eq_true rfl)) (jOk_le (by decide) (s153 g )) (by decide) (by decide) (fun w33222 h33222 q33222 => ?_)
      obtain ⟨v33223, rfl, lv33223, uv33223, g33222, kk33222⟩ := q33222
      have k33222 := k0.tr kk33222 (by decide)
      show jEv _ _ _ _ _ _ _ (_, [(2, 0), (0, a1), (2, (r33219 : Int)), (9, 0), (9, 0), (9, 0), (9, 0), (9, 0)], [(0, v33223)], _, _, _)
      refine ev_ifne f192_25 (fun c33224 => ?_) (fun c33224 => ?_)
      · refine ev_aload_n rfl ?_
        refine ev_aload_n rfl ?_
        refine g_getp (r := 0) (c := 1) g33222 ad0 (by decide) (by decide) rf0_0 ft11_0 ?_
        refine ev_aload_n rfl ?_
        refine g_getp (r := 0) (c := 23) g33222 ad0 (by decide) (by decide) rf0_5 ft11_5 ?_
        refine ev_iconst ?_
        refine ev_call (jcall_v (A := [(0, 0), (2, 23), (2, 1)]) (S' := []) (r := r33219) rfl (g33222.qlt qr33219) (g33222.qtg qr33219) (Nat.le_of_ble_eq_true rfl)) (jOk_le (by decide) (s47 g33222 qr33219 (Or.inl rfl) (by omega) (by omega))) (by decide) (by decide) (fun w33225 h33225 q33225 => ?_)
        obtain ⟨v33226, rfl, lv33226, uv33226, g33225, kk33225⟩ := q33225
        have k33225 := k33222.tr kk33225 (by decide)
        show jEv _ _ _ _ _ _ _ (_, [(2, 0), (0, a1), (2, (r33219 : Int)), (9, 0), (9, 0), (9, 0), (9, 0), (9, 0)], [(1, v33226)], _, _, _)
        refine ev_pop2 ?_
        refine ev_bipush ?_
        refine ev_istore_n (L' := [(2, 0), (0, a1), (2, (r33219 : Int)), (0, (-2)), (9, 0), (9, 0), (9, 0), (9, 0)]) (Nat.le_of_ble_eq_true rfl) rfl ?_
        refine ev_bipush ?_
        refine ev_istore (L' := [(2, 0), (0, a1), (2, (r33219 : Int)), (0, (-2)), (0, 41), (9, 0), (9, 0), (9, 0)]) (Nat.le_of_ble_eq_true rfl) rfl ?_
        refine ev_iconst ?_
        refine ev_istore (L' := [(2, 0), (0, a1), (2, (r33219 : Int)), (0, (-2)), (0, 41), (0, 0), (9, 0), (9, 0)]) (Nat.le_of_ble_eq_true rfl) rfl ?_
        exact (s192_l la1 ua1 1212).1 _ _ _ _ _ _ _ _ qr33219 g33225 k33225 (by omega) (by omega) (by omega) (by omega) (by omega) (by omega) (by omega) (by omega) (by omega) (by omega)
      · refine ev_bipush ?_
        exact ev_ret rfl (by decide) (by decide) ⟨_, rfl, by omega, by omega, g33222, k33222⟩
    · refine ev_aconst_null ?_
      refine ev_goto f219_22 ?_
      refine ev_ret rfl (by decide) (by decide) ?_
      show jEv _ _ _ _ _ _ _ (_, [(2, 0), (0, a1), (9, 0), (9, 0), (9, 0), (9, 0), (9, 0), (9, 0)], [(2, (-1))], _, _, _)
      refine ev_astore_n (L' := [(2, 0), (0, a1), (2, (-1)), (9, 0), (9, 0), (9, 0), (9, 0), (9, 0)]) (Nat.le_of_ble_eq_true rfl) rfl ?_
      refine ev_aload_n rfl ?_
      refine ev_ifnonnull f192_12 (fun c33227 => absurd c33227 (by decide)) (fun c33227 => ?_)
      refine ev_iconst ?_
      exact ev_ret rfl (by decide) (by decide) ⟨_, rfl, by omega, by omega, g, k0⟩
/-! 233 isBigWithin -/
set_option maxHeartbeats 4000000 in
theorem s233 {G : GH} {h : JH} (g : Gd G h) {a1 : Int} (la1 : 0 ≤ a1) (ua1 : a1 ≤ 3) {a2 : Int} (la2 : (-2147483648) ≤ a2) (ua2 : a2 ≤ 2147483647) : jOk 5 0 0 233 [(2, 0), (0, a1), (0, a2)] h (PI G [(4, 0), (1, 3)] h 0 0 1) := by
  refine ⟨by decide, by rw [ml233]; exact Nat.le_of_ble_eq_true rfl, ?_⟩
  rw [ml233, pp233]
  show jEv _ none _ c233_0 0 0 _ (c233_0, [(2, 0), (0, a1), (0, a2), (9, 0), (9, 0), (9, 0)], [], h, 0, 0)
  have k0 := Kp.rf [(4, 0), (1, 3)] h
  refine ev_iload_n rfl ?_
  refine ev_iconst ?_
  refine ev_iconst ?_
  refine ev_in (d := 3) (a := 0) (b := 0) (cd' := c147_0) (m := 3) (L0 := [(0, a1), (0, 0), (0, 0)]) (jcall_s (A := [(0, 0), (0, 0), (0, a1)]) (S' := []) (by decide) rfl (Nat.le_of_ble_eq_true rfl)) (by decide) ml147 pp147 (Nat.le_of_ble_eq_true rfl) rfl (by decide) (by decide) ?_
  refine ev_bipush ?_
  refine ev_iload_n rfl ?_
  refine ev_imul (r := (9 * a1)) (by unfold w32; omega) ?_
  refine ev_iconst ?_
  refine ev_iload_n rfl ?_
  refine ev_imul (r := 0) (by decide) ?_
  refine ev_iadd (r := (9 * a1)) (by unfold w32; omega) ?_
  refine ev_iload_n rfl ?_
  refine ev_iadd (r := (9 * a1)) (by unfold w32; omega) ?_
  refine ev_ret rfl (by decide) (by decide) ?_
  show jEv _ _ _ _ _ _ _ (_, [(2, 0), (0, a1), (0, a2), (9, 0), (9, 0), (9, 0)], [(0, (9 * a1))], _, _, _)
  refine ev_istore_n (L' := [(2, 0), (0, a1), (0, a2), (0, (9 * a1)), (9, 0), (9, 0)]) (Nat.le_of_ble_eq_true rfl) rfl ?_
  refine ev_aload_n rfl ?_
  refine g_getp (r := 0) (c := 1) g ad0 (by decide) (by decide) rf0_0 ft11_0 ?_
  refine ev_iload_n rfl ?_
  refine ev_in (d := 3) (a := 0) (b := 0) (cd' := c148_0) (m := 2) (L0 := [(2, 1), (0, (9 * a1))]) (jcall_v (A := [(0, (9 * a1))]) (S' := []) (r := 1) rfl (g.lt ad1) (g.tg ad1) (Nat.le_of_ble_eq_true rfl)) (by decide) ml148 pp148 (Nat.le_of_ble_eq_true rfl) rfl (by decide) (by decide) ?_
  refine ev_iload_n rfl ?_
  refine ev_iflt f148_10 (fun c33290 => absurd c33290 (by omega)) (fun c33290 => ?_)
  refine ev_iload_n rfl ?_
  refine ev_bipush ?_
  refine ev_icmplt f148_14 (fun c33291 => ?_) (fun c33291 => absurd c33291 (by omega))
  refine ev_aload_n rfl ?_
  refine g_getp (r := 1) (c := 4) g ad1 (by decide) (by decide) rf1_5 ft10_5 ?_
  refine ev_iload_n rfl ?_
  refine g_iald g ad4 rt4 (by omega) (by omega) (fun v33292 ev33292 lv33292 uv33292 => ?_)
  refine ev_ret rfl (by decide) (by decide) ?_
  show jEv _ _ _ _ _ _ _ (_, [(2, 0), (0, a1), (0, a2), (0, (9 * a1)), (9, 0), (9, 0)], [(0, v33292)], _, _, _)
  refine ev_istore (L' := [(2, 0), (0, a1), (0, a2), (0, (9 * a1)), (0, v33292), (9, 0)]) (Nat.le_of_ble_eq_true rfl) rfl ?_
  refine ev_aload_n rfl ?_
  refine g_getp (r := 0) (c := 1) g ad0 (by decide) (by decide) rf0_0 ft11_0 ?_
  refine ev_iload_n rfl ?_
  refine ev_iload_n rfl ?_
  refine ev_bipush ?_
  refine g_iremC (c := 100) rfl (by decide) (fun v33293 ev33293 lv33293 uv33293 => ?_)
  refine ev_in (d := 3) (a := 0) (b := 0) (cd' := c149_0) (m := 3) (L0 := [(2, 1), (0, (9 * a1)), (0, v33293)]) (jcall_v (A := [(0, v33293), (0, (9 * a1))]) (S' := []) (r := 1) rfl (g.lt ad1) (g.tg ad1) (Nat.le_of_ble_eq_true rfl)) (by decide) ml149 pp149 (Nat.le_of_ble_eq_true rfl) rfl (by decide) (by decide) ?_
  refine ev_iload_n rfl ?_
  refine ev_iflt f149_32 (fun c33294 => absurd c33294 (by omega)) (fun c33294 => ?_)
  refine ev_iload_n rfl ?_
  refine ev_bipush ?_
  refine ev_icmpge f149_32 (fun c33295 => absurd c33295 (by omega)) (fun c33295 => ?_)
  refine ev_aload_n rfl ?_
  refine g_getp (r := 1) (c := 4) g ad1 (by decide) (by decide) rf1_5 ft10_5 ?_
  refine ev_iload_n rfl ?_
  refine g_ialdv (v := v33292) g ad4 (by omega) (by omega) (ev33292) ?_
  refine ev_iload_n rfl ?_
  refine ev_icmpeq f149_32 (fun c33296 => ?_) (fun c33296 => ?_)
  · refine ev_ret rfl (by decide) (by decide) ?_
    show jEv _ _ _ _ _ _ _ (_, [(2, 0), (0, a1), (0, a2), (0, (9 * a1)), (0, v33292), (9, 0)], [], _, _, _)
    refine ev_aload_n rfl ?_
    refine g_getp (r := 0) (c := 1) g ad0 (by decide) (by decide) rf0_0 ft11_0 ?_
    refine ev_call (jcall_v (A := []) (S' := []) (r := 1) rfl (g.lt ad1) (g.tg ad1) (Nat.le_of_ble_eq_true rfl)) (jOk_le (by decide) (s152 g )) (by decide) (by decide) (fun w33297 h33297 q33297 => ?_)
    obtain ⟨v33298, rfl, lv33298, uv33298, g33297, kk33297⟩ := q33297
    have k33297 := k0.tr kk33297 (by decide)
    show jEv _ _ _ _ _ _ _ (_, [(2, 0), (0, a1), (0, a2), (0, (9 * a1)), (0, v33292), (9, 0)], [(1, v33298)], _, _, _)
    refine ev_lconst ?_
    refine ev_lcmp ?_
    refine ev_ifne f233_45 (fun c33299 => ?_) (fun c33299 => ?_)
    · have c33299b := jcmpL_ne c33299
      refine ev_iconst ?_
      refine ev_istore (L' := [(2, 0), (0, a1), (0, a2), (0, (9 * a1)), (0, v33292), (0, 0)]) (Nat.le_of_ble_eq_true rfl) rfl ?_
      refine ev_aload_n rfl ?_
      refine g_getp (r := 0) (c := 1) g33297 ad0 (by decide) (by decide) rf0_0 ft11_0 ?_
      refine ev_iload_n rfl ?_
      refine ev_iload rfl ?_
      refine ev_in (d := 3) (a := 0) (b := 0) (cd' := c149_0) (m := 3) (L0 := [(2, 1), (0, (9 * a1)), (0, v33292)]) (jcall_v (A := [(0, v33292), (0, (9 * a1))]) (S' := []) (r := 1) rfl (g33297.lt ad1) (g33297.tg ad1) (Nat.le_of_ble_eq_true rfl)) (by decide) ml149 pp149 (Nat.le_of_ble_eq_true rfl) rfl (by decide) (by decide) ?_
      refine ev_iload_n rfl ?_
      refine ev_iflt f149_32 (fun c33300 => absurd c33300 (by omega)) (fun c33300 => ?_)
      refine ev_iload_n rfl ?_
      refine ev_bipush ?_
      refine ev_icmpge f149_32 (fun c33301 => absurd c33301 (by omega)) (fun c33301 => ?_)
      refine ev_aload_n rfl ?_
      refine g_getp (r := 1) (c := 4) g33297 ad1 (by decide) (by decide) rf1_5 ft10_5 ?_
      refine ev_iload_n rfl ?_
      refine g_ialdv (v := v33292) g33297 ad4 (by omega) (by omega) (((kk33297.v rfl).trans ev33292)) ?_
      refine ev_iload_n rfl ?_
      refine ev_icmpeq f149_32 (fun c33302 => ?_) (fun c33302 => absurd c33302 (by omega))
      refine ev_ret rfl (by decide) (by decide) ?_
      show jEv _ _ _ _ _ _ _ (_, [(2, 0), (0, a1), (0, a2), (0, (9 * a1)), (0, v33292), (0, 0)], [], _, _, _)
      refine ev_iload rfl ?_
      exact ev_ret rfl (by decide) (by decide) ⟨_, rfl, by omega, by omega, g33297, k33297⟩
    · have c33299b := jcmpL_neN c33299
      refine ev_iconst ?_
      refine ev_goto f233_46 ?_
      refine ev_istore (L' := [(2, 0), (0, a1), (0, a2), (0, (9 * a1)), (0, v33292), (0, 1)]) (Nat.le_of_ble_eq_true rfl) rfl ?_
      refine ev_aload_n rfl ?_
      refine g_getp (r := 0) (c := 1) g33297 ad0 (by decide) (by decide) rf0_0 ft11_0 ?_
      refine ev_iload_n rfl ?_
      refine ev_iload rfl ?_
      refine ev_in (d := 3) (a := 0) (b := 0) (cd' := c149_0) (m := 3) (L0 := [(2, 1), (0, (9 * a1)), (0, v33292)]) (jcall_v (A := [(0, v33292), (0, (9 * a1))]) (S' := []) (r := 1) rfl (g33297.lt ad1) (g33297.tg ad1) (Nat.le_of_ble_eq_true rfl)) (by decide) ml149 pp149 (Nat.le_of_ble_eq_true rfl) rfl (by decide) (by decide) ?_
      refine ev_iload_n rfl ?_
      refine ev_iflt f149_32 (fun c33303 => absurd c33303 (by omega)) (fun c33303 => ?_)
      refine ev_iload_n rfl ?_
      refine ev_bipush ?_
      refine ev_icmpge f149_32 (fun c33304 => absurd c33304 (by omega)) (fun c33304 => ?_)
      refine ev_aload_n rfl ?_
      refine g_getp (r := 1) (c := 4) g33297 ad1 (by decide) (by decide) rf1_5 ft10_5 ?_
      refine ev_iload_n rfl ?_
      refine g_ialdv (v := v33292) g33297 ad4 (by omega) (by omega) (((kk33297.v rfl).trans ev33292)) ?_
      refine ev_iload_n rfl ?_
      refine ev_icmpeq f149_32 (fun c33305 => ?_) (fun c33305 => absurd c33305 (by omega))
      refine ev_ret rfl (by decide) (by decide) ?_
      show jEv _ _ _ _ _ _ _ (_, [(2, 0), (0, a1), (0, a2), (0, (9 * a1)), (0, v33292), (0, 1)], [], _, _, _)
      refine ev_iload rfl ?_
      exact ev_ret rfl (by decide) (by decide) ⟨_, rfl, by omega, by omega, g33297, k33297⟩
  · refine ev_aload_n rfl ?_
    refine g_getp (r := 1) (c := 4) g ad1 (by decide) (by decide) rf1_5 ft10_5 ?_
    refine ev_iload_n rfl ?_
    refine ev_iload_n rfl ?_
    refine g_iast g ad4 rt4 (fun _ => rfl) (by omega) (by omega) (by omega) (by omega) (fun h33306 e33306 g33306 => ?_)
    have k33306 := k0.wr e33306 rfl
    refine ev_aload_n rfl ?_
    refine ev_iconst ?_
    refine g_putf (r := 1) g33306 ad1 (by decide) ft10_2 (by decide) (fun _ => by omega) rf1_2 (by decide) (by omega) (by omega) (fun h33307 e33307 g33307 => ?_)
    have k33307 := k33306.wr e33307 rfl
    refine ev_ret rfl (by decide) (by decide) ?_
    show jEv _ _ _ _ _ _ _ (_, [(2, 0), (0, a1), (0, a2), (0, (9 * a1)), (0, v33292), (9, 0)], [], _, _, _)
    refine ev_aload_n rfl ?_
    refine g_getp (r := 0) (c := 1) g33307 ad0 (by decide) (by decide) rf0_0 ft11_0 ?_
    refine ev_call (jcall_v (A := []) (S' := []) (r := 1) rfl (g33307.lt ad1) (g33307.tg ad1) (Nat.le_of_ble_eq_true rfl)) (jOk_le (by decide) (s152 g33307 )) (by decide) (by decide) (fun w33308 h33308 q33308 => ?_)
    obtain ⟨v33309, rfl, lv33309, uv33309, g33308, kk33308⟩ := q33308
    have k33308 := k33307.tr kk33308 (by decide)
    show jEv _ _ _ _ _ _ _ (_, [(2, 0), (0, a1), (0, a2), (0, (9 * a1)), (0, v33292), (9, 0)], [(1, v33309)], _, _, _)
    refine ev_lconst ?_
    refine ev_lcmp ?_
    refine ev_ifne f233_45 (fun c33310 => ?_) (fun c33310 => ?_)
    · have c33310b := jcmpL_ne c33310
      refine ev_iconst ?_
      refine ev_istore (L' := [(2, 0), (0, a1), (0, a2), (0, (9 * a1)), (0, v33292), (0, 0)]) (Nat.le_of_ble_eq_true rfl) rfl ?_
      refine ev_aload_n rfl ?_
      refine g_getp (r := 0) (c := 1) g33308 ad0 (by decide) (by decide) rf0_0 ft11_0 ?_
      refine ev_iload_n rfl ?_
      refine ev_iload rfl ?_
      refine ev_in (d := 3) (a := 0) (b := 0) (cd' := c149_0) (m := 3) (L0 := [(2, 1), (0, (9 * a1)), (0, v33292)]) (jcall_v (A := [(0, v33292), (0, (9 * a1))]) (S' := []) (r := 1) rfl (g33308.lt ad1) (g33308.tg ad1) (Nat.le_of_ble_eq_true rfl)) (by decide) ml149 pp149 (Nat.le_of_ble_eq_true rfl) rfl (by decide) (by decide) ?_
      refine ev_iload_n rfl ?_
      refine ev_iflt f149_32 (fun c33311 => absurd c33311 (by omega)) (fun c33311 => ?_)
      refine ev_iload_n rfl ?_
      refine ev_bipush ?_
      refine ev_icmpge f149_32 (fun c33312 => absurd c33312 (by omega)) (fun c33312 => ?_)
      refine ev_aload_n rfl ?_
      refine g_getp (r := 1) (c := 4) g33308 ad1 (by decide) (by decide) rf1_5 ft10_5 ?_
      refine ev_iload_n rfl ?_
      refine g_ialdv (v := v33293) g33308 ad4 (by omega) (by omega) (((kk33308.v rfl).trans ((jw_ne e33307 (Or.inl (by decide))).trans (jw_eq e33306)))) ?_
      refine ev_iload_n rfl ?_
      refine ev_icmpeq f149_32 (fun c33313 => ?_) (fun c33313 => ?_)
      · refine ev_ret rfl (by decide) (by decide) ?_
        show jEv _ _ _ _ _ _ _ (_, [(2, 0), (0, a1), (0, a2), (0, (9 * a1)), (0, v33292), (0, 0)], [], _, _, _)
        refine ev_iload rfl ?_
        exact ev_ret rfl (by decide) (by decide) ⟨_, rfl, by omega, by omega, g33308, k33308⟩
      · refine ev_aload_n rfl ?_
        refine g_getp (r := 1) (c := 4) g33308 ad1 (by decide) (by decide) rf1_5 ft10_5 ?_
        refine ev_iload_n rfl ?_
        refine ev_iload_n rfl ?_
        refine g_iast g33308 ad4 rt4 (fun _ => rfl) (by omega) (by omega) (by omega) (by omega) (fun h33314 e33314 g33314 => ?_)
        have k33314 := k33308.wr e33314 rfl
        refine ev_aload_n rfl ?_
        refine ev_iconst ?_
        refine g_putf (r := 1) g33314 ad1 (by decide) ft10_2 (by decide) (fun _ => by omega) rf1_2 (by decide) (by omega) (by omega) (fun h33315 e33315 g33315 => ?_)
        have k33315 := k33314.wr e33315 rfl
        refine ev_ret rfl (by decide) (by decide) ?_
        show jEv _ _ _ _ _ _ _ (_, [(2, 0), (0, a1), (0, a2), (0, (9 * a1)), (0, v33292), (0, 0)], [], _, _, _)
        refine ev_iload rfl ?_
        exact ev_ret rfl (by decide) (by decide) ⟨_, rfl, by omega, by omega, g33315, k33315⟩
    · have c33310b := jcmpL_neN c33310
      refine ev_iconst ?_
      refine ev_goto f233_46 ?_
      refine ev_istore (L' := [(2, 0), (0, a1), (0, a2), (0, (9 * a1)), (0, v33292), (0, 1)]) (Nat.le_of_ble_eq_true rfl) rfl ?_
      refine ev_aload_n rfl ?_
      refine g_getp (r := 0) (c := 1) g33308 ad0 (by decide) (by decide) rf0_0 ft11_0 ?_
      refine ev_iload_n rfl ?_
      refine ev_iload rfl ?_
      refine ev_in (d := 3) (a := 0) (b := 0) (cd' := c149_0) (m := 3) (L0 := [(2, 1), (0, (9 * a1)), (0, v33292)]) (jcall_v (A := [(0, v33292), (0, (9 * a1))]) (S' := []) (r := 1) rfl (g33308.lt ad1) (g33308.tg ad1) (Nat.le_of_ble_eq_true rfl)) (by decide) ml149 pp149 (Nat.le_of_ble_eq_true rfl) rfl (by decide) (by decide) ?_
      refine ev_iload_n rfl ?_
      refine ev_iflt f149_32 (fun c33316 => absurd c33316 (by omega)) (fun c33316 => ?_)
      refine ev_iload_n rfl ?_
      refine ev_bipush ?_
      refine ev_icmpge f149_32 (fun c33317 => absurd c33317 (by omega)) (fun c33317 => ?_)
      refine ev_aload_n rfl ?_
      refine g_getp (r := 1) (c := 4) g33308 ad1 (by decide) (by decide) rf1_5 ft10_5 ?_
      refine ev_iload_n rfl ?_
      refine g_ialdv (v := v33293) g33308 ad4 (by omega) (by omega) (((kk33308.v rfl).trans ((jw_ne e33307 (Or.inl (by decide))).trans (jw_eq e33306)))) ?_
      refine ev_iload_n rfl ?_
      refine ev_icmpeq f149_32 (fun c33318 => ?_) (fun c33318 => ?_)
      · refine ev_ret rfl (by decide) (by decide) ?_
        show jEv _ _ _ _ _ _ _ (_, [(2, 0), (0, a1), (0, a2), (0, (9 * a1)), (0, v33292), (0, 1)], [], _, _, _)
        refine ev_iload rfl ?_
        exact ev_ret rfl (by decide) (by decide) ⟨_, rfl, by omega, by omega, g33308, k33308⟩
      · refine ev_aload_n rfl ?_
        refine g_getp (r := 1) (c := 4) g33308 ad1 (by decide) (by decide) rf1_5 ft10_5 ?_
        refine ev_iload_n rfl ?_
        refine ev_iload_n rfl ?_
        refine g_iast g33308 ad4 rt4 (fun _ => rfl) (by omega) (by omega) (by omega) (by omega) (fun h33319 e33319 g33319 => ?_)
        have k33319 := k33308.wr e33319 rfl
        refine ev_aload_n rfl ?_
        refine ev_iconst ?_
        refine g_putf (r := 1) g33319 ad1 (by decide) ft10_2 (by decide) (fun _ => by omega) rf1_2 (by decide) (by omega) (by omega) (fun h33320 e33320 g33320 => ?_)
        have k33320 := k33319.wr e33320 rfl
        refine ev_ret rfl (by decide) (by decide) ?_
        show jEv _ _ _ _ _ _ _ (_, [(2, 0), (0, a1), (0, a2), (0, (9 * a1)), (0, v33292), (0, 1)], [], _, _, _)
        refine ev_iload rfl ?_
        exact ev_ret rfl (by decide) (by decide) ⟨_, rfl, by omega, by omega, g33320, k33320⟩
/-! 234 timesHeld -/
set_option maxHeartbeats 4000000 in
theorem s234_l {G : GH} {h : JH} {r1 : Nat} {m1 : Int} (q1 : IsQ G r1 m1) {a2 : Int} (la2 : 0 ≤ a2) (ua2 : a2 ≤ 35) {a3 : Int} (la3 : 0 ≤ a3) (ua3 : a3 ≤ 9999) : ∀ N : Nat, (∀ (h1 : JH) (x4 x5 : Int), Gd G h1 → Kp [(1, 2), (1, 3), (5, 0), (6, 0), (4, 0), (1000000, 0)] h h1 → 0 ≤ a2 → a2 ≤ 35 → 0 ≤ a3 → a3 ≤ 9999 → (-2147483648) ≤ x4 → x4 ≤ 2147483647 → 0 ≤ x5 → x5 ≤ 100 → ((-x5) + 100) < N → jEv (jOk 5) none (fun _ => 0) c234_0 0 0 (PI G [(1, 2), (1, 3), (5, 0), (6, 0), (4, 0), (1000000, 0)] h 0 (-2147483648) 2147483647) (c234_9, [(2, 0), (2, (r1 : Int)), (0, a2), (0, a3), (0, x4), (0, x5)], [], h1, 0, 0)) := by
  intro N
  induction N with
  | zero => exact fun h1 x4 x5 g1 k1 b0 b1 b2 b3 b4 b5 b6 b7 hm => absurd hm (by omega)
  | succ N ih =>
    show _
    intro h1 x4 x5 g1 k1 b0 b1 b2 b3 b4 b5 b6 b7 hm
    have wr1 := g1.qb q1
    have zr1 := q1.1
    refine ev_iload rfl ?_
    refine ev_iload_n rfl ?_
    refine ev_bipush ?_
    refine g_iremP (c := 100) rfl (by decide) (by omega) (fun v35129 ev35129 lv35129 uv35129 wv35129 => ?_)
    refine ev_icmpgt f234_72 (fun c35130 => ?_) (fun c35130 => ?_)
    · refine ev_iload rfl ?_
      exact ev_ret rfl (by decide) (by decide) ⟨_, rfl, by omega, by omega, g1, k1⟩
    · refine ev_aload_n rfl ?_
      refine g_getp (r := 0) (c := 1) g1 ad0 (by decide) (by decide) rf0_0 ft11_0 ?_
      refine ev_iload_n rfl ?_
      refine ev_iload rfl ?_
      refine ev_in (d := 4) (a := 0) (b := 0) (cd' := c149_0) (m := 3) (L0 := [(2, 1), (0, a2), (0, x5)]) (jcall_v (A := [(0, x5), (0, a2)]) (S' := []) (r := 1) rfl (g1.lt ad1) (g1.tg ad1) (Nat.le_of_ble_eq_true rfl)) (by decide) ml149 pp149 (Nat.le_of_ble_eq_true rfl) rfl (by decide) (by decide) ?_
      refine ev_iload_n rfl ?_
      refine ev_iflt f149_32 (fun c35131 => absurd c35131 (by omega)) (fun c35131 => ?_)
      refine ev_iload_n rfl ?_
      refine ev_bipush ?_
      refine ev_icmpge f149_32 (fun c35132 => absurd c35132 (by omega)) (fun c35132 => ?_)
      refine ev_aload_n rfl ?_
      refine g_getp (r := 1) (c := 4) g1 ad1 (by decide) (by decide) rf1_5 ft10_5 ?_
      refine ev_iload_n rfl ?_
      refine g_iald g1 ad4 rt4 (by omega) (by omega) (fun v35133 ev35133 lv35133 uv35133 => ?_)
      refine ev_iload_n rfl ?_
      refine ev_icmpeq f149_32 (fun c35134 => ?_) (fun c35134 => ?_)
      · refine ev_ret rfl (by decide) (by decide) ?_
        show jEv _ _ _ _ _ _ _ (_, [(2, 0), (2, (r1 : Int)), (0, a2), (0, a3), (0, x4), (0, x5)], [], _, _, _)
        refine ev_aload_n rfl ?_
        refine g_getp (r := 0) (c := 1) g1 ad0 (by decide) (by decide) rf0_0 ft11_0 ?_
        refine ev_call (jcall_v (A := []) (S' := []) (r := 1) rfl (g1.lt ad1) (g1.tg ad1) (Nat.le_of_ble_eq_true rfl)) (jOk_le (by decide) (s153 g1 )) (by decide) (by decide) (fun w35135 h35135 q35135 => ?_)
        obtain ⟨v35136, rfl, lv35136, uv35136, g35135, kk35135⟩ := q35135
        have k35135 := k1.tr kk35135 (by decide)
        show jEv _ _ _ _ _ _ _ (_, [(2, 0), (2, (r1 : Int)), (0, a2), (0, a3), (0, x4), (0, x5)], [(0, v35136)], _, _, _)
        refine ev_ifeq f234_66 (fun c35137 => ?_) (fun c35137 => ?_)
        · refine ev_iinc (w := (x5 + 1)) (L' := [(2, 0), (2, (r1 : Int)), (0, a2), (0, a3), (0, x4), (0, (x5 + 1))]) rfl (by unfold w32; omega) rfl ?_
          refine ev_goto f234_9 ?_
          exact ih _ _ _ g35135 k35135 (by omega) (by omega) (by omega) (by omega) (by omega) (by omega) (by omega) (by omega) (by omega)
        · refine ev_aload_n rfl ?_
          refine ev_aload_n rfl ?_
          refine g_getp (r := 0) (c := 1) g35135 ad0 (by decide) (by decide) rf0_0 ft11_0 ?_
          refine ev_aload_n rfl ?_
          refine g_getp (r := 0) (c := 23) g35135 ad0 (by decide) (by decide) rf0_5 ft11_5 ?_
          refine ev_iconst ?_
          refine ev_call (jcall_v (A := [(0, 0), (2, 23), (2, 1)]) (S' := []) (r := r1) rfl (g35135.qlt q1) (g35135.qtg q1) (Nat.le_of_ble_eq_true rfl)) (jOk_le (by decide) (s47 g35135 q1 (Or.inl rfl) (by omega) (by omega))) (by decide) (by decide) (fun w35138 h35138 q35138 => ?_)
          obtain ⟨v35139, rfl, lv35139, uv35139, g35138, kk35138⟩ := q35138
          have k35138 := k35135.tr kk35138 (by decide)
          show jEv _ _ _ _ _ _ _ (_, [(2, 0), (2, (r1 : Int)), (0, a2), (0, a3), (0, x4), (0, x5)], [(1, v35139)], _, _, _)
          refine ev_aload_n rfl ?_
          refine ev_aload_n rfl ?_
          refine g_getp (r := 0) (c := 23) g35138 ad0 (by decide) (by decide) rf0_5 ft11_5 ?_
          refine ev_call (jcall_v (A := [(2, 23)]) (S' := [(1, v35139)]) (r := r1) rfl (g35138.qlt q1) (g35138.qtg q1) (Nat.le_of_ble_eq_true rfl)) (jOk_le (by decide) (s49 g35138 q1 (Or.inl rfl))) (by decide) (by decide) (fun w35140 h35140 q35140 => ?_)
          obtain ⟨v35141, rfl, lv35141, uv35141, g35140, kk35140⟩ := q35140
          have k35140 := k35138.tr kk35140 (by decide)
          show jEv _ _ _ _ _ _ _ (_, [(2, 0), (2, (r1 : Int)), (0, a2), (0, a3), (0, x4), (0, x5)], [(1, v35141), (1, v35139)], _, _, _)
          refine ev_lcmp ?_
          refine ev_ifne f234_66 (fun c35142 => ?_) (fun c35142 => ?_)
          · have c35142b := jcmpL_ne c35142
            refine ev_iinc (w := (x5 + 1)) (L' := [(2, 0), (2, (r1 : Int)), (0, a2), (0, a3), (0, x4), (0, (x5 + 1))]) rfl (by unfold w32; omega) rfl ?_
            refine ev_goto f234_9 ?_
            exact ih _ _ _ g35140 k35140 (by omega) (by omega) (by omega) (by omega) (by omega) (by omega) (by omega) (by omega) (by omega)
          · have c35142b := jcmpL_neN c35142
            refine g_iincG (f := fun w => [(2, 0), (2, (r1 : Int)), (0, a2), (0, a3), (0, w), (0, x5)]) rfl (fun _ => rfl) (fun v35143 ev35143 lv35143 uv35143 => ?_)
            refine ev_iinc (w := (x5 + 1)) (L' := [(2, 0), (2, (r1 : Int)), (0, a2), (0, a3), (0, v35143), (0, (x5 + 1))]) rfl (by unfold w32; omega) rfl ?_
            refine ev_goto f234_9 ?_
            exact ih _ _ _ g35140 k35140 (by omega) (by omega) (by omega) (by omega) (by omega) (by omega) (by omega) (by omega) (by omega)
      · refine ev_aload_n rfl ?_
        refine g_getp (r := 1) (c := 4) g1 ad1 (by decide) (by decide) rf1_5 ft10_5 ?_
        refine ev_iload_n rfl ?_
        refine ev_iload_n rfl ?_
        refine g_iast g1 ad4 rt4 (fun _ => rfl) (by omega) (by omega) (by omega) (by omega) (fun h35144 e35144 g35144 => ?_)
        have k35144 := k1.wr e35144 rfl
        refine ev_aload_n rfl ?_
        refine ev_iconst ?_
        refine g_putf (r := 1) g35144 ad1 (by decide) ft10_2 (by decide) (fun _ => by omega) rf1_2 (by decide) (by omega) (by omega) (fun h35145 e35145 g35145 => ?_)
        have k35145 := k35144.wr e35145 rfl
        refine ev_ret rfl (by decide) (by decide) ?_
        show jEv _ _ _ _ _ _ _ (_, [(2, 0), (2, (r1 : Int)), (0, a2), (0, a3), (0, x4), (0, x5)], [], _, _, _)
        refine ev_aload_n rfl ?_
        refine g_getp (r := 0) (c := 1) g35145 ad0 (by decide) (by decide) rf0_0 ft11_0 ?_
        refine ev_call (jcall_v (A := []) (S' := []) (r := 1) rfl (g35145.lt ad1) (g35145.tg ad1) (Nat.le_of_ble_eq_true rfl)) (jOk_le (by decide) (s153 g35145 )) (by decide) (by decide) (fun w35146 h35146 q35146 => ?_)
        obtain ⟨v35147, rfl, lv35147, uv35147, g35146, kk35146⟩ := q35146
        have k35146 := k35145.tr kk35146 (by decide)
        show jEv _ _ _ _ _ _ _ (_, [(2, 0), (2, (r1 : Int)), (0, a2), (0, a3), (0, x4), (0, x5)], [(0, v35147)], _, _, _)
        refine ev_ifeq f234_66 (fun c35148 => ?_) (fun c35148 => ?_)
        · refine ev_iinc (w := (x5 + 1)) (L' := [(2, 0), (2, (r1 : Int)), (0, a2), (0, a3), (0, x4), (0, (x5 + 1))]) rfl (by unfold w32; omega) rfl ?_
          refine ev_goto f234_9 ?_
          exact ih _ _ _ g35146 k35146 (by omega) (by omega) (by omega) (by omega) (by omega) (by omega) (by omega) (by omega) (by omega)
        · refine ev_aload_n rfl ?_
          refine ev_aload_n rfl ?_
          refine g_getp (r := 0) (c := 1) g35146 ad0 (by decide) (by decide) rf0_0 ft11_0 ?_
          refine ev_aload_n rfl ?_
          refine g_getp (r := 0) (c := 23) g35146 ad0 (by decide) (by decide) rf0_5 ft11_5 ?_
          refine ev_iconst ?_
          refine ev_call (jcall_v (A := [(0, 0), (2, 23), (2, 1)]) (S' := []) (r := r1) rfl (g35146.qlt q1) (g35146.qtg q1) (Nat.le_of_ble_eq_true rfl)) (jOk_le (by decide) (s47 g35146 q1 (Or.inl rfl) (by omega) (by omega))) (by decide) (by decide) (fun w35149 h35149 q35149 => ?_)
          obtain ⟨v35150, rfl, lv35150, uv35150, g35149, kk35149⟩ := q35149
          have k35149 := k35146.tr kk35149 (by decide)
          show jEv _ _ _ _ _ _ _ (_, [(2, 0), (2, (r1 : Int)), (0, a2), (0, a3), (0, x4), (0, x5)], [(1, v35150)], _, _, _)
          refine ev_aload_n rfl ?_
          refine ev_aload_n rfl ?_
          refine g_getp (r := 0) (c := 23) g35149 ad0 (by decide) (by decide) rf0_5 ft11_5 ?_
          refine ev_call (jcall_v (A := [(2, 23)]) (S' := [(1, v35150)]) (r := r1) rfl (g35149.qlt q1) (g35149.qtg q1) (Nat.le_of_ble_eq_true rfl)) (jOk_le (by decide) (s49 g35149 q1 (Or.inl rfl))) (by decide) (by decide) (fun w35151 h35151 q35151 => ?_)
          obtain ⟨v35152, rfl, lv35152, uv35152, g35151, kk35151⟩ := q35151
          have k35151 := k35149.tr kk35151 (by decide)
          show jEv _ _ _ _ _ _ _ (_, [(2, 0), (2, (r1 : Int)), (0, a2), (0, a3), (0, x4), (0, x5)], [(1, v35152), (1, v35150)], _, _, _)
          refine ev_lcmp ?_
          refine ev_ifne f234_66 (fun c35153 => ?_) (fun c35153 => ?_)
          · have c35153b := jcmpL_ne c35153
            refine ev_iinc (w := (x5 + 1)) (L' := [(2, 0), (2, (r1 : Int)), (0, a2), (0, a3), (0, x4), (0, (x5 + 1))]) rfl (by unfold w32; omega) rfl ?_
            refine ev_goto f234_9 ?_
            exact ih _ _ _ g35151 k35151 (by omega) (by omega) (by omega) (by omega) (by omega) (by omega) (by omega) (by omega) (by omega)
          · have c35153b := jcmpL_neN c35153
            refine g_iincG (f := fun w => [(2, 0), (2, (r1 : Int)), (0, a2), (0, a3), (0, w), (0, x5)]) rfl (fun _ => rfl) (fun v35154 ev35154 lv35154 uv35154 => ?_)
            refine ev_iinc (w := (x5 + 1)) (L' := [(2, 0), (2, (r1 : Int)), (0, a2), (0, a3), (0, v35154), (0, (x5 + 1))]) rfl (by unfold w32; omega) rfl ?_
            refine ev_goto f234_9 ?_
            exact ih _ _ _ g35151 k35151 (by omega) (by omega) (by omega) (by omega) (by omega) (by omega) (by omega) (by omega) (by omega)
set_option maxHeartbeats 4000000 in
theorem s234 {G : GH} {h : JH} (g : Gd G h) {r1 : Nat} {m1 : Int} (q1 : IsQ G r1 m1) {a2 : Int} (la2 : 0 ≤ a2) (ua2 : a2 ≤ 35) {a3 : Int} (la3 : 0 ≤ a3) (ua3 : a3 ≤ 9999) : jOk 6 0 0 234 [(2, 0), (2, (r1 : Int)), (0, a2), (0, a3)] h (PI G [(1, 2), (1, 3), (5, 0), (6, 0), (4, 0), (1000000, 0)] h 0 (-2147483648) 2147483647) := by
  refine ⟨by decide, by rw [ml234]; exact Nat.le_of_ble_eq_true rfl, ?_⟩
  rw [ml234, pp234]
  show jEv _ none _ c234_0 0 0 _ (c234_0, [(2, 0), (2, (r1 : Int)), (0, a2), (0, a3), (9, 0), (9, 0)], [], h, 0, 0)
  have k0 := Kp.rf [(1, 2), (1, 3), (5, 0), (6, 0), (4, 0), (1000000, 0)] h
  have wr1 := g.qb q1
  have zr1 := q1.1
  refine ev_iconst ?_
  refine ev_istore (L' := [(2, 0), (2, (r1 : Int)), (0, a2), (0, a3), (0, 0), (9, 0)]) (Nat.le_of_ble_eq_true rfl) rfl ?_
  refine ev_iload_n rfl ?_
  refine ev_bipush ?_
  refine g_idivP (c := 100) rfl (by decide) (by omega) (by omega) (fun v35155 ev35155 lv35155 uv35155 => ?_)
  refine ev_istore (L' := [(2, 0), (2, (r1 : Int)), (0, a2), (0, a3), (0, 0), (0, v35155)]) (Nat.le_of_ble_eq_true rfl) rfl ?_
  exact (s234_l q1 la2 ua2 la3 ua3 202) _ _ _ g k0 (by omega) (by omega) (by omega) (by omega) (by omega) (by omega) (by omega) (by omega) (by omega)
/-! 236 countPlan -/
set_option maxHeartbeats 4000000 in
theorem s236_l {G : GH} {h : JH} {a1 : Int} (la1 : 0 ≤ a1) (ua1 : a1 ≤ 98) : ∀ N : Nat, (∀ (h1 : JH) (x2 : Int) (j3 j4 : AV), Gd G h1 → Kp [(41, 0)] h h1 → 0 ≤ a1 → a1 ≤ 98 → 0 ≤ x2 → x2 ≤ 98 → ((-10) * x2 + 985) < N → jEv (jOk 0) none (fun _ => 0) c236_0 0 0 (PI G [(41, 0)] h 0 0 1) (c236_2, [(2, 0), (0, a1), (0, x2), j3, j4], [], h1, 0, 0)) ∧ (∀ (h1 : JH) (x2 x3 x4 : Int), Gd G h1 → Kp [(41, 0)] h h1 → 1 ≤ a1 → a1 ≤ 98 → 0 ≤ x2 → x2 ≤ 97 → 0 ≤ x3 → x3 ≤ 1 → 0 ≤ x4 → x4 ≤ 4 → ((-10) * x2 + (-x4) + 984) < N → jEv (jOk 0) none (fun _ => 0) c236_0 0 0 (PI G [(41, 0)] h 0 0 1) (c236_12, [(2, 0), (0, a1), (0, x2), (0, x3), (0, x4)], [], h1, 0, 0)) := by
  intro N
  induction N with
  | zero => exact ⟨fun h1 x2 j3 j4 g1 k1 b0 b1 b2 b3 hm => absurd hm (by omega), fun h1 x2 x3 x4 g1 k1 b0 b1 b2 b3 b4 b5 b6 b7 hm => absurd hm (by omega)⟩
  | succ N ih =>
    refine ⟨?_, ?_⟩
    · intro h1 x2 j3 j4 g1 k1 b0 b1 b2 b3 hm
      refine ev_iload_n rfl ?_
      refine ev_iload_n rfl ?_
      refine ev_icmpge f236_80 (fun c35612 => ?_) (fun c35612 => ?_)
      · refine ev_aload_n rfl ?_
        refine g_getp (r := 0) (c := 41) g1 ad0 (by decide) (by decide) rf0_16 ft11_16 ?_
        refine ev_iload_n rfl ?_
        refine ev_iconst ?_
        refine g_iast g1 ad41 rt41 (fun _ => rfl) (by omega) (by omega) (by omega) (by omega) (fun h35613 e35613 g35613 => ?_)
        have k35613 := k1.wr e35613 rfl
        refine ev_iconst ?_
        exact ev_ret rfl (by decide) (by decide) ⟨_, rfl, by omega, by omega, g35613, k35613⟩
      · refine ev_iconst ?_
        refine ev_istore_n (L' := [(2, 0), (0, a1), (0, x2), (0, 1), j4]) (Nat.le_of_ble_eq_true rfl) rfl ?_
        refine ev_iconst ?_
        refine ev_istore (L' := [(2, 0), (0, a1), (0, x2), (0, 1), (0, 0)]) (Nat.le_of_ble_eq_true rfl) rfl ?_
        exact ih.2 _ _ _ _ g1 k1 (by omega) (by omega) (by omega) (by omega) (by omega) (by omega) (by omega) (by omega) (by omega)
    · intro h1 x2 x3 x4 g1 k1 b0 b1 b2 b3 b4 b5 b6 b7 hm
      refine ev_iload rfl ?_
      refine ev_iconst ?_
      refine ev_icmpge f236_58 (fun c35614 => ?_) (fun c35614 => ?_)
      · refine ev_iload_n rfl ?_
        refine ev_ifeq f236_74 (fun c35615 => ?_) (fun c35615 => ?_)
        · refine ev_iinc (w := (x2 + 1)) (L' := [(2, 0), (0, a1), (0, (x2 + 1)), (0, x3), (0, x4)]) rfl (by unfold w32; omega) rfl ?_
          refine ev_goto f236_2 ?_
          exact ih.1 _ _ _ _ g1 k1 (by omega) (by omega) (by omega) (by omega) (by omega)
        · refine ev_aload_n rfl ?_
          refine g_getp (r := 0) (c := 41) g1 ad0 (by decide) (by decide) rf0_16 ft11_16 ?_
          refine ev_iload_n rfl ?_
          refine ev_dup2 (by decide) (by decide) ?_
          refine g_iald g1 ad41 rt41 (by omega) (by omega) (fun v35616 ev35616 lv35616 uv35616 => ?_)
          refine ev_iconst ?_
          refine g_iaddG (fun v35617 ev35617 lv35617 uv35617 => ?_)
          refine g_iast g1 ad41 rt41 (fun _ => rfl) (by omega) (by omega) (by omega) (by omega) (fun h35618 e35618 g35618 => ?_)
          have k35618 := k1.wr e35618 rfl
          refine ev_iconst ?_
          exact ev_ret rfl (by decide) (by decide) ⟨_, rfl, by omega, by omega, g35618, k35618⟩
      · refine ev_iload_n rfl ?_
        refine ev_aload_n rfl ?_
        refine g_getp (r := 0) (c := 40) g1 ad0 (by decide) (by decide) rf0_15 ft11_15 ?_
        refine ev_iconst ?_
        refine ev_iload_n rfl ?_
        refine ev_imul (r := (4 * x2)) (by unfold w32; omega) ?_
        refine ev_iload rfl ?_
        refine ev_iadd (r := (4 * x2 + x4)) (by unfold w32; omega) ?_
        refine g_lald g1 ad40 rt40 (by omega) (by omega) (fun v35619 ev35619 lv35619 uv35619 => ?_)
        refine ev_aload_n rfl ?_
        refine g_getp (r := 0) (c := 40) g1 ad0 (by decide) (by decide) rf0_15 ft11_15 ?_
        refine ev_iconst ?_
        refine ev_iload_n rfl ?_
        refine ev_imul (r := (4 * a1)) (by unfold w32; omega) ?_
        refine ev_iload rfl ?_
        refine ev_iadd (r := (4 * a1 + x4)) (by unfold w32; omega) ?_
        refine g_lald g1 ad40 rt40 (by omega) (by omega) (fun v35620 ev35620 lv35620 uv35620 => ?_)
        refine ev_lcmp ?_
        refine ev_ifne f236_49 (fun c35621 => ?_) (fun c35621 => ?_)
        · have c35621b := jcmpL_ne c35621
          refine ev_iconst ?_
          refine g_iandB (b := 0) (by omega) (by omega) (by decide) (fun v35622 ev35622 lv35622 uv35622 => ?_)
          refine ev_istore_n (L' := [(2, 0), (0, a1), (0, x2), (0, v35622), (0, x4)]) (Nat.le_of_ble_eq_true rfl) rfl ?_
          refine ev_iinc (w := (x4 + 1)) (L' := [(2, 0), (0, a1), (0, x2), (0, v35622), (0, (x4 + 1))]) rfl (by unfold w32; omega) rfl ?_
          refine ev_goto f236_12 ?_
          exact ih.2 _ _ _ _ g1 k1 (by omega) (by omega) (by omega) (by omega) (by omega) (by omega) (by omega) (by omega) (by omega)
        · have c35621b := jcmpL_neN c35621
          refine ev_iconst ?_
          refine ev_goto f236_50 ?_
          refine g_iandB (b := 1) (by omega) (by omega) (by decide) (fun v35623 ev35623 lv35623 uv35623 => ?_)
          refine ev_istore_n (L' := [(2, 0), (0, a1), (0, x2), (0, v35623), (0, x4)]) (Nat.le_of_ble_eq_true rfl) rfl ?_
          refine ev_iinc (w := (x4 + 1)) (L' := [(2, 0), (0, a1), (0, x2), (0, v35623), (0, (x4 + 1))]) rfl (by unfold w32; omega) rfl ?_
          refine ev_goto f236_12 ?_
          exact ih.2 _ _ _ _ g1 k1 (by omega) (by omega) (by omega) (by omega) (by omega) (by omega) (by omega) (by omega) (by omega)
set_option maxHeartbeats 4000000 in
theorem s236 {G : GH} {h : JH} (g : Gd G h) {a1 : Int} (la1 : 0 ≤ a1) (ua1 : a1 ≤ 98) : jOk 1 0 0 236 [(2, 0), (0, a1)] h (PI G [(41, 0)] h 0 0 1) := by
  refine ⟨by decide, by rw [ml236]; exact Nat.le_of_ble_eq_true rfl, ?_⟩
  rw [ml236, pp236]
  show jEv _ none _ c236_0 0 0 _ (c236_0, [(2, 0), (0, a1), (9, 0), (9, 0), (9, 0)], [], h, 0, 0)
  have k0 := Kp.rf [(41, 0)] h
  refine ev_iconst ?_
  refine ev_istore_n (L' := [(2, 0), (0, a1), (0, 0), (9, 0), (9, 0)]) (Nat.le_of_ble_eq_true rfl) rfl ?_
  exact (s236_l la1 ua1 1980).1 _ _ _ _ g k0 (by omega) (by omega) (by omega) (by omega) (by omega)
/-! 235 timesSteady -/
set_option maxHeartbeats 4000000 in
theorem s235_l {G : GH} {h : JH} {r1 : Nat} {m1 : Int} (q1 : IsQ G r1 m1) {a2 : Int} (la2 : 0 ≤ a2) (ua2 : a2 ≤ 35) {a3 : Int} (la3 : 0 ≤ a3) (ua3 : a3 ≤ 9999) : ∀ N : Nat, (∀ (h1 : JH) (x4 x5 : Int) (j6 : AV), Gd G h1 → Kp [(1, 2), (1, 3), (5, 0), (6, 0), (4, 0), (1000000, 0), (40, 0), (41, 0)] h h1 → 0 ≤ a2 → a2 ≤ 35 → 0 ≤ a3 → a3 ≤ 9999 → 0 ≤ x4 → x4 ≤ 99 → 0 ≤ x5 → x5 ≤ 100 → ((-x5) + 201) < N → jEv (jOk 5) none (fun _ => 0) c235_0 0 0 (PI G [(1, 2), (1, 3), (5, 0), (6, 0), (4, 0), (1000000, 0), (40, 0), (41, 0)] h 0 (-2147483648) 2147483647) (c235_9, [(2, 0), (2, (r1 : Int)), (0, a2), (0, a3), (0, x4), (0, x5), j6], [], h1, 0, 0)) ∧ (∀ (h1 : JH) (x4 x5 x6 : Int), Gd G h1 → Kp [(1, 2), (1, 3), (5, 0), (6, 0), (4, 0), (1000000, 0), (40, 0), (41, 0)] h h1 → 0 ≤ a2 → a2 ≤ 35 → 0 ≤ a3 → a3 ≤ 9999 → 0 ≤ x4 → x4 ≤ 99 → 0 ≤ x5 → x5 ≤ 98 → 1 ≤ x6 → x6 ≤ 99 → ((-x6) + 99) < N → jEv (jOk 5) none (fun _ => 0) c235_0 0 0 (PI G [(1, 2), (1, 3), (5, 0), (6, 0), (4, 0), (1000000, 0), (40, 0), (41, 0)] h 0 (-2147483648) 2147483647) (c235_94, [(2, 0), (2, (r1 : Int)), (0, a2), (0, a3), (0, x4), (0, x5), (0, x6)], [], h1, 0, 0)) := by
  intro N
  induction N with
  | zero => exact ⟨fun h1 x4 x5 j6 g1 k1 b0 b1 b2 b3 b4 b5 b6 b7 hm => absurd hm (by omega), fun h1 x4 x5 x6 g1 k1 b0 b1 b2 b3 b4 b5 b6 b7 b8 b9 hm => absurd hm (by omega)⟩
  | succ N ih =>
    refine ⟨?_, ?_⟩
    · intro h1 x4 x5 j6 g1 k1 b0 b1 b2 b3 b4 b5 b6 b7 hm
      have wr1 := g1.qb q1
      have zr1 := q1.1
      refine ev_iload rfl ?_
      refine ev_iload_n rfl ?_
      refine ev_bipush ?_
      refine g_iremP (c := 100) rfl (by decide) (by omega) (fun v36798 ev36798 lv36798 uv36798 wv36798 => ?_)
      refine ev_icmpgt f235_88 (fun c36799 => ?_) (fun c36799 => ?_)
      · refine ev_iconst ?_
        refine ev_istore (L' := [(2, 0), (2, (r1 : Int)), (0, a2), (0, a3), (0, x4), (0, 0), j6]) (Nat.le_of_ble_eq_true rfl) rfl ?_
        refine ev_iconst ?_
        refine ev_istore (L' := [(2, 0), (2, (r1 : Int)), (0, a2), (0, a3), (0, x4), (0, 0), (0, 1)]) (Nat.le_of_ble_eq_true rfl) rfl ?_
        exact ih.2 _ _ _ _ g1 k1 (by omega) (by omega) (by omega) (by omega) (by omega) (by omega) (by omega) (by omega) (by omega) (by omega) (by omega)
      · refine ev_iload rfl ?_
        refine ev_bipush ?_
        refine ev_icmpge f235_88 (fun c36800 => ?_) (fun c36800 => ?_)
        · refine ev_iconst ?_
          refine ev_istore (L' := [(2, 0), (2, (r1 : Int)), (0, a2), (0, a3), (0, x4), (0, 0), j6]) (Nat.le_of_ble_eq_true rfl) rfl ?_
          refine ev_iconst ?_
          refine ev_istore (L' := [(2, 0), (2, (r1 : Int)), (0, a2), (0, a3), (0, x4), (0, 0), (0, 1)]) (Nat.le_of_ble_eq_true rfl) rfl ?_
          exact ih.2 _ _ _ _ g1 k1 (by omega) (by omega) (by omega) (by omega) (by omega) (by omega) (by omega) (by omega) (by omega) (by omega) (by omega)
        · refine ev_aload_n rfl ?_
          refine g_getp (r := 0) (c := 1) g1 ad0 (by decide) (by decide) rf0_0 ft11_0 ?_
          refine ev_iload_n rfl ?_
          refine ev_iload rfl ?_
          refine ev_in (d := 4) (a := 0) (b := 0) (cd' := c149_0) (m := 3) (L0 := [(2, 1), (0, a2), (0, x5)]) (jcall_v (A := [(0, x5), (0, a2)]) (S' := []) (r := 1) rfl (g1.lt ad1) (g1.tg ad1) (Nat.le_of_ble_eq_true rfl)) (by decide) ml149 pp149 (Nat.le_of_ble_eq_true rfl) rfl (by decide) (by decide) ?_
          refine ev_iload_n rfl ?_
          refine ev_iflt f149_32 (fun c36801 => absurd c36801 (by omega)) (fun c36801 => ?_)
          refine ev_iload_n rfl ?_
          refine ev_bipush ?_
          refine ev_icmpge f149_32 (fun c36802 => absurd c36802 (by omega)) (fun c36802 => ?_)
          refine ev_aload_n rfl ?_
          refine g_getp (r := 1) (c := 4) g1 ad1 (by decide) (by decide) rf1_5 ft10_5 ?_
          refine ev_iload_n rfl ?_
          refine g_iald g1 ad4 rt4 (by omega) (by omega) (fun v36803 ev36803 lv36803 uv36803 => ?_)
          refine ev_iload_n rfl ?_
          refine ev_icmpeq f149_32 (fun c36804 => ?_) (fun c36804 => ?_)
          · refine ev_ret rfl (by decide) (by decide) ?_
            show jEv _ _ _ _ _ _ _ (_, [(2, 0), (2, (r1 : Int)), (0, a2), (0, a3), (0, x4), (0, x5), j6], [], _, _, _)
            refine ev_aload_n rfl ?_
            refine g_getp (r := 0) (c := 1) g1 ad0 (by decide) (by decide) rf0_0 ft11_0 ?_
            refine ev_call (jcall_v (A := []) (S' := []) (r := 1) rfl (g1.lt ad1) (g1.tg ad1) (Nat.le_of_ble_eq_true rfl)) (jOk_le (by decide) (s153 g1 )) (by decide) (by decide) (fun w36805 h36805 q36805 => ?_)
            obtain ⟨v36806, rfl, lv36806, uv36806, g36805, kk36805⟩ := q36805
            have k36805 := k1.tr kk36805 (by decide)
            show jEv _ _ _ _ _ _ _ (_, [(2, 0), (2, (r1 : Int)), (0, a2), (0, a3), (0, x4), (0, x5), j6], [(0, v36806)], _, _, _)
            refine ev_ifeq f235_82 (fun c36807 => ?_) (fun c36807 => ?_)
            · refine ev_iinc (w := (x5 + 1)) (L' := [(2, 0), (2, (r1 : Int)), (0, a2), (0, a3), (0, x4), (0, (x5 + 1)), j6]) rfl (by unfold w32; omega) rfl ?_
              refine ev_goto f235_9 ?_
              exact ih.1 _ _ _ _ g36805 k36805 (by omega) (by omega) (by omega) (by omega) (by omega) (by omega) (by omega) (by omega) (by omega)
            · refine ev_aload_n rfl ?_
              refine ev_aload_n rfl ?_
              refine g_getp (r := 0) (c := 1) g36805 ad0 (by decide) (by decide) rf0_0 ft11_0 ?_
              refine ev_aload_n rfl ?_
              refine g_getp (r := 0) (c := 23) g36805 ad0 (by decide) (by decide) rf0_5 ft11_5 ?_
              refine ev_iconst ?_
              refine ev_call (jcall_v (A := [(0, 0), (2, 23), (2, 1)]) (S' := []) (r := r1) rfl (g36805.qlt q1) (g36805.qtg q1) (Nat.le_of_ble_eq_true rfl)) (jOk_le (by decide) (s47 g36805 q1 (Or.inl rfl) (by omega) (by omega))) (by decide) (by decide) (fun w36808 h36808 q36808 => ?_)
              obtain ⟨v36809, rfl, lv36809, uv36809, g36808, kk36808⟩ := q36808
              have k36808 := k36805.tr kk36808 (by decide)
              show jEv _ _ _ _ _ _ _ (_, [(2, 0), (2, (r1 : Int)), (0, a2), (0, a3), (0, x4), (0, x5), j6], [(1, v36809)], _, _, _)
              refine ev_pop2 ?_
              refine ev_aload_n rfl ?_
              refine ev_aload_n rfl ?_
              refine g_getp (r := 0) (c := 40) g36808 ad0 (by decide) (by decide) rf0_15 ft11_15 ?_
              refine ev_iconst ?_
              refine ev_iload rfl ?_
              refine ev_imul (r := (4 * x4)) (by unfold w32; omega) ?_
              refine ev_call (jcall_v (A := [(0, (4 * x4)), (2, 40)]) (S' := []) (r := r1) rfl (g36808.qlt q1) (g36808.qtg q1) (Nat.le_of_ble_eq_true rfl)) (jOk_le (by decide) (s40 g36808 q1 (by omega) (by omega))) (by decide) (by decide) (fun w36810 h36810 q36810 => ?_)
              obtain ⟨rfl, g36810, kk36810⟩ := q36810
              have k36810 := k36808.tr kk36810 (by decide)
              show jEv _ _ _ _ _ _ _ (_, [(2, 0), (2, (r1 : Int)), (0, a2), (0, a3), (0, x4), (0, x5), j6], [], _, _, _)
              refine ev_iload rfl ?_
              refine ev_aload_n rfl ?_
              refine ev_iload rfl ?_
              refine ev_call (jcall_v (A := [(0, x4)]) (S' := [(0, x4)]) (r := 0) rfl (g36810.lt ad0) (g36810.tg ad0) (Nat.le_of_ble_eq_true rfl)) (jOk_le (by decide) (s236 g36810 (by omega) (by omega))) (by decide) (by decide) (fun w36811 h36811 q36811 => ?_)
              obtain ⟨v36812, rfl, lv36812, uv36812, g36811, kk36811⟩ := q36811
              have k36811 := k36810.tr kk36811 (by decide)
              show jEv _ _ _ _ _ _ _ (_, [(2, 0), (2, (r1 : Int)), (0, a2), (0, a3), (0, x4), (0, x5), j6], [(0, v36812), (0, x4)], _, _, _)
              refine ev_iadd (r := (v36812 + x4)) (by unfold w32; omega) ?_
              refine ev_istore (L' := [(2, 0), (2, (r1 : Int)), (0, a2), (0, a3), (0, (v36812 + x4)), (0, x5), j6]) (Nat.le_of_ble_eq_true rfl) rfl ?_
              refine ev_iinc (w := (x5 + 1)) (L' := [(2, 0), (2, (r1 : Int)), (0, a2), (0, a3), (0, (v36812 + x4)), (0, (x5 + 1)), j6]) rfl (by unfold w32; omega) rfl ?_
              refine ev_goto f235_9 ?_
              exact ih.1 _ _ _ _ g36811 k36811 (by omega) (by omega) (by omega) (by omega) (by omega) (by omega) (by omega) (by omega) (by omega)
          · refine ev_aload_n rfl ?_
            refine g_getp (r := 1) (c := 4) g1 ad1 (by decide) (by decide) rf1_5 ft10_5 ?_
            refine ev_iload_n rfl ?_
            refine ev_iload_n rfl ?_
            refine g_iast g1 ad4 rt4 (fun _ => rfl) (by omega) (by omega) (by omega) (by omega) (fun h36813 e36813 g36813 => ?_)
            have k36813 := k1.wr e36813 rfl
            refine ev_aload_n rfl ?_
            refine ev_iconst ?_
            refine g_putf (r := 1) g36813 ad1 (by decide) ft10_2 (by decide) (fun _ => by omega) rf1_2 (by decide) (by omega) (by omega) (fun h36814 e36814 g36814 => ?_)
            have k36814 := k36813.wr e36814 rfl
            refine ev_ret rfl (by decide) (by decide) ?_
            show jEv _ _ _ _ _ _ _ (_, [(2, 0), (2, (r1 : Int)), (0, a2), (0, a3), (0, x4), (0, x5), j6], [], _, _, _)
            refine ev_aload_n rfl ?_
            refine g_getp (r := 0) (c := 1) g36814 ad0 (by decide) (by decide) rf0_0 ft11_0 ?_
            refine ev_call (jcall_v (A := []) (S' := []) (r := 1) rfl (g36814.lt ad1) (g36814.tg ad1) (Nat.le_of_ble_eq_true rfl)) (jOk_le (by decide) (s153 g36814 )) (by decide) (by decide) (fun w36815 h36815 q36815 => ?_)
            obtain ⟨v36816, rfl, lv36816, uv36816, g36815, kk36815⟩ := q36815
            have k36815 := k36814.tr kk36815 (by decide)
            show jEv _ _ _ _ _ _ _ (_, [(2, 0), (2, (r1 : Int)), (0, a2), (0, a3), (0, x4), (0, x5), j6], [(0, v36816)], _, _, _)
            refine ev_ifeq f235_82 (fun c36817 => ?_) (fun c36817 => ?_)
            · refine ev_iinc (w := (x5 + 1)) (L' := [(2, 0), (2, (r1 : Int)), (0, a2), (0, a3), (0, x4), (0, (x5 + 1)), j6]) rfl (by unfold w32; omega) rfl ?_
              refine ev_goto f235_9 ?_
              exact ih.1 _ _ _ _ g36815 k36815 (by omega) (by omega) (by omega) (by omega) (by omega) (by omega) (by omega) (by omega) (by omega)
            · refine ev_aload_n rfl ?_
              refine ev_aload_n rfl ?_
              refine g_getp (r := 0) (c := 1) g36815 ad0 (by decide) (by decide) rf0_0 ft11_0 ?_
              refine ev_aload_n rfl ?_
              refine g_getp (r := 0) (c := 23) g36815 ad0 (by decide) (by decide) rf0_5 ft11_5 ?_
              refine ev_iconst ?_
              refine ev_call (jcall_v (A := [(0, 0), (2, 23), (2, 1)]) (S' := []) (r := r1) rfl (g36815.qlt q1) (g36815.qtg q1) (Nat.le_of_ble_eq_true rfl)) (jOk_le (by decide) (s47 g36815 q1 (Or.inl rfl) (by omega) (by omega))) (by decide) (by decide) (fun w36818 h36818 q36818 => ?_)
              obtain ⟨v36819, rfl, lv36819, uv36819, g36818, kk36818⟩ := q36818
              have k36818 := k36815.tr kk36818 (by decide)
              show jEv _ _ _ _ _ _ _ (_, [(2, 0), (2, (r1 : Int)), (0, a2), (0, a3), (0, x4), (0, x5), j6], [(1, v36819)], _, _, _)
              refine ev_pop2 ?_
              refine ev_aload_n rfl ?_
              refine ev_aload_n rfl ?_
              refine g_getp (r := 0) (c := 40) g36818 ad0 (by decide) (by decide) rf0_15 ft11_15 ?_
              refine ev_iconst ?_
              refine ev_iload rfl ?_
              refine ev_imul (r := (4 * x4)) (by unfold w32; omega) ?_
              refine ev_call (jcall_v (A := [(0, (4 * x4)), (2, 40)]) (S' := []) (r := r1) rfl (g36818.qlt q1) (g36818.qtg q1) (Nat.le_of_ble_eq_true rfl)) (jOk_le (by decide) (s40 g36818 q1 (by omega) (by omega))) (by decide) (by decide) (fun w36820 h36820 q36820 => ?_)
              obtain ⟨rfl, g36820, kk36820⟩ := q36820
              have k36820 := k36818.tr kk36820 (by decide)
              show jEv _ _ _ _ _ _ _ (_, [(2, 0), (2, (r1 : Int)), (0, a2), (0, a3), (0, x4), (0, x5), j6], [], _, _, _)
              refine ev_iload rfl ?_
              refine ev_aload_n rfl ?_
              refine ev_iload rfl ?_
              refine ev_call (jcall_v (A := [(0, x4)]) (S' := [(0, x4)]) (r := 0) rfl (g36820.lt ad0) (g36820.tg ad0) (Nat.le_of_ble_eq_true rfl)) (jOk_le (by decide) (s236 g36820 (by omega) (by omega))) (by decide) (by decide) (fun w36821 h36821 q36821 => ?_)
              obtain ⟨v36822, rfl, lv36822, uv36822, g36821, kk36821⟩ := q36821
              have k36821 := k36820.tr kk36821 (by decide)
              show jEv _ _ _ _ _ _ _ (_, [(2, 0), (2, (r1 : Int)), (0, a2), (0, a3), (0, x4), (0, x5), j6], [(0, v36822), (0, x4)], _, _, _)
              refine ev_iadd (r := (v36822 + x4)) (by unfold w32; omega) ?_
              refine ev_istore (L' := [(2, 0), (2, (r1 : Int)), (0, a2), (0, a3), (0, (v36822 + x4)), (0, x5), j6]) (Nat.le_of_ble_eq_true rfl) rfl ?_
              refine ev_iinc (w := (x5 + 1)) (L' := [(2, 0), (2, (r1 : Int)), (0, a2), (0, a3), (0, (v36822 + x4)), (0, (x5 + 1)), j6]) rfl (by unfold w32; omega) rfl ?_
              refine ev_goto f235_9 ?_
              exact ih.1 _ _ _ _ g36821 k36821 (by omega) (by omega) (by omega) (by omega) (by omega) (by omega) (by omega) (by omega) (by omega)
    · intro h1 x4 x5 x6 g1 k1 b0 b1 b2 b3 b4 b5 b6 b7 b8 b9 hm
      have wr1 := g1.qb q1
      have zr1 := q1.1
      refine ev_iload rfl ?_
      refine ev_iload rfl ?_
      refine ev_icmpge f235_128 (fun c36823 => ?_) (fun c36823 => ?_)
      · refine ev_aload_n rfl ?_
        refine ev_aload_n rfl ?_
        refine g_getp (r := 0) (c := 40) g1 ad0 (by decide) (by decide) rf0_15 ft11_15 ?_
        refine ev_iconst ?_
        refine ev_iload rfl ?_
        refine ev_imul (r := (4 * x5)) (by unfold w32; omega) ?_
        refine ev_call (jcall_v (A := [(0, (4 * x5)), (2, 40)]) (S' := []) (r := r1) rfl (g1.qlt q1) (g1.qtg q1) (Nat.le_of_ble_eq_true rfl)) (jOk_le (by decide) (s41 g1 q1 (by omega) (by omega))) (by decide) (by decide) (fun w36824 h36824 q36824 => ?_)
        obtain ⟨rfl, g36824, kk36824⟩ := q36824
        have k36824 := k1.tr kk36824 (by decide)
        show jEv _ _ _ _ _ _ _ (_, [(2, 0), (2, (r1 : Int)), (0, a2), (0, a3), (0, x4), (0, x5), (0, x6)], [], _, _, _)
        refine ev_aload_n rfl ?_
        refine g_getp (r := 0) (c := 41) g36824 ad0 (by decide) (by decide) rf0_16 ft11_16 ?_
        refine ev_iload rfl ?_
        refine g_iald g36824 ad41 rt41 (by omega) (by omega) (fun v36825 ev36825 lv36825 uv36825 => ?_)
        exact ev_ret rfl (by decide) (by decide) ⟨_, rfl, by omega, by omega, g36824, k36824⟩
      · refine ev_aload_n rfl ?_
        refine g_getp (r := 0) (c := 41) g1 ad0 (by decide) (by decide) rf0_16 ft11_16 ?_
        refine ev_iload rfl ?_
        refine g_iald g1 ad41 rt41 (by omega) (by omega) (fun v36826 ev36826 lv36826 uv36826 => ?_)
        refine ev_aload_n rfl ?_
        refine g_getp (r := 0) (c := 41) g1 ad0 (by decide) (by decide) rf0_16 ft11_16 ?_
        refine ev_iload rfl ?_
        refine g_iald g1 ad41 rt41 (by omega) (by omega) (fun v36827 ev36827 lv36827 uv36827 => ?_)
        refine ev_icmple f235_122 (fun c36828 => ?_) (fun c36828 => ?_)
        · refine ev_iinc (w := (x6 + 1)) (L' := [(2, 0), (2, (r1 : Int)), (0, a2), (0, a3), (0, x4), (0, x5), (0, (x6 + 1))]) rfl (by unfold w32; omega) rfl ?_
          refine ev_goto f235_94 ?_
          exact ih.2 _ _ _ _ g1 k1 (by omega) (by omega) (by omega) (by omega) (by omega) (by omega) (by omega) (by omega) (by omega) (by omega) (by omega)
        · refine ev_iload rfl ?_
          refine ev_istore (L' := [(2, 0), (2, (r1 : Int)), (0, a2), (0, a3), (0, x4), (0, x6), (0, x6)]) (Nat.le_of_ble_eq_true rfl) rfl ?_
          refine ev_iinc (w := (x6 + 1)) (L' := [(2, 0), (2, (r1 : Int)), (0, a2), (0, a3), (0, x4), (0, x6), (0, (x6 + 1))]) rfl (by unfold w32; omega) rfl ?_
          refine ev_goto f235_94 ?_
          exact ih.2 _ _ _ _ g1 k1 (by omega) (by omega) (by omega) (by omega) (by omega) (by omega) (by omega) (by omega) (by omega) (by omega) (by omega)
set_option maxHeartbeats 4000000 in
theorem s235 {G : GH} {h : JH} (g : Gd G h) {r1 : Nat} {m1 : Int} (q1 : IsQ G r1 m1) {a2 : Int} (la2 : 0 ≤ a2) (ua2 : a2 ≤ 35) {a3 : Int} (la3 : 0 ≤ a3) (ua3 : a3 ≤ 9999) : jOk 6 0 0 235 [(2, 0), (2, (r1 : Int)), (0, a2), (0, a3)] h (PI G [(1, 2), (1, 3), (5, 0), (6, 0), (4, 0), (1000000, 0), (40, 0), (41, 0)] h 0 (-2147483648) 2147483647) := by
  refine ⟨by decide, by rw [ml235]; exact Nat.le_of_ble_eq_true rfl, ?_⟩
  rw [ml235, pp235]
  show jEv _ none _ c235_0 0 0 _ (c235_0, [(2, 0), (2, (r1 : Int)), (0, a2), (0, a3), (9, 0), (9, 0), (9, 0)], [], h, 0, 0)
  have k0 := Kp.rf [(1, 2), (1, 3), (5, 0), (6, 0), (4, 0), (1000000, 0), (40, 0), (41, 0)] h
  have wr1 := g.qb q1
  have zr1 := q1.1
  refine ev_iconst ?_
  refine ev_istore (L' := [(2, 0), (2, (r1 : Int)), (0, a2), (0, a3), (0, 0), (9, 0), (9, 0)]) (Nat.le_of_ble_eq_true rfl) rfl ?_
  refine ev_iload_n rfl ?_
  refine ev_bipush ?_
  refine g_idivP (c := 100) rfl (by decide) (by omega) (by omega) (fun v36829 ev36829 lv36829 uv36829 => ?_)
  refine ev_istore (L' := [(2, 0), (2, (r1 : Int)), (0, a2), (0, a3), (0, 0), (0, v36829), (9, 0)]) (Nat.le_of_ble_eq_true rfl) rfl ?_
  exact (s235_l q1 la2 ua2 la3 ua3 303).1 _ _ _ _ g k0 (by omega) (by omega) (by omega) (by omega) (by omega) (by omega) (by omega) (by omega) (by omega)
/-! 237 leastWorth -/
set_option maxHeartbeats 4000000 in
theorem s237_l {G : GH} {h : JH} {r1 : Nat} {m1 : Int} (q1 : IsQ G r1 m1) {a2 : Int} (la2 : 0 ≤ a2) (ua2 : a2 ≤ 3) {a3 : Int} (la3 : 0 ≤ a3) (ua3 : a3 ≤ 9999) {a4 : Int} (la4 : (-2147483648) ≤ a4) (ua4 : a4 ≤ 2147483647) : ∀ N : Nat, (∀ (h1 : JH) (x5 x7 x9 x11 : Int) (j12 j14 : AV), Gd G h1 → Kp [(1, 2), (1, 3), (5, 0), (6, 0), (4, 0), (1000000, 0)] h h1 → 0 ≤ a2 → a2 ≤ 3 → 0 ≤ a3 → a3 ≤ 9999 → (-2147483648) ≤ a4 → a4 ≤ 2147483647 → (-9223372036854775808) ≤ x5 → x5 ≤ 9223372036854775807 → (-9223372036854775808) ≤ x7 → x7 ≤ 9223372036854775807 → (-2147483648) ≤ x9 → x9 ≤ 2147483647 → 0 ≤ x11 → x11 ≤ 100 → ((-x11) + 100) < N → jEv (jOk 5) none (fun _ => 0) c237_0 0 0 (PI G [(1, 2), (1, 3), (5, 0), (6, 0), (4, 0), (1000000, 0)] h 1 (-9223372036854775808) 9223372036854775807) (c237_15, [(2, 0), (2, (r1 : Int)), (0, a2), (0, a3), (0, a4), (1, x5), (9, 0), (1, x7), (9, 0), (1, x9), (9, 0), (0, x11), j12, (9, 0), j14, (9, 0)], [], h1, 0, 0)) := by
  intro N
  induction N with
  | zero => exact fun h1 x5 x7 x9 x11 j12 j14 g1 k1 b0 b1 b2 b3 b4 b5 b6 b7 b8 b9 b10 b11 b12 b13 hm => absurd hm (by omega)
  | succ N ih =>
    show _
    intro h1 x5 x7 x9 x11 j12 j14 g1 k1 b0 b1 b2 b3 b4 b5 b6 b7 b8 b9 b10 b11 b12 b13 hm
    have wr1 := g1.qb q1
    have zr1 := q1.1
    refine ev_iload rfl ?_
    refine ev_iload_n rfl ?_
    refine ev_bipush ?_
    refine g_iremP (c := 100) rfl (by decide) (by omega) (fun v36938 ev36938 lv36938 uv36938 wv36938 => ?_)
    refine ev_icmpgt f237_123 (fun c36939 => ?_) (fun c36939 => ?_)
    · refine ev_lload rfl ?_
      refine ev_lload rfl ?_
      refine ev_iload rfl ?_
      refine ev_call (jcall_s (A := [(0, a4), (1, x7), (1, x5)]) (S' := []) (by decide) rfl (Nat.le_of_ble_eq_true rfl)) (jOk_le (by decide) (s223 g1 (by omega) (by omega) (by omega) (by omega) (by omega) (by omega))) (by decide) (by decide) (fun w36940 h36940 q36940 => ?_)
      obtain ⟨v36941, rfl, lv36941, uv36941, g36940, kk36940⟩ := q36940
      have k36940 := k1.tr kk36940 (by decide)
      show jEv _ _ _ _ _ _ _ (_, [(2, 0), (2, (r1 : Int)), (0, a2), (0, a3), (0, a4), (1, x5), (9, 0), (1, x7), (9, 0), (1, x9), (9, 0), (0, x11), j12, (9, 0), j14, (9, 0)], [(1, v36941)], _, _, _)
      exact ev_ret rfl (by decide) (by decide) ⟨_, rfl, by omega, by omega, g36940, k36940⟩
    · refine ev_aload_n rfl ?_
      refine g_getp (r := 0) (c := 1) g1 ad0 (by decide) (by decide) rf0_0 ft11_0 ?_
      refine ev_iload_n rfl ?_
      refine ev_iconst ?_
      refine ev_iconst ?_
      refine ev_in (d := 4) (a := 0) (b := 0) (cd' := c147_0) (m := 3) (L0 := [(0, a2), (0, 0), (0, 0)]) (jcall_s (A := [(0, 0), (0, 0), (0, a2)]) (S' := [(2, 1)]) (by decide) rfl (Nat.le_of_ble_eq_true rfl)) (by decide) ml147 pp147 (Nat.le_of_ble_eq_true rfl) rfl (by decide) (by decide) ?_
      refine ev_bipush ?_
      refine ev_iload_n rfl ?_
      refine ev_imul (r := (9 * a2)) (by unfold w32; omega) ?_
      refine ev_iconst ?_
      refine ev_iload_n rfl ?_
      refine ev_imul (r := 0) (by decide) ?_
      refine ev_iadd (r := (9 * a2)) (by unfold w32; omega) ?_
      refine ev_iload_n rfl ?_
      refine ev_iadd (r := (9 * a2)) (by unfold w32; omega) ?_
      refine ev_ret rfl (by decide) (by decide) ?_
      show jEv _ _ _ _ _ _ _ (_, [(2, 0), (2, (r1 : Int)), (0, a2), (0, a3), (0, a4), (1, x5), (9, 0), (1, x7), (9, 0), (1, x9), (9, 0), (0, x11), j12, (9, 0), j14, (9, 0)], [(0, (9 * a2)), (2, 1)], _, _, _)
      refine ev_iload rfl ?_
      refine ev_in (d := 4) (a := 0) (b := 0) (cd' := c149_0) (m := 3) (L0 := [(2, 1), (0, (9 * a2)), (0, x11)]) (jcall_v (A := [(0, x11), (0, (9 * a2))]) (S' := []) (r := 1) rfl (g1.lt ad1) (g1.tg ad1) (Nat.le_of_ble_eq_true rfl)) (by decide) ml149 pp149 (Nat.le_of_ble_eq_true rfl) rfl (by decide) (by decide) ?_
      refine ev_iload_n rfl ?_
      refine ev_iflt f149_32 (fun c36942 => absurd c36942 (by omega)) (fun c36942 => ?_)
      refine ev_iload_n rfl ?_
      refine ev_bipush ?_
      refine ev_icmpge f149_32 (fun c36943 => absurd c36943 (by omega)) (fun c36943 => ?_)
      refine ev_aload_n rfl ?_
      refine g_getp (r := 1) (c := 4) g1 ad1 (by decide) (by decide) rf1_5 ft10_5 ?_
      refine ev_iload_n rfl ?_
      refine g_iald g1 ad4 rt4 (by omega) (by omega) (fun v36944 ev36944 lv36944 uv36944 => ?_)
      refine ev_iload_n rfl ?_
      refine ev_icmpeq f149_32 (fun c36945 => ?_) (fun c36945 => ?_)
      · refine ev_ret rfl (by decide) (by decide) ?_
        show jEv _ _ _ _ _ _ _ (_, [(2, 0), (2, (r1 : Int)), (0, a2), (0, a3), (0, a4), (1, x5), (9, 0), (1, x7), (9, 0), (1, x9), (9, 0), (0, x11), j12, (9, 0), j14, (9, 0)], [], _, _, _)
        refine ev_aload_n rfl ?_
        refine g_getp (r := 0) (c := 1) g1 ad0 (by decide) (by decide) rf0_0 ft11_0 ?_
        refine ev_call (jcall_v (A := []) (S' := []) (r := 1) rfl (g1.lt ad1) (g1.tg ad1) (Nat.le_of_ble_eq_true rfl)) (jOk_le (by decide) (s153 g1 )) (by decide) (by decide) (fun w36946 h36946 q36946 => ?_)
        obtain ⟨v36947, rfl, lv36947, uv36947, g36946, kk36946⟩ := q36946
        have k36946 := k1.tr kk36946 (by decide)
        show jEv _ _ _ _ _ _ _ (_, [(2, 0), (2, (r1 : Int)), (0, a2), (0, a3), (0, a4), (1, x5), (9, 0), (1, x7), (9, 0), (1, x9), (9, 0), (0, x11), j12, (9, 0), j14, (9, 0)], [(0, v36947)], _, _, _)
        refine ev_ifeq f237_117 (fun c36948 => ?_) (fun c36948 => ?_)
        · refine ev_iinc (w := (x11 + 1)) (L' := [(2, 0), (2, (r1 : Int)), (0, a2), (0, a3), (0, a4), (1, x5), (9, 0), (1, x7), (9, 0), (1, x9), (9, 0), (0, (x11 + 1)), j12, (9, 0), j14, (9, 0)]) rfl (by unfold w32; omega) rfl ?_
          refine ev_goto f237_15 ?_
          exact ih _ _ _ _ _ _ _ g36946 k36946 (by omega) (by omega) (by omega) (by omega) (by omega) (by omega) (by omega) (by omega) (by omega) (by omega) (by omega) (by omega) (by omega) (by omega) (by omega)
        · refine ev_aload_n rfl ?_
          refine ev_aload_n rfl ?_
          refine g_getp (r := 0) (c := 1) g36946 ad0 (by decide) (by decide) rf0_0 ft11_0 ?_
          refine ev_aload_n rfl ?_
          refine g_getp (r := 0) (c := 23) g36946 ad0 (by decide) (by decide) rf0_5 ft11_5 ?_
          refine ev_call (jcall_v (A := [(2, 23), (2, 1)]) (S' := []) (r := r1) rfl (g36946.qlt q1) (g36946.qtg q1) (Nat.le_of_ble_eq_true rfl)) (jOk_le (by decide) (s48 g36946 q1 (Or.inl rfl))) (by decide) (by decide) (fun w36949 h36949 q36949 => ?_)
          obtain ⟨v36950, rfl, lv36950, uv36950, g36949, kk36949⟩ := q36949
          have k36949 := k36946.tr kk36949 (by decide)
          show jEv _ _ _ _ _ _ _ (_, [(2, 0), (2, (r1 : Int)), (0, a2), (0, a3), (0, a4), (1, x5), (9, 0), (1, x7), (9, 0), (1, x9), (9, 0), (0, x11), j12, (9, 0), j14, (9, 0)], [(1, v36950)], _, _, _)
          refine ev_ldc2_w ?_
          refine g_ldivG (by omega) (fun v36951 ev36951 lv36951 uv36951 => ?_)
          refine ev_lstore (L' := [(2, 0), (2, (r1 : Int)), (0, a2), (0, a3), (0, a4), (1, x5), (9, 0), (1, x7), (9, 0), (1, x9), (9, 0), (0, x11), (1, v36951), (9, 0), j14, (9, 0)]) (Nat.le_of_ble_eq_true rfl) rfl ?_
          refine ev_aload_n rfl ?_
          refine g_getp (r := 0) (c := 1) g36949 ad0 (by decide) (by decide) rf0_0 ft11_0 ?_
          refine ev_iload_n rfl ?_
          refine ev_iconst ?_
          refine ev_call (jcall_v (A := [(0, 0), (0, a2)]) (S' := []) (r := 1) rfl (g36949.lt ad1) (g36949.tg ad1) (Nat.le_of_ble_eq_true rfl)) (jOk_le (by decide) (s150 g36949 (by omega) (by omega) (by omega) (by omega))) (by decide) (by decide) (fun w36952 h36952 q36952 => ?_)
          obtain ⟨v36953, rfl, lv36953, uv36953, g36952, kk36952⟩ := q36952
          have k36952 := k36949.tr kk36952 (by decide)
          show jEv _ _ _ _ _ _ _ (_, [(2, 0), (2, (r1 : Int)), (0, a2), (0, a3), (0, a4), (1, x5), (9, 0), (1, x7), (9, 0), (1, x9), (9, 0), (0, x11), (1, v36951), (9, 0), j14, (9, 0)], [(0, v36953)], _, _, _)
          refine ev_i2l ?_
          refine ev_lstore (L' := [(2, 0), (2, (r1 : Int)), (0, a2), (0, a3), (0, a4), (1, x5), (9, 0), (1, x7), (9, 0), (1, x9), (9, 0), (0, x11), (1, v36951), (9, 0), (1, v36953), (9, 0)]) (Nat.le_of_ble_eq_true rfl) rfl ?_
          refine ev_lload rfl ?_
          refine ev_lconst ?_
          refine ev_lcmp ?_
          refine ev_ifeq f237_100 (fun c36954 => ?_) (fun c36954 => ?_)
          · have c36954b := jcmpL_eq c36954
            refine ev_lload rfl ?_
            refine ev_lstore (L' := [(2, 0), (2, (r1 : Int)), (0, a2), (0, a3), (0, a4), (1, v36951), (9, 0), (1, x7), (9, 0), (1, x9), (9, 0), (0, x11), (1, v36951), (9, 0), (1, v36953), (9, 0)]) (Nat.le_of_ble_eq_true rfl) rfl ?_
            refine ev_aload_n rfl ?_
            refine g_getp (r := 0) (c := 1) g36952 ad0 (by decide) (by decide) rf0_0 ft11_0 ?_
            obtain ⟨v36955, ev36955, lv36955, uv36955⟩ := g36952.rd ad1 (show 1 < 8 by decide) rf1_1
            refine g_getv (r := 1) (v := v36955) g36952 ad1 (by decide) ft10_1 ev36955 ?_
            refine ev_lstore (L' := [(2, 0), (2, (r1 : Int)), (0, a2), (0, a3), (0, a4), (1, v36951), (9, 0), (1, v36955), (9, 0), (1, x9), (9, 0), (0, x11), (1, v36951), (9, 0), (1, v36953), (9, 0)]) (Nat.le_of_ble_eq_true rfl) rfl ?_
            refine ev_lload rfl ?_
            refine ev_lstore (L' := [(2, 0), (2, (r1 : Int)), (0, a2), (0, a3), (0, a4), (1, v36951), (9, 0), (1, v36955), (9, 0), (1, v36953), (9, 0), (0, x11), (1, v36951), (9, 0), (1, v36953), (9, 0)]) (Nat.le_of_ble_eq_true rfl) rfl ?_
            refine ev_iinc (w := (x11 + 1)) (L' := [(2, 0), (2, (r1 : Int)), (0, a2), (0, a3), (0, a4), (1, v36951), (9, 0), (1, v36955), (9, 0), (1, v36953), (9, 0), (0, (x11 + 1)), (1, v36951), (9, 0), (1, v36953), (9, 0)]) rfl (by unfold w32; omega) rfl ?_
            refine ev_goto f237_15 ?_
            exact ih _ _ _ _ _ _ _ g36952 k36952 (by omega) (by omega) (by omega) (by omega) (by omega) (by omega) (by omega) (by omega) (by omega) (by omega) (by omega) (by omega) (by omega) (by omega) (by omega)
          · have c36954b := jcmpL_eqN c36954
            refine ev_lload rfl ?_
            refine ev_lload rfl ?_
            refine g_lmulG (fun v36956 ev36956 lv36956 uv36956 => ?_)
            refine ev_lload rfl ?_
            refine ev_lload rfl ?_
            refine g_lmulG (fun v36957 ev36957 lv36957 uv36957 => ?_)
            refine ev_lcmp ?_
            refine ev_ifge f237_117 (fun c36958 => ?_) (fun c36958 => ?_)
            · have c36958b := jcmpL_ge c36958
              refine ev_iinc (w := (x11 + 1)) (L' := [(2, 0), (2, (r1 : Int)), (0, a2), (0, a3), (0, a4), (1, x5), (9, 0), (1, x7), (9, 0), (1, x9), (9, 0), (0, (x11 + 1)), (1, v36951), (9, 0), (1, v36953), (9, 0)]) rfl (by unfold w32; omega) rfl ?_
              refine ev_goto f237_15 ?_
              exact ih _ _ _ _ _ _ _ g36952 k36952 (by omega) (by omega) (by omega) (by omega) (by omega) (by omega) (by omega) (by omega) (by omega) (by omega) (by omega) (by omega) (by omega) (by omega) (by omega)
            · have c36958b := jcmpL_geN c36958
              refine ev_lload rfl ?_
              refine ev_lstore (L' := [(2, 0), (2, (r1 : Int)), (0, a2), (0, a3), (0, a4), (1, v36951), (9, 0), (1, x7), (9, 0), (1, x9), (9, 0), (0, x11), (1, v36951), (9, 0), (1, v36953), (9, 0)]) (Nat.le_of_ble_eq_true rfl) rfl ?_
              refine ev_aload_n rfl ?_
              refine g_getp (r := 0) (c := 1) g36952 ad0 (by decide) (by decide) rf0_0 ft11_0 ?_
              obtain ⟨v36959, ev36959, lv36959, uv36959⟩ := g36952.rd ad1 (show 1 < 8 by decide) rf1_1
              refine g_getv (r := 1) (v := v36959) g36952 ad1 (by decide) ft10_1 ev36959 ?_
              refine ev_lstore (L' := [(2, 0), (2, (r1 : Int)), (0, a2), (0, a3), (0, a4), (1, v36951), (9, 0), (1, v36959), (9, 0), (1, x9), (9, 0), (0, x11), (1, v36951), (9, 0), (1, v36953), (9, 0)]) (Nat.le_of_ble_eq_true rfl) rfl ?_
              refine ev_lload rfl ?_
              refine ev_lstore (L' := [(2, 0), (2, (r1 : Int)), (0, a2), (0, a3), (0, a4), (1, v36951), (9, 0), (1, v36959), (9, 0), (1, v36953), (9, 0), (0, x11), (1, v36951), (9, 0), (1, v36953), (9, 0)]) (Nat.le_of_ble_eq_true rfl) rfl ?_
              refine ev_iinc (w := (x11 + 1)) (L' := [(2, 0), (2, (r1 : Int)), (0, a2), (0, a3), (0, a4), (1, v36951), (9, 0), (1, v36959), (9, 0), (1, v36953), (9, 0), (0, (x11 + 1)), (1, v36951), (9, 0), (1, v36953), (9, 0)]) rfl (by unfold w32; omega) rfl ?_
              refine ev_goto f237_15 ?_
              exact ih _ _ _ _ _ _ _ g36952 k36952 (by omega) (by omega) (by omega) (by omega) (by omega) (by omega) (by omega) (by omega) (by omega) (by omega) (by omega) (by omega) (by omega) (by omega) (by omega)
      · refine ev_aload_n rfl ?_
        refine g_getp (r := 1) (c := 4) g1 ad1 (by decide) (by decide) rf1_5 ft10_5 ?_
        refine ev_iload_n rfl ?_
        refine ev_iload_n rfl ?_
        refine g_iast g1 ad4 rt4 (fun _ => rfl) (by omega) (by omega) (by omega) (by omega) (fun h36960 e36960 g36960 => ?_)
        have k36960 := k1.wr e36960 rfl
        refine ev_aload_n rfl ?_
        refine ev_iconst ?_
        refine g_putf (r := 1) g36960 ad1 (by decide) ft10_2 (by decide) (fun _ => by omega) rf1_2 (by decide) (by omega) (by omega) (fun h36961 e36961 g36961 => ?_)
        have k36961 := k36960.wr e36961 rfl
        refine ev_ret rfl (by decide) (by decide) ?_
        show jEv _ _ _ _ _ _ _ (_, [(2, 0), (2, (r1 : Int)), (0, a2), (0, a3), (0, a4), (1, x5), (9, 0), (1, x7), (9, 0), (1, x9), (9, 0), (0, x11), j12, (9, 0), j14, (9, 0)], [], _, _, _)
        refine ev_aload_n rfl ?_
        refine g_getp (r := 0) (c := 1) g36961 ad0 (by decide) (by decide) rf0_0 ft11_0 ?_
        refine ev_call (jcall_v (A := []) (S' := []) (r := 1) rfl (g36961.lt ad1) (g36961.tg ad1) (Nat.le_of_ble_eq_true rfl)) (jOk_le (by decide) (s153 g36961 )) (by decide) (by decide) (fun w36962 h36962 q36962 => ?_)
        obtain ⟨v36963, rfl, lv36963, uv36963, g36962, kk36962⟩ := q36962
        have k36962 := k36961.tr kk36962 (by decide)
        show jEv _ _ _ _ _ _ _ (_, [(2, 0), (2, (r1 : Int)), (0, a2), (0, a3), (0, a4), (1, x5), (9, 0), (1, x7), (9, 0), (1, x9), (9, 0), (0, x11), j12, (9, 0), j14, (9, 0)], [(0, v36963)], _, _, _)
        refine ev_ifeq f237_117 (fun c36964 => ?_) (fun c36964 => ?_)
        · refine ev_iinc (w := (x11 + 1)) (L' := [(2, 0), (2, (r1 : Int)), (0, a2), (0, a3), (0, a4), (1, x5), (9, 0), (1, x7), (9, 0), (1, x9), (9, 0), (0, (x11 + 1)), j12, (9, 0), j14, (9, 0)]) rfl (by unfold w32; omega) rfl ?_
          refine ev_goto f237_15 ?_
          exact ih _ _ _ _ _ _ _ g36962 k36962 (by omega) (by omega) (by omega) (by omega) (by omega) (by omega) (by omega) (by omega) (by omega) (by omega) (by omega) (by omega) (by omega) (by omega) (by omega)
        · refine ev_aload_n rfl ?_
          refine ev_aload_n rfl ?_
          refine g_getp (r := 0) (c := 1) g36962 ad0 (by decide) (by decide) rf0_0 ft11_0 ?_
          refine ev_aload_n rfl ?_
          refine g_getp (r := 0) (c := 23) g36962 ad0 (by decide) (by decide) rf0_5 ft11_5 ?_
          refine ev_call (jcall_v (A := [(2, 23), (2, 1)]) (S' := []) (r := r1) rfl (g36962.qlt q1) (g36962.qtg q1) (Nat.le_of_ble_eq_true rfl)) (jOk_le (by decide) (s48 g36962 q1 (Or.inl rfl))) (by decide) (by decide) (fun w36965 h36965 q36965 => ?_)
          obtain ⟨v36966, rfl, lv36966, uv36966, g36965, kk36965⟩ := q36965
          have k36965 := k36962.tr kk36965 (by decide)
          show jEv _ _ _ _ _ _ _ (_, [(2, 0), (2, (r1 : Int)), (0, a2), (0, a3), (0, a4), (1, x5), (9, 0), (1, x7), (9, 0), (1, x9), (9, 0), (0, x11), j12, (9, 0), j14, (9, 0)], [(1, v36966)], _, _, _)
          refine ev_ldc2_w ?_
          refine g_ldivG (by omega) (fun v36967 ev36967 lv36967 uv36967 => ?_)
          refine ev_lstore (L' := [(2, 0), (2, (r1 : Int)), (0, a2), (0, a3), (0, a4), (1, x5), (9, 0), (1, x7), (9, 0), (1, x9), (9, 0), (0, x11), (1, v36967), (9, 0), j14, (9, 0)]) (Nat.le_of_ble_eq_true rfl) rfl ?_
          refine ev_aload_n rfl ?_
          refine g_getp (r := 0) (c := 1) g36965 ad0 (by decide) (by decide) rf0_0 ft11_0 ?_
          refine ev_iload_n rfl ?_
          refine ev_iconst ?_
          refine ev_call (jcall_v (A := [(0, 0), (0, a2)]) (S' := []) (r := 1) rfl (g36965.lt ad1) (g36965.tg ad1) (Nat.le_of_ble_eq_true rfl)) (jOk_le (by decide) (s150 g36965 (by omega) (by omega) (by omega) (by omega))) (by decide) (by decide) (fun w36968 h36968 q36968 => ?_)
          obtain ⟨v36969, rfl, lv36969, uv36969, g36968, kk36968⟩ := q36968
          have k36968 := k36965.tr kk36968 (by decide)
          show jEv _ _ _ _ _ _ _ (_, [(2, 0), (2, (r1 : Int)), (0, a2), (0, a3), (0, a4), (1, x5), (9, 0), (1, x7), (9, 0), (1, x9), (9, 0), (0, x11), (1, v36967), (9, 0), j14, (9, 0)], [(0, v36969)], _, _, _)
          refine ev_i2l ?_
          refine ev_lstore (L' := [(2, 0), (2, (r1 : Int)), (0, a2), (0, a3), (0, a4), (1, x5), (9, 0), (1, x7), (9, 0), (1, x9), (9, 0), (0, x11), (1, v36967), (9, 0), (1, v36969), (9, 0)]) (Nat.le_of_ble_eq_true rfl) rfl ?_
          refine ev_lload rfl ?_
          refine ev_lconst ?_
          refine ev_lcmp ?_
          refine ev_ifeq f237_100 (fun c36970 => ?_) (fun c36970 => ?_)
          · have c36970b := jcmpL_eq c36970
            refine ev_lload rfl ?_
            refine ev_lstore (L' := [(2, 0), (2, (r1 : Int)), (0, a2), (0, a3), (0, a4), (1, v36967), (9, 0), (1, x7), (9, 0), (1, x9), (9, 0), (0, x11), (1, v36967), (9, 0), (1, v36969), (9, 0)]) (Nat.le_of_ble_eq_true rfl) rfl ?_
            refine ev_aload_n rfl ?_
            refine g_getp (r := 0) (c := 1) g36968 ad0 (by decide) (by decide) rf0_0 ft11_0 ?_
            obtain ⟨v36971, ev36971, lv36971, uv36971⟩ := g36968.rd ad1 (show 1 < 8 by decide) rf1_1
            refine g_getv (r := 1) (v := v36971) g36968 ad1 (by decide) ft10_1 ev36971 ?_
            refine ev_lstore (L' := [(2, 0), (2, (r1 : Int)), (0, a2), (0, a3), (0, a4), (1, v36967), (9, 0), (1, v36971), (9, 0), (1, x9), (9, 0), (0, x11), (1, v36967), (9, 0), (1, v36969), (9, 0)]) (Nat.le_of_ble_eq_true rfl) rfl ?_
            refine ev_lload rfl ?_
            refine ev_lstore (L' := [(2, 0), (2, (r1 : Int)), (0, a2), (0, a3), (0, a4), (1, v36967), (9, 0), (1, v36971), (9, 0), (1, v36969), (9, 0), (0, x11), (1, v36967), (9, 0), (1, v36969), (9, 0)]) (Nat.le_of_ble_eq_true rfl) rfl ?_
            refine ev_iinc (w := (x11 + 1)) (L' := [(2, 0), (2, (r1 : Int)), (0, a2), (0, a3), (0, a4), (1, v36967), (9, 0), (1, v36971), (9, 0), (1, v36969), (9, 0), (0, (x11 + 1)), (1, v36967), (9, 0), (1, v36969), (9, 0)]) rfl (by unfold w32; omega) rfl ?_
            refine ev_goto f237_15 ?_
            exact ih _ _ _ _ _ _ _ g36968 k36968 (by omega) (by omega) (by omega) (by omega) (by omega) (by omega) (by omega) (by omega) (by omega) (by omega) (by omega) (by omega) (by omega) (by omega) (by omega)
          · have c36970b := jcmpL_eqN c36970
            refine ev_lload rfl ?_
            refine ev_lload rfl ?_
            refine g_lmulG (fun v36972 ev36972 lv36972 uv36972 => ?_)
            refine ev_lload rfl ?_
            refine ev_lload rfl ?_
            refine g_lmulG (fun v36973 ev36973 lv36973 uv36973 => ?_)
            refine ev_lcmp ?_
            refine ev_ifge f237_117 (fun c36974 => ?_) (fun c36974 => ?_)
            · have c36974b := jcmpL_ge c36974
              refine ev_iinc (w := (x11 + 1)) (L' := [(2, 0), (2, (r1 : Int)), (0, a2), (0, a3), (0, a4), (1, x5), (9, 0), (1, x7), (9, 0), (1, x9), (9, 0), (0, (x11 + 1)), (1, v36967), (9, 0), (1, v36969), (9, 0)]) rfl (by unfold w32; omega) rfl ?_
              refine ev_goto f237_15 ?_
              exact ih _ _ _ _ _ _ _ g36968 k36968 (by omega) (by omega) (by omega) (by omega) (by omega) (by omega) (by omega) (by omega) (by omega) (by omega) (by omega) (by omega) (by omega) (by omega) (by omega)
            · have c36974b := jcmpL_geN c36974
              refine ev_lload rfl ?_
              refine ev_lstore (L' := [(2, 0), (2, (r1 : Int)), (0, a2), (0, a3), (0, a4), (1, v36967), (9, 0), (1, x7), (9, 0), (1, x9), (9, 0), (0, x11), (1, v36967), (9, 0), (1, v36969), (9, 0)]) (Nat.le_of_ble_eq_true rfl) rfl ?_
              refine ev_aload_n rfl ?_
              refine g_getp (r := 0) (c := 1) g36968 ad0 (by decide) (by decide) rf0_0 ft11_0 ?_
              obtain ⟨v36975, ev36975, lv36975, uv36975⟩ := g36968.rd ad1 (show 1 < 8 by decide) rf1_1
              refine g_getv (r := 1) (v := v36975) g36968 ad1 (by decide) ft10_1 ev36975 ?_
              refine ev_lstore (L' := [(2, 0), (2, (r1 : Int)), (0, a2), (0, a3), (0, a4), (1, v36967), (9, 0), (1, v36975), (9, 0), (1, x9), (9, 0), (0, x11), (1, v36967), (9, 0), (1, v36969), (9, 0)]) (Nat.le_of_ble_eq_true rfl) rfl ?_
              refine ev_lload rfl ?_
              refine ev_lstore (L' := [(2, 0), (2, (r1 : Int)), (0, a2), (0, a3), (0, a4), (1, v36967), (9, 0), (1, v36975), (9, 0), (1, v36969), (9, 0), (0, x11), (1, v36967), (9, 0), (1, v36969), (9, 0)]) (Nat.le_of_ble_eq_true rfl) rfl ?_
              refine ev_iinc (w := (x11 + 1)) (L' := [(2, 0), (2, (r1 : Int)), (0, a2), (0, a3), (0, a4), (1, v36967), (9, 0), (1, v36975), (9, 0), (1, v36969), (9, 0), (0, (x11 + 1)), (1, v36967), (9, 0), (1, v36969), (9, 0)]) rfl (by unfold w32; omega) rfl ?_
              refine ev_goto f237_15 ?_
              exact ih _ _ _ _ _ _ _ g36968 k36968 (by omega) (by omega) (by omega) (by omega) (by omega) (by omega) (by omega) (by omega) (by omega) (by omega) (by omega) (by omega) (by omega) (by omega) (by omega)
set_option maxHeartbeats 4000000 in
theorem s237 {G : GH} {h : JH} (g : Gd G h) {r1 : Nat} {m1 : Int} (q1 : IsQ G r1 m1) {a2 : Int} (la2 : 0 ≤ a2) (ua2 : a2 ≤ 3) {a3 : Int} (la3 : 0 ≤ a3) (ua3 : a3 ≤ 9999) {a4 : Int} (la4 : (-2147483648) ≤ a4) (ua4 : a4 ≤ 2147483647) : jOk 6 0 0 237 [(2, 0), (2, (r1 : Int)), (0, a2), (0, a3), (0, a4)] h (PI G [(1, 2), (1, 3), (5, 0), (6, 0), (4, 0), (1000000, 0)] h 1 (-9223372036854775808) 9223372036854775807) := by
  refine ⟨by decide, by rw [ml237]; exact Nat.le_of_ble_eq_true rfl, ?_⟩
  rw [ml237, pp237]
  show jEv _ none _ c237_0 0 0 _ (c237_0, [(2, 0), (2, (r1 : Int)), (0, a2), (0, a3), (0, a4), (9, 0), (9, 0), (9, 0), (9, 0), (9, 0), (9, 0), (9, 0), (9, 0), (9, 0), (9, 0), (9, 0)], [], h, 0, 0)
  have k0 := Kp.rf [(1, 2), (1, 3), (5, 0), (6, 0), (4, 0), (1000000, 0)] h
  have wr1 := g.qb q1
  have zr1 := q1.1
  refine ev_lconst ?_
  refine ev_lstore (L' := [(2, 0), (2, (r1 : Int)), (0, a2), (0, a3), (0, a4), (1, 0), (9, 0), (9, 0), (9, 0), (9, 0), (9, 0), (9, 0), (9, 0), (9, 0), (9, 0), (9, 0)]) (Nat.le_of_ble_eq_true rfl) rfl ?_
  refine ev_lconst ?_
  refine ev_lstore (L' := [(2, 0), (2, (r1 : Int)), (0, a2), (0, a3), (0, a4), (1, 0), (9, 0), (1, 1), (9, 0), (9, 0), (9, 0), (9, 0), (9, 0), (9, 0), (9, 0), (9, 0)]) (Nat.le_of_ble_eq_true rfl) rfl ?_
  refine ev_lconst ?_
  refine ev_lstore (L' := [(2, 0), (2, (r1 : Int)), (0, a2), (0, a3), (0, a4), (1, 0), (9, 0), (1, 1), (9, 0), (1, 0), (9, 0), (9, 0), (9, 0), (9, 0), (9, 0), (9, 0)]) (Nat.le_of_ble_eq_true rfl) rfl ?_
  refine ev_iload_n rfl ?_
  refine ev_bipush ?_
  refine g_idivP (c := 100) rfl (by decide) (by omega) (by omega) (fun v36976 ev36976 lv36976 uv36976 => ?_)
  refine ev_istore (L' := [(2, 0), (2, (r1 : Int)), (0, a2), (0, a3), (0, a4), (1, 0), (9, 0), (1, 1), (9, 0), (1, 0), (9, 0), (0, v36976), (9, 0), (9, 0), (9, 0), (9, 0)]) (Nat.le_of_ble_eq_true rfl) rfl ?_
  exact (s237_l q1 la2 ua2 la3 ua3 la4 ua4 202) _ _ _ _ _ _ _ g k0 (by omega) (by omega) (by omega) (by omega) (by omega) (by omega) (by omega) (by omega) (by omega) (by omega) (by omega) (by omega) (by omega) (by omega) (by omega)
/-! 193 doubt -/
set_option maxHeartbeats 4000000 in
theorem s193 {G : GH} {h : JH} (g : Gd G h) {a1 : Int} (la1 : (-2147483648) ≤ a1) (ua1 : a1 ≤ 2147483647) {a2 : Int} (la2 : (-2147483648) ≤ a2) (ua2 : a2 ≤ 2147483647) {a3 : Int} (la3 : (-2147483648) ≤ a3) (ua3 : a3 ≤ 2147483647) {a4 : Int} (la4 : (-2147483648) ≤ a4) (ua4 : a4 ≤ 2147483647) : jOk 7 0 0 193 [(2, 0), (0, a1), (0, a2), (0, a3), (0, a4)] h (PI G [(1, 2), (1, 3), (5, 0), (6, 0), (4, 0), (1000000, 0), (40, 0), (41, 0)] h 0 (-2147483648) 2147483647) := by
  refine ⟨by decide, by rw [ml193]; exact Nat.le_of_ble_eq_true rfl, ?_⟩
  rw [ml193, pp193]
  show jEv _ none _ c193_0 0 0 _ (c193_0, [(2, 0), (0, a1), (0, a2), (0, a3), (0, a4), (9, 0), (9, 0), (9, 0), (9, 0)], [], h, 0, 0)
  have k0 := Kp.rf [(1, 2), (1, 3), (5, 0), (6, 0), (4, 0), (1000000, 0), (40, 0), (41, 0)] h
  refine ev_aload_n rfl ?_
  refine ev_iload_n rfl ?_
  refine ev_in (d := 5) (a := 0) (b := 0) (cd' := c219_0) (m := 2) (L0 := [(2, 0), (0, a1)]) (jcall_v (A := [(0, a1)]) (S' := []) (r := 0) rfl (g.lt ad0) (g.tg ad0) (Nat.le_of_ble_eq_true rfl)) (by decide) ml219 pp219 (Nat.le_of_ble_eq_true rfl) rfl (by decide) (by decide) ?_
  refine ev_iload_n rfl ?_
  refine ev_iflt f219_12 (fun c37121 => ?_) (fun c37121 => ?_)
  · refine ev_aconst_null ?_
    refine ev_goto f219_22 ?_
    refine ev_ret rfl (by decide) (by decide) ?_
    show jEv _ _ _ _ _ _ _ (_, [(2, 0), (0, a1), (0, a2), (0, a3), (0, a4), (9, 0), (9, 0), (9, 0), (9, 0)], [(2, (-1))], _, _, _)
    refine ev_astore (L' := [(2, 0), (0, a1), (0, a2), (0, a3), (0, a4), (2, (-1)), (9, 0), (9, 0), (9, 0)]) (Nat.le_of_ble_eq_true rfl) rfl ?_
    refine ev_aload rfl ?_
    refine ev_ifnull f193_29 (fun c37122 => ?_) (fun c37122 => absurd c37122 (by decide))
    refine ev_iconst ?_
    exact ev_ret rfl (by decide) (by decide) ⟨_, rfl, by omega, by omega, g, k0⟩
  · refine ev_iload_n rfl ?_
    refine ev_aload_n rfl ?_
    obtain ⟨v37123, ev37123, lv37123, uv37123⟩ := g.rd ad0 (show 3 < 17 by decide) rf0_3
    refine g_getv (r := 0) (v := v37123) g ad0 (by decide) ft11_3 ev37123 ?_
    refine ev_icmplt f219_16 (fun c37124 => ?_) (fun c37124 => ?_)
    · refine ev_aload_n rfl ?_
      refine g_getp (r := 0) (c := 18) g ad0 (by decide) (by decide) rf0_2 ft11_2 ?_
      refine ev_iload_n rfl ?_
      refine g_qaald (g) (i := a1) (ev37123) (by omega) (by omega) (fun r37125 m37126 qr37125 => ?_)
      have wr37125 := g.qb qr37125
      have zr37125 := qr37125.1
      refine ev_ret rfl (by decide) (by decide) ?_
      show jEv _ _ _ _ _ _ _ (_, [(2, 0), (0, a1), (0, a2), (0, a3), (0, a4), (9, 0), (9, 0), (9, 0), (9, 0)], [(2, (r37125 : Int))], _, _, _)
      refine ev_astore (L' := [(2, 0), (0, a1), (0, a2), (0, a3), (0, a4), (2, (r37125 : Int)), (9, 0), (9, 0), (9, 0)]) (Nat.le_of_ble_eq_true rfl) rfl ?_
      refine ev_aload rfl ?_
      refine ev_ifnull f193_29 (fun c37127 => absurd c37127 (by omega)) (fun c37127 => ?_)
      refine ev_aload_n rfl ?_
      refine ev_iload_n rfl ?_
      refine ev_iload_n rfl ?_
      refine ev_in (d := 5) (a := 0) (b := 0) (cd' := c232_0) (m := 3) (L0 := [(2, 0), (0, a2), (0, a3)]) (jcall_v (A := [(0, a3), (0, a2)]) (S' := []) (r := 0) rfl (g.lt ad0) (g.tg ad0) (Nat.le_of_ble_eq_true rfl)) (by decide) ml232 pp232 (Nat.le_of_ble_eq_true rfl) rfl (by decide) (by decide) ?_
      refine ev_aload_n rfl ?_
      refine g_getp (r := 0) (c := 1) g ad0 (by decide) (by decide) rf0_0 ft11_0 ?_
      refine ev_iload_n rfl ?_
      refine ev_in (d := 4) (a := 0) (b := 0) (cd' := c140_0) (m := 2) (L0 := [(2, 1), (0, a2)]) (jcall_v (A := [(0, a2)]) (S' := []) (r := 1) rfl (g.lt ad1) (g.tg ad1) (Nat.le_of_ble_eq_true rfl)) (by decide) ml140 pp140 (Nat.le_of_ble_eq_true rfl) rfl (by decide) (by decide) ?_
      refine ev_iload_n rfl ?_
      refine ev_iflt f140_16 (fun c37128 => ?_) (fun c37128 => ?_)
      · refine ev_iconst ?_
        refine ev_ret rfl (by decide) (by decide) ?_
        show jEv _ _ _ _ _ _ _ (_, [(2, 0), (0, a2), (0, a3)], [(0, 0)], _, _, _)
        refine ev_ifeq f232_58 (fun c37129 => ?_) (fun c37129 => absurd c37129 (by omega))
        refine ev_iconst ?_
        refine ev_ret rfl (by decide) (by decide) ?_
        show jEv _ _ _ _ _ _ _ (_, [(2, 0), (0, a1), (0, a2), (0, a3), (0, a4), (2, (r37125 : Int)), (9, 0), (9, 0), (9, 0)], [(0, 0)], _, _, _)
        refine ev_ifeq f193_29 (fun c37130 => ?_) (fun c37130 => absurd c37130 (by omega))
        refine ev_iconst ?_
        exact ev_ret rfl (by decide) (by decide) ⟨_, rfl, by omega, by omega, g, k0⟩
      · refine ev_iload_n rfl ?_
        refine ev_aload_n rfl ?_
        obtain ⟨v37131, ev37131, lv37131, uv37131⟩ := g.rd ad1 (show 0 < 8 by decide) rf1_0
        refine g_getv (r := 1) (v := v37131) g ad1 (by decide) ft10_0 ev37131 ?_
        refine ev_icmpge f140_16 (fun c37132 => ?_) (fun c37132 => ?_)
        · refine ev_iconst ?_
          refine ev_ret rfl (by decide) (by decide) ?_
          show jEv _ _ _ _ _ _ _ (_, [(2, 0), (0, a2), (0, a3)], [(0, 0)], _, _, _)
          refine ev_ifeq f232_58 (fun c37133 => ?_) (fun c37133 => absurd c37133 (by omega))
          refine ev_iconst ?_
          refine ev_ret rfl (by decide) (by decide) ?_
          show jEv _ _ _ _ _ _ _ (_, [(2, 0), (0, a1), (0, a2), (0, a3), (0, a4), (2, (r37125 : Int)), (9, 0), (9, 0), (9, 0)], [(0, 0)], _, _, _)
          refine ev_ifeq f193_29 (fun c37134 => ?_) (fun c37134 => absurd c37134 (by omega))
          refine ev_iconst ?_
          exact ev_ret rfl (by decide) (by decide) ⟨_, rfl, by omega, by omega, g, k0⟩
        · refine ev_iconst ?_
          refine ev_goto f140_17 ?_
          refine ev_ret rfl (by decide) (by decide) ?_
          show jEv _ _ _ _ _ _ _ (_, [(2, 0), (0, a2), (0, a3)], [(0, 1)], _, _, _)
          refine ev_ifeq f232_58 (fun c37135 => absurd c37135 (by omega)) (fun c37135 => ?_)
          refine ev_aload_n rfl ?_
          refine g_getp (r := 0) (c := 1) g ad0 (by decide) (by decide) rf0_0 ft11_0 ?_
          refine ev_iload_n rfl ?_
          refine ev_in (d := 4) (a := 0) (b := 0) (cd' := c142_0) (m := 2) (L0 := [(2, 1), (0, a2)]) (jcall_v (A := [(0, a2)]) (S' := []) (r := 1) rfl (g.lt ad1) (g.tg ad1) (Nat.le_of_ble_eq_true rfl)) (by decide) ml142 pp142 (Nat.le_of_ble_eq_true rfl) rfl (by decide) (by decide) ?_
          refine ev_aload_n rfl ?_
          refine ev_iload_n rfl ?_
          refine ev_in (d := 3) (a := 0) (b := 0) (cd' := c140_0) (m := 2) (L0 := [(2, 1), (0, a2)]) (jcall_v (A := [(0, a2)]) (S' := []) (r := 1) rfl (g.lt ad1) (g.tg ad1) (Nat.le_of_ble_eq_true rfl)) (by decide) ml140 pp140 (Nat.le_of_ble_eq_true rfl) rfl (by decide) (by decide) ?_
          refine ev_iload_n rfl ?_
          refine ev_iflt f140_16 (fun c37136 => absurd c37136 (by omega)) (fun c37136 => ?_)
          refine ev_iload_n rfl ?_
          refine ev_aload_n rfl ?_
          refine g_getv (r := 1) (v := v37131) g ad1 (by decide) ft10_0 (ev37131) ?_
          refine ev_icmpge f140_16 (fun c37137 => absurd c37137 (by omega)) (fun c37137 => ?_)
          refine ev_iconst ?_
          refine ev_goto f140_17 ?_
          refine ev_ret rfl (by decide) (by decide) ?_
          show jEv _ _ _ _ _ _ _ (_, [(2, 1), (0, a2)], [(0, 1)], _, _, _)
          refine ev_ifeq f142_21 (fun c37138 => absurd c37138 (by omega)) (fun c37138 => ?_)
          refine ev_aload_n rfl ?_
          refine g_getp (r := 1) (c := 3) g ad1 (by decide) (by decide) rf1_4 ft10_4 ?_
          refine ev_iload_n rfl ?_
          refine g_iald g ad3 rt3 (by omega) (by omega) (fun v37139 ev37139 lv37139 uv37139 => ?_)
          refine ev_iflt f142_21 (fun c37140 => ?_) (fun c37140 => ?_)
          · refine ev_iconst ?_
            refine ev_ret rfl (by decide) (by decide) ?_
            show jEv _ _ _ _ _ _ _ (_, [(2, 0), (0, a2), (0, a3)], [(0, 0)], _, _, _)
            refine ev_ifne f232_58 (fun c37141 => absurd c37141 (by omega)) (fun c37141 => ?_)
            refine ev_iload_n rfl ?_
            refine ev_ifle f232_58 (fun c37142 => ?_) (fun c37142 => ?_)
            · refine ev_iconst ?_
              refine ev_ret rfl (by decide) (by decide) ?_
              show jEv _ _ _ _ _ _ _ (_, [(2, 0), (0, a1), (0, a2), (0, a3), (0, a4), (2, (r37125 : Int)), (9, 0), (9, 0), (9, 0)], [(0, 0)], _, _, _)
              refine ev_ifeq f193_29 (fun c37143 => ?_) (fun c37143 => absurd c37143 (by omega))
              refine ev_iconst ?_
              exact ev_ret rfl (by decide) (by decide) ⟨_, rfl, by omega, by omega, g, k0⟩
            · refine ev_iload_n rfl ?_
              refine ev_bipush ?_
              refine g_idivP (c := 100) rfl (by decide) (by omega) (by omega) (fun v37144 ev37144 lv37144 uv37144 => ?_)
              refine ev_iconst ?_
              refine ev_icmplt f232_58 (fun c37145 => ?_) (fun c37145 => ?_)
              · refine ev_iconst ?_
                refine ev_ret rfl (by decide) (by decide) ?_
                show jEv _ _ _ _ _ _ _ (_, [(2, 0), (0, a1), (0, a2), (0, a3), (0, a4), (2, (r37125 : Int)), (9, 0), (9, 0), (9, 0)], [(0, 0)], _, _, _)
                refine ev_ifeq f193_29 (fun c37146 => ?_) (fun c37146 => absurd c37146 (by omega))
                refine ev_iconst ?_
                exact ev_ret rfl (by decide) (by decide) ⟨_, rfl, by omega, by omega, g, k0⟩
              · refine ev_iload_n rfl ?_
                refine ev_bipush ?_
                refine g_idivP (c := 100) rfl (by decide) (by omega) (by omega) (fun v37147 ev37147 lv37147 uv37147 => ?_)
                obtain rfl : v37144 = v37147 := by omega
                refine ev_bipush ?_
                refine ev_icmpgt f232_58 (fun c37148 => ?_) (fun c37148 => ?_)
                · refine ev_iconst ?_
                  refine ev_ret rfl (by decide) (by decide) ?_
                  show jEv _ _ _ _ _ _ _ (_, [(2, 0), (0, a1), (0, a2), (0, a3), (0, a4), (2, (r37125 : Int)), (9, 0), (9, 0), (9, 0)], [(0, 0)], _, _, _)
                  refine ev_ifeq f193_29 (fun c37149 => ?_) (fun c37149 => absurd c37149 (by omega))
                  refine ev_iconst ?_
                  exact ev_ret rfl (by decide) (by decide) ⟨_, rfl, by omega, by omega, g, k0⟩
                · refine ev_iload_n rfl ?_
                  refine ev_bipush ?_
                  refine g_idivP (c := 100) rfl (by decide) (by omega) (by omega) (fun v37150 ev37150 lv37150 uv37150 => ?_)
                  obtain rfl : v37144 = v37150 := by omega
                  refine ev_iload_n rfl ?_
                  refine ev_bipush ?_
                  refine g_iremP (c := 100) rfl (by decide) (by omega) (fun v37151 ev37151 lv37151 uv37151 wv37151 => ?_)
                  refine ev_icmpgt f232_58 (fun c37152 => ?_) (fun c37152 => ?_)
                  · refine ev_iconst ?_
                    refine ev_ret rfl (by decide) (by decide) ?_
                    show jEv _ _ _ _ _ _ _ (_, [(2, 0), (0, a1), (0, a2), (0, a3), (0, a4), (2, (r37125 : Int)), (9, 0), (9, 0), (9, 0)], [(0, 0)], _, _, _)
                    refine ev_ifeq f193_29 (fun c37153 => ?_) (fun c37153 => absurd c37153 (by omega))
                    refine ev_iconst ?_
                    exact ev_ret rfl (by decide) (by decide) ⟨_, rfl, by omega, by omega, g, k0⟩
                  · refine ev_iconst ?_
                    refine ev_goto f232_59 ?_
                    refine ev_ret rfl (by decide) (by decide) ?_
                    show jEv _ _ _ _ _ _ _ (_, [(2, 0), (0, a1), (0, a2), (0, a3), (0, a4), (2, (r37125 : Int)), (9, 0), (9, 0), (9, 0)], [(0, 1)], _, _, _)
                    refine ev_ifeq f193_29 (fun c37154 => absurd c37154 (by omega)) (fun c37154 => ?_)
                    refine ev_iload rfl ?_
                    refine ev_in (d := 5) (a := 0) (b := 0) (cd' := c221_0) (m := 1) (L0 := [(0, a4)]) (jcall_s (A := [(0, a4)]) (S' := []) (by decide) rfl (Nat.le_of_ble_eq_true rfl)) (by decide) ml221 pp221 (Nat.le_of_ble_eq_true rfl) rfl (by decide) (by decide) ?_
                    refine ev_iload_n rfl ?_
                    refine ev_ifeq f221_9 (fun c37155 => ?_) (fun c37155 => ?_)
                    · refine ev_iconst ?_
                      refine ev_goto f221_14 ?_
                      refine ev_ret rfl (by decide) (by decide) ?_
                      show jEv _ _ _ _ _ _ _ (_, [(2, 0), (0, a1), (0, a2), (0, a3), (0, a4), (2, (r37125 : Int)), (9, 0), (9, 0), (9, 0)], [(0, 1)], _, _, _)
                      refine ev_ifne f193_31 (fun c37156 => ?_) (fun c37156 => absurd c37156 (by omega))
                      refine ev_aload_n rfl ?_
                      refine ev_iload_n rfl ?_
                      refine ev_iload_n rfl ?_
                      refine ev_call (jcall_v (A := [(0, a3), (0, a2)]) (S' := []) (r := 0) rfl (g.lt ad0) (g.tg ad0) (Nat.le_of_ble_eq_true rfl)) (jOk_le (by decide) (s233 g (by omega) (by omega) (by omega) (by omega))) (by decide) (by decide) (fun w37157 h37157 q37157 => ?_)
                      obtain ⟨v37158, rfl, lv37158, uv37158, g37157, kk37157⟩ := q37157
                      have k37157 := k0.tr kk37157 (by decide)
                      show jEv _ _ _ _ _ _ _ (_, [(2, 0), (0, a1), (0, a2), (0, a3), (0, a4), (2, (r37125 : Int)), (9, 0), (9, 0), (9, 0)], [(0, v37158)], _, _, _)
                      refine ev_ifeq f193_43 (fun c37159 => ?_) (fun c37159 => ?_)
                      · refine ev_iload_n rfl ?_
                        refine ev_iconst ?_
                        refine ev_iconst ?_
                        refine ev_in (d := 5) (a := 0) (b := 0) (cd' := c147_0) (m := 3) (L0 := [(0, a2), (0, 0), (0, 0)]) (jcall_s (A := [(0, 0), (0, 0), (0, a2)]) (S' := []) (by decide) rfl (Nat.le_of_ble_eq_true rfl)) (by decide) ml147 pp147 (Nat.le_of_ble_eq_true rfl) rfl (by decide) (by decide) ?_
                        refine ev_bipush ?_
                        refine ev_iload_n rfl ?_
                        refine ev_imul (r := (9 * a2)) (by unfold w32; omega) ?_
                        refine ev_iconst ?_
                        refine ev_iload_n rfl ?_
                        refine ev_imul (r := 0) (by decide) ?_
                        refine ev_iadd (r := (9 * a2)) (by unfold w32; omega) ?_
                        refine ev_iload_n rfl ?_
                        refine ev_iadd (r := (9 * a2)) (by unfold w32; omega) ?_
                        refine ev_ret rfl (by decide) (by decide) ?_
                        show jEv _ _ _ _ _ _ _ (_, [(2, 0), (0, a1), (0, a2), (0, a3), (0, a4), (2, (r37125 : Int)), (9, 0), (9, 0), (9, 0)], [(0, (9 * a2))], _, _, _)
                        refine ev_istore (L' := [(2, 0), (0, a1), (0, a2), (0, a3), (0, a4), (2, (r37125 : Int)), (0, (9 * a2)), (9, 0), (9, 0)]) (Nat.le_of_ble_eq_true rfl) rfl ?_
                        refine ev_aload_n rfl ?_
                        refine g_getp (r := 0) (c := 1) g37157 ad0 (by decide) (by decide) rf0_0 ft11_0 ?_
                        refine ev_iload rfl ?_
                        refine ev_in (d := 5) (a := 0) (b := 0) (cd' := c148_0) (m := 2) (L0 := [(2, 1), (0, (9 * a2))]) (jcall_v (A := [(0, (9 * a2))]) (S' := []) (r := 1) rfl (g37157.lt ad1) (g37157.tg ad1) (Nat.le_of_ble_eq_true rfl)) (by decide) ml148 pp148 (Nat.le_of_ble_eq_true rfl) rfl (by decide) (by decide) ?_
                        refine ev_iload_n rfl ?_
                        refine ev_iflt f148_10 (fun c37160 => absurd c37160 (by omega)) (fun c37160 => ?_)
                        refine ev_iload_n rfl ?_
                        refine ev_bipush ?_
                        refine ev_icmplt f148_14 (fun c37161 => ?_) (fun c37161 => absurd c37161 (by omega))
                        refine ev_aload_n rfl ?_
                        refine g_getp (r := 1) (c := 4) g37157 ad1 (by decide) (by decide) rf1_5 ft10_5 ?_
                        refine ev_iload_n rfl ?_
                        refine g_iald g37157 ad4 rt4 (by omega) (by omega) (fun v37162 ev37162 lv37162 uv37162 => ?_)
                        refine ev_ret rfl (by decide) (by decide) ?_
                        show jEv _ _ _ _ _ _ _ (_, [(2, 0), (0, a1), (0, a2), (0, a3), (0, a4), (2, (r37125 : Int)), (0, (9 * a2)), (9, 0), (9, 0)], [(0, v37162)], _, _, _)
                        refine ev_istore (L' := [(2, 0), (0, a1), (0, a2), (0, a3), (0, a4), (2, (r37125 : Int)), (0, (9 * a2)), (0, v37162), (9, 0)]) (Nat.le_of_ble_eq_true rfl) rfl ?_
                        refine ev_iload rfl ?_
                        refine ev_ifne f193_79 (fun c37163 => absurd c37163 (by omega)) (fun c37163 => ?_)
                        refine ev_aload_n rfl ?_
                        refine ev_aload rfl ?_
                        refine ev_iload rfl ?_
                        refine ev_iload_n rfl ?_
                        refine ev_call (jcall_v (A := [(0, a3), (0, (9 * a2)), (2, (r37125 : Int))]) (S' := []) (r := 0) rfl (g37157.lt ad0) (g37157.tg ad0) (Nat.le_of_ble_eq_true rfl)) (jOk_le (by decide) (s234 g37157 qr37125 (by omega) (by omega) (by omega) (by omega))) (by decide) (by decide) (fun w37164 h37164 q37164 => ?_)
                        obtain ⟨v37165, rfl, lv37165, uv37165, g37164, kk37164⟩ := q37164
                        have k37164 := k37157.tr kk37164 (by decide)
                        show jEv _ _ _ _ _ _ _ (_, [(2, 0), (0, a1), (0, a2), (0, a3), (0, a4), (2, (r37125 : Int)), (0, (9 * a2)), (0, v37162), (9, 0)], [(0, v37165)], _, _, _)
                        refine ev_goto f193_88 ?_
                        refine ev_istore (L' := [(2, 0), (0, a1), (0, a2), (0, a3), (0, a4), (2, (r37125 : Int)), (0, (9 * a2)), (0, v37162), (0, v37165)]) (Nat.le_of_ble_eq_true rfl) rfl ?_
                        refine ev_aload_n rfl ?_
                        refine g_getp (r := 0) (c := 1) g37164 ad0 (by decide) (by decide) rf0_0 ft11_0 ?_
                        refine ev_iload rfl ?_
                        refine ev_iload rfl ?_
                        refine ev_in (d := 5) (a := 0) (b := 0) (cd' := c149_0) (m := 3) (L0 := [(2, 1), (0, (9 * a2)), (0, v37162)]) (jcall_v (A := [(0, v37162), (0, (9 * a2))]) (S' := []) (r := 1) rfl (g37164.lt ad1) (g37164.tg ad1) (Nat.le_of_ble_eq_true rfl)) (by decide) ml149 pp149 (Nat.le_of_ble_eq_true rfl) rfl (by decide) (by decide) ?_
                        refine ev_iload_n rfl ?_
                        refine ev_iflt f149_32 (fun c37166 => absurd c37166 (by omega)) (fun c37166 => ?_)
                        refine ev_iload_n rfl ?_
                        refine ev_bipush ?_
                        refine ev_icmpge f149_32 (fun c37167 => absurd c37167 (by omega)) (fun c37167 => ?_)
                        refine ev_aload_n rfl ?_
                        refine g_getp (r := 1) (c := 4) g37164 ad1 (by decide) (by decide) rf1_5 ft10_5 ?_
                        refine ev_iload_n rfl ?_
                        refine g_iald g37164 ad4 rt4 (by omega) (by omega) (fun v37168 ev37168 lv37168 uv37168 => ?_)
                        refine ev_iload_n rfl ?_
                        refine ev_icmpeq f149_32 (fun c37169 => ?_) (fun c37169 => ?_)
                        · refine ev_ret rfl (by decide) (by decide) ?_
                          show jEv _ _ _ _ _ _ _ (_, [(2, 0), (0, a1), (0, a2), (0, a3), (0, a4), (2, (r37125 : Int)), (0, (9 * a2)), (0, v37162), (0, v37165)], [], _, _, _)
                          refine ev_iload rfl ?_
                          exact ev_ret rfl (by decide) (by decide) ⟨_, rfl, by omega, by omega, g37164, k37164⟩
                        · refine ev_aload_n rfl ?_
                          refine g_getp (r := 1) (c := 4) g37164 ad1 (by decide) (by decide) rf1_5 ft10_5 ?_
                          refine ev_iload_n rfl ?_
                          refine ev_iload_n rfl ?_
                          refine g_iast g37164 ad4 rt4 (fun _ => rfl) (by omega) (by omega) (by omega) (by omega) (fun h37170 e37170 g37170 => ?_)
                          have k37170 := k37164.wr e37170 rfl
                          refine ev_aload_n rfl ?_
                          refine ev_iconst ?_
                          refine g_putf (r := 1) g37170 ad1 (by decide) ft10_2 (by decide) (fun _ => by omega) rf1_2 (by decide) (by omega) (by omega) (fun h37171 e37171 g37171 => ?_)
                          have k37171 := k37170.wr e37171 rfl
                          refine ev_ret rfl (by decide) (by decide) ?_
                          show jEv _ _ _ _ _ _ _ (_, [(2, 0), (0, a1), (0, a2), (0, a3), (0, a4), (2, (r37125 : Int)), (0, (9 * a2)), (0, v37162), (0, v37165)], [], _, _, _)
                          refine ev_iload rfl ?_
                          exact ev_ret rfl (by decide) (by decide) ⟨_, rfl, by omega, by omega, g37171, k37171⟩
                      · refine ev_bipush ?_
                        exact ev_ret rfl (by decide) (by decide) ⟨_, rfl, by omega, by omega, g37157, k37157⟩
                    · refine ev_iload_n rfl ?_
                      refine ev_iconst ?_
                      refine ev_icmpne f221_13 (fun c37172 => ?_) (fun c37172 => ?_)
                      · refine ev_iconst ?_
                        refine ev_ret rfl (by decide) (by decide) ?_
                        show jEv _ _ _ _ _ _ _ (_, [(2, 0), (0, a1), (0, a2), (0, a3), (0, a4), (2, (r37125 : Int)), (9, 0), (9, 0), (9, 0)], [(0, 0)], _, _, _)
                        refine ev_ifne f193_31 (fun c37173 => absurd c37173 (by omega)) (fun c37173 => ?_)
                        refine ev_iconst ?_
                        exact ev_ret rfl (by decide) (by decide) ⟨_, rfl, by omega, by omega, g, k0⟩
                      · refine ev_iconst ?_
                        refine ev_goto f221_14 ?_
                        refine ev_ret rfl (by decide) (by decide) ?_
                        show jEv _ _ _ _ _ _ _ (_, [(2, 0), (0, a1), (0, a2), (0, a3), (0, a4), (2, (r37125 : Int)), (9, 0), (9, 0), (9, 0)], [(0, 1)], _, _, _)
                        refine ev_ifne f193_31 (fun c37174 => ?_) (fun c37174 => absurd c37174 (by omega))
                        refine ev_aload_n rfl ?_
                        refine ev_iload_n rfl ?_
                        refine ev_iload_n rfl ?_
                        refine ev_call (jcall_v (A := [(0, a3), (0, a2)]) (S' := []) (r := 0) rfl (g.lt ad0) (g.tg ad0) (Nat.le_of_ble_eq_true rfl)) (jOk_le (by decide) (s233 g (by omega) (by omega) (by omega) (by omega))) (by decide) (by decide) (fun w37175 h37175 q37175 => ?_)
                        obtain ⟨v37176, rfl, lv37176, uv37176, g37175, kk37175⟩ := q37175
                        have k37175 := k0.tr kk37175 (by decide)
                        show jEv _ _ _ _ _ _ _ (_, [(2, 0), (0, a1), (0, a2), (0, a3), (0, a4), (2, (r37125 : Int)), (9, 0), (9, 0), (9, 0)], [(0, v37176)], _, _, _)
                        refine ev_ifeq f193_43 (fun c37177 => ?_) (fun c37177 => ?_)
                        · refine ev_iload_n rfl ?_
                          refine ev_iconst ?_
                          refine ev_iconst ?_
                          refine ev_in (d := 5) (a := 0) (b := 0) (cd' := c147_0) (m := 3) (L0 := [(0, a2), (0, 0), (0, 0)]) (jcall_s (A := [(0, 0), (0, 0), (0, a2)]) (S' := []) (by decide) rfl (Nat.le_of_ble_eq_true rfl)) (by decide) ml147 pp147 (Nat.le_of_ble_eq_true rfl) rfl (by decide) (by decide) ?_
                          refine ev_bipush ?_
                          refine ev_iload_n rfl ?_
                          refine ev_imul (r := (9 * a2)) (by unfold w32; omega) ?_
                          refine ev_iconst ?_
                          refine ev_iload_n rfl ?_
                          refine ev_imul (r := 0) (by decide) ?_
                          refine ev_iadd (r := (9 * a2)) (by unfold w32; omega) ?_
                          refine ev_iload_n rfl ?_
                          refine ev_iadd (r := (9 * a2)) (by unfold w32; omega) ?_
                          refine ev_ret rfl (by decide) (by decide) ?_
                          show jEv _ _ _ _ _ _ _ (_, [(2, 0), (0, a1), (0, a2), (0, a3), (0, a4), (2, (r37125 : Int)), (9, 0), (9, 0), (9, 0)], [(0, (9 * a2))], _, _, _)
                          refine ev_istore (L' := [(2, 0), (0, a1), (0, a2), (0, a3), (0, a4), (2, (r37125 : Int)), (0, (9 * a2)), (9, 0), (9, 0)]) (Nat.le_of_ble_eq_true rfl) rfl ?_
                          refine ev_aload_n rfl ?_
                          refine g_getp (r := 0) (c := 1) g37175 ad0 (by decide) (by decide) rf0_0 ft11_0 ?_
                          refine ev_iload rfl ?_
                          refine ev_in (d := 5) (a := 0) (b := 0) (cd' := c148_0) (m := 2) (L0 := [(2, 1), (0, (9 * a2))]) (jcall_v (A := [(0, (9 * a2))]) (S' := []) (r := 1) rfl (g37175.lt ad1) (g37175.tg ad1) (Nat.le_of_ble_eq_true rfl)) (by decide) ml148 pp148 (Nat.le_of_ble_eq_true rfl) rfl (by decide) (by decide) ?_
                          refine ev_iload_n rfl ?_
                          refine ev_iflt f148_10 (fun c37178 => absurd c37178 (by omega)) (fun c37178 => ?_)
                          refine ev_iload_n rfl ?_
                          refine ev_bipush ?_
                          refine ev_icmplt f148_14 (fun c37179 => ?_) (fun c37179 => absurd c37179 (by omega))
                          refine ev_aload_n rfl ?_
                          refine g_getp (r := 1) (c := 4) g37175 ad1 (by decide) (by decide) rf1_5 ft10_5 ?_
                          refine ev_iload_n rfl ?_
                          refine g_iald g37175 ad4 rt4 (by omega) (by omega) (fun v37180 ev37180 lv37180 uv37180 => ?_)
                          refine ev_ret rfl (by decide) (by decide) ?_
                          show jEv _ _ _ _ _ _ _ (_, [(2, 0), (0, a1), (0, a2), (0, a3), (0, a4), (2, (r37125 : Int)), (0, (9 * a2)), (9, 0), (9, 0)], [(0, v37180)], _, _, _)
                          refine ev_istore (L' := [(2, 0), (0, a1), (0, a2), (0, a3), (0, a4), (2, (r37125 : Int)), (0, (9 * a2)), (0, v37180), (9, 0)]) (Nat.le_of_ble_eq_true rfl) rfl ?_
                          refine ev_iload rfl ?_
                          refine ev_ifne f193_79 (fun c37181 => ?_) (fun c37181 => absurd c37181 (by omega))
                          refine ev_aload_n rfl ?_
                          refine ev_aload rfl ?_
                          refine ev_iload rfl ?_
                          refine ev_iload_n rfl ?_
                          refine ev_call (jcall_v (A := [(0, a3), (0, (9 * a2)), (2, (r37125 : Int))]) (S' := []) (r := 0) rfl (g37175.lt ad0) (g37175.tg ad0) (Nat.le_of_ble_eq_true rfl)) (jOk_le (by decide) (s235 g37175 qr37125 (by omega) (by omega) (by omega) (by omega))) (by decide) (by decide) (fun w37182 h37182 q37182 => ?_)
                          obtain ⟨v37183, rfl, lv37183, uv37183, g37182, kk37182⟩ := q37182
                          have k37182 := k37175.tr kk37182 (by decide)
                          show jEv _ _ _ _ _ _ _ (_, [(2, 0), (0, a1), (0, a2), (0, a3), (0, a4), (2, (r37125 : Int)), (0, (9 * a2)), (0, v37180), (9, 0)], [(0, v37183)], _, _, _)
                          refine ev_istore (L' := [(2, 0), (0, a1), (0, a2), (0, a3), (0, a4), (2, (r37125 : Int)), (0, (9 * a2)), (0, v37180), (0, v37183)]) (Nat.le_of_ble_eq_true rfl) rfl ?_
                          refine ev_aload_n rfl ?_
                          refine g_getp (r := 0) (c := 1) g37182 ad0 (by decide) (by decide) rf0_0 ft11_0 ?_
                          refine ev_iload rfl ?_
                          refine ev_iload rfl ?_
                          refine ev_in (d := 5) (a := 0) (b := 0) (cd' := c149_0) (m := 3) (L0 := [(2, 1), (0, (9 * a2)), (0, v37180)]) (jcall_v (A := [(0, v37180), (0, (9 * a2))]) (S' := []) (r := 1) rfl (g37182.lt ad1) (g37182.tg ad1) (Nat.le_of_ble_eq_true rfl)) (by decide) ml149 pp149 (Nat.le_of_ble_eq_true rfl) rfl (by decide) (by decide) ?_
                          refine ev_iload_n rfl ?_
                          refine ev_iflt f149_32 (fun c37184 => absurd c37184 (by omega)) (fun c37184 => ?_)
                          refine ev_iload_n rfl ?_
                          refine ev_bipush ?_
                          refine ev_icmpge f149_32 (fun c37185 => absurd c37185 (by omega)) (fun c37185 => ?_)
                          refine ev_aload_n rfl ?_
                          refine g_getp (r := 1) (c := 4) g37182 ad1 (by decide) (by decide) rf1_5 ft10_5 ?_
                          refine ev_iload_n rfl ?_
                          refine g_iald g37182 ad4 rt4 (by omega) (by omega) (fun v37186 ev37186 lv37186 uv37186 => ?_)
                          refine ev_iload_n rfl ?_
                          refine ev_icmpeq f149_32 (fun c37187 => ?_) (fun c37187 => ?_)
                          · refine ev_ret rfl (by decide) (by decide) ?_
                            show jEv _ _ _ _ _ _ _ (_, [(2, 0), (0, a1), (0, a2), (0, a3), (0, a4), (2, (r37125 : Int)), (0, (9 * a2)), (0, v37180), (0, v37183)], [], _, _, _)
                            refine ev_iload rfl ?_
                            exact ev_ret rfl (by decide) (by decide) ⟨_, rfl, by omega, by omega, g37182, k37182⟩
                          · refine ev_aload_n rfl ?_
                            refine g_getp (r := 1) (c := 4) g37182 ad1 (by decide) (by decide) rf1_5 ft10_5 ?_
                            refine ev_iload_n rfl ?_
                            refine ev_iload_n rfl ?_
                            refine g_iast g37182 ad4 rt4 (fun _ => rfl) (by omega) (by omega) (by omega) (by omega) (fun h37188 e37188 g37188 => ?_)
                            have k37188 := k37182.wr e37188 rfl
                            refine ev_aload_n rfl ?_
                            refine ev_iconst ?_
                            refine g_putf (r := 1) g37188 ad1 (by decide) ft10_2 (by decide) (fun _ => by omega) rf1_2 (by decide) (by omega) (by omega) (fun h37189 e37189 g37189 => ?_)
                            have k37189 := k37188.wr e37189 rfl
                            refine ev_ret rfl (by decide) (by decide) ?_
                            show jEv _ _ _ _ _ _ _ (_, [(2, 0), (0, a1), (0, a2), (0, a3), (0, a4), (2, (r37125 : Int)), (0, (9 * a2)), (0, v37180), (0, v37183)], [], _, _, _)
                            refine ev_iload rfl ?_
                            exact ev_ret rfl (by decide) (by decide) ⟨_, rfl, by omega, by omega, g37189, k37189⟩
                        · refine ev_bipush ?_
                          exact ev_ret rfl (by decide) (by decide) ⟨_, rfl, by omega, by omega, g37175, k37175⟩
          · refine ev_iconst ?_
            refine ev_goto f142_22 ?_
            refine ev_ret rfl (by decide) (by decide) ?_
            show jEv _ _ _ _ _ _ _ (_, [(2, 0), (0, a2), (0, a3)], [(0, 1)], _, _, _)
            refine ev_ifne f232_58 (fun c37190 => ?_) (fun c37190 => absurd c37190 (by omega))
            refine ev_iconst ?_
            refine ev_ret rfl (by decide) (by decide) ?_
            show jEv _ _ _ _ _ _ _ (_, [(2, 0), (0, a1), (0, a2), (0, a3), (0, a4), (2, (r37125 : Int)), (9, 0), (9, 0), (9, 0)], [(0, 0)], _, _, _)
            refine ev_ifeq f193_29 (fun c37191 => ?_) (fun c37191 => absurd c37191 (by omega))
            refine ev_iconst ?_
            exact ev_ret rfl (by decide) (by decide) ⟨_, rfl, by omega, by omega, g, k0⟩
    · refine ev_aconst_null ?_
      refine ev_goto f219_22 ?_
      refine ev_ret rfl (by decide) (by decide) ?_
      show jEv _ _ _ _ _ _ _ (_, [(2, 0), (0, a1), (0, a2), (0, a3), (0, a4), (9, 0), (9, 0), (9, 0), (9, 0)], [(2, (-1))], _, _, _)
      refine ev_astore (L' := [(2, 0), (0, a1), (0, a2), (0, a3), (0, a4), (2, (-1)), (9, 0), (9, 0), (9, 0)]) (Nat.le_of_ble_eq_true rfl) rfl ?_
      refine ev_aload rfl ?_
      refine ev_ifnull f193_29 (fun c37192 => ?_) (fun c37192 => absurd c37192 (by decide))
      refine ev_iconst ?_
      exact ev_ret rfl (by decide) (by decide) ⟨_, rfl, by omega, by omega, g, k0⟩
/-! 194 worst -/
set_option maxHeartbeats 4000000 in
theorem s194 {G : GH} {h : JH} (g : Gd G h) {a1 : Int} (la1 : (-2147483648) ≤ a1) (ua1 : a1 ≤ 2147483647) {a2 : Int} (la2 : (-2147483648) ≤ a2) (ua2 : a2 ≤ 2147483647) {a3 : Int} (la3 : (-2147483648) ≤ a3) (ua3 : a3 ≤ 2147483647) {a4 : Int} (la4 : (-2147483648) ≤ a4) (ua4 : a4 ≤ 2147483647) : jOk 7 0 0 194 [(2, 0), (0, a1), (0, a2), (0, a3), (0, a4)] h (PI G [(1, 2), (1, 3), (5, 0), (6, 0), (4, 0), (1000000, 0)] h 1 (-9223372036854775808) 9223372036854775807) := by
  refine ⟨by decide, by rw [ml194]; exact Nat.le_of_ble_eq_true rfl, ?_⟩
  rw [ml194, pp194]
  show jEv _ none _ c194_0 0 0 _ (c194_0, [(2, 0), (0, a1), (0, a2), (0, a3), (0, a4), (9, 0), (9, 0), (9, 0), (9, 0), (9, 0)], [], h, 0, 0)
  have k0 := Kp.rf [(1, 2), (1, 3), (5, 0), (6, 0), (4, 0), (1000000, 0)] h
  refine ev_aload_n rfl ?_
  refine ev_iload_n rfl ?_
  refine ev_in (d := 5) (a := 0) (b := 0) (cd' := c219_0) (m := 2) (L0 := [(2, 0), (0, a1)]) (jcall_v (A := [(0, a1)]) (S' := []) (r := 0) rfl (g.lt ad0) (g.tg ad0) (Nat.le_of_ble_eq_true rfl)) (by decide) ml219 pp219 (Nat.le_of_ble_eq_true rfl) rfl (by decide) (by decide) ?_
  refine ev_iload_n rfl ?_
  refine ev_iflt f219_12 (fun c37333 => ?_) (fun c37333 => ?_)
  · refine ev_aconst_null ?_
    refine ev_goto f219_22 ?_
    refine ev_ret rfl (by decide) (by decide) ?_
    show jEv _ _ _ _ _ _ _ (_, [(2, 0), (0, a1), (0, a2), (0, a3), (0, a4), (9, 0), (9, 0), (9, 0), (9, 0), (9, 0)], [(2, (-1))], _, _, _)
    refine ev_astore (L' := [(2, 0), (0, a1), (0, a2), (0, a3), (0, a4), (2, (-1)), (9, 0), (9, 0), (9, 0), (9, 0)]) (Nat.le_of_ble_eq_true rfl) rfl ?_
    refine ev_aload rfl ?_
    refine ev_ifnull f194_38 (fun c37334 => ?_) (fun c37334 => absurd c37334 (by decide))
    refine ev_ldc2_w ?_
    exact ev_ret rfl (by decide) (by decide) ⟨_, rfl, by omega, by omega, g, k0⟩
  · refine ev_iload_n rfl ?_
    refine ev_aload_n rfl ?_
    obtain ⟨v37335, ev37335, lv37335, uv37335⟩ := g.rd ad0 (show 3 < 17 by decide) rf0_3
    refine g_getv (r := 0) (v := v37335) g ad0 (by decide) ft11_3 ev37335 ?_
    refine ev_icmplt f219_16 (fun c37336 => ?_) (fun c37336 => ?_)
    · refine ev_aload_n rfl ?_
      refine g_getp (r := 0) (c := 18) g ad0 (by decide) (by decide) rf0_2 ft11_2 ?_
      refine ev_iload_n rfl ?_
      refine g_qaald (g) (i := a1) (ev37335) (by omega) (by omega) (fun r37337 m37338 qr37337 => ?_)
      have wr37337 := g.qb qr37337
      have zr37337 := qr37337.1
      refine ev_ret rfl (by decide) (by decide) ?_
      show jEv _ _ _ _ _ _ _ (_, [(2, 0), (0, a1), (0, a2), (0, a3), (0, a4), (9, 0), (9, 0), (9, 0), (9, 0), (9, 0)], [(2, (r37337 : Int))], _, _, _)
      refine ev_astore (L' := [(2, 0), (0, a1), (0, a2), (0, a3), (0, a4), (2, (r37337 : Int)), (9, 0), (9, 0), (9, 0), (9, 0)]) (Nat.le_of_ble_eq_true rfl) rfl ?_
      refine ev_aload rfl ?_
      refine ev_ifnull f194_38 (fun c37339 => absurd c37339 (by omega)) (fun c37339 => ?_)
      refine ev_aload_n rfl ?_
      refine ev_iload_n rfl ?_
      refine ev_iload_n rfl ?_
      refine ev_in (d := 5) (a := 0) (b := 0) (cd' := c232_0) (m := 3) (L0 := [(2, 0), (0, a2), (0, a3)]) (jcall_v (A := [(0, a3), (0, a2)]) (S' := []) (r := 0) rfl (g.lt ad0) (g.tg ad0) (Nat.le_of_ble_eq_true rfl)) (by decide) ml232 pp232 (Nat.le_of_ble_eq_true rfl) rfl (by decide) (by decide) ?_
      refine ev_aload_n rfl ?_
      refine g_getp (r := 0) (c := 1) g ad0 (by decide) (by decide) rf0_0 ft11_0 ?_
      refine ev_iload_n rfl ?_
      refine ev_in (d := 4) (a := 0) (b := 0) (cd' := c140_0) (m := 2) (L0 := [(2, 1), (0, a2)]) (jcall_v (A := [(0, a2)]) (S' := []) (r := 1) rfl (g.lt ad1) (g.tg ad1) (Nat.le_of_ble_eq_true rfl)) (by decide) ml140 pp140 (Nat.le_of_ble_eq_true rfl) rfl (by decide) (by decide) ?_
      refine ev_iload_n rfl ?_
      refine ev_iflt f140_16 (fun c37340 => ?_) (fun c37340 => ?_)
      · refine ev_iconst ?_
        refine ev_ret rfl (by decide) (by decide) ?_
        show jEv _ _ _ _ _ _ _ (_, [(2, 0), (0, a2), (0, a3)], [(0, 0)], _, _, _)
        refine ev_ifeq f232_58 (fun c37341 => ?_) (fun c37341 => absurd c37341 (by omega))
        refine ev_iconst ?_
        refine ev_ret rfl (by decide) (by decide) ?_
        show jEv _ _ _ _ _ _ _ (_, [(2, 0), (0, a1), (0, a2), (0, a3), (0, a4), (2, (r37337 : Int)), (9, 0), (9, 0), (9, 0), (9, 0)], [(0, 0)], _, _, _)
        refine ev_ifeq f194_38 (fun c37342 => ?_) (fun c37342 => absurd c37342 (by omega))
        refine ev_ldc2_w ?_
        exact ev_ret rfl (by decide) (by decide) ⟨_, rfl, by omega, by omega, g, k0⟩
      · refine ev_iload_n rfl ?_
        refine ev_aload_n rfl ?_
        obtain ⟨v37343, ev37343, lv37343, uv37343⟩ := g.rd ad1 (show 0 < 8 by decide) rf1_0
        refine g_getv (r := 1) (v := v37343) g ad1 (by decide) ft10_0 ev37343 ?_
        refine ev_icmpge f140_16 (fun c37344 => ?_) (fun c37344 => ?_)
        · refine ev_iconst ?_
          refine ev_ret rfl (by decide) (by decide) ?_
          show jEv _ _ _ _ _ _ _ (_, [(2, 0), (0, a2), (0, a3)], [(0, 0)], _, _, _)
          refine ev_ifeq f232_58 (fun c37345 => ?_) (fun c37345 => absurd c37345 (by omega))
          refine ev_iconst ?_
          refine ev_ret rfl (by decide) (by decide) ?_
          show jEv _ _ _ _ _ _ _ (_, [(2, 0), (0, a1), (0, a2), (0, a3), (0, a4), (2, (r37337 : Int)), (9, 0), (9, 0), (9, 0), (9, 0)], [(0, 0)], _, _, _)
          refine ev_ifeq f194_38 (fun c37346 => ?_) (fun c37346 => absurd c37346 (by omega))
          refine ev_ldc2_w ?_
          exact ev_ret rfl (by decide) (by decide) ⟨_, rfl, by omega, by omega, g, k0⟩
        · refine ev_iconst ?_
          refine ev_goto f140_17 ?_
          refine ev_ret rfl (by decide) (by decide) ?_
          show jEv _ _ _ _ _ _ _ (_, [(2, 0), (0, a2), (0, a3)], [(0, 1)], _, _, _)
          refine ev_ifeq f232_58 (fun c37347 => absurd c37347 (by omega)) (fun c37347 => ?_)
          refine ev_aload_n rfl ?_
          refine g_getp (r := 0) (c := 1) g ad0 (by decide) (by decide) rf0_0 ft11_0 ?_
          refine ev_iload_n rfl ?_
          refine ev_in (d := 4) (a := 0) (b := 0) (cd' := c142_0) (m := 2) (L0 := [(2, 1), (0, a2)]) (jcall_v (A := [(0, a2)]) (S' := []) (r := 1) rfl (g.lt ad1) (g.tg ad1) (Nat.le_of_ble_eq_true rfl)) (by decide) ml142 pp142 (Nat.le_of_ble_eq_true rfl) rfl (by decide) (by decide) ?_
          refine ev_aload_n rfl ?_
          refine ev_iload_n rfl ?_
          refine ev_in (d := 3) (a := 0) (b := 0) (cd' := c140_0) (m := 2) (L0 := [(2, 1), (0, a2)]) (jcall_v (A := [(0, a2)]) (S' := []) (r := 1) rfl (g.lt ad1) (g.tg ad1) (Nat.le_of_ble_eq_true rfl)) (by decide) ml140 pp140 (Nat.le_of_ble_eq_true rfl) rfl (by decide) (by decide) ?_
          refine ev_iload_n rfl ?_
          refine ev_iflt f140_16 (fun c37348 => absurd c37348 (by omega)) (fun c37348 => ?_)
          refine ev_iload_n rfl ?_
          refine ev_aload_n rfl ?_
          refine g_getv (r := 1) (v := v37343) g ad1 (by decide) ft10_0 (ev37343) ?_
          refine ev_icmpge f140_16 (fun c37349 => absurd c37349 (by omega)) (fun c37349 => ?_)
          refine ev_iconst ?_
          refine ev_goto f140_17 ?_
          refine ev_ret rfl (by decide) (by decide) ?_
          show jEv _ _ _ _ _ _ _ (_, [(2, 1), (0, a2)], [(0, 1)], _, _, _)
          refine ev_ifeq f142_21 (fun c37350 => absurd c37350 (by omega)) (fun c37350 => ?_)
          refine ev_aload_n rfl ?_
          refine g_getp (r := 1) (c := 3) g ad1 (by decide) (by decide) rf1_4 ft10_4 ?_
          refine ev_iload_n rfl ?_
          refine g_iald g ad3 rt3 (by omega) (by omega) (fun v37351 ev37351 lv37351 uv37351 => ?_)
          refine ev_iflt f142_21 (fun c37352 => ?_) (fun c37352 => ?_)
          · refine ev_iconst ?_
            refine ev_ret rfl (by decide) (by decide) ?_
            show jEv _ _ _ _ _ _ _ (_, [(2, 0), (0, a2), (0, a3)], [(0, 0)], _, _, _)
            refine ev_ifne f232_58 (fun c37353 => absurd c37353 (by omega)) (fun c37353 => ?_)
            refine ev_iload_n rfl ?_
            refine ev_ifle f232_58 (fun c37354 => ?_) (fun c37354 => ?_)
            · refine ev_iconst ?_
              refine ev_ret rfl (by decide) (by decide) ?_
              show jEv _ _ _ _ _ _ _ (_, [(2, 0), (0, a1), (0, a2), (0, a3), (0, a4), (2, (r37337 : Int)), (9, 0), (9, 0), (9, 0), (9, 0)], [(0, 0)], _, _, _)
              refine ev_ifeq f194_38 (fun c37355 => ?_) (fun c37355 => absurd c37355 (by omega))
              refine ev_ldc2_w ?_
              exact ev_ret rfl (by decide) (by decide) ⟨_, rfl, by omega, by omega, g, k0⟩
            · refine ev_iload_n rfl ?_
              refine ev_bipush ?_
              refine g_idivP (c := 100) rfl (by decide) (by omega) (by omega) (fun v37356 ev37356 lv37356 uv37356 => ?_)
              refine ev_iconst ?_
              refine ev_icmplt f232_58 (fun c37357 => ?_) (fun c37357 => ?_)
              · refine ev_iconst ?_
                refine ev_ret rfl (by decide) (by decide) ?_
                show jEv _ _ _ _ _ _ _ (_, [(2, 0), (0, a1), (0, a2), (0, a3), (0, a4), (2, (r37337 : Int)), (9, 0), (9, 0), (9, 0), (9, 0)], [(0, 0)], _, _, _)
                refine ev_ifeq f194_38 (fun c37358 => ?_) (fun c37358 => absurd c37358 (by omega))
                refine ev_ldc2_w ?_
                exact ev_ret rfl (by decide) (by decide) ⟨_, rfl, by omega, by omega, g, k0⟩
              · refine ev_iload_n rfl ?_
                refine ev_bipush ?_
                refine g_idivP (c := 100) rfl (by decide) (by omega) (by omega) (fun v37359 ev37359 lv37359 uv37359 => ?_)
                obtain rfl : v37356 = v37359 := by omega
                refine ev_bipush ?_
                refine ev_icmpgt f232_58 (fun c37360 => ?_) (fun c37360 => ?_)
                · refine ev_iconst ?_
                  refine ev_ret rfl (by decide) (by decide) ?_
                  show jEv _ _ _ _ _ _ _ (_, [(2, 0), (0, a1), (0, a2), (0, a3), (0, a4), (2, (r37337 : Int)), (9, 0), (9, 0), (9, 0), (9, 0)], [(0, 0)], _, _, _)
                  refine ev_ifeq f194_38 (fun c37361 => ?_) (fun c37361 => absurd c37361 (by omega))
                  refine ev_ldc2_w ?_
                  exact ev_ret rfl (by decide) (by decide) ⟨_, rfl, by omega, by omega, g, k0⟩
                · refine ev_iload_n rfl ?_
                  refine ev_bipush ?_
                  refine g_idivP (c := 100) rfl (by decide) (by omega) (by omega) (fun v37362 ev37362 lv37362 uv37362 => ?_)
                  obtain rfl : v37356 = v37362 := by omega
                  refine ev_iload_n rfl ?_
                  refine ev_bipush ?_
                  refine g_iremP (c := 100) rfl (by decide) (by omega) (fun v37363 ev37363 lv37363 uv37363 wv37363 => ?_)
                  refine ev_icmpgt f232_58 (fun c37364 => ?_) (fun c37364 => ?_)
                  · refine ev_iconst ?_
                    refine ev_ret rfl (by decide) (by decide) ?_
                    show jEv _ _ _ _ _ _ _ (_, [(2, 0), (0, a1), (0, a2), (0, a3), (0, a4), (2, (r37337 : Int)), (9, 0), (9, 0), (9, 0), (9, 0)], [(0, 0)], _, _, _)
                    refine ev_ifeq f194_38 (fun c37365 => ?_) (fun c37365 => absurd c37365 (by omega))
                    refine ev_ldc2_w ?_
                    exact ev_ret rfl (by decide) (by decide) ⟨_, rfl, by omega, by omega, g, k0⟩
                  · refine ev_iconst ?_
                    refine ev_goto f232_59 ?_
                    refine ev_ret rfl (by decide) (by decide) ?_
                    show jEv _ _ _ _ _ _ _ (_, [(2, 0), (0, a1), (0, a2), (0, a3), (0, a4), (2, (r37337 : Int)), (9, 0), (9, 0), (9, 0), (9, 0)], [(0, 1)], _, _, _)
                    refine ev_ifeq f194_38 (fun c37366 => absurd c37366 (by omega)) (fun c37366 => ?_)
                    refine ev_iload rfl ?_
                    refine ev_in (d := 5) (a := 0) (b := 0) (cd' := c221_0) (m := 1) (L0 := [(0, a4)]) (jcall_s (A := [(0, a4)]) (S' := []) (by decide) rfl (Nat.le_of_ble_eq_true rfl)) (by decide) ml221 pp221 (Nat.le_of_ble_eq_true rfl) rfl (by decide) (by decide) ?_
                    refine ev_iload_n rfl ?_
                    refine ev_ifeq f221_9 (fun c37367 => ?_) (fun c37367 => ?_)
                    · refine ev_iconst ?_
                      refine ev_goto f221_14 ?_
                      refine ev_ret rfl (by decide) (by decide) ?_
                      show jEv _ _ _ _ _ _ _ (_, [(2, 0), (0, a1), (0, a2), (0, a3), (0, a4), (2, (r37337 : Int)), (9, 0), (9, 0), (9, 0), (9, 0)], [(0, 1)], _, _, _)
                      refine ev_ifeq f194_38 (fun c37368 => absurd c37368 (by omega)) (fun c37368 => ?_)
                      refine ev_aload_n rfl ?_
                      refine ev_iload_n rfl ?_
                      refine ev_iload_n rfl ?_
                      refine ev_call (jcall_v (A := [(0, a3), (0, a2)]) (S' := []) (r := 0) rfl (g.lt ad0) (g.tg ad0) (Nat.le_of_ble_eq_true rfl)) (jOk_le (by decide) (s233 g (by omega) (by omega) (by omega) (by omega))) (by decide) (by decide) (fun w37369 h37369 q37369 => ?_)
                      obtain ⟨v37370, rfl, lv37370, uv37370, g37369, kk37369⟩ := q37369
                      have k37369 := k0.tr kk37369 (by decide)
                      show jEv _ _ _ _ _ _ _ (_, [(2, 0), (0, a1), (0, a2), (0, a3), (0, a4), (2, (r37337 : Int)), (9, 0), (9, 0), (9, 0), (9, 0)], [(0, v37370)], _, _, _)
                      refine ev_ifeq f194_42 (fun c37371 => ?_) (fun c37371 => ?_)
                      · refine ev_iload_n rfl ?_
                        refine ev_iconst ?_
                        refine ev_iconst ?_
                        refine ev_in (d := 5) (a := 0) (b := 0) (cd' := c147_0) (m := 3) (L0 := [(0, a2), (0, 0), (0, 0)]) (jcall_s (A := [(0, 0), (0, 0), (0, a2)]) (S' := []) (by decide) rfl (Nat.le_of_ble_eq_true rfl)) (by decide) ml147 pp147 (Nat.le_of_ble_eq_true rfl) rfl (by decide) (by decide) ?_
                        refine ev_bipush ?_
                        refine ev_iload_n rfl ?_
                        refine ev_imul (r := (9 * a2)) (by unfold w32; omega) ?_
                        refine ev_iconst ?_
                        refine ev_iload_n rfl ?_
                        refine ev_imul (r := 0) (by decide) ?_
                        refine ev_iadd (r := (9 * a2)) (by unfold w32; omega) ?_
                        refine ev_iload_n rfl ?_
                        refine ev_iadd (r := (9 * a2)) (by unfold w32; omega) ?_
                        refine ev_ret rfl (by decide) (by decide) ?_
                        show jEv _ _ _ _ _ _ _ (_, [(2, 0), (0, a1), (0, a2), (0, a3), (0, a4), (2, (r37337 : Int)), (9, 0), (9, 0), (9, 0), (9, 0)], [(0, (9 * a2))], _, _, _)
                        refine ev_istore (L' := [(2, 0), (0, a1), (0, a2), (0, a3), (0, a4), (2, (r37337 : Int)), (0, (9 * a2)), (9, 0), (9, 0), (9, 0)]) (Nat.le_of_ble_eq_true rfl) rfl ?_
                        refine ev_aload_n rfl ?_
                        refine g_getp (r := 0) (c := 1) g37369 ad0 (by decide) (by decide) rf0_0 ft11_0 ?_
                        refine ev_iload rfl ?_
                        refine ev_in (d := 5) (a := 0) (b := 0) (cd' := c148_0) (m := 2) (L0 := [(2, 1), (0, (9 * a2))]) (jcall_v (A := [(0, (9 * a2))]) (S' := []) (r := 1) rfl (g37369.lt ad1) (g37369.tg ad1) (Nat.le_of_ble_eq_true rfl)) (by decide) ml148 pp148 (Nat.le_of_ble_eq_true rfl) rfl (by decide) (by decide) ?_
                        refine ev_iload_n rfl ?_
                        refine ev_iflt f148_10 (fun c37372 => absurd c37372 (by omega)) (fun c37372 => ?_)
                        refine ev_iload_n rfl ?_
                        refine ev_bipush ?_
                        refine ev_icmplt f148_14 (fun c37373 => ?_) (fun c37373 => absurd c37373 (by omega))
                        refine ev_aload_n rfl ?_
                        refine g_getp (r := 1) (c := 4) g37369 ad1 (by decide) (by decide) rf1_5 ft10_5 ?_
                        refine ev_iload_n rfl ?_
                        refine g_iald g37369 ad4 rt4 (by omega) (by omega) (fun v37374 ev37374 lv37374 uv37374 => ?_)
                        refine ev_ret rfl (by decide) (by decide) ?_
                        show jEv _ _ _ _ _ _ _ (_, [(2, 0), (0, a1), (0, a2), (0, a3), (0, a4), (2, (r37337 : Int)), (0, (9 * a2)), (9, 0), (9, 0), (9, 0)], [(0, v37374)], _, _, _)
                        refine ev_istore (L' := [(2, 0), (0, a1), (0, a2), (0, a3), (0, a4), (2, (r37337 : Int)), (0, (9 * a2)), (0, v37374), (9, 0), (9, 0)]) (Nat.le_of_ble_eq_true rfl) rfl ?_
                        refine ev_aload_n rfl ?_
                        refine ev_aload rfl ?_
                        refine ev_iload_n rfl ?_
                        refine ev_iload_n rfl ?_
                        refine ev_iload rfl ?_
                        refine ev_call (jcall_v (A := [(0, a4), (0, a3), (0, a2), (2, (r37337 : Int))]) (S' := []) (r := 0) rfl (g37369.lt ad0) (g37369.tg ad0) (Nat.le_of_ble_eq_true rfl)) (jOk_le (by decide) (s237 g37369 qr37337 (by omega) (by omega) (by omega) (by omega) (by omega) (by omega))) (by decide) (by decide) (fun w37375 h37375 q37375 => ?_)
                        obtain ⟨v37376, rfl, lv37376, uv37376, g37375, kk37375⟩ := q37375
                        have k37375 := k37369.tr kk37375 (by decide)
                        show jEv _ _ _ _ _ _ _ (_, [(2, 0), (0, a1), (0, a2), (0, a3), (0, a4), (2, (r37337 : Int)), (0, (9 * a2)), (0, v37374), (9, 0), (9, 0)], [(1, v37376)], _, _, _)
                        refine ev_lstore (L' := [(2, 0), (0, a1), (0, a2), (0, a3), (0, a4), (2, (r37337 : Int)), (0, (9 * a2)), (0, v37374), (1, v37376), (9, 0)]) (Nat.le_of_ble_eq_true rfl) rfl ?_
                        refine ev_aload_n rfl ?_
                        refine g_getp (r := 0) (c := 1) g37375 ad0 (by decide) (by decide) rf0_0 ft11_0 ?_
                        refine ev_iload rfl ?_
                        refine ev_iload rfl ?_
                        refine ev_in (d := 5) (a := 0) (b := 0) (cd' := c149_0) (m := 3) (L0 := [(2, 1), (0, (9 * a2)), (0, v37374)]) (jcall_v (A := [(0, v37374), (0, (9 * a2))]) (S' := []) (r := 1) rfl (g37375.lt ad1) (g37375.tg ad1) (Nat.le_of_ble_eq_true rfl)) (by decide) ml149 pp149 (Nat.le_of_ble_eq_true rfl) rfl (by decide) (by decide) ?_
                        refine ev_iload_n rfl ?_
                        refine ev_iflt f149_32 (fun c37377 => absurd c37377 (by omega)) (fun c37377 => ?_)
                        refine ev_iload_n rfl ?_
                        refine ev_bipush ?_
                        refine ev_icmpge f149_32 (fun c37378 => absurd c37378 (by omega)) (fun c37378 => ?_)
                        refine ev_aload_n rfl ?_
                        refine g_getp (r := 1) (c := 4) g37375 ad1 (by decide) (by decide) rf1_5 ft10_5 ?_
                        refine ev_iload_n rfl ?_
                        refine g_iald g37375 ad4 rt4 (by omega) (by omega) (fun v37379 ev37379 lv37379 uv37379 => ?_)
                        refine ev_iload_n rfl ?_
                        refine ev_icmpeq f149_32 (fun c37380 => ?_) (fun c37380 => ?_)
                        · refine ev_ret rfl (by decide) (by decide) ?_
                          show jEv _ _ _ _ _ _ _ (_, [(2, 0), (0, a1), (0, a2), (0, a3), (0, a4), (2, (r37337 : Int)), (0, (9 * a2)), (0, v37374), (1, v37376), (9, 0)], [], _, _, _)
                          refine ev_lload rfl ?_
                          exact ev_ret rfl (by decide) (by decide) ⟨_, rfl, by omega, by omega, g37375, k37375⟩
                        · refine ev_aload_n rfl ?_
                          refine g_getp (r := 1) (c := 4) g37375 ad1 (by decide) (by decide) rf1_5 ft10_5 ?_
                          refine ev_iload_n rfl ?_
                          refine ev_iload_n rfl ?_
                          refine g_iast g37375 ad4 rt4 (fun _ => rfl) (by omega) (by omega) (by omega) (by omega) (fun h37381 e37381 g37381 => ?_)
                          have k37381 := k37375.wr e37381 rfl
                          refine ev_aload_n rfl ?_
                          refine ev_iconst ?_
                          refine g_putf (r := 1) g37381 ad1 (by decide) ft10_2 (by decide) (fun _ => by omega) rf1_2 (by decide) (by omega) (by omega) (fun h37382 e37382 g37382 => ?_)
                          have k37382 := k37381.wr e37382 rfl
                          refine ev_ret rfl (by decide) (by decide) ?_
                          show jEv _ _ _ _ _ _ _ (_, [(2, 0), (0, a1), (0, a2), (0, a3), (0, a4), (2, (r37337 : Int)), (0, (9 * a2)), (0, v37374), (1, v37376), (9, 0)], [], _, _, _)
                          refine ev_lload rfl ?_
                          exact ev_ret rfl (by decide) (by decide) ⟨_, rfl, by omega, by omega, g37382, k37382⟩
                      · refine ev_ldc2_w ?_
                        exact ev_ret rfl (by decide) (by decide) ⟨_, rfl, by omega, by omega, g37369, k37369⟩
                    · refine ev_iload_n rfl ?_
                      refine ev_iconst ?_
                      refine ev_icmpne f221_13 (fun c37383 => ?_) (fun c37383 => ?_)
                      · refine ev_iconst ?_
                        refine ev_ret rfl (by decide) (by decide) ?_
                        show jEv _ _ _ _ _ _ _ (_, [(2, 0), (0, a1), (0, a2), (0, a3), (0, a4), (2, (r37337 : Int)), (9, 0), (9, 0), (9, 0), (9, 0)], [(0, 0)], _, _, _)
                        refine ev_ifeq f194_38 (fun c37384 => ?_) (fun c37384 => absurd c37384 (by omega))
                        refine ev_ldc2_w ?_
                        exact ev_ret rfl (by decide) (by decide) ⟨_, rfl, by omega, by omega, g, k0⟩
                      · refine ev_iconst ?_
                        refine ev_goto f221_14 ?_
                        refine ev_ret rfl (by decide) (by decide) ?_
                        show jEv _ _ _ _ _ _ _ (_, [(2, 0), (0, a1), (0, a2), (0, a3), (0, a4), (2, (r37337 : Int)), (9, 0), (9, 0), (9, 0), (9, 0)], [(0, 1)], _, _, _)
                        refine ev_ifeq f194_38 (fun c37385 => absurd c37385 (by omega)) (fun c37385 => ?_)
                        refine ev_aload_n rfl ?_
                        refine ev_iload_n rfl ?_
                        refine ev_iload_n rfl ?_
                        refine ev_call (jcall_v (A := [(0, a3), (0, a2)]) (S' := []) (r := 0) rfl (g.lt ad0) (g.tg ad0) (Nat.le_of_ble_eq_true rfl)) (jOk_le (by decide) (s233 g (by omega) (by omega) (by omega) (by omega))) (by decide) (by decide) (fun w37386 h37386 q37386 => ?_)
                        obtain ⟨v37387, rfl, lv37387, uv37387, g37386, kk37386⟩ := q37386
                        have k37386 := k0.tr kk37386 (by decide)
                        show jEv _ _ _ _ _ _ _ (_, [(2, 0), (0, a1), (0, a2), (0, a3), (0, a4), (2, (r37337 : Int)), (9, 0), (9, 0), (9, 0), (9, 0)], [(0, v37387)], _, _, _)
                        refine ev_ifeq f194_42 (fun c37388 => ?_) (fun c37388 => ?_)
                        · refine ev_iload_n rfl ?_
                          refine ev_iconst ?_
                          refine ev_iconst ?_
                          refine ev_in (d := 5) (a := 0) (b := 0) (cd' := c147_0) (m := 3) (L0 := [(0, a2), (0, 0), (0, 0)]) (jcall_s (A := [(0, 0), (0, 0), (0, a2)]) (S' := []) (by decide) rfl (Nat.le_of_ble_eq_true rfl)) (by decide) ml147 pp147 (Nat.le_of_ble_eq_true rfl) rfl (by decide) (by decide) ?_
                          refine ev_bipush ?_
                          refine ev_iload_n rfl ?_
                          refine ev_imul (r := (9 * a2)) (by unfold w32; omega) ?_
                          refine ev_iconst ?_
                          refine ev_iload_n rfl ?_
                          refine ev_imul (r := 0) (by decide) ?_
                          refine ev_iadd (r := (9 * a2)) (by unfold w32; omega) ?_
                          refine ev_iload_n rfl ?_
                          refine ev_iadd (r := (9 * a2)) (by unfold w32; omega) ?_
                          refine ev_ret rfl (by decide) (by decide) ?_
                          show jEv _ _ _ _ _ _ _ (_, [(2, 0), (0, a1), (0, a2), (0, a3), (0, a4), (2, (r37337 : Int)), (9, 0), (9, 0), (9, 0), (9, 0)], [(0, (9 * a2))], _, _, _)
                          refine ev_istore (L' := [(2, 0), (0, a1), (0, a2), (0, a3), (0, a4), (2, (r37337 : Int)), (0, (9 * a2)), (9, 0), (9, 0), (9, 0)]) (Nat.le_of_ble_eq_true rfl) rfl ?_
                          refine ev_aload_n rfl ?_
                          refine g_getp (r := 0) (c := 1) g37386 ad0 (by decide) (by decide) rf0_0 ft11_0 ?_
                          refine ev_iload rfl ?_
                          refine ev_in (d := 5) (a := 0) (b := 0) (cd' := c148_0) (m := 2) (L0 := [(2, 1), (0, (9 * a2))]) (jcall_v (A := [(0, (9 * a2))]) (S' := []) (r := 1) rfl (g37386.lt ad1) (g37386.tg ad1) (Nat.le_of_ble_eq_true rfl)) (by decide) ml148 pp148 (Nat.le_of_ble_eq_true rfl) rfl (by decide) (by decide) ?_
                          refine ev_iload_n rfl ?_
                          refine ev_iflt f148_10 (fun c37389 => absurd c37389 (by omega)) (fun c37389 => ?_)
                          refine ev_iload_n rfl ?_
                          refine ev_bipush ?_
                          refine ev_icmplt f148_14 (fun c37390 => ?_) (fun c37390 => absurd c37390 (by omega))
                          refine ev_aload_n rfl ?_
                          refine g_getp (r := 1) (c := 4) g37386 ad1 (by decide) (by decide) rf1_5 ft10_5 ?_
                          refine ev_iload_n rfl ?_
                          refine g_iald g37386 ad4 rt4 (by omega) (by omega) (fun v37391 ev37391 lv37391 uv37391 => ?_)
                          refine ev_ret rfl (by decide) (by decide) ?_
                          show jEv _ _ _ _ _ _ _ (_, [(2, 0), (0, a1), (0, a2), (0, a3), (0, a4), (2, (r37337 : Int)), (0, (9 * a2)), (9, 0), (9, 0), (9, 0)], [(0, v37391)], _, _, _)
                          refine ev_istore (L' := [(2, 0), (0, a1), (0, a2), (0, a3), (0, a4), (2, (r37337 : Int)), (0, (9 * a2)), (0, v37391), (9, 0), (9, 0)]) (Nat.le_of_ble_eq_true rfl) rfl ?_
                          refine ev_aload_n rfl ?_
                          refine ev_aload rfl ?_
                          refine ev_iload_n rfl ?_
                          refine ev_iload_n rfl ?_
                          refine ev_iload rfl ?_
                          refine ev_call (jcall_v (A := [(0, a4), (0, a3), (0, a2), (2, (r37337 : Int))]) (S' := []) (r := 0) rfl (g37386.lt ad0) (g37386.tg ad0) (Nat.le_of_ble_eq_true rfl)) (jOk_le (by decide) (s237 g37386 qr37337 (by omega) (by omega) (by omega) (by omega) (by omega) (by omega))) (by decide) (by decide) (fun w37392 h37392 q37392 => ?_)
                          obtain ⟨v37393, rfl, lv37393, uv37393, g37392, kk37392⟩ := q37392
                          have k37392 := k37386.tr kk37392 (by decide)
                          show jEv _ _ _ _ _ _ _ (_, [(2, 0), (0, a1), (0, a2), (0, a3), (0, a4), (2, (r37337 : Int)), (0, (9 * a2)), (0, v37391), (9, 0), (9, 0)], [(1, v37393)], _, _, _)
                          refine ev_lstore (L' := [(2, 0), (0, a1), (0, a2), (0, a3), (0, a4), (2, (r37337 : Int)), (0, (9 * a2)), (0, v37391), (1, v37393), (9, 0)]) (Nat.le_of_ble_eq_true rfl) rfl ?_
                          refine ev_aload_n rfl ?_
                          refine g_getp (r := 0) (c := 1) g37392 ad0 (by decide) (by decide) rf0_0 ft11_0 ?_
                          refine ev_iload rfl ?_
                          refine ev_iload rfl ?_
                          refine ev_in (d := 5) (a := 0) (b := 0) (cd' := c149_0) (m := 3) (L0 := [(2, 1), (0, (9 * a2)), (0, v37391)]) (jcall_v (A := [(0, v37391), (0, (9 * a2))]) (S' := []) (r := 1) rfl (g37392.lt ad1) (g37392.tg ad1) (Nat.le_of_ble_eq_true rfl)) (by decide) ml149 pp149 (Nat.le_of_ble_eq_true rfl) rfl (by decide) (by decide) ?_
                          refine ev_iload_n rfl ?_
                          refine ev_iflt f149_32 (fun c37394 => absurd c37394 (by omega)) (fun c37394 => ?_)
                          refine ev_iload_n rfl ?_
                          refine ev_bipush ?_
                          refine ev_icmpge f149_32 (fun c37395 => absurd c37395 (by omega)) (fun c37395 => ?_)
                          refine ev_aload_n rfl ?_
                          refine g_getp (r := 1) (c := 4) g37392 ad1 (by decide) (by decide) rf1_5 ft10_5 ?_
                          refine ev_iload_n rfl ?_
                          refine g_iald g37392 ad4 rt4 (by omega) (by omega) (fun v37396 ev37396 lv37396 uv37396 => ?_)
                          refine ev_iload_n rfl ?_
                          refine ev_icmpeq f149_32 (fun c37397 => ?_) (fun c37397 => ?_)
                          · refine ev_ret rfl (by decide) (by decide) ?_
                            show jEv _ _ _ _ _ _ _ (_, [(2, 0), (0, a1), (0, a2), (0, a3), (0, a4), (2, (r37337 : Int)), (0, (9 * a2)), (0, v37391), (1, v37393), (9, 0)], [], _, _, _)
                            refine ev_lload rfl ?_
                            exact ev_ret rfl (by decide) (by decide) ⟨_, rfl, by omega, by omega, g37392, k37392⟩
                          · refine ev_aload_n rfl ?_
                            refine g_getp (r := 1) (c := 4) g37392 ad1 (by decide) (by decide) rf1_5 ft10_5 ?_
                            refine ev_iload_n rfl ?_
                            refine ev_iload_n rfl ?_
                            refine g_iast g37392 ad4 rt4 (fun _ => rfl) (by omega) (by omega) (by omega) (by omega) (fun h37398 e37398 g37398 => ?_)
                            have k37398 := k37392.wr e37398 rfl
                            refine ev_aload_n rfl ?_
                            refine ev_iconst ?_
                            refine g_putf (r := 1) g37398 ad1 (by decide) ft10_2 (by decide) (fun _ => by omega) rf1_2 (by decide) (by omega) (by omega) (fun h37399 e37399 g37399 => ?_)
                            have k37399 := k37398.wr e37399 rfl
                            refine ev_ret rfl (by decide) (by decide) ?_
                            show jEv _ _ _ _ _ _ _ (_, [(2, 0), (0, a1), (0, a2), (0, a3), (0, a4), (2, (r37337 : Int)), (0, (9 * a2)), (0, v37391), (1, v37393), (9, 0)], [], _, _, _)
                            refine ev_lload rfl ?_
                            exact ev_ret rfl (by decide) (by decide) ⟨_, rfl, by omega, by omega, g37399, k37399⟩
                        · refine ev_ldc2_w ?_
                          exact ev_ret rfl (by decide) (by decide) ⟨_, rfl, by omega, by omega, g37386, k37386⟩
          · refine ev_iconst ?_
            refine ev_goto f142_22 ?_
            refine ev_ret rfl (by decide) (by decide) ?_
            show jEv _ _ _ _ _ _ _ (_, [(2, 0), (0, a2), (0, a3)], [(0, 1)], _, _, _)
            refine ev_ifne f232_58 (fun c37400 => ?_) (fun c37400 => absurd c37400 (by omega))
            refine ev_iconst ?_
            refine ev_ret rfl (by decide) (by decide) ?_
            show jEv _ _ _ _ _ _ _ (_, [(2, 0), (0, a1), (0, a2), (0, a3), (0, a4), (2, (r37337 : Int)), (9, 0), (9, 0), (9, 0), (9, 0)], [(0, 0)], _, _, _)
            refine ev_ifeq f194_38 (fun c37401 => ?_) (fun c37401 => absurd c37401 (by omega))
            refine ev_ldc2_w ?_
            exact ev_ret rfl (by decide) (by decide) ⟨_, rfl, by omega, by omega, g, k0⟩
    · refine ev_aconst_null ?_
      refine ev_goto f219_22 ?_
      refine ev_ret rfl (by decide) (by decide) ?_
      show jEv _ _ _ _ _ _ _ (_, [(2, 0), (0, a1), (0, a2), (0, a3), (0, a4), (9, 0), (9, 0), (9, 0), (9, 0), (9, 0)], [(2, (-1))], _, _, _)
      refine ev_astore (L' := [(2, 0), (0, a1), (0, a2), (0, a3), (0, a4), (2, (-1)), (9, 0), (9, 0), (9, 0), (9, 0)]) (Nat.le_of_ble_eq_true rfl) rfl ?_
      refine ev_aload rfl ?_
      refine ev_ifnull f194_38 (fun c37402 => ?_) (fun c37402 => absurd c37402 (by decide))
      refine ev_ldc2_w ?_
      exact ev_ret rfl (by decide) (by decide) ⟨_, rfl, by omega, by omega, g, k0⟩
/-! 383 fill -/
set_option maxHeartbeats 4000000 in
theorem s383_l {G : GH} {h : JH}  : ∀ N : Nat, (∀ (h1 : JH) (x2 : Int), Gd G h1 → Kp [(27, 0)] h h1 → 0 ≤ x2 → x2 ≤ 32 → ((-x2) + 32) < N → jEv (jOk 0) none (fun _ => 0) c383_0 0 0 (PV G [(27, 0)] h) (c383_5, [(2, 27), (0, 0), (0, x2), (0, 32)], [], h1, 0, 0)) := by
  intro N
  induction N with
  | zero => exact fun h1 x2 g1 k1 b0 b1 hm => absurd hm (by omega)
  | succ N ih =>
    show _
    intro h1 x2 g1 k1 b0 b1 hm
    refine ev_iload_n rfl ?_
    refine ev_iload_n rfl ?_
    refine ev_icmpge f383_20 (fun c37449 => ?_) (fun c37449 => ?_)
    · exact ev_ret rfl (by decide) (by decide) ⟨rfl, g1, k1⟩
    · refine ev_aload_n rfl ?_
      refine ev_iload_n rfl ?_
      refine ev_iload_n rfl ?_
      refine g_iast g1 ad27 rt27 (fun _ => rfl) (by omega) (by omega) (by omega) (by omega) (fun h37450 e37450 g37450 => ?_)
      have k37450 := k1.wr e37450 rfl
      refine ev_iinc (w := (x2 + 1)) (L' := [(2, 27), (0, 0), (0, (x2 + 1)), (0, 32)]) rfl (by unfold w32; omega) rfl ?_
      refine ev_goto f383_5 ?_
      exact ih _ _ g37450 k37450 (by omega) (by omega) (by omega)
set_option maxHeartbeats 4000000 in
theorem s383 {G : GH} {h : JH} (g : Gd G h)  : jOk 1 0 0 383 [(2, 27), (0, 0)] h (PV G [(27, 0)] h) := by
  refine ⟨by decide, by rw [ml383]; exact Nat.le_of_ble_eq_true rfl, ?_⟩
  rw [ml383, pp383]
  show jEv _ none _ c383_0 0 0 _ (c383_0, [(2, 27), (0, 0), (9, 0), (9, 0)], [], h, 0, 0)
  have k0 := Kp.rf [(27, 0)] h
  refine ev_iconst ?_
  refine ev_istore_n (L' := [(2, 27), (0, 0), (0, 0), (9, 0)]) (Nat.le_of_ble_eq_true rfl) rfl ?_
  refine ev_aload_n rfl ?_
  refine ev_aln (r := 27) (m := 32) (g.lt ad27) (by rw [g.tg ad27]; decide) (by rw [g.tg ad27]; decide) (g.ln ad27) (by decide) ?_
  refine ev_istore_n (L' := [(2, 27), (0, 0), (0, 0), (0, 32)]) (Nat.le_of_ble_eq_true rfl) rfl ?_
  exact (s383_l  66) _ _ g k0 (by omega) (by omega) (by omega)
/-! 103 layTable -/
set_option maxHeartbeats 4000000 in
theorem s103 {G : GH} {h : JH} (g : Gd G h) {a1 : Int} (la1 : 1 ≤ a1) (ua1 : a1 ≤ 4) {a2 : Int} (la2 : 1 ≤ a2) (ua2 : a2 ≤ 4) : jOk 2 0 0 103 [(2, 26), (0, a1), (0, a2)] h (PV G [(26, 1), (26, 2), (27, 0)] h) := by
  refine ⟨by decide, by rw [ml103]; exact Nat.le_of_ble_eq_true rfl, ?_⟩
  rw [ml103, pp103]
  show jEv _ none _ c103_0 0 0 _ (c103_0, [(2, 26), (0, a1), (0, a2)], [], h, 0, 0)
  have k0 := Kp.rf [(26, 1), (26, 2), (27, 0)] h
  refine ev_aload_n rfl ?_
  refine ev_iload_n rfl ?_
  refine g_putf (r := 26) g ad26 (by decide) ft9_0 (by decide) (fun e => absurd e nz9_0) rf26_0 (by decide) (by omega) (by omega) (fun h37457 e37457 g37457 => ?_)
  have k37457 := k0.wr e37457 rfl
  refine ev_aload_n rfl ?_
  refine ev_iload_n rfl ?_
  refine g_putf (r := 26) g37457 ad26 (by decide) ft9_1 (by decide) (fun e => absurd e nz9_1) rf26_1 (by decide) (by omega) (by omega) (fun h37458 e37458 g37458 => ?_)
  have k37458 := k37457.wr e37458 rfl
  refine ev_aload_n rfl ?_
  refine g_getp (r := 26) (c := 27) g37458 ad26 (by decide) (by decide) rf26_2 ft9_2 ?_
  refine ev_iconst ?_
  refine ev_call (jcall_s (A := [(0, 0), (2, 27)]) (S' := []) (by decide) rfl (Nat.le_of_ble_eq_true rfl)) (jOk_le (by decide) (s383 g37458 )) (by decide) (by decide) (fun w37459 h37459 q37459 => ?_)
  obtain ⟨rfl, g37459, kk37459⟩ := q37459
  have k37459 := k37458.tr kk37459 (by decide)
  show jEv _ _ _ _ _ _ _ (_, [(2, 26), (0, a1), (0, a2)], [], _, _, _)
  exact ev_ret rfl (by decide) (by decide) ⟨rfl, g37459, k37459⟩
/-! 195 table -/
set_option maxHeartbeats 4000000 in
theorem s195 {G : GH} {h : JH} (g : Gd G h) {a1 : Int} (la1 : (-2147483648) ≤ a1) (ua1 : a1 ≤ 2147483647) {a2 : Int} (la2 : (-2147483648) ≤ a2) (ua2 : a2 ≤ 2147483647) : jOk 3 0 0 195 [(2, 0), (0, a1), (0, a2)] h (PI G [(26, 1), (26, 2), (27, 0)] h 0 (-1) 16) := by
  refine ⟨by decide, by rw [ml195]; exact Nat.le_of_ble_eq_true rfl, ?_⟩
  rw [ml195, pp195]
  show jEv _ none _ c195_0 0 0 _ (c195_0, [(2, 0), (0, a1), (0, a2)], [], h, 0, 0)
  have k0 := Kp.rf [(26, 1), (26, 2), (27, 0)] h
  refine ev_iload_n rfl ?_
  refine ev_iconst ?_
  refine ev_icmplt f195_20 (fun c37472 => ?_) (fun c37472 => ?_)
  · refine ev_iconst ?_
    exact ev_ret rfl (by decide) (by decide) ⟨_, rfl, by omega, by omega, g, k0⟩
  · refine ev_iload_n rfl ?_
    refine ev_iconst ?_
    refine ev_icmpgt f195_20 (fun c37473 => ?_) (fun c37473 => ?_)
    · refine ev_iconst ?_
      exact ev_ret rfl (by decide) (by decide) ⟨_, rfl, by omega, by omega, g, k0⟩
    · refine ev_iload_n rfl ?_
      refine ev_iconst ?_
      refine ev_icmplt f195_20 (fun c37474 => ?_) (fun c37474 => ?_)
      · refine ev_iconst ?_
        exact ev_ret rfl (by decide) (by decide) ⟨_, rfl, by omega, by omega, g, k0⟩
      · refine ev_iload_n rfl ?_
        refine ev_iconst ?_
        refine ev_icmple f195_22 (fun c37475 => ?_) (fun c37475 => ?_)
        · refine ev_aload_n rfl ?_
          refine g_getp (r := 0) (c := 26) g ad0 (by decide) (by decide) rf0_11 ft11_11 ?_
          refine ev_iload_n rfl ?_
          refine ev_iload_n rfl ?_
          refine ev_call (jcall_v (A := [(0, a2), (0, a1)]) (S' := []) (r := 26) rfl (g.lt ad26) (g.tg ad26) (Nat.le_of_ble_eq_true rfl)) (jOk_le (by decide) (s103 g (by omega) (by omega) (by omega) (by omega))) (by decide) (by decide) (fun w37476 h37476 q37476 => ?_)
          obtain ⟨rfl, g37476, kk37476⟩ := q37476
          have k37476 := k0.tr kk37476 (by decide)
          show jEv _ _ _ _ _ _ _ (_, [(2, 0), (0, a1), (0, a2)], [], _, _, _)
          refine ev_iload_n rfl ?_
          refine ev_iload_n rfl ?_
          refine g_imulB (a := 4) (b := 4) (a' := 1) (b' := 1) (by omega) (by omega) (by omega) (by omega) (by decide) (lo := 1) (hi := 16) (by decide) (by decide) (fun v37477 ev37477 lv37477 uv37477 => ?_)
          exact ev_ret rfl (by decide) (by decide) ⟨_, rfl, by omega, by omega, g37476, k37476⟩
        · refine ev_iconst ?_
          exact ev_ret rfl (by decide) (by decide) ⟨_, rfl, by omega, by omega, g, k0⟩
/-! 196 cell -/
set_option maxHeartbeats 4000000 in
theorem s196 {G : GH} {h : JH} (g : Gd G h) {a1 : Int} (la1 : (-2147483648) ≤ a1) (ua1 : a1 ≤ 2147483647) {a2 : Int} (la2 : (-2147483648) ≤ a2) (ua2 : a2 ≤ 2147483647) {a3 : Int} (la3 : (-2147483648) ≤ a3) (ua3 : a3 ≤ 2147483647) : jOk 3 0 0 196 [(2, 0), (0, a1), (0, a2), (0, a3)] h (PI G [(27, 0)] h 0 (-2000000000) 99) := by
  refine ⟨by decide, by rw [ml196]; exact Nat.le_of_ble_eq_true rfl, ?_⟩
  rw [ml196, pp196]
  show jEv _ none _ c196_0 0 0 _ (c196_0, [(2, 0), (0, a1), (0, a2), (0, a3)], [], h, 0, 0)
  have k0 := Kp.rf [(27, 0)] h
  refine ev_iload_n rfl ?_
  refine ev_iflt f196_43 (fun c37518 => ?_) (fun c37518 => ?_)
  · refine ev_ldc ?_
    exact ev_ret rfl (by decide) (by decide) ⟨_, rfl, by omega, by omega, g, k0⟩
  · refine ev_aload_n rfl ?_
    refine g_getp (r := 0) (c := 26) g ad0 (by decide) (by decide) rf0_11 ft11_11 ?_
    refine ev_iload_n rfl ?_
    refine ev_bipush ?_
    refine g_idivP (c := 10) rfl (by decide) (by omega) (by omega) (fun v37519 ev37519 lv37519 uv37519 => ?_)
    refine ev_iload_n rfl ?_
    refine ev_bipush ?_
    refine g_iremP (c := 10) rfl (by decide) (by omega) (fun v37520 ev37520 lv37520 uv37520 wv37520 => ?_)
    refine ev_in (d := 1) (a := 0) (b := 0) (cd' := c105_0) (m := 3) (L0 := [(2, 26), (0, v37519), (0, v37520)]) (jcall_v (A := [(0, v37520), (0, v37519)]) (S' := []) (r := 26) rfl (g.lt ad26) (g.tg ad26) (Nat.le_of_ble_eq_true rfl)) (by decide) ml105 pp105 (Nat.le_of_ble_eq_true rfl) rfl (by decide) (by decide) ?_
    refine ev_iload_n rfl ?_
    refine ev_iflt f105_28 (fun c37521 => absurd c37521 (by omega)) (fun c37521 => ?_)
    refine ev_iload_n rfl ?_
    refine ev_aload_n rfl ?_
    obtain ⟨v37522, ev37522, lv37522, uv37522⟩ := g.rd ad26 (show 0 < 15 by decide) rf26_0
    refine g_getv (r := 26) (v := v37522) g ad26 (by decide) ft9_0 ev37522 ?_
    refine ev_icmpge f105_28 (fun c37523 => ?_) (fun c37523 => ?_)
    · refine ev_iconst ?_
      refine ev_ret rfl (by decide) (by decide) ?_
      show jEv _ _ _ _ _ _ _ (_, [(2, 0), (0, a1), (0, a2), (0, a3)], [(0, 0)], _, _, _)
      refine ev_ifeq f196_43 (fun c37524 => ?_) (fun c37524 => absurd c37524 (by omega))
      refine ev_ldc ?_
      exact ev_ret rfl (by decide) (by decide) ⟨_, rfl, by omega, by omega, g, k0⟩
    · refine ev_iload_n rfl ?_
      refine ev_iflt f105_28 (fun c37525 => absurd c37525 (by omega)) (fun c37525 => ?_)
      refine ev_iload_n rfl ?_
      refine ev_aload_n rfl ?_
      obtain ⟨v37526, ev37526, lv37526, uv37526⟩ := g.rd ad26 (show 1 < 15 by decide) rf26_1
      refine g_getv (r := 26) (v := v37526) g ad26 (by decide) ft9_1 ev37526 ?_
      refine ev_icmpge f105_28 (fun c37527 => ?_) (fun c37527 => ?_)
      · refine ev_iconst ?_
        refine ev_ret rfl (by decide) (by decide) ?_
        show jEv _ _ _ _ _ _ _ (_, [(2, 0), (0, a1), (0, a2), (0, a3)], [(0, 0)], _, _, _)
        refine ev_ifeq f196_43 (fun c37528 => ?_) (fun c37528 => absurd c37528 (by omega))
        refine ev_ldc ?_
        exact ev_ret rfl (by decide) (by decide) ⟨_, rfl, by omega, by omega, g, k0⟩
      · refine ev_iconst ?_
        refine ev_goto f105_29 ?_
        refine ev_ret rfl (by decide) (by decide) ?_
        show jEv _ _ _ _ _ _ _ (_, [(2, 0), (0, a1), (0, a2), (0, a3)], [(0, 1)], _, _, _)
        refine ev_ifeq f196_43 (fun c37529 => absurd c37529 (by omega)) (fun c37529 => ?_)
        refine ev_iload_n rfl ?_
        refine ev_iflt f196_43 (fun c37530 => ?_) (fun c37530 => ?_)
        · refine ev_ldc ?_
          exact ev_ret rfl (by decide) (by decide) ⟨_, rfl, by omega, by omega, g, k0⟩
        · refine ev_iload_n rfl ?_
          refine ev_iconst ?_
          refine ev_icmpgt f196_43 (fun c37531 => ?_) (fun c37531 => ?_)
          · refine ev_ldc ?_
            exact ev_ret rfl (by decide) (by decide) ⟨_, rfl, by omega, by omega, g, k0⟩
          · refine ev_iload_n rfl ?_
            refine ev_bipush ?_
            refine ev_icmplt f196_43 (fun c37532 => ?_) (fun c37532 => ?_)
            · refine ev_ldc ?_
              exact ev_ret rfl (by decide) (by decide) ⟨_, rfl, by omega, by omega, g, k0⟩
            · refine ev_iload_n rfl ?_
              refine ev_bipush ?_
              refine ev_icmple f196_46 (fun c37533 => ?_) (fun c37533 => ?_)
              · refine ev_aload_n rfl ?_
                refine g_getp (r := 0) (c := 26) g ad0 (by decide) (by decide) rf0_11 ft11_11 ?_
                refine ev_iload_n rfl ?_
                refine ev_bipush ?_
                refine g_idivP (c := 10) rfl (by decide) (by omega) (by omega) (fun v37534 ev37534 lv37534 uv37534 => ?_)
                obtain rfl : v37519 = v37534 := by omega
                refine ev_iload_n rfl ?_
                refine ev_bipush ?_
                refine g_iremP (c := 10) rfl (by decide) (by omega) (fun v37535 ev37535 lv37535 uv37535 wv37535 => ?_)
                obtain rfl : v37520 = v37535 := by omega
                refine ev_iload_n rfl ?_
                refine ev_iload_n rfl ?_
                refine ev_in (d := 1) (a := 0) (b := 0) (cd' := c107_0) (m := 6) (L0 := [(2, 26), (0, v37519), (0, v37520), (0, a2), (0, a3), (9, 0)]) (jcall_v (A := [(0, a3), (0, a2), (0, v37520), (0, v37519)]) (S' := []) (r := 26) rfl (g.lt ad26) (g.tg ad26) (Nat.le_of_ble_eq_true rfl)) (by decide) ml107 pp107 (Nat.le_of_ble_eq_true rfl) rfl (by decide) (by decide) ?_
                refine ev_aload_n rfl ?_
                refine ev_iload_n rfl ?_
                refine ev_iload_n rfl ?_
                refine ev_iload_n rfl ?_
                refine ev_in (d := 0) (a := 0) (b := 0) (cd' := c106_0) (m := 4) (L0 := [(2, 26), (0, v37519), (0, v37520), (0, a2)]) (jcall_v (A := [(0, a2), (0, v37520), (0, v37519)]) (S' := []) (r := 26) rfl (g.lt ad26) (g.tg ad26) (Nat.le_of_ble_eq_true rfl)) (by decide) ml106 pp106 (Nat.le_of_ble_eq_true rfl) rfl (by decide) (by decide) ?_
                refine ev_aload_n rfl ?_
                refine g_getp (r := 26) (c := 27) g ad26 (by decide) (by decide) rf26_2 ft9_2 ?_
                refine ev_bipush ?_
                refine ev_iload_n rfl ?_
                refine ev_imul (r := (8 * v37519)) (by unfold w32; omega) ?_
                refine ev_iconst ?_
                refine ev_iload_n rfl ?_
                refine ev_imul (r := (2 * v37520)) (by unfold w32; omega) ?_
                refine ev_iadd (r := (8 * v37519 + 2 * v37520)) (by unfold w32; omega) ?_
                refine ev_iload_n rfl ?_
                refine ev_iadd (r := (a2 + 8 * v37519 + 2 * v37520)) (by unfold w32; omega) ?_
                refine g_iald g ad27 rt27 (by omega) (by omega) (fun v37536 ev37536 lv37536 uv37536 => ?_)
                refine ev_ret rfl (by decide) (by decide) ?_
                show jEv _ _ _ _ _ _ _ (_, [(2, 26), (0, v37519), (0, v37520), (0, a2), (0, a3), (9, 0)], [(0, v37536)], _, _, _)
                refine ev_istore (L' := [(2, 26), (0, v37519), (0, v37520), (0, a2), (0, a3), (0, v37536)]) (Nat.le_of_ble_eq_true rfl) rfl ?_
                refine ev_aload_n rfl ?_
                refine g_getp (r := 26) (c := 27) g ad26 (by decide) (by decide) rf26_2 ft9_2 ?_
                refine ev_bipush ?_
                refine ev_iload_n rfl ?_
                refine ev_imul (r := (8 * v37519)) (by unfold w32; omega) ?_
                refine ev_iconst ?_
                refine ev_iload_n rfl ?_
                refine ev_imul (r := (2 * v37520)) (by unfold w32; omega) ?_
                refine ev_iadd (r := (8 * v37519 + 2 * v37520)) (by unfold w32; omega) ?_
                refine ev_iload_n rfl ?_
                refine ev_iadd (r := (a2 + 8 * v37519 + 2 * v37520)) (by unfold w32; omega) ?_
                refine ev_iload rfl ?_
                refine g_iast g ad27 rt27 (fun _ => rfl) (by omega) (by omega) (by omega) (by omega) (fun h37537 e37537 g37537 => ?_)
                have k37537 := k0.wr e37537 rfl
                refine ev_iload rfl ?_
                refine ev_ret rfl (by decide) (by decide) ?_
                show jEv _ _ _ _ _ _ _ (_, [(2, 0), (0, a1), (0, a2), (0, a3)], [(0, v37536)], _, _, _)
                exact ev_ret rfl (by decide) (by decide) ⟨_, rfl, by omega, by omega, g37537, k37537⟩
              · refine ev_ldc ?_
                exact ev_ret rfl (by decide) (by decide) ⟨_, rfl, by omega, by omega, g, k0⟩
