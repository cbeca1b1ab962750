set_option maxHeartbeats 4000000 in
theorem s305_s_l {G : GH} {h : JH} {a1 : Int} (la1 : 0 ≤ a1) (ua1 : a1 ≤ 99) {a2 : Int} (la2 : (-2147483648) ≤ a2) (ua2 : a2 ≤ 2147483647) {w0 : Int} (ew0 : h.2.2 42 36 = w0) (lw0 : 0 ≤ w0) (uw0 : w0 ≤ 5) {w1 : Int} (ew1 : h.2.2 42 9 = w1) (lw1 : 0 ≤ w1) (uw1 : w1 ≤ 6) {w2 : Int} (ew2 : h.2.2 48 (w0).toNat = w2) (lw2 : 0 ≤ w2) (uw2 : w2 ≤ 100) (F0 : (w0 + (-w1)) ≤ (-1)) (F1 : (a1 + (-w2)) ≤ (-1)) {M : Int} (hM : M = a1) {d : Nat} (hd : 0 ≤ d) (rih : ∀ {G : GH} {h : JH} (g : Gd G h) {a1 : Int} (la1 : 0 ≤ a1) (ua1 : a1 ≤ 99) {a2 : Int} (la2 : (-2147483648) ≤ a2) (ua2 : a2 ≤ 2147483647) {w0 : Int} (ew0 : h.2.2 42 36 = w0) (lw0 : 0 ≤ w0) (uw0 : w0 ≤ 5) {w1 : Int} (ew1 : h.2.2 42 9 = w1) (lw1 : 0 ≤ w1) (uw1 : w1 ≤ 6) {w2 : Int} (ew2 : h.2.2 48 (w0).toNat = w2) (lw2 : 0 ≤ w2) (uw2 : w2 ≤ 100) (F0 : (w0 + (-w1)) ≤ (-1)) (F1 : (a1 + (-w2)) ≤ (-1)) (hm : M + 1 ≤ a1), jOk d 0 0 305 [(2, 42), (0, a1), (0, a2)] h (PI G [(64, 0)] h 0 0 1)) : ∀ N : Nat, (∀ (h1 : JH) (x4 y0 y1 y2 y3 : Int), Gd G h1 → Kp [(64, 0)] h h1 → 0 ≤ a1 → a1 ≤ 99 → (-2147483648) ≤ a2 → a2 ≤ 2147483647 → 0 ≤ x4 → x4 ≤ 4 → (y0 + (-y1)) ≤ (-1) → (a1 + (-y2)) ≤ (-1) → h1.2.2 42 36 = y0 → 0 ≤ y0 → y0 ≤ 5 → h1.2.2 42 9 = y1 → 0 ≤ y1 → y1 ≤ 6 → h1.2.2 48 (y0).toNat = y2 → 0 ≤ y2 → y2 ≤ 100 → h1.2.2 49 ((a1 + 100 * y0)).toNat = y3 → 0 ≤ y3 → y3 ≤ 2 → ((-x4) + 4) < N → jEv (jOk (d + 1)) none (fun _ => 0) c305_0 0 0 (PI G [(64, 0)] h 0 0 1) (c305_20, [(2, 42), (0, a1), (0, a2), (0, (a1 + 100 * y0)), (0, x4)], [], h1, 0, 0)) := by
  intro N
  induction N with
  | zero => exact fun h1 x4 y0 y1 y2 y3 g1 k1 b0 b1 b2 b3 b4 b5 b6 b7 b8 b9 b10 b11 b12 b13 b14 b15 b16 b17 b18 b19 hm => absurd hm (by omega)
  | succ N ih =>
    show _
    intro h1 x4 y0 y1 y2 y3 g1 k1 b0 b1 b2 b3 b4 b5 b6 b7 ey0 ly0 uy0 ey1 ly1 uy1 ey2 ly2 uy2 ey3 ly3 uy3 hm
    refine ev_iload rfl ?_
    refine ev_aload_n rfl ?_
    refine ev_iload_n rfl ?_
    refine ev_in (d := (d + 0)) (a := 0) (b := 0) (cd' := c276_0) (m := 2) (L0 := [(2, 42), (0, (a1 + 100 * y0))]) (jcall_v (A := [(0, (a1 + 100 * y0))]) (S' := [(0, x4)]) (r := 42) rfl (g1.lt ad42) (g1.tg ad42) (Nat.le_of_ble_eq_true rfl)) (by decide) ml276 pp276 (Nat.le_of_ble_eq_true rfl) rfl (by decide) (by decide) ?_
    refine ev_aload_n rfl ?_
    refine g_getp (r := 42) (c := 49) g1 ad42 (by decide) (by decide) rf42_11 ft12_11 ?_
    refine ev_iload_n rfl ?_
    refine g_baldv (v := y3) g1 ad49 (by omega) (by omega) (ey3) ?_
    refine ev_iconst ?_
    refine ev_icmpne f276_19 (fun c54072 => ?_) (fun c54072 => ?_)
    · refine ev_aload_n rfl ?_
      refine g_getp (r := 42) (c := 49) g1 ad42 (by decide) (by decide) rf42_11 ft12_11 ?_
      refine ev_iload_n rfl ?_
      refine g_baldv (v := y3) g1 ad49 (by omega) (by omega) (ey3) ?_
      refine ev_iconst ?_
      refine ev_icmpne f276_43 (fun c54073 => ?_) (fun c54073 => ?_)
      · refine ev_iconst ?_
        refine ev_ret rfl (by decide) (by decide) ?_
        show jEv _ _ _ _ _ _ _ (_, [(2, 42), (0, a1), (0, a2), (0, (a1 + 100 * y0)), (0, x4)], [(0, 0), (0, x4)], _, _, _)
        refine ev_icmpge f305_80 (fun c54074 => ?_) (fun c54074 => absurd c54074 (by omega))
        refine ev_aload_n rfl ?_
        refine g_getp (r := 42) (c := 49) g1 ad42 (by decide) (by decide) rf42_11 ft12_11 ?_
        refine ev_iload_n rfl ?_
        refine g_baldv (v := y3) g1 ad49 (by omega) (by omega) (ey3) ?_
        refine ev_iconst ?_
        refine ev_icmpne f305_102 (fun c54075 => ?_) (fun c54075 => absurd c54075 (by omega))
        refine ev_iconst ?_
        exact ev_ret rfl (by decide) (by decide) ⟨_, rfl, by omega, by omega, g1, k1⟩
      · refine ev_aload_n rfl ?_
        refine g_getp (r := 42) (c := 43) g1 ad42 (by decide) (by decide) rf42_2 ft12_2 ?_
        refine ev_aload_n rfl ?_
        refine g_getp (r := 42) (c := 50) g1 ad42 (by decide) (by decide) rf42_12 ft12_12 ?_
        refine ev_iload_n rfl ?_
        refine g_iald g1 ad50 rt50 (by omega) (by omega) (fun v54076 ev54076 lv54076 uv54076 => ?_)
        obtain ⟨v54077, ev54077, lv54077, uv54077⟩ := g1.rd ad42 (show 1 < 66 by decide) rf42_1
        have xv54076 := g1.nd2 (q := y0) (n := a1) (by omega) (by rw [(ey1)]; omega) (by omega) (by rw [(ey2)]; omega) (i := (a1 + 100 * y0)) (by omega) (by rw [(ey3)]; omega) ev54076
        rw [ev54077] at xv54076
        refine g_iald g1 ad43 rt43 (by omega) (by omega) (fun v54078 ev54078 lv54078 uv54078 => ?_)
        have xv54078 := (g1.ex.2.1 (v54076 : Int).toNat (by rw [(ev54077)]; omega))
        rw [ev54078] at xv54078
        refine ev_goto f276_44 ?_
        refine ev_ret rfl (by decide) (by decide) ?_
        show jEv _ _ _ _ _ _ _ (_, [(2, 42), (0, a1), (0, a2), (0, (a1 + 100 * y0)), (0, x4)], [(0, v54078), (0, x4)], _, _, _)
        refine ev_icmpge f305_80 (fun c54079 => ?_) (fun c54079 => ?_)
        · refine ev_aload_n rfl ?_
          refine g_getp (r := 42) (c := 49) g1 ad42 (by decide) (by decide) rf42_11 ft12_11 ?_
          refine ev_iload_n rfl ?_
          refine g_baldv (v := y3) g1 ad49 (by omega) (by omega) (ey3) ?_
          refine ev_iconst ?_
          refine ev_icmpne f305_102 (fun c54080 => absurd c54080 (by omega)) (fun c54080 => ?_)
          refine ev_aload_n rfl ?_
          refine g_getp (r := 42) (c := 64) g1 ad42 (by decide) (by decide) rf42_34 ft12_34 ?_
          refine ev_aload_n rfl ?_
          refine g_getp (r := 42) (c := 50) g1 ad42 (by decide) (by decide) rf42_12 ft12_12 ?_
          refine ev_iload_n rfl ?_
          refine g_ialdv (v := v54076) g1 ad50 (by omega) (by omega) (ev54076) ?_
          refine ev_iconst ?_
          refine g_iast g1 ad64 rt64 (fun _ => rfl) (by omega) (by omega) (by omega) (by omega) (fun h54081 e54081 g54081 => ?_)
          have k54081 := k1.wr e54081 rfl
          refine ev_iconst ?_
          exact ev_ret rfl (by decide) (by decide) ⟨_, rfl, by omega, by omega, g54081, k54081⟩
        · refine ev_aload_n rfl ?_
          refine g_getp (r := 42) (c := 49) g1 ad42 (by decide) (by decide) rf42_11 ft12_11 ?_
          refine ev_iload_n rfl ?_
          refine g_baldv (v := y3) g1 ad49 (by omega) (by omega) (ey3) ?_
          refine ev_iconst ?_
          refine ev_icmpne f305_53 (fun c54082 => absurd c54082 (by omega)) (fun c54082 => ?_)
          refine ev_aload_n rfl ?_
          refine g_getp (r := 42) (c := 64) g1 ad42 (by decide) (by decide) rf42_34 ft12_34 ?_
          refine ev_aload_n rfl ?_
          refine g_getp (r := 42) (c := 50) g1 ad42 (by decide) (by decide) rf42_12 ft12_12 ?_
          refine ev_iload_n rfl ?_
          refine g_ialdv (v := v54076) g1 ad50 (by omega) (by omega) (ev54076) ?_
          refine ev_iload rfl ?_
          refine g_iast g1 ad64 rt64 (fun _ => rfl) (by omega) (by omega) (by omega) (by omega) (fun h54083 e54083 g54083 => ?_)
          have k54083 := k1.wr e54083 rfl
          refine ev_aload_n rfl ?_
          refine ev_aload_n rfl ?_
          refine g_getp (r := 42) (c := 51) g54083 ad42 (by decide) (by decide) rf42_13 ft12_13 ?_
          refine ev_iconst ?_
          refine ev_iload_n rfl ?_
          refine ev_imul (r := (4 * a1 + 400 * y0)) (by unfold w32; omega) ?_
          refine ev_iload rfl ?_
          refine ev_iadd (r := (4 * a1 + x4 + 400 * y0)) (by unfold w32; omega) ?_
          refine g_bald g54083 ad51 rt51 (by omega) (by omega) (fun v54084 ev54084 lv54084 uv54084 => ?_)
          have xv54084 := g54083.nd2c (q := y0) (n := a1) (by omega) (by rw [(((jw_ne e54083 (Or.inl (by decide))).trans ey1))]; omega) (by omega) (by rw [(((jw_ne e54083 (Or.inl (by decide))).trans ey2))]; omega) (i := (a1 + 100 * y0)) (by omega) (by rw [(((jw_ne e54083 (Or.inl (by decide))).trans ey3))]; omega) (((jw_ne e54083 (Or.inl (by decide))).trans ev54076)) (t := v54076) (by omega) (((jw_ne e54083 (Or.inl (by decide))).trans ev54078)) (w := x4) (by omega) (by omega) (j := (4 * a1 + x4 + 400 * y0)) (by omega) ev54084
          rw [(((jw_ne e54083 (Or.inl (by decide))).trans ey2))] at xv54084
          refine ev_iload_n rfl ?_
          refine ev_call (jcall_v (A := [(0, a2), (0, v54084)]) (S' := []) (r := 42) rfl (g54083.lt ad42) (g54083.tg ad42) (Nat.le_of_ble_eq_true rfl)) (jOk_le (by omega) (rih g54083 (by omega) (by omega) (by omega) (by omega) (((jw_ne e54083 (Or.inl (by decide))).trans ey0)) (by omega) (by omega) (((jw_ne e54083 (Or.inl (by decide))).trans ey1)) (by omega) (by omega) (((jw_ne e54083 (Or.inl (by decide))).trans ey2)) (by omega) (by omega) (by omega) (by omega) (by omega))) (by decide) (by decide) (fun w54085 h54085 q54085 => ?_)
          obtain ⟨v54086, rfl, lv54086, uv54086, g54085, kk54085⟩ := q54085
          have k54085 := k54083.tr kk54085 (by decide)
          show jEv _ _ _ _ _ _ _ (_, [(2, 42), (0, a1), (0, a2), (0, (a1 + 100 * y0)), (0, x4)], [(0, v54086)], _, _, _)
          refine ev_ifeq f305_74 (fun c54087 => ?_) (fun c54087 => ?_)
          · refine ev_iinc (w := (x4 + 1)) (L' := [(2, 42), (0, a1), (0, a2), (0, (a1 + 100 * y0)), (0, (x4 + 1))]) rfl (by unfold w32; omega) rfl ?_
            refine ev_goto f305_20 ?_
            exact ih _ _ _ _ _ _ g54085 k54085 (by omega) (by omega) (by omega) (by omega) (by omega) (by omega) (by omega) (by omega) (((kk54085.v (by decide)).trans ((jw_ne e54083 (Or.inl (by decide))).trans ey0))) (by omega) (by omega) (((kk54085.v (by decide)).trans ((jw_ne e54083 (Or.inl (by decide))).trans ey1))) (by omega) (by omega) (((kk54085.v rfl).trans ((jw_ne e54083 (Or.inl (by decide))).trans ey2))) (by omega) (by omega) (((kk54085.v rfl).trans ((jw_ne e54083 (Or.inl (by decide))).trans ey3))) (by omega) (by omega) (by omega)
          · refine ev_iconst ?_
            exact ev_ret rfl (by decide) (by decide) ⟨_, rfl, by omega, by omega, g54085, k54085⟩
    · refine ev_aload_n rfl ?_
      refine g_getp (r := 42) (c := 50) g1 ad42 (by decide) (by decide) rf42_12 ft12_12 ?_
      refine ev_iload_n rfl ?_
      refine g_iald g1 ad50 rt50 (by omega) (by omega) (fun v54088 ev54088 lv54088 uv54088 => ?_)
      have xv54088 := g1.nd1 (q := y0) (n := a1) (by omega) (by rw [(ey1)]; omega) (by omega) (by rw [(ey2)]; omega) (i := (a1 + 100 * y0)) (by omega) (by rw [(ey3)]; omega) ev54088
      refine ev_goto f276_44 ?_
      refine ev_ret rfl (by decide) (by decide) ?_
      show jEv _ _ _ _ _ _ _ (_, [(2, 42), (0, a1), (0, a2), (0, (a1 + 100 * y0)), (0, x4)], [(0, v54088), (0, x4)], _, _, _)
      refine ev_icmpge f305_80 (fun c54089 => ?_) (fun c54089 => ?_)
      · refine ev_aload_n rfl ?_
        refine g_getp (r := 42) (c := 49) g1 ad42 (by decide) (by decide) rf42_11 ft12_11 ?_
        refine ev_iload_n rfl ?_
        refine g_baldv (v := y3) g1 ad49 (by omega) (by omega) (ey3) ?_
        refine ev_iconst ?_
        refine ev_icmpne f305_102 (fun c54090 => ?_) (fun c54090 => absurd c54090 (by omega))
        refine ev_iconst ?_
        exact ev_ret rfl (by decide) (by decide) ⟨_, rfl, by omega, by omega, g1, k1⟩
      · refine ev_aload_n rfl ?_
        refine g_getp (r := 42) (c := 49) g1 ad42 (by decide) (by decide) rf42_11 ft12_11 ?_
        refine ev_iload_n rfl ?_
        refine g_baldv (v := y3) g1 ad49 (by omega) (by omega) (ey3) ?_
        refine ev_iconst ?_
        refine ev_icmpne f305_53 (fun c54091 => ?_) (fun c54091 => absurd c54091 (by omega))
        refine ev_aload_n rfl ?_
        refine ev_aload_n rfl ?_
        refine g_getp (r := 42) (c := 51) g1 ad42 (by decide) (by decide) rf42_13 ft12_13 ?_
        refine ev_iconst ?_
        refine ev_iload_n rfl ?_
        refine ev_imul (r := (4 * a1 + 400 * y0)) (by unfold w32; omega) ?_
        refine ev_iload rfl ?_
        refine ev_iadd (r := (4 * a1 + x4 + 400 * y0)) (by unfold w32; omega) ?_
        refine g_bald g1 ad51 rt51 (by omega) (by omega) (fun v54092 ev54092 lv54092 uv54092 => ?_)
        have xv54092 := g1.nd1c (q := y0) (n := a1) (by omega) (by rw [(ey1)]; omega) (by omega) (by rw [(ey2)]; omega) (i := (a1 + 100 * y0)) (by omega) (by rw [(ey3)]; omega) (ev54088) (w := x4) (by omega) (by omega) (j := (4 * a1 + x4 + 400 * y0)) (by omega) ev54092
        rw [(ey2)] at xv54092
        refine ev_iload_n rfl ?_
        refine ev_call (jcall_v (A := [(0, a2), (0, v54092)]) (S' := []) (r := 42) rfl (g1.lt ad42) (g1.tg ad42) (Nat.le_of_ble_eq_true rfl)) (jOk_le (by omega) (rih g1 (by omega) (by omega) (by omega) (by omega) (ey0) (by omega) (by omega) (ey1) (by omega) (by omega) (ey2) (by omega) (by omega) (by omega) (by omega) (by omega))) (by decide) (by decide) (fun w54093 h54093 q54093 => ?_)
        obtain ⟨v54094, rfl, lv54094, uv54094, g54093, kk54093⟩ := q54093
        have k54093 := k1.tr kk54093 (by decide)
        show jEv _ _ _ _ _ _ _ (_, [(2, 42), (0, a1), (0, a2), (0, (a1 + 100 * y0)), (0, x4)], [(0, v54094)], _, _, _)
        refine ev_ifeq f305_74 (fun c54095 => ?_) (fun c54095 => ?_)
        · refine ev_iinc (w := (x4 + 1)) (L' := [(2, 42), (0, a1), (0, a2), (0, (a1 + 100 * y0)), (0, (x4 + 1))]) rfl (by unfold w32; omega) rfl ?_
          refine ev_goto f305_20 ?_
          exact ih _ _ _ _ _ _ g54093 k54093 (by omega) (by omega) (by omega) (by omega) (by omega) (by omega) (by omega) (by omega) (((kk54093.v (by decide)).trans ey0)) (by omega) (by omega) (((kk54093.v (by decide)).trans ey1)) (by omega) (by omega) (((kk54093.v rfl).trans ey2)) (by omega) (by omega) (((kk54093.v rfl).trans ey3)) (by omega) (by omega) (by omega)
        · refine ev_iconst ?_
          exact ev_ret rfl (by decide) (by decide) ⟨_, rfl, by omega, by omega, g54093, k54093⟩
set_option maxHeartbeats 4000000 in
theorem s305_s {G : GH} {h : JH} (g : Gd G h) {a1 : Int} (la1 : 0 ≤ a1) (ua1 : a1 ≤ 99) {a2 : Int} (la2 : (-2147483648) ≤ a2) (ua2 : a2 ≤ 2147483647) {w0 : Int} (ew0 : h.2.2 42 36 = w0) (lw0 : 0 ≤ w0) (uw0 : w0 ≤ 5) {w1 : Int} (ew1 : h.2.2 42 9 = w1) (lw1 : 0 ≤ w1) (uw1 : w1 ≤ 6) {w2 : Int} (ew2 : h.2.2 48 (w0).toNat = w2) (lw2 : 0 ≤ w2) (uw2 : w2 ≤ 100) (F0 : (w0 + (-w1)) ≤ (-1)) (F1 : (a1 + (-w2)) ≤ (-1)) {M : Int} (hM : M = a1) {d : Nat} (hd : 0 ≤ d) (rih : ∀ {G : GH} {h : JH} (g : Gd G h) {a1 : Int} (la1 : 0 ≤ a1) (ua1 : a1 ≤ 99) {a2 : Int} (la2 : (-2147483648) ≤ a2) (ua2 : a2 ≤ 2147483647) {w0 : Int} (ew0 : h.2.2 42 36 = w0) (lw0 : 0 ≤ w0) (uw0 : w0 ≤ 5) {w1 : Int} (ew1 : h.2.2 42 9 = w1) (lw1 : 0 ≤ w1) (uw1 : w1 ≤ 6) {w2 : Int} (ew2 : h.2.2 48 (w0).toNat = w2) (lw2 : 0 ≤ w2) (uw2 : w2 ≤ 100) (F0 : (w0 + (-w1)) ≤ (-1)) (F1 : (a1 + (-w2)) ≤ (-1)) (hm : M + 1 ≤ a1), jOk d 0 0 305 [(2, 42), (0, a1), (0, a2)] h (PI G [(64, 0)] h 0 0 1)) : jOk (d + 2) 0 0 305 [(2, 42), (0, a1), (0, a2)] h (PI G [(64, 0)] h 0 0 1) := by
  refine ⟨by decide, by rw [ml305]; exact Nat.le_of_ble_eq_true rfl, ?_⟩
  rw [ml305, pp305]
  show jEv _ none _ c305_0 0 0 _ (c305_0, [(2, 42), (0, a1), (0, a2), (9, 0), (9, 0)], [], h, 0, 0)
  have k0 := Kp.rf [(64, 0)] h
  refine ev_iload_n rfl ?_
  refine ev_iload_n rfl ?_
  refine ev_icmpne f305_7 (fun c54096 => ?_) (fun c54096 => ?_)
  · refine ev_bipush ?_
    refine ev_aload_n rfl ?_
    refine g_getv (r := 42) (v := w0) g ad42 (by decide) ft12_36 (ew0) ?_
    refine ev_imul (r := (100 * w0)) (by unfold w32; omega) ?_
    refine ev_iload_n rfl ?_
    refine ev_iadd (r := (a1 + 100 * w0)) (by unfold w32; omega) ?_
    refine ev_istore_n (L' := [(2, 42), (0, a1), (0, a2), (0, (a1 + 100 * w0)), (9, 0)]) (Nat.le_of_ble_eq_true rfl) rfl ?_
    refine ev_iconst ?_
    refine ev_istore (L' := [(2, 42), (0, a1), (0, a2), (0, (a1 + 100 * w0)), (0, 0)]) (Nat.le_of_ble_eq_true rfl) rfl ?_
    obtain ⟨v54097, ev54097, lv54097, uv54097⟩ := g.rd ad49 (show ((a1 + 100 * w0)).toNat < 700 by omega) (rt49 _)
    exact (s305_s_l la1 ua1 la2 ua2 ew0 lw0 uw0 ew1 lw1 uw1 ew2 lw2 uw2 F0 F1 hM hd rih 10) _ _ _ _ _ _ g k0 (by omega) (by omega) (by omega) (by omega) (by omega) (by omega) (by omega) (by omega) (ew0) (by omega) (by omega) (ew1) (by omega) (by omega) (ew2) (by omega) (by omega) ev54097 (by omega) (by omega) (by omega)
  · refine ev_iconst ?_
    exact ev_ret rfl (by decide) (by decide) ⟨_, rfl, by omega, by omega, g, k0⟩
theorem s305_n (N : Nat) : ∀ {G : GH} {h : JH} (g : Gd G h) {a1 : Int} (la1 : 0 ≤ a1) (ua1 : a1 ≤ 99) {a2 : Int} (la2 : (-2147483648) ≤ a2) (ua2 : a2 ≤ 2147483647) {w0 : Int} (ew0 : h.2.2 42 36 = w0) (lw0 : 0 ≤ w0) (uw0 : w0 ≤ 5) {w1 : Int} (ew1 : h.2.2 42 9 = w1) (lw1 : 0 ≤ w1) (uw1 : w1 ≤ 6) {w2 : Int} (ew2 : h.2.2 48 (w0).toNat = w2) (lw2 : 0 ≤ w2) (uw2 : w2 ≤ 100) (F0 : (w0 + (-w1)) ≤ (-1)) (F1 : (a1 + (-w2)) ≤ (-1)) (hN : 100 - a1 ≤ (N : Int)), jOk (0 + 2 * N) 0 0 305 [(2, 42), (0, a1), (0, a2)] h (PI G [(64, 0)] h 0 0 1) := by
  induction N with
  | zero => intro G h g a1 la1 ua1 a2 la2 ua2 w0 ew0 lw0 uw0 w1 ew1 lw1 uw1 w2 ew2 lw2 uw2 F0 F1 hN; exfalso; omega
  | succ N ih =>
    intro G h g a1 la1 ua1 a2 la2 ua2 w0 ew0 lw0 uw0 w1 ew1 lw1 uw1 w2 ew2 lw2 uw2 F0 F1 hN
    exact jOk_le (by omega) (s305_s g la1 ua1 la2 ua2 ew0 lw0 uw0 ew1 lw1 uw1 ew2 lw2 uw2 F0 F1 (M := a1) rfl (d := 0 + 2 * N) (by omega) (fun {G} {h} g {a1} la1 ua1 {a2} la2 ua2 {w0} ew0 lw0 uw0 {w1} ew1 lw1 uw1 {w2} ew2 lw2 uw2 F0 F1 hm => ih g la1 ua1 la2 ua2 ew0 lw0 uw0 ew1 lw1 uw1 ew2 lw2 uw2 F0 F1 (by omega)))
theorem s305 {G : GH} {h : JH} (g : Gd G h) {a1 : Int} (la1 : 0 ≤ a1) (ua1 : a1 ≤ 99) {a2 : Int} (la2 : (-2147483648) ≤ a2) (ua2 : a2 ≤ 2147483647) {w0 : Int} (ew0 : h.2.2 42 36 = w0) (lw0 : 0 ≤ w0) (uw0 : w0 ≤ 5) {w1 : Int} (ew1 : h.2.2 42 9 = w1) (lw1 : 0 ≤ w1) (uw1 : w1 ≤ 6) {w2 : Int} (ew2 : h.2.2 48 (w0).toNat = w2) (lw2 : 0 ≤ w2) (uw2 : w2 ≤ 100) (F0 : (w0 + (-w1)) ≤ (-1)) (F1 : (a1 + (-w2)) ≤ (-1)) : jOk 200 0 0 305 [(2, 42), (0, a1), (0, a2)] h (PI G [(64, 0)] h 0 0 1) := jOk_le (by decide) (s305_n 100 g la1 ua1 la2 ua2 ew0 lw0 uw0 ew1 lw1 uw1 ew2 lw2 uw2 F0 F1 (by omega))
set_option maxHeartbeats 4000000 in
theorem s307_s_l {G : GH} {h : JH} {a1 : Int} (la1 : 0 ≤ a1) (ua1 : a1 ≤ 5) {a2 : Int} (la2 : 0 ≤ a2) (ua2 : a2 ≤ 99) {w0 : Int} (ew0 : h.2.2 42 9 = w0) (lw0 : 0 ≤ w0) (uw0 : w0 ≤ 6) {w1 : Int} (ew1 : h.2.2 48 (a1).toNat = w1) (lw1 : 0 ≤ w1) (uw1 : w1 ≤ 100) (F0 : (a1 + (-w0)) ≤ (-1)) (F1 : (a2 + (-w1)) ≤ (-1)) {M : Int} (hM : M = a2) {d : Nat} (hd : 0 ≤ d) (rih : ∀ {G : GH} {h : JH} (g : Gd G h) {a1 : Int} (la1 : 0 ≤ a1) (ua1 : a1 ≤ 5) {a2 : Int} (la2 : 0 ≤ a2) (ua2 : a2 ≤ 99) {w0 : Int} (ew0 : h.2.2 42 9 = w0) (lw0 : 0 ≤ w0) (uw0 : w0 ≤ 6) {w1 : Int} (ew1 : h.2.2 48 (a1).toNat = w1) (lw1 : 0 ≤ w1) (uw1 : w1 ≤ 100) (F0 : (a1 + (-w0)) ≤ (-1)) (F1 : (a2 + (-w1)) ≤ (-1)) (hm : M + 1 ≤ a2), jOk d 0 0 307 [(2, 42), (0, a1), (0, a2)] h (PV G [(42, 41), (42, 43)] h)) : ∀ N : Nat, (∀ (h1 : JH) (x4 y0 y1 y2 : Int), Gd G h1 → Kp [(42, 41), (42, 43)] h h1 → 0 ≤ a1 → a1 ≤ 5 → 0 ≤ a2 → a2 ≤ 99 → 0 ≤ x4 → x4 ≤ 3 → (a1 + (-y0)) ≤ (-1) → (a2 + (-y1)) ≤ (-1) → h1.2.2 42 9 = y0 → 0 ≤ y0 → y0 ≤ 6 → h1.2.2 48 (a1).toNat = y1 → 0 ≤ y1 → y1 ≤ 100 → h1.2.2 49 ((100 * a1 + a2)).toNat = y2 → 2 ≤ y2 → y2 ≤ 2 → ((-x4) + 3) < N → jEv (jOk (d + 0)) none (fun _ => 0) c307_0 0 0 (PV G [(42, 41), (42, 43)] h) (c307_87, [(2, 42), (0, a1), (0, a2), (0, (100 * a1 + a2)), (0, x4)], [], h1, 0, 0)) := by
  intro N
  induction N with
  | zero => exact fun h1 x4 y0 y1 y2 g1 k1 b0 b1 b2 b3 b4 b5 b6 b7 b8 b9 b10 b11 b12 b13 b14 b15 b16 hm => absurd hm (by omega)
  | succ N ih =>
    show _
    intro h1 x4 y0 y1 y2 g1 k1 b0 b1 b2 b3 b4 b5 b6 b7 ey0 ly0 uy0 ey1 ly1 uy1 ey2 ly2 uy2 hm
    refine ev_iload rfl ?_
    refine ev_aload_n rfl ?_
    refine g_getp (r := 42) (c := 43) g1 ad42 (by decide) (by decide) rf42_2 ft12_2 ?_
    refine ev_aload_n rfl ?_
    refine g_getp (r := 42) (c := 50) g1 ad42 (by decide) (by decide) rf42_12 ft12_12 ?_
    refine ev_iload_n rfl ?_
    refine g_iald g1 ad50 rt50 (by omega) (by omega) (fun v54166 ev54166 lv54166 uv54166 => ?_)
    obtain ⟨v54167, ev54167, lv54167, uv54167⟩ := g1.rd ad42 (show 1 < 66 by decide) rf42_1
    have xv54166 := g1.nd2 (q := a1) (n := a2) (by omega) (by rw [(ey0)]; omega) (by omega) (by rw [(ey1)]; omega) (i := (100 * a1 + a2)) (by omega) (by rw [(ey2)]; omega) ev54166
    rw [ev54167] at xv54166
    refine g_iald g1 ad43 rt43 (by omega) (by omega) (fun v54168 ev54168 lv54168 uv54168 => ?_)
    have xv54168 := (g1.ex.2.1 (v54166 : Int).toNat (by rw [(ev54167)]; omega))
    rw [ev54168] at xv54168
    refine ev_icmpge f307_125 (fun c54169 => ?_) (fun c54169 => ?_)
    · exact ev_ret rfl (by decide) (by decide) ⟨rfl, g1, k1⟩
    · refine ev_aload_n rfl ?_
      refine ev_iload_n rfl ?_
      refine ev_aload_n rfl ?_
      refine g_getp (r := 42) (c := 51) g1 ad42 (by decide) (by decide) rf42_13 ft12_13 ?_
      refine ev_iconst ?_
      refine ev_iload_n rfl ?_
      refine ev_imul (r := (400 * a1 + 4 * a2)) (by unfold w32; omega) ?_
      refine ev_iload rfl ?_
      refine ev_iadd (r := (400 * a1 + 4 * a2 + x4)) (by unfold w32; omega) ?_
      refine g_bald g1 ad51 rt51 (by omega) (by omega) (fun v54170 ev54170 lv54170 uv54170 => ?_)
      have xv54170 := g1.nd2c (q := a1) (n := a2) (by omega) (by rw [(ey0)]; omega) (by omega) (by rw [(ey1)]; omega) (i := (100 * a1 + a2)) (by omega) (by rw [(ey2)]; omega) (ev54166) (t := v54166) (by omega) (ev54168) (w := x4) (by omega) (by omega) (j := (400 * a1 + 4 * a2 + x4)) (by omega) ev54170
      rw [(ey1)] at xv54170
      refine ev_call (jcall_v (A := [(0, v54170), (0, a1)]) (S' := []) (r := 42) rfl (g1.lt ad42) (g1.tg ad42) (Nat.le_of_ble_eq_true rfl)) (jOk_le (by omega) (rih g1 (by omega) (by omega) (by omega) (by omega) (ey0) (by omega) (by omega) (ey1) (by omega) (by omega) (by omega) (by omega) (by omega))) (by decide) (by decide) (fun w54171 h54171 q54171 => ?_)
      obtain ⟨rfl, g54171, kk54171⟩ := q54171
      have k54171 := k1.tr kk54171 (by decide)
      show jEv _ _ _ _ _ _ _ (_, [(2, 42), (0, a1), (0, a2), (0, (100 * a1 + a2)), (0, x4)], [], _, _, _)
      refine ev_iinc (w := (x4 + 1)) (L' := [(2, 42), (0, a1), (0, a2), (0, (100 * a1 + a2)), (0, (x4 + 1))]) rfl (by unfold w32; omega) rfl ?_
      refine ev_goto f307_87 ?_
      exact ih _ _ _ _ _ g54171 k54171 (by omega) (by omega) (by omega) (by omega) (by omega) (by omega) (by omega) (by omega) (((kk54171.v (by decide)).trans ey0)) (by omega) (by omega) (((kk54171.v rfl).trans ey1)) (by omega) (by omega) (((kk54171.v rfl).trans ey2)) (by omega) (by omega) (by omega)
set_option maxHeartbeats 4000000 in
theorem s307_s {G : GH} {h : JH} (g : Gd G h) {a1 : Int} (la1 : 0 ≤ a1) (ua1 : a1 ≤ 5) {a2 : Int} (la2 : 0 ≤ a2) (ua2 : a2 ≤ 99) {w0 : Int} (ew0 : h.2.2 42 9 = w0) (lw0 : 0 ≤ w0) (uw0 : w0 ≤ 6) {w1 : Int} (ew1 : h.2.2 48 (a1).toNat = w1) (lw1 : 0 ≤ w1) (uw1 : w1 ≤ 100) (F0 : (a1 + (-w0)) ≤ (-1)) (F1 : (a2 + (-w1)) ≤ (-1)) {M : Int} (hM : M = a2) {d : Nat} (hd : 0 ≤ d) (rih : ∀ {G : GH} {h : JH} (g : Gd G h) {a1 : Int} (la1 : 0 ≤ a1) (ua1 : a1 ≤ 5) {a2 : Int} (la2 : 0 ≤ a2) (ua2 : a2 ≤ 99) {w0 : Int} (ew0 : h.2.2 42 9 = w0) (lw0 : 0 ≤ w0) (uw0 : w0 ≤ 6) {w1 : Int} (ew1 : h.2.2 48 (a1).toNat = w1) (lw1 : 0 ≤ w1) (uw1 : w1 ≤ 100) (F0 : (a1 + (-w0)) ≤ (-1)) (F1 : (a2 + (-w1)) ≤ (-1)) (hm : M + 1 ≤ a2), jOk d 0 0 307 [(2, 42), (0, a1), (0, a2)] h (PV G [(42, 41), (42, 43)] h)) : jOk (d + 1) 0 0 307 [(2, 42), (0, a1), (0, a2)] h (PV G [(42, 41), (42, 43)] h) := by
  refine ⟨by decide, by rw [ml307]; exact Nat.le_of_ble_eq_true rfl, ?_⟩
  rw [ml307, pp307]
  show jEv _ none _ c307_0 0 0 _ (c307_0, [(2, 42), (0, a1), (0, a2), (9, 0), (9, 0)], [], h, 0, 0)
  have k0 := Kp.rf [(42, 41), (42, 43)] h
  refine ev_bipush ?_
  refine ev_iload_n rfl ?_
  refine ev_imul (r := (100 * a1)) (by unfold w32; omega) ?_
  refine ev_iload_n rfl ?_
  refine ev_iadd (r := (100 * a1 + a2)) (by unfold w32; omega) ?_
  refine ev_istore_n (L' := [(2, 42), (0, a1), (0, a2), (0, (100 * a1 + a2)), (9, 0)]) (Nat.le_of_ble_eq_true rfl) rfl ?_
  refine ev_aload_n rfl ?_
  refine g_getp (r := 42) (c := 49) g ad42 (by decide) (by decide) rf42_11 ft12_11 ?_
  refine ev_iload_n rfl ?_
  refine g_bald g ad49 rt49 (by omega) (by omega) (fun v54172 ev54172 lv54172 uv54172 => ?_)
  refine ev_ifne f307_17 (fun c54173 => ?_) (fun c54173 => ?_)
  · refine ev_aload_n rfl ?_
    refine g_getp (r := 42) (c := 49) g ad42 (by decide) (by decide) rf42_11 ft12_11 ?_
    refine ev_iload_n rfl ?_
    refine g_baldv (v := v54172) g ad49 (by omega) (by omega) (ev54172) ?_
    refine ev_iconst ?_
    refine ev_icmpne f307_84 (fun c54174 => ?_) (fun c54174 => ?_)
    · refine ev_iconst ?_
      refine ev_istore (L' := [(2, 42), (0, a1), (0, a2), (0, (100 * a1 + a2)), (0, 0)]) (Nat.le_of_ble_eq_true rfl) rfl ?_
      exact (s307_s_l la1 ua1 la2 ua2 ew0 lw0 uw0 ew1 lw1 uw1 F0 F1 hM hd rih 8) _ _ _ _ _ g k0 (by omega) (by omega) (by omega) (by omega) (by omega) (by omega) (by omega) (by omega) (ew0) (by omega) (by omega) (ew1) (by omega) (by omega) (ev54172) (by omega) (by omega) (by omega)
    · refine ev_aload_n rfl ?_
      obtain ⟨v54175, ev54175, lv54175, uv54175⟩ := g.rd ad42 (show 40 < 66 by decide) rf42_40
      refine g_getv (r := 42) (v := v54175) g ad42 (by decide) ft12_40 ev54175 ?_
      refine ev_aload_n rfl ?_
      obtain ⟨v54176, ev54176, lv54176, uv54176⟩ := g.rd ad42 (show 41 < 66 by decide) rf42_41
      refine g_getv (r := 42) (v := v54176) g ad42 (by decide) ft12_41 ev54176 ?_
      refine ev_icmpne f307_53 (fun c54177 => ?_) (fun c54177 => ?_)
      · refine ev_aload_n rfl ?_
        refine ev_dup (by decide) ?_
        refine g_getv (r := 42) (v := v54175) g ad42 (by decide) ft12_40 (ev54175) ?_
        refine ev_iconst ?_
        refine g_iaddG (fun v54178 ev54178 lv54178 uv54178 => ?_)
        refine g_putf (r := 42) g ad42 (by decide) ft12_40 (by decide) (fun e => absurd e nz12_40) rf42_40 (by decide) (by omega) (by omega) (fun h54179 e54179 g54179 => ?_)
        have k54179 := k0.wr e54179 rfl
        refine ev_aload_n rfl ?_
        refine ev_iload_n rfl ?_
        refine ev_aload_n rfl ?_
        refine g_getp (r := 42) (c := 51) g54179 ad42 (by decide) (by decide) rf42_13 ft12_13 ?_
        refine ev_iconst ?_
        refine ev_iload_n rfl ?_
        refine ev_imul (r := (400 * a1 + 4 * a2)) (by unfold w32; omega) ?_
        refine ev_aload_n rfl ?_
        refine g_getp (r := 42) (c := 53) g54179 ad42 (by decide) (by decide) rf42_15 ft12_15 ?_
        refine ev_iload_n rfl ?_
        refine g_bald g54179 ad53 rt53 (by omega) (by omega) (fun v54180 ev54180 lv54180 uv54180 => ?_)
        obtain ⟨v54181, ev54181, lv54181, uv54181⟩ := g54179.rd ad50 (show ((100 * a1 + a2)).toNat < 700 by omega) (rt50 _)
        have xv54181 := g54179.nd1 (q := a1) (n := a2) (by omega) (by rw [(((jw_ne e54179 (Or.inr (by decide))).trans ew0))]; omega) (by omega) (by rw [(((jw_ne e54179 (Or.inl (by decide))).trans ew1))]; omega) (i := (100 * a1 + a2)) (by omega) (by rw [(((jw_ne e54179 (Or.inl (by decide))).trans ev54172))]; omega) ev54181
        have xv54180 := g54179.nd1p (q := a1) (n := a2) (by omega) (by rw [(((jw_ne e54179 (Or.inr (by decide))).trans ew0))]; omega) (by omega) (by rw [(((jw_ne e54179 (Or.inl (by decide))).trans ew1))]; omega) (i := (100 * a1 + a2)) (by omega) (by rw [(((jw_ne e54179 (Or.inl (by decide))).trans ev54172))]; omega) ev54181 ev54180
        refine ev_iadd (r := (400 * a1 + 4 * a2 + v54180)) (by unfold w32; omega) ?_
        refine g_bald g54179 ad51 rt51 (by omega) (by omega) (fun v54182 ev54182 lv54182 uv54182 => ?_)
        have xv54182 := g54179.nd1c (q := a1) (n := a2) (by omega) (by rw [(((jw_ne e54179 (Or.inr (by decide))).trans ew0))]; omega) (by omega) (by rw [(((jw_ne e54179 (Or.inl (by decide))).trans ew1))]; omega) (i := (100 * a1 + a2)) (by omega) (by rw [(((jw_ne e54179 (Or.inl (by decide))).trans ev54172))]; omega) (ev54181) (w := v54180) (by omega) (by omega) (j := (400 * a1 + 4 * a2 + v54180)) (by omega) ev54182
        rw [(((jw_ne e54179 (Or.inl (by decide))).trans ew1))] at xv54182
        refine ev_call (jcall_v (A := [(0, v54182), (0, a1)]) (S' := []) (r := 42) rfl (g54179.lt ad42) (g54179.tg ad42) (Nat.le_of_ble_eq_true rfl)) (jOk_le (by omega) (rih g54179 (by omega) (by omega) (by omega) (by omega) (((jw_ne e54179 (Or.inr (by decide))).trans ew0)) (by omega) (by omega) (((jw_ne e54179 (Or.inl (by decide))).trans ew1)) (by omega) (by omega) (by omega) (by omega) (by omega))) (by decide) (by decide) (fun w54183 h54183 q54183 => ?_)
        obtain ⟨rfl, g54183, kk54183⟩ := q54183
        have k54183 := k54179.tr kk54183 (by decide)
        show jEv _ _ _ _ _ _ _ (_, [(2, 42), (0, a1), (0, a2), (0, (100 * a1 + a2)), (9, 0)], [], _, _, _)
        exact ev_ret rfl (by decide) (by decide) ⟨rfl, g54183, k54183⟩
      · refine ev_aload_n rfl ?_
        refine ev_bipush ?_
        refine ev_iload_n rfl ?_
        refine ev_imul (r := (10 * a2)) (by unfold w32; omega) ?_
        refine ev_aload_n rfl ?_
        refine g_getp (r := 42) (c := 53) g ad42 (by decide) (by decide) rf42_15 ft12_15 ?_
        refine ev_iload_n rfl ?_
        refine g_bald g ad53 rt53 (by omega) (by omega) (fun v54184 ev54184 lv54184 uv54184 => ?_)
        obtain ⟨v54185, ev54185, lv54185, uv54185⟩ := g.rd ad50 (show ((100 * a1 + a2)).toNat < 700 by omega) (rt50 _)
        have xv54185 := g.nd1 (q := a1) (n := a2) (by omega) (by rw [(ew0)]; omega) (by omega) (by rw [(ew1)]; omega) (i := (100 * a1 + a2)) (by omega) (by rw [(ev54172)]; omega) ev54185
        have xv54184 := g.nd1p (q := a1) (n := a2) (by omega) (by rw [(ew0)]; omega) (by omega) (by rw [(ew1)]; omega) (i := (100 * a1 + a2)) (by omega) (by rw [(ev54172)]; omega) ev54185 ev54184
        refine ev_iadd (r := (10 * a2 + v54184)) (by unfold w32; omega) ?_
        refine g_putf (r := 42) g ad42 (by decide) ft12_42 (by decide) (fun e => absurd e nz12_42) rf42_42 (by decide) (by omega) (by omega) (fun h54186 e54186 g54186 => ?_)
        have k54186 := k0.wr e54186 rfl
        refine ev_aload_n rfl ?_
        refine ev_dup (by decide) ?_
        refine g_getv (r := 42) (v := v54175) g54186 ad42 (by decide) ft12_40 (((jw_ne e54186 (Or.inr (by decide))).trans ev54175)) ?_
        refine ev_iconst ?_
        refine g_iaddG (fun v54187 ev54187 lv54187 uv54187 => ?_)
        refine g_putf (r := 42) g54186 ad42 (by decide) ft12_40 (by decide) (fun e => absurd e nz12_40) rf42_40 (by decide) (by omega) (by omega) (fun h54188 e54188 g54188 => ?_)
        have k54188 := k54186.wr e54188 rfl
        refine ev_aload_n rfl ?_
        refine ev_iload_n rfl ?_
        refine ev_aload_n rfl ?_
        refine g_getp (r := 42) (c := 51) g54188 ad42 (by decide) (by decide) rf42_13 ft12_13 ?_
        refine ev_iconst ?_
        refine ev_iload_n rfl ?_
        refine ev_imul (r := (400 * a1 + 4 * a2)) (by unfold w32; omega) ?_
        refine ev_aload_n rfl ?_
        refine g_getp (r := 42) (c := 53) g54188 ad42 (by decide) (by decide) rf42_15 ft12_15 ?_
        refine ev_iload_n rfl ?_
        refine g_baldv (v := v54184) g54188 ad53 (by omega) (by omega) (((jw_ne e54188 (Or.inl (by decide))).trans ((jw_ne e54186 (Or.inl (by decide))).trans ev54184))) ?_
        refine ev_iadd (r := (400 * a1 + 4 * a2 + v54184)) (by unfold w32; omega) ?_
        refine g_bald g54188 ad51 rt51 (by omega) (by omega) (fun v54189 ev54189 lv54189 uv54189 => ?_)
        have xv54189 := g54188.nd1c (q := a1) (n := a2) (by omega) (by rw [(((jw_ne e54188 (Or.inr (by decide))).trans ((jw_ne e54186 (Or.inr (by decide))).trans ew0)))]; omega) (by omega) (by rw [(((jw_ne e54188 (Or.inl (by decide))).trans ((jw_ne e54186 (Or.inl (by decide))).trans ew1)))]; omega) (i := (100 * a1 + a2)) (by omega) (by rw [(((jw_ne e54188 (Or.inl (by decide))).trans ((jw_ne e54186 (Or.inl (by decide))).trans ev54172)))]; omega) (((jw_ne e54188 (Or.inl (by decide))).trans ((jw_ne e54186 (Or.inl (by decide))).trans ev54185))) (w := v54184) (by omega) (by omega) (j := (400 * a1 + 4 * a2 + v54184)) (by omega) ev54189
        rw [(((jw_ne e54188 (Or.inl (by decide))).trans ((jw_ne e54186 (Or.inl (by decide))).trans ew1)))] at xv54189
        refine ev_call (jcall_v (A := [(0, v54189), (0, a1)]) (S' := []) (r := 42) rfl (g54188.lt ad42) (g54188.tg ad42) (Nat.le_of_ble_eq_true rfl)) (jOk_le (by omega) (rih g54188 (by omega) (by omega) (by omega) (by omega) (((jw_ne e54188 (Or.inr (by decide))).trans ((jw_ne e54186 (Or.inr (by decide))).trans ew0))) (by omega) (by omega) (((jw_ne e54188 (Or.inl (by decide))).trans ((jw_ne e54186 (Or.inl (by decide))).trans ew1))) (by omega) (by omega) (by omega) (by omega) (by omega))) (by decide) (by decide) (fun w54190 h54190 q54190 => ?_)
        obtain ⟨rfl, g54190, kk54190⟩ := q54190
        have k54190 := k54188.tr kk54190 (by decide)
        show jEv _ _ _ _ _ _ _ (_, [(2, 42), (0, a1), (0, a2), (0, (100 * a1 + a2)), (9, 0)], [], _, _, _)
        exact ev_ret rfl (by decide) (by decide) ⟨rfl, g54190, k54190⟩
  · exact ev_ret rfl (by decide) (by decide) ⟨rfl, g, k0⟩
theorem s307_n (N : Nat) : ∀ {G : GH} {h : JH} (g : Gd G h) {a1 : Int} (la1 : 0 ≤ a1) (ua1 : a1 ≤ 5) {a2 : Int} (la2 : 0 ≤ a2) (ua2 : a2 ≤ 99) {w0 : Int} (ew0 : h.2.2 42 9 = w0) (lw0 : 0 ≤ w0) (uw0 : w0 ≤ 6) {w1 : Int} (ew1 : h.2.2 48 (a1).toNat = w1) (lw1 : 0 ≤ w1) (uw1 : w1 ≤ 100) (F0 : (a1 + (-w0)) ≤ (-1)) (F1 : (a2 + (-w1)) ≤ (-1)) (hN : 100 - a2 ≤ (N : Int)), jOk (0 + 1 * N) 0 0 307 [(2, 42), (0, a1), (0, a2)] h (PV G [(42, 41), (42, 43)] h) := by
  induction N with
  | zero => intro G h g a1 la1 ua1 a2 la2 ua2 w0 ew0 lw0 uw0 w1 ew1 lw1 uw1 F0 F1 hN; exfalso; omega
  | succ N ih =>
    intro G h g a1 la1 ua1 a2 la2 ua2 w0 ew0 lw0 uw0 w1 ew1 lw1 uw1 F0 F1 hN
    exact jOk_le (by omega) (s307_s g la1 ua1 la2 ua2 ew0 lw0 uw0 ew1 lw1 uw1 F0 F1 (M := a2) rfl (d := 0 + 1 * N) (by omega) (fun {G} {h} g {a1} la1 ua1 {a2} la2 ua2 {w0} ew0 lw0 uw0 {w1} ew1 lw1 uw1 F0 F1 hm => ih g la1 ua1 la2 ua2 ew0 lw0 uw0 ew1 lw1 uw1 F0 F1 (by omega)))
theorem s307 {G : GH} {h : JH} (g : Gd G h) {a1 : Int} (la1 : 0 ≤ a1) (ua1 : a1 ≤ 5) {a2 : Int} (la2 : 0 ≤ a2) (ua2 : a2 ≤ 99) {w0 : Int} (ew0 : h.2.2 42 9 = w0) (lw0 : 0 ≤ w0) (uw0 : w0 ≤ 6) {w1 : Int} (ew1 : h.2.2 48 (a1).toNat = w1) (lw1 : 0 ≤ w1) (uw1 : w1 ≤ 100) (F0 : (a1 + (-w0)) ≤ (-1)) (F1 : (a2 + (-w1)) ≤ (-1)) : jOk 100 0 0 307 [(2, 42), (0, a1), (0, a2)] h (PV G [(42, 41), (42, 43)] h) := jOk_le (by decide) (s307_n 100 g la1 ua1 la2 ua2 ew0 lw0 uw0 ew1 lw1 uw1 F0 F1 (by omega))
set_option maxHeartbeats 4000000 in
theorem s296_s_l {G : GH} {h : JH} {a1 : Int} (la1 : 0 ≤ a1) (ua1 : a1 ≤ 99) {a2 : Int} (la2 : 0 ≤ a2) (ua2 : a2 ≤ 80) {a3 : Int} (la3 : 0 ≤ a3) (ua3 : a3 ≤ 9801) {w0 : Int} (ew0 : h.2.2 42 36 = w0) (lw0 : 0 ≤ w0) (uw0 : w0 ≤ 5) {w1 : Int} (ew1 : h.2.2 42 9 = w1) (lw1 : 0 ≤ w1) (uw1 : w1 ≤ 6) {w2 : Int} (ew2 : h.2.2 48 (w0).toNat = w2) (lw2 : 0 ≤ w2) (uw2 : w2 ≤ 100) (F0 : (w0 + (-w1)) ≤ (-1)) (F1 : (a1 + (-w2)) ≤ (-1)) (F2 : ((-99) * a1 + a3) ≤ 0) {M : Int} (hM : M = a1) {d : Nat} (hd : 0 ≤ d) (rih : ∀ {G : GH} {h : JH} (g : Gd G h) {a1 : Int} (la1 : 0 ≤ a1) (ua1 : a1 ≤ 99) {a2 : Int} (la2 : 0 ≤ a2) (ua2 : a2 ≤ 80) {a3 : Int} (la3 : 0 ≤ a3) (ua3 : a3 ≤ 9801) {w0 : Int} (ew0 : h.2.2 42 36 = w0) (lw0 : 0 ≤ w0) (uw0 : w0 ≤ 5) {w1 : Int} (ew1 : h.2.2 42 9 = w1) (lw1 : 0 ≤ w1) (uw1 : w1 ≤ 6) {w2 : Int} (ew2 : h.2.2 48 (w0).toNat = w2) (lw2 : 0 ≤ w2) (uw2 : w2 ≤ 100) (F0 : (w0 + (-w1)) ≤ (-1)) (F1 : (a1 + (-w2)) ≤ (-1)) (F2 : ((-99) * a1 + a3) ≤ 0) (hm : M + 1 ≤ a1), jOk d 0 0 296 [(2, 42), (0, a1), (0, a2), (0, a3)] h (PI G [] h 0 (-10800) 999)) : ∀ N : Nat, (∀ (h1 : JH) (x5 x6 y0 y1 y2 y3 y4 : Int) (j7 : AV), Gd G h1 → Kp [] h h1 → 0 ≤ a1 → a1 ≤ 99 → 0 ≤ a2 → a2 ≤ 80 → 0 ≤ a3 → a3 ≤ 9801 → (-10800) ≤ x5 → x5 ≤ 999 → 0 ≤ x6 → x6 ≤ 4 → (y0 + (-y1)) ≤ (-1) → (a1 + (-y2)) ≤ (-1) → ((-99) * a1 + a3) ≤ 0 → h1.2.2 42 36 = y0 → 0 ≤ y0 → y0 ≤ 5 → h1.2.2 42 9 = y1 → 0 ≤ y1 → y1 ≤ 6 → h1.2.2 48 (y0).toNat = y2 → 0 ≤ y2 → y2 ≤ 100 → h1.2.2 49 ((a1 + 100 * y0)).toNat = y3 → 1 ≤ y3 → y3 ≤ 1 → h1.2.2 50 ((a1 + 100 * y0)).toNat = y4 → 1 ≤ y4 → y4 ≤ 4 → ((-x6) + 4) < N → jEv (jOk (d + 0)) none (fun _ => 0) c296_0 0 0 (PI G [] h 0 (-10800) 999) (c296_81, [(2, 42), (0, a1), (0, a2), (0, a3), (0, (a1 + 100 * y0)), (0, x5), (0, x6), j7], [], h1, 0, 0)) := by
  intro N
  induction N with
  | zero => exact fun h1 x5 x6 y0 y1 y2 y3 y4 j7 g1 k1 b0 b1 b2 b3 b4 b5 b6 b7 b8 b9 b10 b11 b12 b13 b14 b15 b16 b17 b18 b19 b20 b21 b22 b23 b24 b25 b26 b27 hm => absurd hm (by omega)
  | succ N ih =>
    show _
    intro h1 x5 x6 y0 y1 y2 y3 y4 j7 g1 k1 b0 b1 b2 b3 b4 b5 b6 b7 b8 b9 b10 b11 b12 ey0 ly0 uy0 ey1 ly1 uy1 ey2 ly2 uy2 ey3 ly3 uy3 ey4 ly4 uy4 hm
    refine ev_iload rfl ?_
    refine ev_aload_n rfl ?_
    refine g_getp (r := 42) (c := 50) g1 ad42 (by decide) (by decide) rf42_12 ft12_12 ?_
    refine ev_iload rfl ?_
    refine g_ialdv (v := y4) g1 ad50 (by omega) (by omega) (ey4) ?_
    refine ev_icmpge f296_148 (fun c54256 => ?_) (fun c54256 => ?_)
    · refine ev_iload rfl ?_
      exact ev_ret rfl (by decide) (by decide) ⟨_, rfl, by omega, by omega, g1, k1⟩
    · refine ev_aload_n rfl ?_
      refine ev_aload_n rfl ?_
      refine g_getp (r := 42) (c := 51) g1 ad42 (by decide) (by decide) rf42_13 ft12_13 ?_
      refine ev_iconst ?_
      refine ev_iload rfl ?_
      refine ev_imul (r := (4 * a1 + 400 * y0)) (by unfold w32; omega) ?_
      refine ev_iload rfl ?_
      refine ev_iadd (r := (4 * a1 + x6 + 400 * y0)) (by unfold w32; omega) ?_
      refine g_bald g1 ad51 rt51 (by omega) (by omega) (fun v54257 ev54257 lv54257 uv54257 => ?_)
      have xv54257 := g1.nd1c (q := y0) (n := a1) (by omega) (by rw [(ey1)]; omega) (by omega) (by rw [(ey2)]; omega) (i := (a1 + 100 * y0)) (by omega) (by rw [(ey3)]; omega) (ey4) (w := x6) (by omega) (by omega) (j := (4 * a1 + x6 + 400 * y0)) (by omega) ev54257
      rw [(ey2)] at xv54257
      refine ev_iload_n rfl ?_
      refine ev_iload_n rfl ?_
      refine ev_aload_n rfl ?_
      refine g_getp (r := 42) (c := 52) g1 ad42 (by decide) (by decide) rf42_14 ft12_14 ?_
      refine ev_iconst ?_
      refine ev_iload rfl ?_
      refine ev_imul (r := (4 * a1 + 400 * y0)) (by unfold w32; omega) ?_
      refine ev_iload rfl ?_
      refine ev_iadd (r := (4 * a1 + x6 + 400 * y0)) (by unfold w32; omega) ?_
      refine g_iald g1 ad52 rt52 (by omega) (by omega) (fun v54258 ev54258 lv54258 uv54258 => ?_)
      refine ev_iadd (r := (a3 + v54258)) (by unfold w32; omega) ?_
      refine ev_call (jcall_v (A := [(0, (a3 + v54258)), (0, a2), (0, v54257)]) (S' := []) (r := 42) rfl (g1.lt ad42) (g1.tg ad42) (Nat.le_of_ble_eq_true rfl)) (jOk_le (by omega) (rih g1 (by omega) (by omega) (by omega) (by omega) (by omega) (by omega) (ey0) (by omega) (by omega) (ey1) (by omega) (by omega) (ey2) (by omega) (by omega) (by omega) (by omega) (by omega) (by omega))) (by decide) (by decide) (fun w54259 h54259 q54259 => ?_)
      obtain ⟨v54260, rfl, lv54260, uv54260, g54259, kk54259⟩ := q54259
      have k54259 := k1.tr kk54259 (by decide)
      show jEv _ _ _ _ _ _ _ (_, [(2, 42), (0, a1), (0, a2), (0, a3), (0, (a1 + 100 * y0)), (0, x5), (0, x6), j7], [(0, v54260)], _, _, _)
      refine ev_istore (L' := [(2, 42), (0, a1), (0, a2), (0, a3), (0, (a1 + 100 * y0)), (0, x5), (0, x6), (0, v54260)]) (Nat.le_of_ble_eq_true rfl) rfl ?_
      refine ev_iload rfl ?_
      refine ev_ifeq f296_138 (fun c54261 => ?_) (fun c54261 => ?_)
      · refine ev_iload rfl ?_
        refine ev_istore (L' := [(2, 42), (0, a1), (0, a2), (0, a3), (0, (a1 + 100 * y0)), (0, v54260), (0, x6), (0, v54260)]) (Nat.le_of_ble_eq_true rfl) rfl ?_
        refine ev_iinc (w := (x6 + 1)) (L' := [(2, 42), (0, a1), (0, a2), (0, a3), (0, (a1 + 100 * y0)), (0, v54260), (0, (x6 + 1)), (0, v54260)]) rfl (by unfold w32; omega) rfl ?_
        refine ev_goto f296_81 ?_
        exact ih _ _ _ _ _ _ _ _ _ g54259 k54259 (by omega) (by omega) (by omega) (by omega) (by omega) (by omega) (by omega) (by omega) (by omega) (by omega) (by omega) (by omega) (by omega) (((kk54259.v (by decide)).trans ey0)) (by omega) (by omega) (((kk54259.v (by decide)).trans ey1)) (by omega) (by omega) (((kk54259.v rfl).trans ey2)) (by omega) (by omega) (((kk54259.v rfl).trans ey3)) (by omega) (by omega) (((kk54259.v rfl).trans ey4)) (by omega) (by omega) (by omega)
      · refine ev_iload rfl ?_
        refine ev_iload rfl ?_
        refine ev_icmple f296_142 (fun c54262 => ?_) (fun c54262 => ?_)
        · refine ev_iinc (w := (x6 + 1)) (L' := [(2, 42), (0, a1), (0, a2), (0, a3), (0, (a1 + 100 * y0)), (0, x5), (0, (x6 + 1)), (0, v54260)]) rfl (by unfold w32; omega) rfl ?_
          refine ev_goto f296_81 ?_
          exact ih _ _ _ _ _ _ _ _ _ g54259 k54259 (by omega) (by omega) (by omega) (by omega) (by omega) (by omega) (by omega) (by omega) (by omega) (by omega) (by omega) (by omega) (by omega) (((kk54259.v (by decide)).trans ey0)) (by omega) (by omega) (((kk54259.v (by decide)).trans ey1)) (by omega) (by omega) (((kk54259.v rfl).trans ey2)) (by omega) (by omega) (((kk54259.v rfl).trans ey3)) (by omega) (by omega) (((kk54259.v rfl).trans ey4)) (by omega) (by omega) (by omega)
        · refine ev_iload rfl ?_
          refine ev_istore (L' := [(2, 42), (0, a1), (0, a2), (0, a3), (0, (a1 + 100 * y0)), (0, v54260), (0, x6), (0, v54260)]) (Nat.le_of_ble_eq_true rfl) rfl ?_
          refine ev_iinc (w := (x6 + 1)) (L' := [(2, 42), (0, a1), (0, a2), (0, a3), (0, (a1 + 100 * y0)), (0, v54260), (0, (x6 + 1)), (0, v54260)]) rfl (by unfold w32; omega) rfl ?_
          refine ev_goto f296_81 ?_
          exact ih _ _ _ _ _ _ _ _ _ g54259 k54259 (by omega) (by omega) (by omega) (by omega) (by omega) (by omega) (by omega) (by omega) (by omega) (by omega) (by omega) (by omega) (by omega) (((kk54259.v (by decide)).trans ey0)) (by omega) (by omega) (((kk54259.v (by decide)).trans ey1)) (by omega) (by omega) (((kk54259.v rfl).trans ey2)) (by omega) (by omega) (((kk54259.v rfl).trans ey3)) (by omega) (by omega) (((kk54259.v rfl).trans ey4)) (by omega) (by omega) (by omega)
set_option maxHeartbeats 4000000 in
theorem s296_s {G : GH} {h : JH} (g : Gd G h) {a1 : Int} (la1 : 0 ≤ a1) (ua1 : a1 ≤ 99) {a2 : Int} (la2 : 0 ≤ a2) (ua2 : a2 ≤ 80) {a3 : Int} (la3 : 0 ≤ a3) (ua3 : a3 ≤ 9801) {w0 : Int} (ew0 : h.2.2 42 36 = w0) (lw0 : 0 ≤ w0) (uw0 : w0 ≤ 5) {w1 : Int} (ew1 : h.2.2 42 9 = w1) (lw1 : 0 ≤ w1) (uw1 : w1 ≤ 6) {w2 : Int} (ew2 : h.2.2 48 (w0).toNat = w2) (lw2 : 0 ≤ w2) (uw2 : w2 ≤ 100) (F0 : (w0 + (-w1)) ≤ (-1)) (F1 : (a1 + (-w2)) ≤ (-1)) (F2 : ((-99) * a1 + a3) ≤ 0) {M : Int} (hM : M = a1) {d : Nat} (hd : 0 ≤ d) (rih : ∀ {G : GH} {h : JH} (g : Gd G h) {a1 : Int} (la1 : 0 ≤ a1) (ua1 : a1 ≤ 99) {a2 : Int} (la2 : 0 ≤ a2) (ua2 : a2 ≤ 80) {a3 : Int} (la3 : 0 ≤ a3) (ua3 : a3 ≤ 9801) {w0 : Int} (ew0 : h.2.2 42 36 = w0) (lw0 : 0 ≤ w0) (uw0 : w0 ≤ 5) {w1 : Int} (ew1 : h.2.2 42 9 = w1) (lw1 : 0 ≤ w1) (uw1 : w1 ≤ 6) {w2 : Int} (ew2 : h.2.2 48 (w0).toNat = w2) (lw2 : 0 ≤ w2) (uw2 : w2 ≤ 100) (F0 : (w0 + (-w1)) ≤ (-1)) (F1 : (a1 + (-w2)) ≤ (-1)) (F2 : ((-99) * a1 + a3) ≤ 0) (hm : M + 1 ≤ a1), jOk d 0 0 296 [(2, 42), (0, a1), (0, a2), (0, a3)] h (PI G [] h 0 (-10800) 999)) : jOk (d + 1) 0 0 296 [(2, 42), (0, a1), (0, a2), (0, a3)] h (PI G [] h 0 (-10800) 999) := by
  refine ⟨by decide, by rw [ml296]; exact Nat.le_of_ble_eq_true rfl, ?_⟩
  rw [ml296, pp296]
  show jEv _ none _ c296_0 0 0 _ (c296_0, [(2, 42), (0, a1), (0, a2), (0, a3), (9, 0), (9, 0), (9, 0), (9, 0)], [], h, 0, 0)
  have k0 := Kp.rf [] h
  refine ev_bipush ?_
  refine ev_aload_n rfl ?_
  refine g_getv (r := 42) (v := w0) g ad42 (by decide) ft12_36 (ew0) ?_
  refine ev_imul (r := (100 * w0)) (by unfold w32; omega) ?_
  refine ev_iload_n rfl ?_
  refine ev_iadd (r := (a1 + 100 * w0)) (by unfold w32; omega) ?_
  refine ev_istore (L' := [(2, 42), (0, a1), (0, a2), (0, a3), (0, (a1 + 100 * w0)), (9, 0), (9, 0), (9, 0)]) (Nat.le_of_ble_eq_true rfl) rfl ?_
  refine ev_aload_n rfl ?_
  refine g_getp (r := 42) (c := 49) g ad42 (by decide) (by decide) rf42_11 ft12_11 ?_
  refine ev_iload rfl ?_
  refine g_bald g ad49 rt49 (by omega) (by omega) (fun v54263 ev54263 lv54263 uv54263 => ?_)
  refine ev_ifne f296_31 (fun c54264 => ?_) (fun c54264 => ?_)
  · refine ev_aload_n rfl ?_
    refine g_getp (r := 42) (c := 49) g ad42 (by decide) (by decide) rf42_11 ft12_11 ?_
    refine ev_iload rfl ?_
    refine g_baldv (v := v54263) g ad49 (by omega) (by omega) (ev54263) ?_
    refine ev_iconst ?_
    refine ev_icmpne f296_75 (fun c54265 => ?_) (fun c54265 => ?_)
    · refine ev_iconst ?_
      refine ev_istore (L' := [(2, 42), (0, a1), (0, a2), (0, a3), (0, (a1 + 100 * w0)), (0, 0), (9, 0), (9, 0)]) (Nat.le_of_ble_eq_true rfl) rfl ?_
      refine ev_iconst ?_
      refine ev_istore (L' := [(2, 42), (0, a1), (0, a2), (0, a3), (0, (a1 + 100 * w0)), (0, 0), (0, 0), (9, 0)]) (Nat.le_of_ble_eq_true rfl) rfl ?_
      obtain ⟨v54266, ev54266, lv54266, uv54266⟩ := g.rd ad50 (show ((a1 + 100 * w0)).toNat < 700 by omega) (rt50 _)
      have xv54266 := g.nd1 (q := w0) (n := a1) (by omega) (by rw [(ew1)]; omega) (by omega) (by rw [(ew2)]; omega) (i := (a1 + 100 * w0)) (by omega) (by rw [(ev54263)]; omega) ev54266
      exact (s296_s_l la1 ua1 la2 ua2 la3 ua3 ew0 lw0 uw0 ew1 lw1 uw1 ew2 lw2 uw2 F0 F1 F2 hM hd rih 10) _ _ _ _ _ _ _ _ _ g k0 (by omega) (by omega) (by omega) (by omega) (by omega) (by omega) (by omega) (by omega) (by omega) (by omega) (by omega) (by omega) (by omega) (ew0) (by omega) (by omega) (ew1) (by omega) (by omega) (ew2) (by omega) (by omega) (ev54263) (by omega) (by omega) ev54266 (by omega) (by omega) (by omega)
    · refine ev_aload_n rfl ?_
      refine ev_aload_n rfl ?_
      refine g_getp (r := 42) (c := 51) g ad42 (by decide) (by decide) rf42_13 ft12_13 ?_
      refine ev_iconst ?_
      refine ev_iload rfl ?_
      refine ev_imul (r := (4 * a1 + 400 * w0)) (by unfold w32; omega) ?_
      refine ev_aload_n rfl ?_
      refine g_getp (r := 42) (c := 46) g ad42 (by decide) (by decide) rf42_6 ft12_6 ?_
      refine ev_iconst ?_
      refine ev_iload_n rfl ?_
      refine ev_imul (r := (4 * a2)) (by unfold w32; omega) ?_
      refine ev_aload_n rfl ?_
      refine g_getp (r := 42) (c := 50) g ad42 (by decide) (by decide) rf42_12 ft12_12 ?_
      refine ev_iload rfl ?_
      refine g_iald g ad50 rt50 (by omega) (by omega) (fun v54267 ev54267 lv54267 uv54267 => ?_)
      obtain ⟨v54268, ev54268, lv54268, uv54268⟩ := g.rd ad42 (show 1 < 66 by decide) rf42_1
      have xv54267 := g.nd2 (q := w0) (n := a1) (by omega) (by rw [(ew1)]; omega) (by omega) (by rw [(ew2)]; omega) (i := (a1 + 100 * w0)) (by omega) (by rw [(ev54263)]; omega) ev54267
      rw [ev54268] at xv54267
      refine ev_iadd (r := (4 * a2 + v54267)) (by unfold w32; omega) ?_
      refine g_iald g ad46 rt46 (by omega) (by omega) (fun v54269 ev54269 lv54269 uv54269 => ?_)
      obtain ⟨v54270, ev54270, lv54270, uv54270⟩ := g.rd ad43 (show (v54267).toNat < 4 by omega) (rt43 _)
      have zv54269 := g.sw (s := a2) (t := v54267) (by omega) (by omega) (by omega) (by rw [(ev54268)]; omega) (by omega) (i := (4 * a2 + v54267)) (by omega) (ev54269) ev54270
      refine ev_iadd (r := (4 * a1 + v54269 + 400 * w0)) (by unfold w32; omega) ?_
      refine g_bald g ad51 rt51 (by omega) (by omega) (fun v54271 ev54271 lv54271 uv54271 => ?_)
      have xv54271 := g.nd2c (q := w0) (n := a1) (by omega) (by rw [(ew1)]; omega) (by omega) (by rw [(ew2)]; omega) (i := (a1 + 100 * w0)) (by omega) (by rw [(ev54263)]; omega) (ev54267) (t := v54267) (by omega) (ev54270) (w := v54269) (by omega) (by omega) (j := (4 * a1 + v54269 + 400 * w0)) (by omega) ev54271
      rw [(ew2)] at xv54271
      refine ev_iload_n rfl ?_
      refine ev_iload_n rfl ?_
      refine ev_call (jcall_v (A := [(0, a3), (0, a2), (0, v54271)]) (S' := []) (r := 42) rfl (g.lt ad42) (g.tg ad42) (Nat.le_of_ble_eq_true rfl)) (jOk_le (by omega) (rih g (by omega) (by omega) (by omega) (by omega) (by omega) (by omega) (ew0) (by omega) (by omega) (ew1) (by omega) (by omega) (ew2) (by omega) (by omega) (by omega) (by omega) (by omega) (by omega))) (by decide) (by decide) (fun w54272 h54272 q54272 => ?_)
      obtain ⟨v54273, rfl, lv54273, uv54273, g54272, kk54272⟩ := q54272
      have k54272 := k0.tr kk54272 (by decide)
      show jEv _ _ _ _ _ _ _ (_, [(2, 42), (0, a1), (0, a2), (0, a3), (0, (a1 + 100 * w0)), (9, 0), (9, 0), (9, 0)], [(0, v54273)], _, _, _)
      exact ev_ret rfl (by decide) (by decide) ⟨_, rfl, by omega, by omega, g54272, k54272⟩
  · refine ev_aload_n rfl ?_
    refine g_getp (r := 42) (c := 50) g ad42 (by decide) (by decide) rf42_12 ft12_12 ?_
    refine ev_iload rfl ?_
    refine g_iald g ad50 rt50 (by omega) (by omega) (fun v54274 ev54274 lv54274 uv54274 => ?_)
    refine ev_iload_n rfl ?_
    refine ev_isub (r := ((-a3) + v54274)) (by unfold w32; omega) ?_
    exact ev_ret rfl (by decide) (by decide) ⟨_, rfl, by omega, by omega, g, k0⟩
theorem s296_n (N : Nat) : ∀ {G : GH} {h : JH} (g : Gd G h) {a1 : Int} (la1 : 0 ≤ a1) (ua1 : a1 ≤ 99) {a2 : Int} (la2 : 0 ≤ a2) (ua2 : a2 ≤ 80) {a3 : Int} (la3 : 0 ≤ a3) (ua3 : a3 ≤ 9801) {w0 : Int} (ew0 : h.2.2 42 36 = w0) (lw0 : 0 ≤ w0) (uw0 : w0 ≤ 5) {w1 : Int} (ew1 : h.2.2 42 9 = w1) (lw1 : 0 ≤ w1) (uw1 : w1 ≤ 6) {w2 : Int} (ew2 : h.2.2 48 (w0).toNat = w2) (lw2 : 0 ≤ w2) (uw2 : w2 ≤ 100) (F0 : (w0 + (-w1)) ≤ (-1)) (F1 : (a1 + (-w2)) ≤ (-1)) (F2 : ((-99) * a1 + a3) ≤ 0) (hN : 100 - a1 ≤ (N : Int)), jOk (0 + 1 * N) 0 0 296 [(2, 42), (0, a1), (0, a2), (0, a3)] h (PI G [] h 0 (-10800) 999) := by
  induction N with
  | zero => intro G h g a1 la1 ua1 a2 la2 ua2 a3 la3 ua3 w0 ew0 lw0 uw0 w1 ew1 lw1 uw1 w2 ew2 lw2 uw2 F0 F1 F2 hN; exfalso; omega
  | succ N ih =>
    intro G h g a1 la1 ua1 a2 la2 ua2 a3 la3 ua3 w0 ew0 lw0 uw0 w1 ew1 lw1 uw1 w2 ew2 lw2 uw2 F0 F1 F2 hN
    exact jOk_le (by omega) (s296_s g la1 ua1 la2 ua2 la3 ua3 ew0 lw0 uw0 ew1 lw1 uw1 ew2 lw2 uw2 F0 F1 F2 (M := a1) rfl (d := 0 + 1 * N) (by omega) (fun {G} {h} g {a1} la1 ua1 {a2} la2 ua2 {a3} la3 ua3 {w0} ew0 lw0 uw0 {w1} ew1 lw1 uw1 {w2} ew2 lw2 uw2 F0 F1 F2 hm => ih g la1 ua1 la2 ua2 la3 ua3 ew0 lw0 uw0 ew1 lw1 uw1 ew2 lw2 uw2 F0 F1 F2 (by omega)))
theorem s296 {G : GH} {h : JH} (g : Gd G h) {a1 : Int} (la1 : 0 ≤ a1) (ua1 : a1 ≤ 99) {a2 : Int} (la2 : 0 ≤ a2) (ua2 : a2 ≤ 80) {a3 : Int} (la3 : 0 ≤ a3) (ua3 : a3 ≤ 9801) {w0 : Int} (ew0 : h.2.2 42 36 = w0) (lw0 : 0 ≤ w0) (uw0 : w0 ≤ 5) {w1 : Int} (ew1 : h.2.2 42 9 = w1) (lw1 : 0 ≤ w1) (uw1 : w1 ≤ 6) {w2 : Int} (ew2 : h.2.2 48 (w0).toNat = w2) (lw2 : 0 ≤ w2) (uw2 : w2 ≤ 100) (F0 : (w0 + (-w1)) ≤ (-1)) (F1 : (a1 + (-w2)) ≤ (-1)) (F2 : ((-99) * a1 + a3) ≤ 0) : jOk 100 0 0 296 [(2, 42), (0, a1), (0, a2), (0, a3)] h (PI G [] h 0 (-10800) 999) := jOk_le (by decide) (s296_n 100 g la1 ua1 la2 ua2 la3 ua3 ew0 lw0 uw0 ew1 lw1 uw1 ew2 lw2 uw2 F0 F1 F2 (by omega))
