set_option maxHeartbeats 4000000 in
theorem s300_l {G : GH} {h : JH} {a1 : Int} (la1 : 0 ≤ a1) (ua1 : a1 ≤ 5) {w0 : Int} (ew0 : h.2.2 42 9 = w0) (lw0 : 0 ≤ w0) (uw0 : w0 ≤ 6) {w1 : Int} (ew1 : h.2.2 48 (a1).toNat = w1) (lw1 : 1 ≤ w1) (uw1 : w1 ≤ 100) (F0 : (a1 + (-w0)) ≤ (-1)) (hB : ∀ m : Nat, (m : Int) < w1 → Bok h (a1).toNat m) : ∀ N : Nat, (∀ (h1 : JH) (x2 : Int), Gd G h1 → Kp [(53, 0)] h h1 → 0 ≤ a1 → a1 ≤ 5 → 0 ≤ x2 → x2 ≤ 100 → ((-x2) + 100) < N → jEv (jOk 0) none (fun _ => 0) c300_0 0 0 (PV G [(53, 0)] h) (c300_2, [(2, 42), (0, a1), (0, x2)], [], h1, 0, 0)) := by
  intro N
  induction N with
  | zero => exact fun h1 x2 g1 k1 b0 b1 b2 b3 hm => absurd hm (by omega)
  | succ N ih =>
    show _
    intro h1 x2 g1 k1 b0 b1 b2 b3 hm
    refine ev_iload_n rfl ?_
    refine ev_aload_n rfl ?_
    refine g_getp (r := 42) (c := 48) g1 ad42 (by decide) (by decide) rf42_10 ft12_10 ?_
    refine ev_iload_n rfl ?_
    refine g_ialdv (v := w1) g1 ad48 (by omega) (by omega) (((k1.v rfl).trans ew1)) ?_
    refine ev_icmpge f300_50 (fun c57237 => ?_) (fun c57237 => ?_)
    · exact ev_ret rfl (by decide) (by decide) ⟨rfl, g1, k1⟩
    · refine ev_aload_n rfl ?_
      refine g_getp (r := 42) (c := 49) g1 ad42 (by decide) (by decide) rf42_11 ft12_11 ?_
      refine ev_bipush ?_
      refine ev_iload_n rfl ?_
      refine ev_imul (r := (100 * a1)) (by unfold w32; omega) ?_
      refine ev_iload_n rfl ?_
      refine ev_iadd (r := (100 * a1 + x2)) (by unfold w32; omega) ?_
      refine g_bald g1 ad49 rt49 (by omega) (by omega) (fun v57238 ev57238 lv57238 uv57238 => ?_)
      refine ev_iconst ?_
      refine ev_icmpne f300_44 (fun c57239 => ?_) (fun c57239 => ?_)
      · refine ev_iinc (w := (x2 + 1)) (L' := [(2, 42), (0, a1), (0, (x2 + 1))]) rfl (by unfold w32; omega) rfl ?_
        refine ev_goto f300_2 ?_
        exact ih _ _ g1 k1 (by omega) (by omega) (by omega) (by omega) (by omega)
      · refine ev_aload_n rfl ?_
        refine g_getp (r := 42) (c := 53) g1 ad42 (by decide) (by decide) rf42_15 ft12_15 ?_
        refine ev_bipush ?_
        refine ev_iload_n rfl ?_
        refine ev_imul (r := (100 * a1)) (by unfold w32; omega) ?_
        refine ev_iload_n rfl ?_
        refine ev_iadd (r := (100 * a1 + x2)) (by unfold w32; omega) ?_
        refine ev_aload_n rfl ?_
        refine g_getp (r := 42) (c := 65) g1 ad42 (by decide) (by decide) rf42_35 ft12_35 ?_
        refine ev_iload_n rfl ?_
        refine g_bald g1 ad65 rt65 (by omega) (by omega) (fun v57240 ev57240 lv57240 uv57240 => ?_)
        obtain ⟨v57241, ev57241, lv57241, uv57241⟩ := g1.rd ad50 (show ((100 * a1 + x2)).toNat < 700 by omega) (rt50 _)
        have xv57241 := g1.nd1 (q := a1) (n := x2) (by omega) (by rw [(((k1.v (by decide)).trans ew0))]; omega) (by omega) (by rw [(((k1.v rfl).trans ew1))]; omega) (i := (100 * a1 + x2)) (by omega) (by rw [(ev57238)]; omega) ev57241
        have zv57240 := ((hB (x2).toNat (by omega)).kg k1 (fun _ => rfl) (fun _ => rfl) (fun _ => rfl)).at (q := a1) (n := x2) (by omega) (by omega) (i := (100 * a1 + x2)) (by omega) (by rw [(ev57238)]; omega) (ev57240) ev57241
        refine ev_bastG (r := 53) (j := ((100 * a1 + x2)).toNat) (w := v57240) (g1.lt ad53) (g1.tg ad53) (by omega) (by rw [g1.ln ad53]; omega) (by unfold w8; omega) (fun h57242 e57242 => ?_)
        have g57242 := g1.s53 e57242 (Or.inr ⟨by omega, by rw [(ev57241)]; omega⟩) (by omega) (by omega)
        have k57242 := k1.wr e57242 rfl
        refine ev_iinc (w := (x2 + 1)) (L' := [(2, 42), (0, a1), (0, (x2 + 1))]) rfl (by unfold w32; omega) rfl ?_
        refine ev_goto f300_2 ?_
        exact ih _ _ g57242 k57242 (by omega) (by omega) (by omega) (by omega) (by omega)
set_option maxHeartbeats 4000000 in
theorem s300 {G : GH} {h : JH} (g : Gd G h) {a1 : Int} (la1 : 0 ≤ a1) (ua1 : a1 ≤ 5) {w0 : Int} (ew0 : h.2.2 42 9 = w0) (lw0 : 0 ≤ w0) (uw0 : w0 ≤ 6) {w1 : Int} (ew1 : h.2.2 48 (a1).toNat = w1) (lw1 : 1 ≤ w1) (uw1 : w1 ≤ 100) (F0 : (a1 + (-w0)) ≤ (-1)) (hB : ∀ m : Nat, (m : Int) < w1 → Bok h (a1).toNat m) : jOk 1 0 0 300 [(2, 42), (0, a1)] h (PV G [(53, 0)] h) := by
  refine ⟨by decide, by rw [ml300]; exact Nat.le_of_ble_eq_true rfl, ?_⟩
  rw [ml300, pp300]
  show jEv _ none _ c300_0 0 0 _ (c300_0, [(2, 42), (0, a1), (9, 0)], [], h, 0, 0)
  have k0 := Kp.rf [(53, 0)] h
  refine ev_iconst ?_
  refine ev_istore_n (L' := [(2, 42), (0, a1), (0, 0)]) (Nat.le_of_ble_eq_true rfl) rfl ?_
  exact (s300_l la1 ua1 ew0 lw0 uw0 ew1 lw1 uw1 F0 hB m 202) _ _ g k0 (by omega) (by omega) (by omega) (by omega) (by omega)
set_option maxHeartbeats 4000000 in
theorem s301 {G : GH} {h : JH} (g : Gd G h) {a1 : Int} (la1 : (-2147483648) ≤ a1) (ua1 : a1 ≤ 2147483647) {a2 : Int} (la2 : (-2147483648) ≤ a2) (ua2 : a2 ≤ 2147483647) {a3 : Int} (la3 : (-2147483648) ≤ a3) (ua3 : a3 ≤ 2147483647) : jOk 205 0 0 301 [(2, 42), (0, a1), (0, a2), (0, a3)] h (PI G [(46, 0), (47, 0), (42, 6), (42, 9), (42, 37), (42, 38), (42, 39), (42, 40), (64, 0), (65, 0), (53, 0)] h 1 (-9223372036854775808) 9223372036854775807) := by
  refine ⟨by decide, by rw [ml301]; exact Nat.le_of_ble_eq_true rfl, ?_⟩
  rw [ml301, pp301]
  show jEv _ none _ c301_0 0 0 _ (c301_0, [(2, 42), (0, a1), (0, a2), (0, a3), (9, 0), (9, 0)], [], h, 0, 0)
  have k0 := Kp.rf [(46, 0), (47, 0), (42, 6), (42, 9), (42, 37), (42, 38), (42, 39), (42, 40), (64, 0), (65, 0), (53, 0)] h
  refine ev_aload_n rfl ?_
  refine ev_iload_n rfl ?_
  refine ev_in (d := 203) (a := 0) (b := 0) (cd' := c261_0) (m := 2) (L0 := [(2, 42), (0, a1)]) (jcall_v (A := [(0, a1)]) (S' := []) (r := 42) rfl (g.lt ad42) (g.tg ad42) (Nat.le_of_ble_eq_true rfl)) (by decide) ml261 pp261 (Nat.le_of_ble_eq_true rfl) rfl (by decide) (by decide) ?_
  refine ev_iload_n rfl ?_
  refine ev_iconst ?_
  refine ev_aload_n rfl ?_
  obtain ⟨v57311, ev57311, lv57311, uv57311⟩ := g.rd ad42 (show 9 < 66 by decide) rf42_9
  refine g_getv (r := 42) (v := v57311) g ad42 (by decide) ft12_9 ev57311 ?_
  refine ev_iconst ?_
  refine ev_isub (r := (v57311 - 1)) (by unfold w32; omega) ?_
  refine ev_in (d := 202) (a := 0) (b := 0) (cd' := c242_0) (m := 3) (L0 := [(0, a1), (0, 0), (0, (v57311 - 1))]) (jcall_s (A := [(0, (v57311 - 1)), (0, 0), (0, a1)]) (S' := []) (by decide) rfl (Nat.le_of_ble_eq_true rfl)) (by decide) ml242 pp242 (Nat.le_of_ble_eq_true rfl) rfl (by decide) (by decide) ?_
  refine ev_iload_n rfl ?_
  refine ev_iload_n rfl ?_
  refine ev_icmplt f242_14 (fun c57312 => ?_) (fun c57312 => ?_)
  · refine ev_iconst ?_
    refine ev_ret rfl (by decide) (by decide) ?_
    show jEv _ _ _ _ _ _ _ (_, [(2, 42), (0, a1)], [(0, 0)], _, _, _)
    refine ev_ret rfl (by decide) (by decide) ?_
    show jEv _ _ _ _ _ _ _ (_, [(2, 42), (0, a1), (0, a2), (0, a3), (9, 0), (9, 0)], [(0, 0)], _, _, _)
    refine ev_ifeq f301_25 (fun c57313 => ?_) (fun c57313 => absurd c57313 (by omega))
    refine ev_ldc2_w ?_
    exact ev_ret rfl (by decide) (by decide) ⟨_, rfl, by omega, by omega, g, k0⟩
  · refine ev_iload_n rfl ?_
    refine ev_iload_n rfl ?_
    refine ev_icmpgt f242_14 (fun c57314 => ?_) (fun c57314 => ?_)
    · refine ev_iconst ?_
      refine ev_ret rfl (by decide) (by decide) ?_
      show jEv _ _ _ _ _ _ _ (_, [(2, 42), (0, a1)], [(0, 0)], _, _, _)
      refine ev_ret rfl (by decide) (by decide) ?_
      show jEv _ _ _ _ _ _ _ (_, [(2, 42), (0, a1), (0, a2), (0, a3), (9, 0), (9, 0)], [(0, 0)], _, _, _)
      refine ev_ifeq f301_25 (fun c57315 => ?_) (fun c57315 => absurd c57315 (by omega))
      refine ev_ldc2_w ?_
      exact ev_ret rfl (by decide) (by decide) ⟨_, rfl, by omega, by omega, g, k0⟩
    · refine ev_iconst ?_
      refine ev_goto f242_15 ?_
      refine ev_ret rfl (by decide) (by decide) ?_
      show jEv _ _ _ _ _ _ _ (_, [(2, 42), (0, a1)], [(0, 1)], _, _, _)
      refine ev_ret rfl (by decide) (by decide) ?_
      show jEv _ _ _ _ _ _ _ (_, [(2, 42), (0, a1), (0, a2), (0, a3), (9, 0), (9, 0)], [(0, 1)], _, _, _)
      refine ev_ifeq f301_25 (fun c57316 => absurd c57316 (by omega)) (fun c57316 => ?_)
      refine ev_aload_n rfl ?_
      refine ev_iload_n rfl ?_
      refine ev_in (d := 203) (a := 0) (b := 0) (cd' := c284_0) (m := 2) (L0 := [(2, 42), (0, a2)]) (jcall_v (A := [(0, a2)]) (S' := []) (r := 42) rfl (g.lt ad42) (g.tg ad42) (Nat.le_of_ble_eq_true rfl)) (by decide) ml284 pp284 (Nat.le_of_ble_eq_true rfl) rfl (by decide) (by decide) ?_
      refine ev_iload_n rfl ?_
      refine ev_iconst ?_
      refine ev_aload_n rfl ?_
      obtain ⟨v57317, ev57317, lv57317, uv57317⟩ := g.rd ad42 (show 28 < 66 by decide) rf42_28
      refine g_getv (r := 42) (v := v57317) g ad42 (by decide) ft12_28 ev57317 ?_
      refine ev_iconst ?_
      refine ev_isub (r := (v57317 - 1)) (by unfold w32; omega) ?_
      refine ev_in (d := 202) (a := 0) (b := 0) (cd' := c242_0) (m := 3) (L0 := [(0, a2), (0, 0), (0, (v57317 - 1))]) (jcall_s (A := [(0, (v57317 - 1)), (0, 0), (0, a2)]) (S' := []) (by decide) rfl (Nat.le_of_ble_eq_true rfl)) (by decide) ml242 pp242 (Nat.le_of_ble_eq_true rfl) rfl (by decide) (by decide) ?_
      refine ev_iload_n rfl ?_
      refine ev_iload_n rfl ?_
      refine ev_icmplt f242_14 (fun c57318 => ?_) (fun c57318 => ?_)
      · refine ev_iconst ?_
        refine ev_ret rfl (by decide) (by decide) ?_
        show jEv _ _ _ _ _ _ _ (_, [(2, 42), (0, a2)], [(0, 0)], _, _, _)
        refine ev_ret rfl (by decide) (by decide) ?_
        show jEv _ _ _ _ _ _ _ (_, [(2, 42), (0, a1), (0, a2), (0, a3), (9, 0), (9, 0)], [(0, 0)], _, _, _)
        refine ev_ifeq f301_25 (fun c57319 => ?_) (fun c57319 => absurd c57319 (by omega))
        refine ev_ldc2_w ?_
        exact ev_ret rfl (by decide) (by decide) ⟨_, rfl, by omega, by omega, g, k0⟩
      · refine ev_iload_n rfl ?_
        refine ev_iload_n rfl ?_
        refine ev_icmpgt f242_14 (fun c57320 => ?_) (fun c57320 => ?_)
        · refine ev_iconst ?_
          refine ev_ret rfl (by decide) (by decide) ?_
          show jEv _ _ _ _ _ _ _ (_, [(2, 42), (0, a2)], [(0, 0)], _, _, _)
          refine ev_ret rfl (by decide) (by decide) ?_
          show jEv _ _ _ _ _ _ _ (_, [(2, 42), (0, a1), (0, a2), (0, a3), (9, 0), (9, 0)], [(0, 0)], _, _, _)
          refine ev_ifeq f301_25 (fun c57321 => ?_) (fun c57321 => absurd c57321 (by omega))
          refine ev_ldc2_w ?_
          exact ev_ret rfl (by decide) (by decide) ⟨_, rfl, by omega, by omega, g, k0⟩
        · refine ev_iconst ?_
          refine ev_goto f242_15 ?_
          refine ev_ret rfl (by decide) (by decide) ?_
          show jEv _ _ _ _ _ _ _ (_, [(2, 42), (0, a2)], [(0, 1)], _, _, _)
          refine ev_ret rfl (by decide) (by decide) ?_
          show jEv _ _ _ _ _ _ _ (_, [(2, 42), (0, a1), (0, a2), (0, a3), (9, 0), (9, 0)], [(0, 1)], _, _, _)
          refine ev_ifeq f301_25 (fun c57322 => absurd c57322 (by omega)) (fun c57322 => ?_)
          refine ev_iload_n rfl ?_
          refine ev_iconst ?_
          refine ev_iconst ?_
          refine ev_in (d := 203) (a := 0) (b := 0) (cd' := c242_0) (m := 3) (L0 := [(0, a3), (0, 0), (0, 2)]) (jcall_s (A := [(0, 2), (0, 0), (0, a3)]) (S' := []) (by decide) rfl (Nat.le_of_ble_eq_true rfl)) (by decide) ml242 pp242 (Nat.le_of_ble_eq_true rfl) rfl (by decide) (by decide) ?_
          refine ev_iload_n rfl ?_
          refine ev_iload_n rfl ?_
          refine ev_icmplt f242_14 (fun c57323 => ?_) (fun c57323 => ?_)
          · refine ev_iconst ?_
            refine ev_ret rfl (by decide) (by decide) ?_
            show jEv _ _ _ _ _ _ _ (_, [(2, 42), (0, a1), (0, a2), (0, a3), (9, 0), (9, 0)], [(0, 0)], _, _, _)
            refine ev_ifne f301_29 (fun c57324 => absurd c57324 (by omega)) (fun c57324 => ?_)
            refine ev_ldc2_w ?_
            exact ev_ret rfl (by decide) (by decide) ⟨_, rfl, by omega, by omega, g, k0⟩
          · refine ev_iload_n rfl ?_
            refine ev_iload_n rfl ?_
            refine ev_icmpgt f242_14 (fun c57325 => ?_) (fun c57325 => ?_)
            · refine ev_iconst ?_
              refine ev_ret rfl (by decide) (by decide) ?_
              show jEv _ _ _ _ _ _ _ (_, [(2, 42), (0, a1), (0, a2), (0, a3), (9, 0), (9, 0)], [(0, 0)], _, _, _)
              refine ev_ifne f301_29 (fun c57326 => absurd c57326 (by omega)) (fun c57326 => ?_)
              refine ev_ldc2_w ?_
              exact ev_ret rfl (by decide) (by decide) ⟨_, rfl, by omega, by omega, g, k0⟩
            · refine ev_iconst ?_
              refine ev_goto f242_15 ?_
              refine ev_ret rfl (by decide) (by decide) ?_
              show jEv _ _ _ _ _ _ _ (_, [(2, 42), (0, a1), (0, a2), (0, a3), (9, 0), (9, 0)], [(0, 1)], _, _, _)
              refine ev_ifne f301_29 (fun c57327 => ?_) (fun c57327 => absurd c57327 (by omega))
              refine ev_aload_n rfl ?_
              refine ev_call (jcall_v (A := []) (S' := []) (r := 42) rfl (g.lt ad42) (g.tg ad42) (Nat.le_of_ble_eq_true rfl)) (jOk_le (by decide) (s256w g )) (by decide) (by decide) (fun w57328 h57328 q57328 => ?_)
              obtain ⟨q57328, sw57328⟩ := q57328
              obtain ⟨v57329, rfl, lv57329, uv57329, g57328, kk57328⟩ := q57328
              have k57328 := k0.tr kk57328 (by decide)
              show jEv _ _ _ _ _ _ _ (_, [(2, 42), (0, a1), (0, a2), (0, a3), (9, 0), (9, 0)], [(0, v57329)], _, _, _)
              refine ev_ifne f301_40 (fun c57330 => ?_) (fun c57330 => ?_)
              · refine ev_aload_n rfl ?_
                refine ev_iload_n rfl ?_
                refine ev_aload_n rfl ?_
                refine g_getp (r := 42) (c := 60) g57328 ad42 (by decide) (by decide) rf42_29 ft12_29 ?_
                refine ev_iload_n rfl ?_
                refine g_iald g57328 ad60 rt60 (by omega) (by omega) (fun v57331 ev57331 lv57331 uv57331 => ?_)
                refine ev_aload_n rfl ?_
                refine g_getp (r := 42) (c := 61) g57328 ad42 (by decide) (by decide) rf42_30 ft12_30 ?_
                refine ev_iload_n rfl ?_
                refine g_iald g57328 ad61 rt61 (by omega) (by omega) (fun v57332 ev57332 lv57332 uv57332 => ?_)
                refine ev_iconst ?_
                obtain ⟨v57333, ev57333, lv57333, uv57333⟩ := g57328.rd ad48 (show (a1).toNat < 7 by omega) (rt48 _)
                have zv57333 := g57328.n48 (q := a1) (by omega) (by rw [(((kk57328.v (by decide)).trans ev57311))]; omega) ev57333
                refine ev_call (jcall_v (A := [(0, 0), (0, v57332), (0, v57331), (0, a1)]) (S' := []) (r := 42) rfl (g57328.lt ad42) (g57328.tg ad42) (Nat.le_of_ble_eq_true rfl)) (jOk_le (by decide) (s298 g57328 (by omega) (by omega) (by omega) (by omega) (by omega) (by omega) (by omega) (by omega) (((kk57328.v (by decide)).trans ev57311)) (by omega) (by omega) ev57333 (by omega) (by omega) (by omega) (sw57328 _ rfl (by omega)))) (by decide) (by decide) (fun w57334 h57334 q57334 => ?_)
                obtain ⟨q57334, bk57334⟩ := q57334
                obtain ⟨v57335, rfl, lv57335, uv57335, g57334, kk57334⟩ := q57334
                have k57334 := k57328.tr kk57334 (by decide)
                show jEv _ _ _ _ _ _ _ (_, [(2, 42), (0, a1), (0, a2), (0, a3), (9, 0), (9, 0)], [(1, v57335)], _, _, _)
                refine ev_lstore (L' := [(2, 42), (0, a1), (0, a2), (0, a3), (1, v57335), (9, 0)]) (Nat.le_of_ble_eq_true rfl) rfl ?_
                refine ev_iload_n rfl ?_
                refine ev_iconst ?_
                refine ev_icmpge f301_82 (fun c57336 => ?_) (fun c57336 => ?_)
                · refine ev_aload_n rfl ?_
                  refine ev_iload_n rfl ?_
                  refine ev_call (jcall_v (A := [(0, a1)]) (S' := []) (r := 42) rfl (g57334.lt ad42) (g57334.tg ad42) (Nat.le_of_ble_eq_true rfl)) (jOk_le (by decide) (s300 g57334 (by omega) (by omega) (((kk57334.v (by decide)).trans ((kk57328.v (by decide)).trans ev57311))) (by omega) (by omega) (((kk57334.v rfl).trans ev57333)) (by omega) (by omega) (by omega) (bk57334 rfl))) (by decide) (by decide) (fun w57337 h57337 q57337 => ?_)
                  obtain ⟨rfl, g57337, kk57337⟩ := q57337
                  have k57337 := k57334.tr kk57337 (by decide)
                  show jEv _ _ _ _ _ _ _ (_, [(2, 42), (0, a1), (0, a2), (0, a3), (1, v57335), (9, 0)], [], _, _, _)
                  refine ev_lconst ?_
                  exact ev_ret rfl (by decide) (by decide) ⟨_, rfl, by omega, by omega, g57337, k57337⟩
                · refine ev_lload rfl ?_
                  refine ev_aload_n rfl ?_
                  refine ev_aload_n rfl ?_
                  refine g_getp (r := 42) (c := 60) g57334 ad42 (by decide) (by decide) rf42_29 ft12_29 ?_
                  refine ev_iload_n rfl ?_
                  refine g_ialdv (v := v57331) g57334 ad60 (by omega) (by omega) (((kk57334.v rfl).trans ev57331)) ?_
                  refine ev_in (d := 203) (a := 0) (b := 0) (cd' := c299_0) (m := 2) (L0 := [(2, 42), (0, v57331)]) (jcall_v (A := [(0, v57331)]) (S' := [(1, v57335)]) (r := 42) rfl (g57334.lt ad42) (g57334.tg ad42) (Nat.le_of_ble_eq_true rfl)) (by decide) ml299 pp299 (Nat.le_of_ble_eq_true rfl) rfl (by decide) (by decide) ?_
                  refine ev_iload_n rfl ?_
                  refine ev_iconst ?_
                  refine ev_icmpne f299_11 (fun c57338 => ?_) (fun c57338 => ?_)
                  · refine ev_ldc2_w ?_
                    refine ev_aload_n rfl ?_
                    obtain ⟨v57339, ev57339, lv57339, uv57339⟩ := g57334.rd ad42 (show 8 < 66 by decide) rf42_8
                    refine g_getv (r := 42) (v := v57339) g57334 ad42 (by decide) ft12_8 ev57339 ?_
                    refine g_lmulG (fun v57340 ev57340 lv57340 uv57340 => ?_)
                    refine ev_ret rfl (by decide) (by decide) ?_
                    show jEv _ _ _ _ _ _ _ (_, [(2, 42), (0, a1), (0, a2), (0, a3), (1, v57335), (9, 0)], [(1, v57340), (1, v57335)], _, _, _)
                    refine ev_iload_n rfl ?_
                    refine ev_call (jcall_s (A := [(0, a3), (1, v57340), (1, v57335)]) (S' := []) (by decide) rfl (Nat.le_of_ble_eq_true rfl)) (jOk_le (by decide) (s244 g57334 (by omega) (by omega) (by omega) (by omega) (by omega) (by omega))) (by decide) (by decide) (fun w57341 h57341 q57341 => ?_)
                    obtain ⟨v57342, rfl, lv57342, uv57342, g57341, kk57341⟩ := q57341
                    have k57341 := k57334.tr kk57341 (by decide)
                    show jEv _ _ _ _ _ _ _ (_, [(2, 42), (0, a1), (0, a2), (0, a3), (1, v57335), (9, 0)], [(1, v57342)], _, _, _)
                    exact ev_ret rfl (by decide) (by decide) ⟨_, rfl, by omega, by omega, g57341, k57341⟩
                  · refine ev_ldc2_w ?_
                    refine ev_goto f299_19 ?_
                    refine ev_ret rfl (by decide) (by decide) ?_
                    show jEv _ _ _ _ _ _ _ (_, [(2, 42), (0, a1), (0, a2), (0, a3), (1, v57335), (9, 0)], [(1, 100), (1, v57335)], _, _, _)
                    refine ev_iload_n rfl ?_
                    refine ev_call (jcall_s (A := [(0, a3), (1, 100), (1, v57335)]) (S' := []) (by decide) rfl (Nat.le_of_ble_eq_true rfl)) (jOk_le (by decide) (s244 g57334 (by omega) (by omega) (by omega) (by omega) (by omega) (by omega))) (by decide) (by decide) (fun w57343 h57343 q57343 => ?_)
                    obtain ⟨v57344, rfl, lv57344, uv57344, g57343, kk57343⟩ := q57343
                    have k57343 := k57334.tr kk57343 (by decide)
                    show jEv _ _ _ _ _ _ _ (_, [(2, 42), (0, a1), (0, a2), (0, a3), (1, v57335), (9, 0)], [(1, v57344)], _, _, _)
                    exact ev_ret rfl (by decide) (by decide) ⟨_, rfl, by omega, by omega, g57343, k57343⟩
              · refine ev_ldc2_w ?_
                exact ev_ret rfl (by decide) (by decide) ⟨_, rfl, by omega, by omega, g57328, k57328⟩
set_option maxHeartbeats 4000000 in
theorem s303 {G : GH} {h : JH} (g : Gd G h) {a1 : Int} (la1 : (-2147483648) ≤ a1) (ua1 : a1 ≤ 2147483647) {a2 : Int} (la2 : (-2147483648) ≤ a2) (ua2 : a2 ≤ 2147483647) {a3 : Int} (la3 : (-2147483648) ≤ a3) (ua3 : a3 ≤ 2147483647) : jOk 205 0 0 303 [(2, 42), (0, a1), (0, a2), (0, a3)] h (PI G [(46, 0), (47, 0), (42, 6), (42, 9), (42, 37), (42, 38), (42, 39), (42, 40), (64, 0), (65, 0)] h 1 (-9223372036854775808) 9223372036854775807) := by
  refine ⟨by decide, by rw [ml303]; exact Nat.le_of_ble_eq_true rfl, ?_⟩
  rw [ml303, pp303]
  show jEv _ none _ c303_0 0 0 _ (c303_0, [(2, 42), (0, a1), (0, a2), (0, a3)], [], h, 0, 0)
  have k0 := Kp.rf [(46, 0), (47, 0), (42, 6), (42, 9), (42, 37), (42, 38), (42, 39), (42, 40), (64, 0), (65, 0)] h
  refine ev_aload_n rfl ?_
  refine ev_iload_n rfl ?_
  refine ev_in (d := 203) (a := 0) (b := 0) (cd' := c261_0) (m := 2) (L0 := [(2, 42), (0, a1)]) (jcall_v (A := [(0, a1)]) (S' := []) (r := 42) rfl (g.lt ad42) (g.tg ad42) (Nat.le_of_ble_eq_true rfl)) (by decide) ml261 pp261 (Nat.le_of_ble_eq_true rfl) rfl (by decide) (by decide) ?_
  refine ev_iload_n rfl ?_
  refine ev_iconst ?_
  refine ev_aload_n rfl ?_
  obtain ⟨v57409, ev57409, lv57409, uv57409⟩ := g.rd ad42 (show 9 < 66 by decide) rf42_9
  refine g_getv (r := 42) (v := v57409) g ad42 (by decide) ft12_9 ev57409 ?_
  refine ev_iconst ?_
  refine ev_isub (r := (v57409 - 1)) (by unfold w32; omega) ?_
  refine ev_in (d := 202) (a := 0) (b := 0) (cd' := c242_0) (m := 3) (L0 := [(0, a1), (0, 0), (0, (v57409 - 1))]) (jcall_s (A := [(0, (v57409 - 1)), (0, 0), (0, a1)]) (S' := []) (by decide) rfl (Nat.le_of_ble_eq_true rfl)) (by decide) ml242 pp242 (Nat.le_of_ble_eq_true rfl) rfl (by decide) (by decide) ?_
  refine ev_iload_n rfl ?_
  refine ev_iload_n rfl ?_
  refine ev_icmplt f242_14 (fun c57410 => ?_) (fun c57410 => ?_)
  · refine ev_iconst ?_
    refine ev_ret rfl (by decide) (by decide) ?_
    show jEv _ _ _ _ _ _ _ (_, [(2, 42), (0, a1)], [(0, 0)], _, _, _)
    refine ev_ret rfl (by decide) (by decide) ?_
    show jEv _ _ _ _ _ _ _ (_, [(2, 42), (0, a1), (0, a2), (0, a3)], [(0, 0)], _, _, _)
    refine ev_ifeq f303_25 (fun c57411 => ?_) (fun c57411 => absurd c57411 (by omega))
    refine ev_ldc2_w ?_
    exact ev_ret rfl (by decide) (by decide) ⟨_, rfl, by omega, by omega, g, k0⟩
  · refine ev_iload_n rfl ?_
    refine ev_iload_n rfl ?_
    refine ev_icmpgt f242_14 (fun c57412 => ?_) (fun c57412 => ?_)
    · refine ev_iconst ?_
      refine ev_ret rfl (by decide) (by decide) ?_
      show jEv _ _ _ _ _ _ _ (_, [(2, 42), (0, a1)], [(0, 0)], _, _, _)
      refine ev_ret rfl (by decide) (by decide) ?_
      show jEv _ _ _ _ _ _ _ (_, [(2, 42), (0, a1), (0, a2), (0, a3)], [(0, 0)], _, _, _)
      refine ev_ifeq f303_25 (fun c57413 => ?_) (fun c57413 => absurd c57413 (by omega))
      refine ev_ldc2_w ?_
      exact ev_ret rfl (by decide) (by decide) ⟨_, rfl, by omega, by omega, g, k0⟩
    · refine ev_iconst ?_
      refine ev_goto f242_15 ?_
      refine ev_ret rfl (by decide) (by decide) ?_
      show jEv _ _ _ _ _ _ _ (_, [(2, 42), (0, a1)], [(0, 1)], _, _, _)
      refine ev_ret rfl (by decide) (by decide) ?_
      show jEv _ _ _ _ _ _ _ (_, [(2, 42), (0, a1), (0, a2), (0, a3)], [(0, 1)], _, _, _)
      refine ev_ifeq f303_25 (fun c57414 => absurd c57414 (by omega)) (fun c57414 => ?_)
      refine ev_aload_n rfl ?_
      refine ev_iload_n rfl ?_
      refine ev_in (d := 203) (a := 0) (b := 0) (cd' := c284_0) (m := 2) (L0 := [(2, 42), (0, a2)]) (jcall_v (A := [(0, a2)]) (S' := []) (r := 42) rfl (g.lt ad42) (g.tg ad42) (Nat.le_of_ble_eq_true rfl)) (by decide) ml284 pp284 (Nat.le_of_ble_eq_true rfl) rfl (by decide) (by decide) ?_
      refine ev_iload_n rfl ?_
      refine ev_iconst ?_
      refine ev_aload_n rfl ?_
      obtain ⟨v57415, ev57415, lv57415, uv57415⟩ := g.rd ad42 (show 28 < 66 by decide) rf42_28
      refine g_getv (r := 42) (v := v57415) g ad42 (by decide) ft12_28 ev57415 ?_
      refine ev_iconst ?_
      refine ev_isub (r := (v57415 - 1)) (by unfold w32; omega) ?_
      refine ev_in (d := 202) (a := 0) (b := 0) (cd' := c242_0) (m := 3) (L0 := [(0, a2), (0, 0), (0, (v57415 - 1))]) (jcall_s (A := [(0, (v57415 - 1)), (0, 0), (0, a2)]) (S' := []) (by decide) rfl (Nat.le_of_ble_eq_true rfl)) (by decide) ml242 pp242 (Nat.le_of_ble_eq_true rfl) rfl (by decide) (by decide) ?_
      refine ev_iload_n rfl ?_
      refine ev_iload_n rfl ?_
      refine ev_icmplt f242_14 (fun c57416 => ?_) (fun c57416 => ?_)
      · refine ev_iconst ?_
        refine ev_ret rfl (by decide) (by decide) ?_
        show jEv _ _ _ _ _ _ _ (_, [(2, 42), (0, a2)], [(0, 0)], _, _, _)
        refine ev_ret rfl (by decide) (by decide) ?_
        show jEv _ _ _ _ _ _ _ (_, [(2, 42), (0, a1), (0, a2), (0, a3)], [(0, 0)], _, _, _)
        refine ev_ifeq f303_25 (fun c57417 => ?_) (fun c57417 => absurd c57417 (by omega))
        refine ev_ldc2_w ?_
        exact ev_ret rfl (by decide) (by decide) ⟨_, rfl, by omega, by omega, g, k0⟩
      · refine ev_iload_n rfl ?_
        refine ev_iload_n rfl ?_
        refine ev_icmpgt f242_14 (fun c57418 => ?_) (fun c57418 => ?_)
        · refine ev_iconst ?_
          refine ev_ret rfl (by decide) (by decide) ?_
          show jEv _ _ _ _ _ _ _ (_, [(2, 42), (0, a2)], [(0, 0)], _, _, _)
          refine ev_ret rfl (by decide) (by decide) ?_
          show jEv _ _ _ _ _ _ _ (_, [(2, 42), (0, a1), (0, a2), (0, a3)], [(0, 0)], _, _, _)
          refine ev_ifeq f303_25 (fun c57419 => ?_) (fun c57419 => absurd c57419 (by omega))
          refine ev_ldc2_w ?_
          exact ev_ret rfl (by decide) (by decide) ⟨_, rfl, by omega, by omega, g, k0⟩
        · refine ev_iconst ?_
          refine ev_goto f242_15 ?_
          refine ev_ret rfl (by decide) (by decide) ?_
          show jEv _ _ _ _ _ _ _ (_, [(2, 42), (0, a2)], [(0, 1)], _, _, _)
          refine ev_ret rfl (by decide) (by decide) ?_
          show jEv _ _ _ _ _ _ _ (_, [(2, 42), (0, a1), (0, a2), (0, a3)], [(0, 1)], _, _, _)
          refine ev_ifeq f303_25 (fun c57420 => absurd c57420 (by omega)) (fun c57420 => ?_)
          refine ev_iload_n rfl ?_
          refine ev_iconst ?_
          refine ev_iconst ?_
          refine ev_in (d := 203) (a := 0) (b := 0) (cd' := c242_0) (m := 3) (L0 := [(0, a3), (0, 0), (0, 1)]) (jcall_s (A := [(0, 1), (0, 0), (0, a3)]) (S' := []) (by decide) rfl (Nat.le_of_ble_eq_true rfl)) (by decide) ml242 pp242 (Nat.le_of_ble_eq_true rfl) rfl (by decide) (by decide) ?_
          refine ev_iload_n rfl ?_
          refine ev_iload_n rfl ?_
          refine ev_icmplt f242_14 (fun c57421 => ?_) (fun c57421 => ?_)
          · refine ev_iconst ?_
            refine ev_ret rfl (by decide) (by decide) ?_
            show jEv _ _ _ _ _ _ _ (_, [(2, 42), (0, a1), (0, a2), (0, a3)], [(0, 0)], _, _, _)
            refine ev_ifne f303_29 (fun c57422 => absurd c57422 (by omega)) (fun c57422 => ?_)
            refine ev_ldc2_w ?_
            exact ev_ret rfl (by decide) (by decide) ⟨_, rfl, by omega, by omega, g, k0⟩
          · refine ev_iload_n rfl ?_
            refine ev_iload_n rfl ?_
            refine ev_icmpgt f242_14 (fun c57423 => ?_) (fun c57423 => ?_)
            · refine ev_iconst ?_
              refine ev_ret rfl (by decide) (by decide) ?_
              show jEv _ _ _ _ _ _ _ (_, [(2, 42), (0, a1), (0, a2), (0, a3)], [(0, 0)], _, _, _)
              refine ev_ifne f303_29 (fun c57424 => absurd c57424 (by omega)) (fun c57424 => ?_)
              refine ev_ldc2_w ?_
              exact ev_ret rfl (by decide) (by decide) ⟨_, rfl, by omega, by omega, g, k0⟩
            · refine ev_iconst ?_
              refine ev_goto f242_15 ?_
              refine ev_ret rfl (by decide) (by decide) ?_
              show jEv _ _ _ _ _ _ _ (_, [(2, 42), (0, a1), (0, a2), (0, a3)], [(0, 1)], _, _, _)
              refine ev_ifne f303_29 (fun c57425 => ?_) (fun c57425 => absurd c57425 (by omega))
              refine ev_aload_n rfl ?_
              refine ev_call (jcall_v (A := []) (S' := []) (r := 42) rfl (g.lt ad42) (g.tg ad42) (Nat.le_of_ble_eq_true rfl)) (jOk_le (by decide) (s256w g )) (by decide) (by decide) (fun w57426 h57426 q57426 => ?_)
              obtain ⟨q57426, sw57426⟩ := q57426
              obtain ⟨v57427, rfl, lv57427, uv57427, g57426, kk57426⟩ := q57426
              have k57426 := k0.tr kk57426 (by decide)
              show jEv _ _ _ _ _ _ _ (_, [(2, 42), (0, a1), (0, a2), (0, a3)], [(0, v57427)], _, _, _)
              refine ev_ifeq f303_71 (fun c57428 => ?_) (fun c57428 => ?_)
              · refine ev_ldc2_w ?_
                exact ev_ret rfl (by decide) (by decide) ⟨_, rfl, by omega, by omega, g57426, k57426⟩
              · refine ev_aload_n rfl ?_
                refine ev_iload_n rfl ?_
                refine ev_aload_n rfl ?_
                refine g_getp (r := 42) (c := 60) g57426 ad42 (by decide) (by decide) rf42_29 ft12_29 ?_
                refine ev_iload_n rfl ?_
                refine g_iald g57426 ad60 rt60 (by omega) (by omega) (fun v57429 ev57429 lv57429 uv57429 => ?_)
                refine ev_aload_n rfl ?_
                refine g_getp (r := 42) (c := 61) g57426 ad42 (by decide) (by decide) rf42_30 ft12_30 ?_
                refine ev_iload_n rfl ?_
                refine g_iald g57426 ad61 rt61 (by omega) (by omega) (fun v57430 ev57430 lv57430 uv57430 => ?_)
                refine ev_iconst ?_
                obtain ⟨v57431, ev57431, lv57431, uv57431⟩ := g57426.rd ad48 (show (a1).toNat < 7 by omega) (rt48 _)
                have zv57431 := g57426.n48 (q := a1) (by omega) (by rw [(((kk57426.v (by decide)).trans ev57409))]; omega) ev57431
                refine ev_call (jcall_v (A := [(0, 1), (0, v57430), (0, v57429), (0, a1)]) (S' := []) (r := 42) rfl (g57426.lt ad42) (g57426.tg ad42) (Nat.le_of_ble_eq_true rfl)) (jOk_le (by decide) (s298 g57426 (by omega) (by omega) (by omega) (by omega) (by omega) (by omega) (by omega) (by omega) (((kk57426.v (by decide)).trans ev57409)) (by omega) (by omega) ev57431 (by omega) (by omega) (by omega) (sw57426 _ rfl (by omega)))) (by decide) (by decide) (fun w57432 h57432 q57432 => ?_)
                obtain ⟨q57432, bk57432⟩ := q57432
                obtain ⟨v57433, rfl, lv57433, uv57433, g57432, kk57432⟩ := q57432
                have k57432 := k57426.tr kk57432 (by decide)
                show jEv _ _ _ _ _ _ _ (_, [(2, 42), (0, a1), (0, a2), (0, a3)], [(1, v57433)], _, _, _)
                refine ev_aload_n rfl ?_
                refine ev_aload_n rfl ?_
                refine g_getp (r := 42) (c := 60) g57432 ad42 (by decide) (by decide) rf42_29 ft12_29 ?_
                refine ev_iload_n rfl ?_
                refine g_ialdv (v := v57429) g57432 ad60 (by omega) (by omega) (((kk57432.v rfl).trans ev57429)) ?_
                refine ev_in (d := 203) (a := 0) (b := 0) (cd' := c299_0) (m := 2) (L0 := [(2, 42), (0, v57429)]) (jcall_v (A := [(0, v57429)]) (S' := [(1, v57433)]) (r := 42) rfl (g57432.lt ad42) (g57432.tg ad42) (Nat.le_of_ble_eq_true rfl)) (by decide) ml299 pp299 (Nat.le_of_ble_eq_true rfl) rfl (by decide) (by decide) ?_
                refine ev_iload_n rfl ?_
                refine ev_iconst ?_
                refine ev_icmpne f299_11 (fun c57434 => ?_) (fun c57434 => ?_)
                · refine ev_ldc2_w ?_
                  refine ev_aload_n rfl ?_
                  obtain ⟨v57435, ev57435, lv57435, uv57435⟩ := g57432.rd ad42 (show 8 < 66 by decide) rf42_8
                  refine g_getv (r := 42) (v := v57435) g57432 ad42 (by decide) ft12_8 ev57435 ?_
                  refine g_lmulG (fun v57436 ev57436 lv57436 uv57436 => ?_)
                  refine ev_ret rfl (by decide) (by decide) ?_
                  show jEv _ _ _ _ _ _ _ (_, [(2, 42), (0, a1), (0, a2), (0, a3)], [(1, v57436), (1, v57433)], _, _, _)
                  refine ev_iload_n rfl ?_
                  refine ev_call (jcall_s (A := [(0, a3), (1, v57436), (1, v57433)]) (S' := []) (by decide) rfl (Nat.le_of_ble_eq_true rfl)) (jOk_le (by decide) (s244 g57432 (by omega) (by omega) (by omega) (by omega) (by omega) (by omega))) (by decide) (by decide) (fun w57437 h57437 q57437 => ?_)
                  obtain ⟨v57438, rfl, lv57438, uv57438, g57437, kk57437⟩ := q57437
                  have k57437 := k57432.tr kk57437 (by decide)
                  show jEv _ _ _ _ _ _ _ (_, [(2, 42), (0, a1), (0, a2), (0, a3)], [(1, v57438)], _, _, _)
                  refine ev_goto f303_74 ?_
                  exact ev_ret rfl (by decide) (by decide) ⟨_, rfl, by omega, by omega, g57437, k57437⟩
                · refine ev_ldc2_w ?_
                  refine ev_goto f299_19 ?_
                  refine ev_ret rfl (by decide) (by decide) ?_
                  show jEv _ _ _ _ _ _ _ (_, [(2, 42), (0, a1), (0, a2), (0, a3)], [(1, 100), (1, v57433)], _, _, _)
                  refine ev_iload_n rfl ?_
                  refine ev_call (jcall_s (A := [(0, a3), (1, 100), (1, v57433)]) (S' := []) (by decide) rfl (Nat.le_of_ble_eq_true rfl)) (jOk_le (by decide) (s244 g57432 (by omega) (by omega) (by omega) (by omega) (by omega) (by omega))) (by decide) (by decide) (fun w57439 h57439 q57439 => ?_)
                  obtain ⟨v57440, rfl, lv57440, uv57440, g57439, kk57439⟩ := q57439
                  have k57439 := k57432.tr kk57439 (by decide)
                  show jEv _ _ _ _ _ _ _ (_, [(2, 42), (0, a1), (0, a2), (0, a3)], [(1, v57440)], _, _, _)
                  refine ev_goto f303_74 ?_
                  exact ev_ret rfl (by decide) (by decide) ⟨_, rfl, by omega, by omega, g57439, k57439⟩
set_option maxHeartbeats 4000000 in
theorem s304_l {G : GH} {h : JH} {a1 : Int} (la1 : (-2147483648) ≤ a1) (ua1 : a1 ≤ 2147483647) {a2 : Int} (la2 : (-2147483648) ≤ a2) (ua2 : a2 ≤ 2147483647) : ∀ N : Nat, (∀ (h1 : JH) (x3 x5 y0 y1 : Int) (j6 j7 j8 j9 : AV), Gd G h1 → Kp [(46, 0), (47, 0), (42, 6), (42, 9), (42, 37), (42, 38), (42, 39), (42, 40), (64, 0), (65, 0), (53, 0)] h h1 → 0 ≤ a1 → a1 ≤ 5 → 0 ≤ a2 → a2 ≤ 19 → (-9223372036854775808) ≤ x3 → x3 ≤ 9223372036854775807 → 0 ≤ x5 → x5 ≤ 100 → (a1 + (-y0)) ≤ (-1) → h1.2.2 42 9 = y0 → 0 ≤ y0 → y0 ≤ 6 → h1.2.2 48 (a1).toNat = y1 → 1 ≤ y1 → y1 ≤ 100 → Sw h1 → ((-10) * x5 + 1005) < N → jEv (jOk 204) none (fun _ => 0) c304_0 0 0 (PI G [(46, 0), (47, 0), (42, 6), (42, 9), (42, 37), (42, 38), (42, 39), (42, 40), (64, 0), (65, 0), (53, 0)] h 0 (-4) 99) (c304_50, [(2, 42), (0, a1), (0, a2), (1, x3), (9, 0), (0, x5), j6, j7, j8, j9], [], h1, 0, 0)) ∧ (∀ (h1 : JH) (x3 x5 x7 x8 x9 y0 y1 y2 y3 : Int), Gd G h1 → Kp [(46, 0), (47, 0), (42, 6), (42, 9), (42, 37), (42, 38), (42, 39), (42, 40), (64, 0), (65, 0), (53, 0)] h h1 → 0 ≤ a1 → a1 ≤ 5 → 0 ≤ a2 → a2 ≤ 19 → (-9223372036854775808) ≤ x3 → x3 ≤ 9223372036854775807 → 0 ≤ x5 → x5 ≤ 99 → 0 ≤ x7 → x7 ≤ 3 → 0 ≤ x8 → x8 ≤ 1 → 0 ≤ x9 → x9 ≤ 4 → (a1 + (-y0)) ≤ (-1) → (x5 + (-y1)) ≤ (-1) → (x7 + (-y3)) ≤ (-1) → h1.2.2 42 9 = y0 → 0 ≤ y0 → y0 ≤ 6 → h1.2.2 48 (a1).toNat = y1 → 1 ≤ y1 → y1 ≤ 100 → h1.2.2 49 ((100 * a1 + x5)).toNat = y2 → 1 ≤ y2 → y2 ≤ 1 → h1.2.2 50 ((100 * a1 + x5)).toNat = y3 → 1 ≤ y3 → y3 ≤ 4 → Sw h1 → ((-10) * x5 + (-x9) + 1004) < N → jEv (jOk 204) none (fun _ => 0) c304_0 0 0 (PI G [(46, 0), (47, 0), (42, 6), (42, 9), (42, 37), (42, 38), (42, 39), (42, 40), (64, 0), (65, 0), (53, 0)] h 0 (-4) 99) (c304_99, [(2, 42), (0, a1), (0, a2), (1, x3), (9, 0), (0, x5), (0, (100 * a1 + x5)), (0, x7), (0, x8), (0, x9)], [], h1, 0, 0)) := by
  intro N
  induction N with
  | zero => exact ⟨fun h1 x3 x5 y0 y1 j6 j7 j8 j9 g1 k1 b0 b1 b2 b3 b4 b5 b6 b7 b8 b9 b10 b11 b12 b13 b14 b15 hm => absurd hm (by omega), fun h1 x3 x5 x7 x8 x9 y0 y1 y2 y3 g1 k1 b0 b1 b2 b3 b4 b5 b6 b7 b8 b9 b10 b11 b12 b13 b14 b15 b16 b17 b18 b19 b20 b21 b22 b23 b24 b25 b26 b27 b28 b29 hm => absurd hm (by omega)⟩
  | succ N ih =>
    refine ⟨?_, ?_⟩
    · intro h1 x3 x5 y0 y1 j6 j7 j8 j9 g1 k1 b0 b1 b2 b3 b4 b5 b6 b7 b8 ey0 ly0 uy0 ey1 ly1 uy1 H0 hm
      refine ev_iload rfl ?_
      refine ev_aload_n rfl ?_
      refine g_getp (r := 42) (c := 48) g1 ad42 (by decide) (by decide) rf42_10 ft12_10 ?_
      refine ev_iload_n rfl ?_
      refine g_ialdv (v := y1) g1 ad48 (by omega) (by omega) (ey1) ?_
      refine ev_icmpge f304_186 (fun c57744 => ?_) (fun c57744 => ?_)
      · refine ev_bipush ?_
        exact ev_ret rfl (by decide) (by decide) ⟨_, rfl, by omega, by omega, g1, k1⟩
      · refine ev_bipush ?_
        refine ev_iload_n rfl ?_
        refine ev_imul (r := (100 * a1)) (by unfold w32; omega) ?_
        refine ev_iload rfl ?_
        refine ev_iadd (r := (100 * a1 + x5)) (by unfold w32; omega) ?_
        refine ev_istore (L' := [(2, 42), (0, a1), (0, a2), (1, x3), (9, 0), (0, x5), (0, (100 * a1 + x5)), j7, j8, j9]) (Nat.le_of_ble_eq_true rfl) rfl ?_
        refine ev_aload_n rfl ?_
        refine g_getp (r := 42) (c := 49) g1 ad42 (by decide) (by decide) rf42_11 ft12_11 ?_
        refine ev_iload rfl ?_
        refine g_bald g1 ad49 rt49 (by omega) (by omega) (fun v57745 ev57745 lv57745 uv57745 => ?_)
        refine ev_iconst ?_
        refine ev_icmpeq f304_84 (fun c57746 => ?_) (fun c57746 => ?_)
        · refine ev_aload_n rfl ?_
          refine g_getp (r := 42) (c := 53) g1 ad42 (by decide) (by decide) rf42_15 ft12_15 ?_
          refine ev_iload rfl ?_
          refine g_bald g1 ad53 rt53 (by omega) (by omega) (fun v57747 ev57747 lv57747 uv57747 => ?_)
          obtain ⟨v57748, ev57748, lv57748, uv57748⟩ := g1.rd ad50 (show ((100 * a1 + x5)).toNat < 700 by omega) (rt50 _)
          have xv57748 := g1.nd1 (q := a1) (n := x5) (by omega) (by rw [(ey0)]; omega) (by omega) (by rw [(ey1)]; omega) (i := (100 * a1 + x5)) (by omega) (by rw [(ev57745)]; omega) ev57748
          have xv57747 := g1.nd1p (q := a1) (n := x5) (by omega) (by rw [(ey0)]; omega) (by omega) (by rw [(ey1)]; omega) (i := (100 * a1 + x5)) (by omega) (by rw [(ev57745)]; omega) ev57748 ev57747
          refine ev_istore (L' := [(2, 42), (0, a1), (0, a2), (1, x3), (9, 0), (0, x5), (0, (100 * a1 + x5)), (0, v57747), j8, j9]) (Nat.le_of_ble_eq_true rfl) rfl ?_
          refine ev_iconst ?_
          refine ev_istore (L' := [(2, 42), (0, a1), (0, a2), (1, x3), (9, 0), (0, x5), (0, (100 * a1 + x5)), (0, v57747), (0, 0), j9]) (Nat.le_of_ble_eq_true rfl) rfl ?_
          refine ev_iconst ?_
          refine ev_istore (L' := [(2, 42), (0, a1), (0, a2), (1, x3), (9, 0), (0, x5), (0, (100 * a1 + x5)), (0, v57747), (0, 0), (0, 0)]) (Nat.le_of_ble_eq_true rfl) rfl ?_
          exact ih.2 _ _ _ _ _ _ _ _ _ _ g1 k1 (by omega) (by omega) (by omega) (by omega) (by omega) (by omega) (by omega) (by omega) (by omega) (by omega) (by omega) (by omega) (by omega) (by omega) (by omega) (by omega) (by omega) (ey0) (by omega) (by omega) (ey1) (by omega) (by omega) (ev57745) (by omega) (by omega) (ev57748) (by omega) (by omega) H0 (by omega)
        · refine ev_goto f304_180 ?_
          refine ev_iinc (w := (x5 + 1)) (L' := [(2, 42), (0, a1), (0, a2), (1, x3), (9, 0), (0, (x5 + 1)), (0, (100 * a1 + x5)), j7, j8, j9]) rfl (by unfold w32; omega) rfl ?_
          refine ev_goto f304_50 ?_
          exact ih.1 _ _ _ _ _ _ _ _ _ g1 k1 (by omega) (by omega) (by omega) (by omega) (by omega) (by omega) (by omega) (by omega) (by omega) (ey0) (by omega) (by omega) (ey1) (by omega) (by omega) H0 (by omega)
    · intro h1 x3 x5 x7 x8 x9 y0 y1 y2 y3 g1 k1 b0 b1 b2 b3 b4 b5 b6 b7 b8 b9 b10 b11 b12 b13 b14 b15 b16 ey0 ly0 uy0 ey1 ly1 uy1 ey2 ly2 uy2 ey3 ly3 uy3 H0 hm
      refine ev_iload rfl ?_
      refine ev_aload_n rfl ?_
      refine g_getp (r := 42) (c := 50) g1 ad42 (by decide) (by decide) rf42_12 ft12_12 ?_
      refine ev_iload rfl ?_
      refine g_ialdv (v := y3) g1 ad50 (by omega) (by omega) (ey3) ?_
      refine ev_icmpge f304_162 (fun c57749 => ?_) (fun c57749 => ?_)
      · refine ev_aload_n rfl ?_
        refine g_getp (r := 42) (c := 53) g1 ad42 (by decide) (by decide) rf42_15 ft12_15 ?_
        refine ev_iload rfl ?_
        refine ev_iload rfl ?_
        refine ev_i2b (r := x7) (by unfold w8; omega) ?_
        refine ev_bastG (r := 53) (j := ((100 * a1 + x5)).toNat) (w := x7) (g1.lt ad53) (g1.tg ad53) (by omega) (by rw [g1.ln ad53]; omega) (by unfold w8; omega) (fun h57750 e57750 => ?_)
        have g57750 := g1.s53 e57750 (Or.inr ⟨by omega, by rw [(ey3)]; omega⟩) (by omega) (by omega)
        have k57750 := k1.wr e57750 rfl
        refine ev_iload rfl ?_
        refine ev_ifeq f304_180 (fun c57751 => ?_) (fun c57751 => ?_)
        · refine ev_iinc (w := (x5 + 1)) (L' := [(2, 42), (0, a1), (0, a2), (1, x3), (9, 0), (0, (x5 + 1)), (0, (100 * a1 + x5)), (0, x7), (0, x8), (0, x9)]) rfl (by unfold w32; omega) rfl ?_
          refine ev_goto f304_50 ?_
          exact ih.1 _ _ _ _ _ _ _ _ _ g57750 k57750 (by omega) (by omega) (by omega) (by omega) (by omega) (by omega) (by omega) (by omega) (by omega) (((jw_ne e57750 (Or.inl (by decide))).trans ey0)) (by omega) (by omega) (((jw_ne e57750 (Or.inl (by decide))).trans ey1)) (by omega) (by omega) (H0.wrA e57750 (by decide)) (by omega)
        · refine ev_iload rfl ?_
          exact ev_ret rfl (by decide) (by decide) ⟨_, rfl, by omega, by omega, g57750, k57750⟩
      · refine ev_iload rfl ?_
        refine ev_ifne f304_162 (fun c57752 => ?_) (fun c57752 => ?_)
        · refine ev_aload_n rfl ?_
          refine g_getp (r := 42) (c := 53) g1 ad42 (by decide) (by decide) rf42_15 ft12_15 ?_
          refine ev_iload rfl ?_
          refine ev_iload rfl ?_
          refine ev_i2b (r := x7) (by unfold w8; omega) ?_
          refine ev_bastG (r := 53) (j := ((100 * a1 + x5)).toNat) (w := x7) (g1.lt ad53) (g1.tg ad53) (by omega) (by rw [g1.ln ad53]; omega) (by unfold w8; omega) (fun h57753 e57753 => ?_)
          have g57753 := g1.s53 e57753 (Or.inr ⟨by omega, by rw [(ey3)]; omega⟩) (by omega) (by omega)
          have k57753 := k1.wr e57753 rfl
          refine ev_iload rfl ?_
          refine ev_ifeq f304_180 (fun c57754 => absurd c57754 (by omega)) (fun c57754 => ?_)
          refine ev_iload rfl ?_
          exact ev_ret rfl (by decide) (by decide) ⟨_, rfl, by omega, by omega, g57753, k57753⟩
        · refine ev_aload_n rfl ?_
          refine g_getp (r := 42) (c := 53) g1 ad42 (by decide) (by decide) rf42_15 ft12_15 ?_
          refine ev_iload rfl ?_
          refine ev_iload rfl ?_
          refine ev_i2b (r := x9) (by unfold w8; omega) ?_
          refine ev_bastG (r := 53) (j := ((100 * a1 + x5)).toNat) (w := x9) (g1.lt ad53) (g1.tg ad53) (by omega) (by rw [g1.ln ad53]; omega) (by unfold w8; omega) (fun h57755 e57755 => ?_)
          have g57755 := g1.s53 e57755 (Or.inr ⟨by omega, by rw [(ey3)]; omega⟩) (by omega) (by omega)
          have k57755 := k1.wr e57755 rfl
          refine ev_aload_n rfl ?_
          refine ev_iload_n rfl ?_
          refine ev_aload_n rfl ?_
          refine g_getp (r := 42) (c := 60) g57755 ad42 (by decide) (by decide) rf42_29 ft12_29 ?_
          refine ev_iload_n rfl ?_
          refine g_iald g57755 ad60 rt60 (by omega) (by omega) (fun v57756 ev57756 lv57756 uv57756 => ?_)
          refine ev_aload_n rfl ?_
          refine g_getp (r := 42) (c := 61) g57755 ad42 (by decide) (by decide) rf42_30 ft12_30 ?_
          refine ev_iload_n rfl ?_
          refine g_iald g57755 ad61 rt61 (by omega) (by omega) (fun v57757 ev57757 lv57757 uv57757 => ?_)
          refine ev_iconst ?_
          refine ev_call (jcall_v (A := [(0, 1), (0, v57757), (0, v57756), (0, a1)]) (S' := []) (r := 42) rfl (g57755.lt ad42) (g57755.tg ad42) (Nat.le_of_ble_eq_true rfl)) (jOk_le (by decide) (s298 g57755 (by omega) (by omega) (by omega) (by omega) (by omega) (by omega) (by omega) (by omega) (((jw_ne e57755 (Or.inl (by decide))).trans ey0)) (by omega) (by omega) (((jw_ne e57755 (Or.inl (by decide))).trans ey1)) (by omega) (by omega) (by omega) (H0.wrA e57755 (by decide)))) (by decide) (by decide) (fun w57758 h57758 q57758 => ?_)
          obtain ⟨q57758, bk57758⟩ := q57758
          obtain ⟨v57759, rfl, lv57759, uv57759, g57758, kk57758⟩ := q57758
          have k57758 := k57755.tr kk57758 (by decide)
          show jEv _ _ _ _ _ _ _ (_, [(2, 42), (0, a1), (0, a2), (1, x3), (9, 0), (0, x5), (0, (100 * a1 + x5)), (0, x7), (0, x8), (0, x9)], [(1, v57759)], _, _, _)
          refine ev_lload_n rfl ?_
          refine ev_lcmp ?_
          refine ev_ifle f304_153 (fun c57760 => ?_) (fun c57760 => ?_)
          · have c57760b := jcmpL_le c57760
            refine ev_iconst ?_
            refine ev_istore (L' := [(2, 42), (0, a1), (0, a2), (1, x3), (9, 0), (0, x5), (0, (100 * a1 + x5)), (0, x7), (0, 0), (0, x9)]) (Nat.le_of_ble_eq_true rfl) rfl ?_
            refine ev_iinc (w := (x9 + 1)) (L' := [(2, 42), (0, a1), (0, a2), (1, x3), (9, 0), (0, x5), (0, (100 * a1 + x5)), (0, x7), (0, 0), (0, (x9 + 1))]) rfl (by unfold w32; omega) rfl ?_
            refine ev_goto f304_99 ?_
            exact ih.2 _ _ _ _ _ _ _ _ _ _ g57758 k57758 (by omega) (by omega) (by omega) (by omega) (by omega) (by omega) (by omega) (by omega) (by omega) (by omega) (by omega) (by omega) (by omega) (by omega) (by omega) (by omega) (by omega) (((kk57758.v (by decide)).trans ((jw_ne e57755 (Or.inl (by decide))).trans ey0))) (by omega) (by omega) (((kk57758.v rfl).trans ((jw_ne e57755 (Or.inl (by decide))).trans ey1))) (by omega) (by omega) (((kk57758.v rfl).trans ((jw_ne e57755 (Or.inl (by decide))).trans ey2))) (by omega) (by omega) (((kk57758.v rfl).trans ((jw_ne e57755 (Or.inl (by decide))).trans ey3))) (by omega) (by omega) ((H0.wrA e57755 (by decide)).kp kk57758 rfl rfl (fun _ => rfl) (fun _ => rfl)) (by omega)
          · have c57760b := jcmpL_leN c57760
            refine ev_iconst ?_
            refine ev_goto f304_154 ?_
            refine ev_istore (L' := [(2, 42), (0, a1), (0, a2), (1, x3), (9, 0), (0, x5), (0, (100 * a1 + x5)), (0, x7), (0, 1), (0, x9)]) (Nat.le_of_ble_eq_true rfl) rfl ?_
            refine ev_iinc (w := (x9 + 1)) (L' := [(2, 42), (0, a1), (0, a2), (1, x3), (9, 0), (0, x5), (0, (100 * a1 + x5)), (0, x7), (0, 1), (0, (x9 + 1))]) rfl (by unfold w32; omega) rfl ?_
            refine ev_goto f304_99 ?_
            exact ih.2 _ _ _ _ _ _ _ _ _ _ g57758 k57758 (by omega) (by omega) (by omega) (by omega) (by omega) (by omega) (by omega) (by omega) (by omega) (by omega) (by omega) (by omega) (by omega) (by omega) (by omega) (by omega) (by omega) (((kk57758.v (by decide)).trans ((jw_ne e57755 (Or.inl (by decide))).trans ey0))) (by omega) (by omega) (((kk57758.v rfl).trans ((jw_ne e57755 (Or.inl (by decide))).trans ey1))) (by omega) (by omega) (((kk57758.v rfl).trans ((jw_ne e57755 (Or.inl (by decide))).trans ey2))) (by omega) (by omega) (((kk57758.v rfl).trans ((jw_ne e57755 (Or.inl (by decide))).trans ey3))) (by omega) (by omega) ((H0.wrA e57755 (by decide)).kp kk57758 rfl rfl (fun _ => rfl) (fun _ => rfl)) (by omega)
set_option maxHeartbeats 4000000 in
theorem s304 {G : GH} {h : JH} (g : Gd G h) {a1 : Int} (la1 : (-2147483648) ≤ a1) (ua1 : a1 ≤ 2147483647) {a2 : Int} (la2 : (-2147483648) ≤ a2) (ua2 : a2 ≤ 2147483647) : jOk 205 0 0 304 [(2, 42), (0, a1), (0, a2)] h (PI G [(46, 0), (47, 0), (42, 6), (42, 9), (42, 37), (42, 38), (42, 39), (42, 40), (64, 0), (65, 0), (53, 0)] h 0 (-4) 99) := by
  refine ⟨by decide, by rw [ml304]; exact Nat.le_of_ble_eq_true rfl, ?_⟩
  rw [ml304, pp304]
  show jEv _ none _ c304_0 0 0 _ (c304_0, [(2, 42), (0, a1), (0, a2), (9, 0), (9, 0), (9, 0), (9, 0), (9, 0), (9, 0), (9, 0)], [], h, 0, 0)
  have k0 := Kp.rf [(46, 0), (47, 0), (42, 6), (42, 9), (42, 37), (42, 38), (42, 39), (42, 40), (64, 0), (65, 0), (53, 0)] h
  refine ev_aload_n rfl ?_
  refine ev_iload_n rfl ?_
  refine ev_in (d := 203) (a := 0) (b := 0) (cd' := c261_0) (m := 2) (L0 := [(2, 42), (0, a1)]) (jcall_v (A := [(0, a1)]) (S' := []) (r := 42) rfl (g.lt ad42) (g.tg ad42) (Nat.le_of_ble_eq_true rfl)) (by decide) ml261 pp261 (Nat.le_of_ble_eq_true rfl) rfl (by decide) (by decide) ?_
  refine ev_iload_n rfl ?_
  refine ev_iconst ?_
  refine ev_aload_n rfl ?_
  obtain ⟨v57761, ev57761, lv57761, uv57761⟩ := g.rd ad42 (show 9 < 66 by decide) rf42_9
  refine g_getv (r := 42) (v := v57761) g ad42 (by decide) ft12_9 ev57761 ?_
  refine ev_iconst ?_
  refine ev_isub (r := (v57761 - 1)) (by unfold w32; omega) ?_
  refine ev_in (d := 202) (a := 0) (b := 0) (cd' := c242_0) (m := 3) (L0 := [(0, a1), (0, 0), (0, (v57761 - 1))]) (jcall_s (A := [(0, (v57761 - 1)), (0, 0), (0, a1)]) (S' := []) (by decide) rfl (Nat.le_of_ble_eq_true rfl)) (by decide) ml242 pp242 (Nat.le_of_ble_eq_true rfl) rfl (by decide) (by decide) ?_
  refine ev_iload_n rfl ?_
  refine ev_iload_n rfl ?_
  refine ev_icmplt f242_14 (fun c57762 => ?_) (fun c57762 => ?_)
  · refine ev_iconst ?_
    refine ev_ret rfl (by decide) (by decide) ?_
    show jEv _ _ _ _ _ _ _ (_, [(2, 42), (0, a1)], [(0, 0)], _, _, _)
    refine ev_ret rfl (by decide) (by decide) ?_
    show jEv _ _ _ _ _ _ _ (_, [(2, 42), (0, a1), (0, a2), (9, 0), (9, 0), (9, 0), (9, 0), (9, 0), (9, 0), (9, 0)], [(0, 0)], _, _, _)
    refine ev_ifeq f304_16 (fun c57763 => ?_) (fun c57763 => absurd c57763 (by omega))
    refine ev_iconst ?_
    exact ev_ret rfl (by decide) (by decide) ⟨_, rfl, by omega, by omega, g, k0⟩
  · refine ev_iload_n rfl ?_
    refine ev_iload_n rfl ?_
    refine ev_icmpgt f242_14 (fun c57764 => ?_) (fun c57764 => ?_)
    · refine ev_iconst ?_
      refine ev_ret rfl (by decide) (by decide) ?_
      show jEv _ _ _ _ _ _ _ (_, [(2, 42), (0, a1)], [(0, 0)], _, _, _)
      refine ev_ret rfl (by decide) (by decide) ?_
      show jEv _ _ _ _ _ _ _ (_, [(2, 42), (0, a1), (0, a2), (9, 0), (9, 0), (9, 0), (9, 0), (9, 0), (9, 0), (9, 0)], [(0, 0)], _, _, _)
      refine ev_ifeq f304_16 (fun c57765 => ?_) (fun c57765 => absurd c57765 (by omega))
      refine ev_iconst ?_
      exact ev_ret rfl (by decide) (by decide) ⟨_, rfl, by omega, by omega, g, k0⟩
    · refine ev_iconst ?_
      refine ev_goto f242_15 ?_
      refine ev_ret rfl (by decide) (by decide) ?_
      show jEv _ _ _ _ _ _ _ (_, [(2, 42), (0, a1)], [(0, 1)], _, _, _)
      refine ev_ret rfl (by decide) (by decide) ?_
      show jEv _ _ _ _ _ _ _ (_, [(2, 42), (0, a1), (0, a2), (9, 0), (9, 0), (9, 0), (9, 0), (9, 0), (9, 0), (9, 0)], [(0, 1)], _, _, _)
      refine ev_ifeq f304_16 (fun c57766 => absurd c57766 (by omega)) (fun c57766 => ?_)
      refine ev_aload_n rfl ?_
      refine ev_iload_n rfl ?_
      refine ev_in (d := 203) (a := 0) (b := 0) (cd' := c284_0) (m := 2) (L0 := [(2, 42), (0, a2)]) (jcall_v (A := [(0, a2)]) (S' := []) (r := 42) rfl (g.lt ad42) (g.tg ad42) (Nat.le_of_ble_eq_true rfl)) (by decide) ml284 pp284 (Nat.le_of_ble_eq_true rfl) rfl (by decide) (by decide) ?_
      refine ev_iload_n rfl ?_
      refine ev_iconst ?_
      refine ev_aload_n rfl ?_
      obtain ⟨v57767, ev57767, lv57767, uv57767⟩ := g.rd ad42 (show 28 < 66 by decide) rf42_28
      refine g_getv (r := 42) (v := v57767) g ad42 (by decide) ft12_28 ev57767 ?_
      refine ev_iconst ?_
      refine ev_isub (r := (v57767 - 1)) (by unfold w32; omega) ?_
      refine ev_in (d := 202) (a := 0) (b := 0) (cd' := c242_0) (m := 3) (L0 := [(0, a2), (0, 0), (0, (v57767 - 1))]) (jcall_s (A := [(0, (v57767 - 1)), (0, 0), (0, a2)]) (S' := []) (by decide) rfl (Nat.le_of_ble_eq_true rfl)) (by decide) ml242 pp242 (Nat.le_of_ble_eq_true rfl) rfl (by decide) (by decide) ?_
      refine ev_iload_n rfl ?_
      refine ev_iload_n rfl ?_
      refine ev_icmplt f242_14 (fun c57768 => ?_) (fun c57768 => ?_)
      · refine ev_iconst ?_
        refine ev_ret rfl (by decide) (by decide) ?_
        show jEv _ _ _ _ _ _ _ (_, [(2, 42), (0, a2)], [(0, 0)], _, _, _)
        refine ev_ret rfl (by decide) (by decide) ?_
        show jEv _ _ _ _ _ _ _ (_, [(2, 42), (0, a1), (0, a2), (9, 0), (9, 0), (9, 0), (9, 0), (9, 0), (9, 0), (9, 0)], [(0, 0)], _, _, _)
        refine ev_ifne f304_18 (fun c57769 => absurd c57769 (by omega)) (fun c57769 => ?_)
        refine ev_iconst ?_
        exact ev_ret rfl (by decide) (by decide) ⟨_, rfl, by omega, by omega, g, k0⟩
      · refine ev_iload_n rfl ?_
        refine ev_iload_n rfl ?_
        refine ev_icmpgt f242_14 (fun c57770 => ?_) (fun c57770 => ?_)
        · refine ev_iconst ?_
          refine ev_ret rfl (by decide) (by decide) ?_
          show jEv _ _ _ _ _ _ _ (_, [(2, 42), (0, a2)], [(0, 0)], _, _, _)
          refine ev_ret rfl (by decide) (by decide) ?_
          show jEv _ _ _ _ _ _ _ (_, [(2, 42), (0, a1), (0, a2), (9, 0), (9, 0), (9, 0), (9, 0), (9, 0), (9, 0), (9, 0)], [(0, 0)], _, _, _)
          refine ev_ifne f304_18 (fun c57771 => absurd c57771 (by omega)) (fun c57771 => ?_)
          refine ev_iconst ?_
          exact ev_ret rfl (by decide) (by decide) ⟨_, rfl, by omega, by omega, g, k0⟩
        · refine ev_iconst ?_
          refine ev_goto f242_15 ?_
          refine ev_ret rfl (by decide) (by decide) ?_
          show jEv _ _ _ _ _ _ _ (_, [(2, 42), (0, a2)], [(0, 1)], _, _, _)
          refine ev_ret rfl (by decide) (by decide) ?_
          show jEv _ _ _ _ _ _ _ (_, [(2, 42), (0, a1), (0, a2), (9, 0), (9, 0), (9, 0), (9, 0), (9, 0), (9, 0), (9, 0)], [(0, 1)], _, _, _)
          refine ev_ifne f304_18 (fun c57772 => ?_) (fun c57772 => absurd c57772 (by omega))
          refine ev_aload_n rfl ?_
          refine ev_call (jcall_v (A := []) (S' := []) (r := 42) rfl (g.lt ad42) (g.tg ad42) (Nat.le_of_ble_eq_true rfl)) (jOk_le (by decide) (s256w g )) (by decide) (by decide) (fun w57773 h57773 q57773 => ?_)
          obtain ⟨q57773, sw57773⟩ := q57773
          obtain ⟨v57774, rfl, lv57774, uv57774, g57773, kk57773⟩ := q57773
          have k57773 := k0.tr kk57773 (by decide)
          show jEv _ _ _ _ _ _ _ (_, [(2, 42), (0, a1), (0, a2), (9, 0), (9, 0), (9, 0), (9, 0), (9, 0), (9, 0), (9, 0)], [(0, v57774)], _, _, _)
          refine ev_ifne f304_28 (fun c57775 => ?_) (fun c57775 => ?_)
          · refine ev_aload_n rfl ?_
            refine ev_iload_n rfl ?_
            refine ev_aload_n rfl ?_
            refine g_getp (r := 42) (c := 60) g57773 ad42 (by decide) (by decide) rf42_29 ft12_29 ?_
            refine ev_iload_n rfl ?_
            refine g_iald g57773 ad60 rt60 (by omega) (by omega) (fun v57776 ev57776 lv57776 uv57776 => ?_)
            refine ev_aload_n rfl ?_
            refine g_getp (r := 42) (c := 61) g57773 ad42 (by decide) (by decide) rf42_30 ft12_30 ?_
            refine ev_iload_n rfl ?_
            refine g_iald g57773 ad61 rt61 (by omega) (by omega) (fun v57777 ev57777 lv57777 uv57777 => ?_)
            refine ev_iconst ?_
            obtain ⟨v57778, ev57778, lv57778, uv57778⟩ := g57773.rd ad48 (show (a1).toNat < 7 by omega) (rt48 _)
            have zv57778 := g57773.n48 (q := a1) (by omega) (by rw [(((kk57773.v (by decide)).trans ev57761))]; omega) ev57778
            refine ev_call (jcall_v (A := [(0, 1), (0, v57777), (0, v57776), (0, a1)]) (S' := []) (r := 42) rfl (g57773.lt ad42) (g57773.tg ad42) (Nat.le_of_ble_eq_true rfl)) (jOk_le (by decide) (s298 g57773 (by omega) (by omega) (by omega) (by omega) (by omega) (by omega) (by omega) (by omega) (((kk57773.v (by decide)).trans ev57761)) (by omega) (by omega) ev57778 (by omega) (by omega) (by omega) (sw57773 _ rfl (by omega)))) (by decide) (by decide) (fun w57779 h57779 q57779 => ?_)
            obtain ⟨q57779, bk57779⟩ := q57779
            obtain ⟨v57780, rfl, lv57780, uv57780, g57779, kk57779⟩ := q57779
            have k57779 := k57773.tr kk57779 (by decide)
            show jEv _ _ _ _ _ _ _ (_, [(2, 42), (0, a1), (0, a2), (9, 0), (9, 0), (9, 0), (9, 0), (9, 0), (9, 0), (9, 0)], [(1, v57780)], _, _, _)
            refine ev_lstore_n (L' := [(2, 42), (0, a1), (0, a2), (1, v57780), (9, 0), (9, 0), (9, 0), (9, 0), (9, 0), (9, 0)]) (Nat.le_of_ble_eq_true rfl) rfl ?_
            refine ev_iconst ?_
            refine ev_istore (L' := [(2, 42), (0, a1), (0, a2), (1, v57780), (9, 0), (0, 0), (9, 0), (9, 0), (9, 0), (9, 0)]) (Nat.le_of_ble_eq_true rfl) rfl ?_
            exact (s304_l la1 ua1 la2 ua2 2020).1 _ _ _ _ _ _ _ _ _ g57779 k57779 (by omega) (by omega) (by omega) (by omega) (by omega) (by omega) (by omega) (by omega) (by omega) (((kk57779.v (by decide)).trans ((kk57773.v (by decide)).trans ev57761))) (by omega) (by omega) (((kk57779.v rfl).trans ev57778)) (by omega) (by omega) ((sw57773 _ rfl (by omega)).kp kk57779 rfl rfl (fun _ => rfl) (fun _ => rfl)) (by omega)
          · refine ev_bipush ?_
            exact ev_ret rfl (by decide) (by decide) ⟨_, rfl, by omega, by omega, g57773, k57773⟩
set_option maxHeartbeats 4000000 in
theorem s306 {G : GH} {h : JH} (g : Gd G h) {a1 : Int} (la1 : (-2147483648) ≤ a1) (ua1 : a1 ≤ 2147483647) {a2 : Int} (la2 : (-2147483648) ≤ a2) (ua2 : a2 ≤ 2147483647) {a3 : Int} (la3 : (-2147483648) ≤ a3) (ua3 : a3 ≤ 2147483647) {a4 : Int} (la4 : (-2147483648) ≤ a4) (ua4 : a4 ≤ 2147483647) : jOk 204 0 0 306 [(2, 42), (0, a1), (0, a2), (0, a3), (0, a4)] h (PI G [(46, 0), (47, 0), (42, 6), (42, 9), (42, 37), (42, 38), (42, 39), (42, 40), (64, 0), (65, 0)] h 1 (-9223372036854775808) 9223372036854775807) := by
  refine ⟨by decide, by rw [ml306]; exact Nat.le_of_ble_eq_true rfl, ?_⟩
  rw [ml306, pp306]
  show jEv _ none _ c306_0 0 0 _ (c306_0, [(2, 42), (0, a1), (0, a2), (0, a3), (0, a4), (9, 0)], [], h, 0, 0)
  have k0 := Kp.rf [(46, 0), (47, 0), (42, 6), (42, 9), (42, 37), (42, 38), (42, 39), (42, 40), (64, 0), (65, 0)] h
  refine ev_aload_n rfl ?_
  refine ev_iload_n rfl ?_
  refine ev_iload_n rfl ?_
  refine ev_in (d := 202) (a := 0) (b := 0) (cd' := c277_0) (m := 3) (L0 := [(2, 42), (0, a1), (0, a2)]) (jcall_v (A := [(0, a2), (0, a1)]) (S' := []) (r := 42) rfl (g.lt ad42) (g.tg ad42) (Nat.le_of_ble_eq_true rfl)) (by decide) ml277 pp277 (Nat.le_of_ble_eq_true rfl) rfl (by decide) (by decide) ?_
  refine ev_aload_n rfl ?_
  refine ev_iload_n rfl ?_
  refine ev_iload_n rfl ?_
  refine ev_in (d := 201) (a := 0) (b := 0) (cd' := c262_0) (m := 3) (L0 := [(2, 42), (0, a1), (0, a2)]) (jcall_v (A := [(0, a2), (0, a1)]) (S' := []) (r := 42) rfl (g.lt ad42) (g.tg ad42) (Nat.le_of_ble_eq_true rfl)) (by decide) ml262 pp262 (Nat.le_of_ble_eq_true rfl) rfl (by decide) (by decide) ?_
  refine ev_aload_n rfl ?_
  refine ev_iload_n rfl ?_
  refine ev_in (d := 200) (a := 0) (b := 0) (cd' := c261_0) (m := 2) (L0 := [(2, 42), (0, a1)]) (jcall_v (A := [(0, a1)]) (S' := []) (r := 42) rfl (g.lt ad42) (g.tg ad42) (Nat.le_of_ble_eq_true rfl)) (by decide) ml261 pp261 (Nat.le_of_ble_eq_true rfl) rfl (by decide) (by decide) ?_
  refine ev_iload_n rfl ?_
  refine ev_iconst ?_
  refine ev_aload_n rfl ?_
  obtain ⟨v57911, ev57911, lv57911, uv57911⟩ := g.rd ad42 (show 9 < 66 by decide) rf42_9
  refine g_getv (r := 42) (v := v57911) g ad42 (by decide) ft12_9 ev57911 ?_
  refine ev_iconst ?_
  refine ev_isub (r := (v57911 - 1)) (by unfold w32; omega) ?_
  refine ev_in (d := 199) (a := 0) (b := 0) (cd' := c242_0) (m := 3) (L0 := [(0, a1), (0, 0), (0, (v57911 - 1))]) (jcall_s (A := [(0, (v57911 - 1)), (0, 0), (0, a1)]) (S' := []) (by decide) rfl (Nat.le_of_ble_eq_true rfl)) (by decide) ml242 pp242 (Nat.le_of_ble_eq_true rfl) rfl (by decide) (by decide) ?_
  refine ev_iload_n rfl ?_
  refine ev_iload_n rfl ?_
  refine ev_icmplt f242_14 (fun c57912 => ?_) (fun c57912 => ?_)
  · refine ev_iconst ?_
    refine ev_ret rfl (by decide) (by decide) ?_
    show jEv _ _ _ _ _ _ _ (_, [(2, 42), (0, a1)], [(0, 0)], _, _, _)
    refine ev_ret rfl (by decide) (by decide) ?_
    show jEv _ _ _ _ _ _ _ (_, [(2, 42), (0, a1), (0, a2)], [(0, 0)], _, _, _)
    refine ev_ifeq f262_28 (fun c57913 => ?_) (fun c57913 => absurd c57913 (by omega))
    refine ev_iconst ?_
    refine ev_ret rfl (by decide) (by decide) ?_
    show jEv _ _ _ _ _ _ _ (_, [(2, 42), (0, a1), (0, a2)], [(0, 0)], _, _, _)
    refine ev_ifeq f277_28 (fun c57914 => ?_) (fun c57914 => absurd c57914 (by omega))
    refine ev_iconst ?_
    refine ev_ret rfl (by decide) (by decide) ?_
    show jEv _ _ _ _ _ _ _ (_, [(2, 42), (0, a1), (0, a2), (0, a3), (0, a4), (9, 0)], [(0, 0)], _, _, _)
    refine ev_ifeq f306_40 (fun c57915 => ?_) (fun c57915 => absurd c57915 (by omega))
    refine ev_ldc2_w ?_
    exact ev_ret rfl (by decide) (by decide) ⟨_, rfl, by omega, by omega, g, k0⟩
  · refine ev_iload_n rfl ?_
    refine ev_iload_n rfl ?_
    refine ev_icmpgt f242_14 (fun c57916 => ?_) (fun c57916 => ?_)
    · refine ev_iconst ?_
      refine ev_ret rfl (by decide) (by decide) ?_
      show jEv _ _ _ _ _ _ _ (_, [(2, 42), (0, a1)], [(0, 0)], _, _, _)
      refine ev_ret rfl (by decide) (by decide) ?_
      show jEv _ _ _ _ _ _ _ (_, [(2, 42), (0, a1), (0, a2)], [(0, 0)], _, _, _)
      refine ev_ifeq f262_28 (fun c57917 => ?_) (fun c57917 => absurd c57917 (by omega))
      refine ev_iconst ?_
      refine ev_ret rfl (by decide) (by decide) ?_
      show jEv _ _ _ _ _ _ _ (_, [(2, 42), (0, a1), (0, a2)], [(0, 0)], _, _, _)
      refine ev_ifeq f277_28 (fun c57918 => ?_) (fun c57918 => absurd c57918 (by omega))
      refine ev_iconst ?_
      refine ev_ret rfl (by decide) (by decide) ?_
      show jEv _ _ _ _ _ _ _ (_, [(2, 42), (0, a1), (0, a2), (0, a3), (0, a4), (9, 0)], [(0, 0)], _, _, _)
      refine ev_ifeq f306_40 (fun c57919 => ?_) (fun c57919 => absurd c57919 (by omega))
      refine ev_ldc2_w ?_
      exact ev_ret rfl (by decide) (by decide) ⟨_, rfl, by omega, by omega, g, k0⟩
    · refine ev_iconst ?_
      refine ev_goto f242_15 ?_
      refine ev_ret rfl (by decide) (by decide) ?_
      show jEv _ _ _ _ _ _ _ (_, [(2, 42), (0, a1)], [(0, 1)], _, _, _)
      refine ev_ret rfl (by decide) (by decide) ?_
      show jEv _ _ _ _ _ _ _ (_, [(2, 42), (0, a1), (0, a2)], [(0, 1)], _, _, _)
      refine ev_ifeq f262_28 (fun c57920 => absurd c57920 (by omega)) (fun c57920 => ?_)
      refine ev_iload_n rfl ?_
      refine ev_iconst ?_
      refine ev_aload_n rfl ?_
      refine g_getp (r := 42) (c := 48) g ad42 (by decide) (by decide) rf42_10 ft12_10 ?_
      refine ev_iload_n rfl ?_
      refine g_iald g ad48 rt48 (by omega) (by omega) (fun v57921 ev57921 lv57921 uv57921 => ?_)
      have zv57921 := g.n48 (q := a1) (by omega) (by rw [(ev57911)]; omega) ev57921
      refine ev_iconst ?_
      refine ev_isub (r := (v57921 - 1)) (by unfold w32; omega) ?_
      refine ev_in (d := 200) (a := 0) (b := 0) (cd' := c242_0) (m := 3) (L0 := [(0, a2), (0, 0), (0, (v57921 - 1))]) (jcall_s (A := [(0, (v57921 - 1)), (0, 0), (0, a2)]) (S' := []) (by decide) rfl (Nat.le_of_ble_eq_true rfl)) (by decide) ml242 pp242 (Nat.le_of_ble_eq_true rfl) rfl (by decide) (by decide) ?_
      refine ev_iload_n rfl ?_
      refine ev_iload_n rfl ?_
      refine ev_icmplt f242_14 (fun c57922 => ?_) (fun c57922 => ?_)
      · refine ev_iconst ?_
        refine ev_ret rfl (by decide) (by decide) ?_
        show jEv _ _ _ _ _ _ _ (_, [(2, 42), (0, a1), (0, a2)], [(0, 0)], _, _, _)
        refine ev_ifeq f262_28 (fun c57923 => ?_) (fun c57923 => absurd c57923 (by omega))
        refine ev_iconst ?_
        refine ev_ret rfl (by decide) (by decide) ?_
        show jEv _ _ _ _ _ _ _ (_, [(2, 42), (0, a1), (0, a2)], [(0, 0)], _, _, _)
        refine ev_ifeq f277_28 (fun c57924 => ?_) (fun c57924 => absurd c57924 (by omega))
        refine ev_iconst ?_
        refine ev_ret rfl (by decide) (by decide) ?_
        show jEv _ _ _ _ _ _ _ (_, [(2, 42), (0, a1), (0, a2), (0, a3), (0, a4), (9, 0)], [(0, 0)], _, _, _)
        refine ev_ifeq f306_40 (fun c57925 => ?_) (fun c57925 => absurd c57925 (by omega))
        refine ev_ldc2_w ?_
        exact ev_ret rfl (by decide) (by decide) ⟨_, rfl, by omega, by omega, g, k0⟩
      · refine ev_iload_n rfl ?_
        refine ev_iload_n rfl ?_
        refine ev_icmpgt f242_14 (fun c57926 => ?_) (fun c57926 => ?_)
        · refine ev_iconst ?_
          refine ev_ret rfl (by decide) (by decide) ?_
          show jEv _ _ _ _ _ _ _ (_, [(2, 42), (0, a1), (0, a2)], [(0, 0)], _, _, _)
          refine ev_ifeq f262_28 (fun c57927 => ?_) (fun c57927 => absurd c57927 (by omega))
          refine ev_iconst ?_
          refine ev_ret rfl (by decide) (by decide) ?_
          show jEv _ _ _ _ _ _ _ (_, [(2, 42), (0, a1), (0, a2)], [(0, 0)], _, _, _)
          refine ev_ifeq f277_28 (fun c57928 => ?_) (fun c57928 => absurd c57928 (by omega))
          refine ev_iconst ?_
          refine ev_ret rfl (by decide) (by decide) ?_
          show jEv _ _ _ _ _ _ _ (_, [(2, 42), (0, a1), (0, a2), (0, a3), (0, a4), (9, 0)], [(0, 0)], _, _, _)
          refine ev_ifeq f306_40 (fun c57929 => ?_) (fun c57929 => absurd c57929 (by omega))
          refine ev_ldc2_w ?_
          exact ev_ret rfl (by decide) (by decide) ⟨_, rfl, by omega, by omega, g, k0⟩
        · refine ev_iconst ?_
          refine ev_goto f242_15 ?_
          refine ev_ret rfl (by decide) (by decide) ?_
          show jEv _ _ _ _ _ _ _ (_, [(2, 42), (0, a1), (0, a2)], [(0, 1)], _, _, _)
          refine ev_ifeq f262_28 (fun c57930 => absurd c57930 (by omega)) (fun c57930 => ?_)
          refine ev_iconst ?_
          refine ev_goto f262_29 ?_
          refine ev_ret rfl (by decide) (by decide) ?_
          show jEv _ _ _ _ _ _ _ (_, [(2, 42), (0, a1), (0, a2)], [(0, 1)], _, _, _)
          refine ev_ifeq f277_28 (fun c57931 => absurd c57931 (by omega)) (fun c57931 => ?_)
          refine ev_aload_n rfl ?_
          refine g_getp (r := 42) (c := 49) g ad42 (by decide) (by decide) rf42_11 ft12_11 ?_
          refine ev_bipush ?_
          refine ev_iload_n rfl ?_
          refine ev_imul (r := (100 * a1)) (by unfold w32; omega) ?_
          refine ev_iload_n rfl ?_
          refine ev_iadd (r := (100 * a1 + a2)) (by unfold w32; omega) ?_
          refine g_bald g ad49 rt49 (by omega) (by omega) (fun v57932 ev57932 lv57932 uv57932 => ?_)
          refine ev_iconst ?_
          refine ev_icmpne f277_28 (fun c57933 => ?_) (fun c57933 => ?_)
          · refine ev_iconst ?_
            refine ev_ret rfl (by decide) (by decide) ?_
            show jEv _ _ _ _ _ _ _ (_, [(2, 42), (0, a1), (0, a2), (0, a3), (0, a4), (9, 0)], [(0, 0)], _, _, _)
            refine ev_ifeq f306_40 (fun c57934 => ?_) (fun c57934 => absurd c57934 (by omega))
            refine ev_ldc2_w ?_
            exact ev_ret rfl (by decide) (by decide) ⟨_, rfl, by omega, by omega, g, k0⟩
          · refine ev_iconst ?_
            refine ev_goto f277_29 ?_
            refine ev_ret rfl (by decide) (by decide) ?_
            show jEv _ _ _ _ _ _ _ (_, [(2, 42), (0, a1), (0, a2), (0, a3), (0, a4), (9, 0)], [(0, 1)], _, _, _)
            refine ev_ifeq f306_40 (fun c57935 => absurd c57935 (by omega)) (fun c57935 => ?_)
            refine ev_iload_n rfl ?_
            refine ev_iconst ?_
            refine ev_aload_n rfl ?_
            refine g_getp (r := 42) (c := 50) g ad42 (by decide) (by decide) rf42_12 ft12_12 ?_
            refine ev_bipush ?_
            refine ev_iload_n rfl ?_
            refine ev_imul (r := (100 * a1)) (by unfold w32; omega) ?_
            refine ev_iload_n rfl ?_
            refine ev_iadd (r := (100 * a1 + a2)) (by unfold w32; omega) ?_
            refine g_iald g ad50 rt50 (by omega) (by omega) (fun v57936 ev57936 lv57936 uv57936 => ?_)
            have xv57936 := g.nd1 (q := a1) (n := a2) (by omega) (by rw [(ev57911)]; omega) (by omega) (by rw [(ev57921)]; omega) (i := (100 * a1 + a2)) (by omega) (by rw [(ev57932)]; omega) ev57936
            refine ev_iconst ?_
            refine ev_isub (r := (v57936 - 1)) (by unfold w32; omega) ?_
            refine ev_in (d := 202) (a := 0) (b := 0) (cd' := c242_0) (m := 3) (L0 := [(0, a3), (0, 0), (0, (v57936 - 1))]) (jcall_s (A := [(0, (v57936 - 1)), (0, 0), (0, a3)]) (S' := []) (by decide) rfl (Nat.le_of_ble_eq_true rfl)) (by decide) ml242 pp242 (Nat.le_of_ble_eq_true rfl) rfl (by decide) (by decide) ?_
            refine ev_iload_n rfl ?_
            refine ev_iload_n rfl ?_
            refine ev_icmplt f242_14 (fun c57937 => ?_) (fun c57937 => ?_)
            · refine ev_iconst ?_
              refine ev_ret rfl (by decide) (by decide) ?_
              show jEv _ _ _ _ _ _ _ (_, [(2, 42), (0, a1), (0, a2), (0, a3), (0, a4), (9, 0)], [(0, 0)], _, _, _)
              refine ev_ifeq f306_40 (fun c57938 => ?_) (fun c57938 => absurd c57938 (by omega))
              refine ev_ldc2_w ?_
              exact ev_ret rfl (by decide) (by decide) ⟨_, rfl, by omega, by omega, g, k0⟩
            · refine ev_iload_n rfl ?_
              refine ev_iload_n rfl ?_
              refine ev_icmpgt f242_14 (fun c57939 => ?_) (fun c57939 => ?_)
              · refine ev_iconst ?_
                refine ev_ret rfl (by decide) (by decide) ?_
                show jEv _ _ _ _ _ _ _ (_, [(2, 42), (0, a1), (0, a2), (0, a3), (0, a4), (9, 0)], [(0, 0)], _, _, _)
                refine ev_ifeq f306_40 (fun c57940 => ?_) (fun c57940 => absurd c57940 (by omega))
                refine ev_ldc2_w ?_
                exact ev_ret rfl (by decide) (by decide) ⟨_, rfl, by omega, by omega, g, k0⟩
              · refine ev_iconst ?_
                refine ev_goto f242_15 ?_
                refine ev_ret rfl (by decide) (by decide) ?_
                show jEv _ _ _ _ _ _ _ (_, [(2, 42), (0, a1), (0, a2), (0, a3), (0, a4), (9, 0)], [(0, 1)], _, _, _)
                refine ev_ifeq f306_40 (fun c57941 => absurd c57941 (by omega)) (fun c57941 => ?_)
                refine ev_iload rfl ?_
                refine ev_iconst ?_
                refine ev_iconst ?_
                refine ev_in (d := 202) (a := 0) (b := 0) (cd' := c242_0) (m := 3) (L0 := [(0, a4), (0, 0), (0, 1)]) (jcall_s (A := [(0, 1), (0, 0), (0, a4)]) (S' := []) (by decide) rfl (Nat.le_of_ble_eq_true rfl)) (by decide) ml242 pp242 (Nat.le_of_ble_eq_true rfl) rfl (by decide) (by decide) ?_
                refine ev_iload_n rfl ?_
                refine ev_iload_n rfl ?_
                refine ev_icmplt f242_14 (fun c57942 => ?_) (fun c57942 => ?_)
                · refine ev_iconst ?_
                  refine ev_ret rfl (by decide) (by decide) ?_
                  show jEv _ _ _ _ _ _ _ (_, [(2, 42), (0, a1), (0, a2), (0, a3), (0, a4), (9, 0)], [(0, 0)], _, _, _)
                  refine ev_ifne f306_44 (fun c57943 => absurd c57943 (by omega)) (fun c57943 => ?_)
                  refine ev_ldc2_w ?_
                  exact ev_ret rfl (by decide) (by decide) ⟨_, rfl, by omega, by omega, g, k0⟩
                · refine ev_iload_n rfl ?_
                  refine ev_iload_n rfl ?_
                  refine ev_icmpgt f242_14 (fun c57944 => ?_) (fun c57944 => ?_)
                  · refine ev_iconst ?_
                    refine ev_ret rfl (by decide) (by decide) ?_
                    show jEv _ _ _ _ _ _ _ (_, [(2, 42), (0, a1), (0, a2), (0, a3), (0, a4), (9, 0)], [(0, 0)], _, _, _)
                    refine ev_ifne f306_44 (fun c57945 => absurd c57945 (by omega)) (fun c57945 => ?_)
                    refine ev_ldc2_w ?_
                    exact ev_ret rfl (by decide) (by decide) ⟨_, rfl, by omega, by omega, g, k0⟩
                  · refine ev_iconst ?_
                    refine ev_goto f242_15 ?_
                    refine ev_ret rfl (by decide) (by decide) ?_
                    show jEv _ _ _ _ _ _ _ (_, [(2, 42), (0, a1), (0, a2), (0, a3), (0, a4), (9, 0)], [(0, 1)], _, _, _)
                    refine ev_ifne f306_44 (fun c57946 => ?_) (fun c57946 => absurd c57946 (by omega))
                    refine ev_aload_n rfl ?_
                    refine ev_call (jcall_v (A := []) (S' := []) (r := 42) rfl (g.lt ad42) (g.tg ad42) (Nat.le_of_ble_eq_true rfl)) (jOk_le (by decide) (s256w g )) (by decide) (by decide) (fun w57947 h57947 q57947 => ?_)
                    obtain ⟨q57947, sw57947⟩ := q57947
                    obtain ⟨v57948, rfl, lv57948, uv57948, g57947, kk57947⟩ := q57947
                    have k57947 := k0.tr kk57947 (by decide)
                    show jEv _ _ _ _ _ _ _ (_, [(2, 42), (0, a1), (0, a2), (0, a3), (0, a4), (9, 0)], [(0, v57948)], _, _, _)
                    refine ev_ifne f306_55 (fun c57949 => ?_) (fun c57949 => ?_)
                    · refine ev_aload_n rfl ?_
                      refine ev_iload_n rfl ?_
                      refine ev_iconst ?_
                      refine ev_iconst ?_
                      refine ev_iconst ?_
                      refine ev_in (d := 202) (a := 0) (b := 0) (cd' := c291_0) (m := 6) (L0 := [(2, 42), (0, a1), (0, 0), (0, 0), (0, 0), (9, 0)]) (jcall_v (A := [(0, 0), (0, 0), (0, 0), (0, a1)]) (S' := []) (r := 42) rfl (g57947.lt ad42) (g57947.tg ad42) (Nat.le_of_ble_eq_true rfl)) (by decide) ml291 pp291 (Nat.le_of_ble_eq_true rfl) rfl (by decide) (by decide) ?_
                      refine ev_aload_n rfl ?_
                      refine ev_iload_n rfl ?_
                      refine g_putf (r := 42) g57947 ad42 (by decide) ft12_36 (by decide) (fun e => absurd e nz12_36) rf42_36 (by decide) (by omega) (by omega) (fun h57950 e57950 g57950 => ?_)
                      have k57950 := k57947.wr e57950 rfl
                      refine ev_aload_n rfl ?_
                      refine ev_iload_n rfl ?_
                      refine g_putf (r := 42) g57950 ad42 (by decide) ft12_37 (by decide) (fun e => absurd e nz12_37) rf42_37 (by decide) (by omega) (by omega) (fun h57951 e57951 g57951 => ?_)
                      have k57951 := k57950.wr e57951 rfl
                      refine ev_aload_n rfl ?_
                      refine ev_iload_n rfl ?_
                      refine g_putf (r := 42) g57951 ad42 (by decide) ft12_38 (by decide) (fun e => absurd e nz12_38) rf42_38 (by decide) (by omega) (by omega) (fun h57952 e57952 g57952 => ?_)
                      have k57952 := k57951.wr e57952 rfl
                      refine ev_aload_n rfl ?_
                      refine ev_iload rfl ?_
                      refine g_putf (r := 42) g57952 ad42 (by decide) ft12_39 (by decide) (fun _ => by omega) rf42_39 (by decide) (by omega) (by omega) (fun h57953 e57953 g57953 => ?_)
                      have k57953 := k57952.wr e57953 rfl
                      refine ev_iconst ?_
                      refine ev_istore (L' := [(2, 42), (0, a1), (0, 0), (0, 0), (0, 0), (0, 0)]) (Nat.le_of_ble_eq_true rfl) rfl ?_
                      refine ev_iload rfl ?_
                      refine ev_iconst ?_
                      refine ev_icmpge f291_44 (fun c57954 => absurd c57954 (by omega)) (fun c57954 => ?_)
                      refine ev_aload_n rfl ?_
                      refine g_getp (r := 42) (c := 64) g57953 ad42 (by decide) (by decide) rf42_34 ft12_34 ?_
                      refine ev_iload rfl ?_
                      refine ev_iconst ?_
                      refine g_iast g57953 ad64 rt64 (fun _ => rfl) (by omega) (by omega) (by omega) (by omega) (fun h57955 e57955 g57955 => ?_)
                      have k57955 := k57953.wr e57955 rfl
                      refine ev_iinc (w := 1) (L' := [(2, 42), (0, a1), (0, 0), (0, 0), (0, 0), (0, 1)]) rfl (by decide) rfl ?_
                      refine ev_goto f291_24 ?_
                      refine ev_iload rfl ?_
                      refine ev_iconst ?_
                      refine ev_icmpge f291_44 (fun c57956 => absurd c57956 (by omega)) (fun c57956 => ?_)
                      refine ev_aload_n rfl ?_
                      refine g_getp (r := 42) (c := 64) g57955 ad42 (by decide) (by decide) rf42_34 ft12_34 ?_
                      refine ev_iload rfl ?_
                      refine ev_iconst ?_
                      refine g_iast g57955 ad64 rt64 (fun _ => rfl) (by omega) (by omega) (by omega) (by omega) (fun h57957 e57957 g57957 => ?_)
                      have k57957 := k57955.wr e57957 rfl
                      refine ev_iinc (w := 2) (L' := [(2, 42), (0, a1), (0, 0), (0, 0), (0, 0), (0, 2)]) rfl (by decide) rfl ?_
                      refine ev_goto f291_24 ?_
                      refine ev_iload rfl ?_
                      refine ev_iconst ?_
                      refine ev_icmpge f291_44 (fun c57958 => absurd c57958 (by omega)) (fun c57958 => ?_)
                      refine ev_aload_n rfl ?_
                      refine g_getp (r := 42) (c := 64) g57957 ad42 (by decide) (by decide) rf42_34 ft12_34 ?_
                      refine ev_iload rfl ?_
                      refine ev_iconst ?_
                      refine g_iast g57957 ad64 rt64 (fun _ => rfl) (by omega) (by omega) (by omega) (by omega) (fun h57959 e57959 g57959 => ?_)
                      have k57959 := k57957.wr e57959 rfl
                      refine ev_iinc (w := 3) (L' := [(2, 42), (0, a1), (0, 0), (0, 0), (0, 0), (0, 3)]) rfl (by decide) rfl ?_
                      refine ev_goto f291_24 ?_
                      refine ev_iload rfl ?_
                      refine ev_iconst ?_
                      refine ev_icmpge f291_44 (fun c57960 => absurd c57960 (by omega)) (fun c57960 => ?_)
                      refine ev_aload_n rfl ?_
                      refine g_getp (r := 42) (c := 64) g57959 ad42 (by decide) (by decide) rf42_34 ft12_34 ?_
                      refine ev_iload rfl ?_
                      refine ev_iconst ?_
                      refine g_iast g57959 ad64 rt64 (fun _ => rfl) (by omega) (by omega) (by omega) (by omega) (fun h57961 e57961 g57961 => ?_)
                      have k57961 := k57959.wr e57961 rfl
                      refine ev_iinc (w := 4) (L' := [(2, 42), (0, a1), (0, 0), (0, 0), (0, 0), (0, 4)]) rfl (by decide) rfl ?_
                      refine ev_goto f291_24 ?_
                      refine ev_iload rfl ?_
                      refine ev_iconst ?_
                      refine ev_icmpge f291_44 (fun c57962 => ?_) (fun c57962 => absurd c57962 (by omega))
                      refine ev_ret rfl (by decide) (by decide) ?_
                      show jEv _ _ _ _ _ _ _ (_, [(2, 42), (0, a1), (0, a2), (0, a3), (0, a4), (9, 0)], [], _, _, _)
                      refine ev_aload_n rfl ?_
                      refine ev_iconst ?_
                      refine ev_iload_n rfl ?_
                      refine ev_call (jcall_v (A := [(0, a2), (0, 0)]) (S' := []) (r := 42) rfl (g57961.lt ad42) (g57961.tg ad42) (Nat.le_of_ble_eq_true rfl)) (jOk_le (by decide) (s305 g57961 (by omega) (by omega) (by omega) (by omega) (((jw_ne e57961 (Or.inl (by decide))).trans ((jw_ne e57959 (Or.inl (by decide))).trans ((jw_ne e57957 (Or.inl (by decide))).trans ((jw_ne e57955 (Or.inl (by decide))).trans ((jw_ne e57953 (Or.inr (by decide))).trans ((jw_ne e57952 (Or.inr (by decide))).trans ((jw_ne e57951 (Or.inr (by decide))).trans (jw_eq e57950))))))))) (by omega) (by omega) (((jw_ne e57961 (Or.inl (by decide))).trans ((jw_ne e57959 (Or.inl (by decide))).trans ((jw_ne e57957 (Or.inl (by decide))).trans ((jw_ne e57955 (Or.inl (by decide))).trans ((jw_ne e57953 (Or.inr (by decide))).trans ((jw_ne e57952 (Or.inr (by decide))).trans ((jw_ne e57951 (Or.inr (by decide))).trans ((jw_ne e57950 (Or.inr (by decide))).trans ((kk57947.v (by decide)).trans ev57911)))))))))) (by omega) (by omega) (((jw_ne e57961 (Or.inl (by decide))).trans ((jw_ne e57959 (Or.inl (by decide))).trans ((jw_ne e57957 (Or.inl (by decide))).trans ((jw_ne e57955 (Or.inl (by decide))).trans ((jw_ne e57953 (Or.inl (by decide))).trans ((jw_ne e57952 (Or.inl (by decide))).trans ((jw_ne e57951 (Or.inl (by decide))).trans ((jw_ne e57950 (Or.inl (by decide))).trans ((kk57947.v rfl).trans ev57921)))))))))) (by omega) (by omega) (by omega) (by omega))) (by decide) (by decide) (fun w57963 h57963 q57963 => ?_)
                      obtain ⟨v57964, rfl, lv57964, uv57964, g57963, kk57963⟩ := q57963
                      have k57963 := k57961.tr kk57963 (by decide)
                      show jEv _ _ _ _ _ _ _ (_, [(2, 42), (0, a1), (0, a2), (0, a3), (0, a4), (9, 0)], [(0, v57964)], _, _, _)
                      refine ev_ifne f306_76 (fun c57965 => ?_) (fun c57965 => ?_)
                      · refine ev_iconst ?_
                        refine ev_bipush ?_
                        refine ev_iload_n rfl ?_
                        refine ev_imul (r := (100 * a1)) (by unfold w32; omega) ?_
                        refine ev_iload_n rfl ?_
                        refine ev_iadd (r := (100 * a1 + a2)) (by unfold w32; omega) ?_
                        refine ev_imul (r := (400 * a1 + 4 * a2)) (by unfold w32; omega) ?_
                        refine ev_iload_n rfl ?_
                        refine ev_iadd (r := (400 * a1 + 4 * a2 + a3)) (by unfold w32; omega) ?_
                        refine ev_istore (L' := [(2, 42), (0, a1), (0, a2), (0, a3), (0, a4), (0, (400 * a1 + 4 * a2 + a3))]) (Nat.le_of_ble_eq_true rfl) rfl ?_
                        refine ev_aload_n rfl ?_
                        refine ev_aload_n rfl ?_
                        refine g_getp (r := 42) (c := 51) g57963 ad42 (by decide) (by decide) rf42_13 ft12_13 ?_
                        refine ev_iload rfl ?_
                        refine g_bald g57963 ad51 rt51 (by omega) (by omega) (fun v57966 ev57966 lv57966 uv57966 => ?_)
                        have xv57966 := g57963.nd1c (q := a1) (n := a2) (by omega) (by rw [(((kk57963.v (by decide)).trans ((jw_ne e57961 (Or.inl (by decide))).trans ((jw_ne e57959 (Or.inl (by decide))).trans ((jw_ne e57957 (Or.inl (by decide))).trans ((jw_ne e57955 (Or.inl (by decide))).trans ((jw_ne e57953 (Or.inr (by decide))).trans ((jw_ne e57952 (Or.inr (by decide))).trans ((jw_ne e57951 (Or.inr (by decide))).trans ((jw_ne e57950 (Or.inr (by decide))).trans ((kk57947.v (by decide)).trans ev57911)))))))))))]; omega) (by omega) (by rw [(((kk57963.v rfl).trans ((jw_ne e57961 (Or.inl (by decide))).trans ((jw_ne e57959 (Or.inl (by decide))).trans ((jw_ne e57957 (Or.inl (by decide))).trans ((jw_ne e57955 (Or.inl (by decide))).trans ((jw_ne e57953 (Or.inl (by decide))).trans ((jw_ne e57952 (Or.inl (by decide))).trans ((jw_ne e57951 (Or.inl (by decide))).trans ((jw_ne e57950 (Or.inl (by decide))).trans ((kk57947.v rfl).trans ev57921)))))))))))]; omega) (i := (100 * a1 + a2)) (by omega) (by rw [(((kk57963.v rfl).trans ((jw_ne e57961 (Or.inl (by decide))).trans ((jw_ne e57959 (Or.inl (by decide))).trans ((jw_ne e57957 (Or.inl (by decide))).trans ((jw_ne e57955 (Or.inl (by decide))).trans ((jw_ne e57953 (Or.inl (by decide))).trans ((jw_ne e57952 (Or.inl (by decide))).trans ((jw_ne e57951 (Or.inl (by decide))).trans ((jw_ne e57950 (Or.inl (by decide))).trans ((kk57947.v rfl).trans ev57932)))))))))))]; omega) (((kk57963.v rfl).trans ((jw_ne e57961 (Or.inl (by decide))).trans ((jw_ne e57959 (Or.inl (by decide))).trans ((jw_ne e57957 (Or.inl (by decide))).trans ((jw_ne e57955 (Or.inl (by decide))).trans ((jw_ne e57953 (Or.inl (by decide))).trans ((jw_ne e57952 (Or.inl (by decide))).trans ((jw_ne e57951 (Or.inl (by decide))).trans ((jw_ne e57950 (Or.inl (by decide))).trans ((kk57947.v rfl).trans ev57936))))))))))) (w := a3) (by omega) (by omega) (j := (400 * a1 + 4 * a2 + a3)) (by omega) ev57966
                        rw [(((kk57963.v rfl).trans ((jw_ne e57961 (Or.inl (by decide))).trans ((jw_ne e57959 (Or.inl (by decide))).trans ((jw_ne e57957 (Or.inl (by decide))).trans ((jw_ne e57955 (Or.inl (by decide))).trans ((jw_ne e57953 (Or.inl (by decide))).trans ((jw_ne e57952 (Or.inl (by decide))).trans ((jw_ne e57951 (Or.inl (by decide))).trans ((jw_ne e57950 (Or.inl (by decide))).trans ((kk57947.v rfl).trans ev57921)))))))))))] at xv57966
                        refine ev_aload_n rfl ?_
                        refine g_getp (r := 42) (c := 52) g57963 ad42 (by decide) (by decide) rf42_14 ft12_14 ?_
                        refine ev_iload rfl ?_
                        refine g_iald g57963 ad52 rt52 (by omega) (by omega) (fun v57967 ev57967 lv57967 uv57967 => ?_)
                        obtain ⟨N57968, e57968, S57968, tr57968⟩ := g57963.tr (q := a1) (n := v57966) (by omega) (by rw [(((kk57963.v (by decide)).trans ((jw_ne e57961 (Or.inl (by decide))).trans ((jw_ne e57959 (Or.inl (by decide))).trans ((jw_ne e57957 (Or.inl (by decide))).trans ((jw_ne e57955 (Or.inl (by decide))).trans ((jw_ne e57953 (Or.inr (by decide))).trans ((jw_ne e57952 (Or.inr (by decide))).trans ((jw_ne e57951 (Or.inr (by decide))).trans ((jw_ne e57950 (Or.inr (by decide))).trans ((kk57947.v (by decide)).trans ev57911)))))))))))]; omega) (by omega) (by rw [(((kk57963.v rfl).trans ((jw_ne e57961 (Or.inl (by decide))).trans ((jw_ne e57959 (Or.inl (by decide))).trans ((jw_ne e57957 (Or.inl (by decide))).trans ((jw_ne e57955 (Or.inl (by decide))).trans ((jw_ne e57953 (Or.inl (by decide))).trans ((jw_ne e57952 (Or.inl (by decide))).trans ((jw_ne e57951 (Or.inl (by decide))).trans ((jw_ne e57950 (Or.inl (by decide))).trans ((kk57947.v rfl).trans ev57921)))))))))))]; omega)
                        refine ev_call (jcall_v (A := [(0, v57967), (0, v57966)]) (S' := []) (r := 42) rfl (g57963.lt ad42) (g57963.tg ad42) (Nat.le_of_ble_eq_true rfl)) (jOk_le (by decide) (s294 g57963 (by omega) (by omega) (by omega) (by omega) (((kk57963.v (by decide)).trans ((jw_ne e57961 (Or.inl (by decide))).trans ((jw_ne e57959 (Or.inl (by decide))).trans ((jw_ne e57957 (Or.inl (by decide))).trans ((jw_ne e57955 (Or.inl (by decide))).trans ((jw_ne e57953 (Or.inr (by decide))).trans ((jw_ne e57952 (Or.inr (by decide))).trans ((jw_ne e57951 (Or.inr (by decide))).trans (jw_eq e57950)))))))))) (by omega) (by omega) (((kk57963.v (by decide)).trans ((jw_ne e57961 (Or.inl (by decide))).trans ((jw_ne e57959 (Or.inl (by decide))).trans ((jw_ne e57957 (Or.inl (by decide))).trans ((jw_ne e57955 (Or.inl (by decide))).trans ((jw_ne e57953 (Or.inr (by decide))).trans ((jw_ne e57952 (Or.inr (by decide))).trans ((jw_ne e57951 (Or.inr (by decide))).trans ((jw_ne e57950 (Or.inr (by decide))).trans ((kk57947.v (by decide)).trans ev57911))))))))))) (by omega) (by omega) (((kk57963.v rfl).trans ((jw_ne e57961 (Or.inl (by decide))).trans ((jw_ne e57959 (Or.inl (by decide))).trans ((jw_ne e57957 (Or.inl (by decide))).trans ((jw_ne e57955 (Or.inl (by decide))).trans ((jw_ne e57953 (Or.inl (by decide))).trans ((jw_ne e57952 (Or.inl (by decide))).trans ((jw_ne e57951 (Or.inl (by decide))).trans ((jw_ne e57950 (Or.inl (by decide))).trans ((kk57947.v rfl).trans ev57921))))))))))) (by omega) (by omega) (by omega) (by omega) (by omega) tr57968)) (by decide) (by decide) (fun w57969 h57969 q57969 => ?_)
                        obtain ⟨q57969, vs57969⟩ := q57969
                        obtain ⟨v57970, rfl, lv57970, uv57970, g57969, kk57969⟩ := q57969
                        have k57969 := k57963.tr kk57969 (by decide)
                        show jEv _ _ _ _ _ _ _ (_, [(2, 42), (0, a1), (0, a2), (0, a3), (0, a4), (0, (400 * a1 + 4 * a2 + a3))], [(1, v57970)], _, _, _)
                        refine ev_ldc2_w ?_
                        refine ev_aload_n rfl ?_
                        refine ev_call (jcall_v (A := []) (S' := [(1, 100), (1, v57970)]) (r := 42) rfl (g57969.lt ad42) (g57969.tg ad42) (Nat.le_of_ble_eq_true rfl)) (jOk_le (by decide) (s293 g57969 )) (by decide) (by decide) (fun w57971 h57971 q57971 => ?_)
                        obtain ⟨v57972, rfl, lv57972, uv57972, g57971, kk57971⟩ := q57971
                        have k57971 := k57969.tr kk57971 (by decide)
                        show jEv _ _ _ _ _ _ _ (_, [(2, 42), (0, a1), (0, a2), (0, a3), (0, a4), (0, (400 * a1 + 4 * a2 + a3))], [(1, v57972), (1, 100), (1, v57970)], _, _, _)
                        refine g_lmulG (fun v57973 ev57973 lv57973 uv57973 => ?_)
                        refine ev_iload rfl ?_
                        refine ev_call (jcall_s (A := [(0, a4), (1, v57973), (1, v57970)]) (S' := []) (by decide) rfl (Nat.le_of_ble_eq_true rfl)) (jOk_le (by decide) (s244 g57971 (by omega) (by omega) (by omega) (by omega) (by omega) (by omega))) (by decide) (by decide) (fun w57974 h57974 q57974 => ?_)
                        obtain ⟨v57975, rfl, lv57975, uv57975, g57974, kk57974⟩ := q57974
                        have k57974 := k57971.tr kk57974 (by decide)
                        show jEv _ _ _ _ _ _ _ (_, [(2, 42), (0, a1), (0, a2), (0, a3), (0, a4), (0, (400 * a1 + 4 * a2 + a3))], [(1, v57975)], _, _, _)
                        exact ev_ret rfl (by decide) (by decide) ⟨_, rfl, by omega, by omega, g57974, k57974⟩
                      · refine ev_ldc2_w ?_
                        exact ev_ret rfl (by decide) (by decide) ⟨_, rfl, by omega, by omega, g57963, k57963⟩
                    · refine ev_ldc2_w ?_
                      exact ev_ret rfl (by decide) (by decide) ⟨_, rfl, by omega, by omega, g57947, k57947⟩
set_option maxHeartbeats 4000000 in
theorem s308 {G : GH} {h : JH} (g : Gd G h) {a1 : Int} (la1 : (-2147483648) ≤ a1) (ua1 : a1 ≤ 2147483647) {a2 : Int} (la2 : (-2147483648) ≤ a2) (ua2 : a2 ≤ 2147483647) : jOk 101 0 0 308 [(2, 42), (0, a1), (0, a2)] h (PI G [(42, 41), (42, 42), (42, 43)] h 0 (-2147483648) 2147483647) := by
  refine ⟨by decide, by rw [ml308]; exact Nat.le_of_ble_eq_true rfl, ?_⟩
  rw [ml308, pp308]
  show jEv _ none _ c308_0 0 0 _ (c308_0, [(2, 42), (0, a1), (0, a2)], [], h, 0, 0)
  have k0 := Kp.rf [(42, 41), (42, 42), (42, 43)] h
  refine ev_aload_n rfl ?_
  refine ev_iload_n rfl ?_
  refine ev_in (d := 99) (a := 0) (b := 0) (cd' := c261_0) (m := 2) (L0 := [(2, 42), (0, a1)]) (jcall_v (A := [(0, a1)]) (S' := []) (r := 42) rfl (g.lt ad42) (g.tg ad42) (Nat.le_of_ble_eq_true rfl)) (by decide) ml261 pp261 (Nat.le_of_ble_eq_true rfl) rfl (by decide) (by decide) ?_
  refine ev_iload_n rfl ?_
  refine ev_iconst ?_
  refine ev_aload_n rfl ?_
  obtain ⟨v58008, ev58008, lv58008, uv58008⟩ := g.rd ad42 (show 9 < 66 by decide) rf42_9
  refine g_getv (r := 42) (v := v58008) g ad42 (by decide) ft12_9 ev58008 ?_
  refine ev_iconst ?_
  refine ev_isub (r := (v58008 - 1)) (by unfold w32; omega) ?_
  refine ev_in (d := 98) (a := 0) (b := 0) (cd' := c242_0) (m := 3) (L0 := [(0, a1), (0, 0), (0, (v58008 - 1))]) (jcall_s (A := [(0, (v58008 - 1)), (0, 0), (0, a1)]) (S' := []) (by decide) rfl (Nat.le_of_ble_eq_true rfl)) (by decide) ml242 pp242 (Nat.le_of_ble_eq_true rfl) rfl (by decide) (by decide) ?_
  refine ev_iload_n rfl ?_
  refine ev_iload_n rfl ?_
  refine ev_icmplt f242_14 (fun c58009 => ?_) (fun c58009 => ?_)
  · refine ev_iconst ?_
    refine ev_ret rfl (by decide) (by decide) ?_
    show jEv _ _ _ _ _ _ _ (_, [(2, 42), (0, a1)], [(0, 0)], _, _, _)
    refine ev_ret rfl (by decide) (by decide) ?_
    show jEv _ _ _ _ _ _ _ (_, [(2, 42), (0, a1), (0, a2)], [(0, 0)], _, _, _)
    refine ev_ifeq f308_13 (fun c58010 => ?_) (fun c58010 => absurd c58010 (by omega))
    refine ev_iconst ?_
    exact ev_ret rfl (by decide) (by decide) ⟨_, rfl, by omega, by omega, g, k0⟩
  · refine ev_iload_n rfl ?_
    refine ev_iload_n rfl ?_
    refine ev_icmpgt f242_14 (fun c58011 => ?_) (fun c58011 => ?_)
    · refine ev_iconst ?_
      refine ev_ret rfl (by decide) (by decide) ?_
      show jEv _ _ _ _ _ _ _ (_, [(2, 42), (0, a1)], [(0, 0)], _, _, _)
      refine ev_ret rfl (by decide) (by decide) ?_
      show jEv _ _ _ _ _ _ _ (_, [(2, 42), (0, a1), (0, a2)], [(0, 0)], _, _, _)
      refine ev_ifeq f308_13 (fun c58012 => ?_) (fun c58012 => absurd c58012 (by omega))
      refine ev_iconst ?_
      exact ev_ret rfl (by decide) (by decide) ⟨_, rfl, by omega, by omega, g, k0⟩
    · refine ev_iconst ?_
      refine ev_goto f242_15 ?_
      refine ev_ret rfl (by decide) (by decide) ?_
      show jEv _ _ _ _ _ _ _ (_, [(2, 42), (0, a1)], [(0, 1)], _, _, _)
      refine ev_ret rfl (by decide) (by decide) ?_
      show jEv _ _ _ _ _ _ _ (_, [(2, 42), (0, a1), (0, a2)], [(0, 1)], _, _, _)
      refine ev_ifeq f308_13 (fun c58013 => absurd c58013 (by omega)) (fun c58013 => ?_)
      refine ev_iload_n rfl ?_
      refine ev_iconst ?_
      refine ev_icmpge f308_15 (fun c58014 => ?_) (fun c58014 => ?_)
      · refine ev_aload_n rfl ?_
        refine ev_iconst ?_
        refine g_putf (r := 42) g ad42 (by decide) ft12_40 (by decide) (fun e => absurd e nz12_40) rf42_40 (by decide) (by omega) (by omega) (fun h58015 e58015 g58015 => ?_)
        have k58015 := k0.wr e58015 rfl
        refine ev_aload_n rfl ?_
        refine ev_iload_n rfl ?_
        refine g_putf (r := 42) g58015 ad42 (by decide) ft12_41 (by decide) (fun e => absurd e nz12_41) rf42_41 (by decide) (by omega) (by omega) (fun h58016 e58016 g58016 => ?_)
        have k58016 := k58015.wr e58016 rfl
        refine ev_aload_n rfl ?_
        refine ev_iload_n rfl ?_
        refine ev_iconst ?_
        obtain ⟨v58017, ev58017, lv58017, uv58017⟩ := g58016.rd ad48 (show (a1).toNat < 7 by omega) (rt48 _)
        have zv58017 := g58016.n48 (q := a1) (by omega) (by rw [(((jw_ne e58016 (Or.inr (by decide))).trans ((jw_ne e58015 (Or.inr (by decide))).trans ev58008)))]; omega) ev58017
        refine ev_call (jcall_v (A := [(0, 0), (0, a1)]) (S' := []) (r := 42) rfl (g58016.lt ad42) (g58016.tg ad42) (Nat.le_of_ble_eq_true rfl)) (jOk_le (by decide) (s307 g58016 (by omega) (by omega) (by omega) (by omega) (((jw_ne e58016 (Or.inr (by decide))).trans ((jw_ne e58015 (Or.inr (by decide))).trans ev58008))) (by omega) (by omega) ev58017 (by omega) (by omega) (by omega) (by omega))) (by decide) (by decide) (fun w58018 h58018 q58018 => ?_)
        obtain ⟨rfl, g58018, kk58018⟩ := q58018
        have k58018 := k58016.tr kk58018 (by decide)
        show jEv _ _ _ _ _ _ _ (_, [(2, 42), (0, a1), (0, a2)], [], _, _, _)
        refine ev_iload_n rfl ?_
        refine ev_ifge f308_42 (fun c58019 => ?_) (fun c58019 => ?_)
        · refine ev_iload_n rfl ?_
          refine ev_aload_n rfl ?_
          obtain ⟨v58020, ev58020, lv58020, uv58020⟩ := g58018.rd ad42 (show 40 < 66 by decide) rf42_40
          refine g_getv (r := 42) (v := v58020) g58018 ad42 (by decide) ft12_40 ev58020 ?_
          refine ev_icmpge f308_57 (fun c58021 => ?_) (fun c58021 => ?_)
          · refine ev_iconst ?_
            exact ev_ret rfl (by decide) (by decide) ⟨_, rfl, by omega, by omega, g58018, k58018⟩
          · refine ev_aload_n rfl ?_
            obtain ⟨v58022, ev58022, lv58022, uv58022⟩ := g58018.rd ad42 (show 42 < 66 by decide) rf42_42
            refine g_getv (r := 42) (v := v58022) g58018 ad42 (by decide) ft12_42 ev58022 ?_
            refine ev_goto f308_58 ?_
            exact ev_ret rfl (by decide) (by decide) ⟨_, rfl, by omega, by omega, g58018, k58018⟩
        · refine ev_aload_n rfl ?_
          obtain ⟨v58023, ev58023, lv58023, uv58023⟩ := g58018.rd ad42 (show 40 < 66 by decide) rf42_40
          refine g_getv (r := 42) (v := v58023) g58018 ad42 (by decide) ft12_40 ev58023 ?_
          refine ev_goto f308_58 ?_
          exact ev_ret rfl (by decide) (by decide) ⟨_, rfl, by omega, by omega, g58018, k58018⟩
      · refine ev_iconst ?_
        exact ev_ret rfl (by decide) (by decide) ⟨_, rfl, by omega, by omega, g, k0⟩
