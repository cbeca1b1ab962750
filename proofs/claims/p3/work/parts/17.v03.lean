set_option maxHeartbeats 4000000 in
theorem s273_l {G : GH} {h : JH} {w0 : Int} (ew0 : h.2.2 42 9 = w0) (lw0 : 0 ≤ w0) (uw0 : w0 ≤ 5) (ew1 : h.2.2 42 21 = 0) : ∀ N : Nat, (∀ (h1 : JH) (x1 y0 y1 : Int) (j2 : AV), Gd G h1 → Kp [(42, 21), (42, 22), (49, 0), (50, 0), (51, 0), (52, 0), (53, 0), (42, 20), (55, 0)] h h1 → 0 ≤ x1 → x1 ≤ 200 → h1.2.2 42 19 = y0 → 0 ≤ y0 → y0 ≤ 6 → h1.2.2 42 21 = y1 → 0 ≤ y1 → y1 ≤ 0 → Iv h1 → ((-y0) + 6) < N → jEv (jOk 739) none (fun _ => 0) c273_0 0 0 (fun v h' => PI G [(42, 21), (42, 22), (49, 0), (50, 0), (51, 0), (52, 0), (53, 0), (42, 20), (55, 0)] h 0 (-1) 200 v h' ∧ ∀ r, v = some (0, r) → RA h' w0 r) (c273_7, [(2, 42), (0, x1), j2], [], h1, 0, 0)) := by
  intro N
  induction N with
  | zero => exact fun h1 x1 y0 y1 j2 g1 k1 b0 b1 b2 b3 b4 b5 b6 b7 b8 hm => absurd hm (by omega)
  | succ N ih =>
    show _
    intro h1 x1 y0 y1 j2 g1 k1 b0 b1 ey0 ly0 uy0 ey1 ly1 uy1 H0 hm
    refine ev_aload_n rfl ?_
    refine g_getv (r := 42) (v := y0) g1 ad42 (by decide) ft12_19 (ey0) ?_
    refine ev_bipush ?_
    refine ev_icmpge f273_112 (fun c75017 => ?_) (fun c75017 => ?_)
    · refine ev_aload_n rfl ?_
      refine ev_iload_n rfl ?_
      refine ev_iconst ?_
      refine ev_iconst ?_
      refine ev_iconst ?_
      refine ev_call (jcall_v (A := [(0, 1), (0, 0), (0, 0), (0, x1)]) (S' := []) (r := 42) rfl (g1.lt ad42) (g1.tg ad42) (Nat.le_of_ble_eq_true rfl)) (jOk_le (by decide) (s272i g1 (by omega) (by omega) (by omega) (by omega) (by omega) (by omega) (by omega) (by omega) (by omega) (by omega) (((k1.v (by decide)).trans ew0)) (by omega) (by omega) (ey1) (by omega) (by omega) (l0 := y0) (b0 := 22369621) (by omega) H0 (Lv.top _ (ey0)) (by decide) (Sk.nil _))) (by decide) (by decide) (fun w75018 h75018 q75018 => ?_)
      obtain ⟨q75018, ad75018, ro75018⟩ := q75018
      obtain ⟨v75019, rfl, lv75019, uv75019, g75018, kk75018⟩ := q75018
      have ad75018 := ad75018 _ rfl
      obtain ⟨m75020, em75020, lm75020, um75020, fr75018, pm75018, tr75018⟩ := ro75018 _ rfl
      have k75018 := k1.tr kk75018 (by decide)
      show jEv _ _ _ _ _ _ _ (_, [(2, 42), (0, x1), j2], [(0, v75019)], _, _, _)
      refine ev_istore_n (L' := [(2, 42), (0, v75019), j2]) (Nat.le_of_ble_eq_true rfl) rfl ?_
      refine ev_iload_n rfl ?_
      refine ev_ifge f273_129 (fun c75021 => ?_) (fun c75021 => ?_)
      · refine ev_iload_n rfl ?_
        refine ev_aload_n rfl ?_
        obtain ⟨v75022, ev75022, lv75022, uv75022⟩ := g75018.rd ad42 (show 17 < 66 by decide) rf42_17
        refine g_getv (r := 42) (v := v75022) g75018 ad42 (by decide) ft12_17 ev75022 ?_
        refine ev_icmpge f273_145 (fun c75023 => ?_) (fun c75023 => ?_)
        · refine ev_iload_n rfl ?_
          exact ev_ret rfl (by decide) (by decide) ⟨⟨_, rfl, by omega, by omega, g75018, k75018⟩, fun r hr => by cases hr; exact ⟨_, (em75020), by omega, fun h0 => ⟨by have := pm75018 (by omega); omega, fun hm => Tr.at0 (tr75018 (by omega) hm) (by omega)⟩⟩⟩
        · refine ev_aload_n rfl ?_
          refine ev_iload_n rfl ?_
          refine ev_in (d := 738) (a := 0) (b := 0) (cd' := c266_0) (m := 2) (L0 := [(2, 42), (0, v75019)]) (jcall_v (A := [(0, v75019)]) (S' := []) (r := 42) rfl (g75018.lt ad42) (g75018.tg ad42) (Nat.le_of_ble_eq_true rfl)) (by decide) ml266 pp266 (Nat.le_of_ble_eq_true rfl) rfl (by decide) (by decide) ?_
          refine ev_aload_n rfl ?_
          refine ev_iload_n rfl ?_
          refine g_putf (r := 42) g75018 ad42 (by decide) ft12_20 (by decide) (fun e => absurd e nz12_20) rf42_20 (by decide) (by omega) (by omega) (fun h75024 e75024 g75024 => ?_)
          have k75024 := k75018.wr e75024 rfl
          refine ev_iconst ?_
          refine ev_ret rfl (by decide) (by decide) ?_
          show jEv _ _ _ _ _ _ _ (_, [(2, 42), (0, v75019), j2], [(0, (-1))], _, _, _)
          refine ev_goto f273_146 ?_
          exact ev_ret rfl (by decide) (by decide) ⟨⟨_, rfl, by omega, by omega, g75024, k75024⟩, fun r hr => by cases hr; exact ⟨_, (((jw_ne e75024 (Or.inr (by decide))).trans em75020)), by omega, fun h0 => by exfalso; omega⟩⟩
      · refine ev_iconst ?_
        refine ev_goto f273_146 ?_
        exact ev_ret rfl (by decide) (by decide) ⟨⟨_, rfl, by omega, by omega, g75018, k75018⟩, fun r hr => by cases hr; exact ⟨_, (em75020), by omega, fun h0 => by exfalso; omega⟩⟩
    · refine ev_aload_n rfl ?_
      refine ev_iload_n rfl ?_
      refine ev_in (d := 738) (a := 0) (b := 0) (cd' := c264_0) (m := 2) (L0 := [(2, 42), (0, x1)]) (jcall_v (A := [(0, x1)]) (S' := []) (r := 42) rfl (g1.lt ad42) (g1.tg ad42) (Nat.le_of_ble_eq_true rfl)) (by decide) ml264 pp264 (Nat.le_of_ble_eq_true rfl) rfl (by decide) (by decide) ?_
      refine ev_iload_n rfl ?_
      refine ev_aload_n rfl ?_
      obtain ⟨v75025, ev75025, lv75025, uv75025⟩ := g1.rd ad42 (show 17 < 66 by decide) rf42_17
      refine g_getv (r := 42) (v := v75025) g1 ad42 (by decide) ft12_17 ev75025 ?_
      refine ev_icmpge f264_17 (fun c75026 => ?_) (fun c75026 => ?_)
      · refine ev_iconst ?_
        refine ev_ret rfl (by decide) (by decide) ?_
        show jEv _ _ _ _ _ _ _ (_, [(2, 42), (0, x1), j2], [(0, (-1))], _, _, _)
        refine ev_bipush ?_
        refine ev_aload_n rfl ?_
        refine g_getv (r := 42) (v := y0) g1 ad42 (by decide) ft12_19 (ey0) ?_
        refine ev_iadd (r := (y0 + 65)) (by unfold w32; omega) ?_
        refine ev_icmpne f273_112 (fun c75027 => ?_) (fun c75027 => absurd c75027 (by omega))
        refine ev_aload_n rfl ?_
        refine ev_iload_n rfl ?_
        refine ev_iconst ?_
        refine ev_iconst ?_
        refine ev_iconst ?_
        refine ev_call (jcall_v (A := [(0, 1), (0, 0), (0, 0), (0, x1)]) (S' := []) (r := 42) rfl (g1.lt ad42) (g1.tg ad42) (Nat.le_of_ble_eq_true rfl)) (jOk_le (by decide) (s272i g1 (by omega) (by omega) (by omega) (by omega) (by omega) (by omega) (by omega) (by omega) (by omega) (by omega) (((k1.v (by decide)).trans ew0)) (by omega) (by omega) (ey1) (by omega) (by omega) (l0 := y0) (b0 := 22369621) (by omega) H0 (Lv.top _ (ey0)) (by decide) (Sk.nil _))) (by decide) (by decide) (fun w75028 h75028 q75028 => ?_)
        obtain ⟨q75028, ad75028, ro75028⟩ := q75028
        obtain ⟨v75029, rfl, lv75029, uv75029, g75028, kk75028⟩ := q75028
        have ad75028 := ad75028 _ rfl
        obtain ⟨m75030, em75030, lm75030, um75030, fr75028, pm75028, tr75028⟩ := ro75028 _ rfl
        have k75028 := k1.tr kk75028 (by decide)
        show jEv _ _ _ _ _ _ _ (_, [(2, 42), (0, x1), j2], [(0, v75029)], _, _, _)
        refine ev_istore_n (L' := [(2, 42), (0, v75029), j2]) (Nat.le_of_ble_eq_true rfl) rfl ?_
        refine ev_iload_n rfl ?_
        refine ev_ifge f273_129 (fun c75031 => ?_) (fun c75031 => ?_)
        · refine ev_iload_n rfl ?_
          refine ev_aload_n rfl ?_
          refine g_getv (r := 42) (v := v75025) g75028 ad42 (by decide) ft12_17 (((kk75028.v (by decide)).trans ev75025)) ?_
          refine ev_icmpge f273_145 (fun c75032 => ?_) (fun c75032 => ?_)
          · refine ev_iload_n rfl ?_
            exact ev_ret rfl (by decide) (by decide) ⟨⟨_, rfl, by omega, by omega, g75028, k75028⟩, fun r hr => by cases hr; exact ⟨_, (em75030), by omega, fun h0 => ⟨by have := pm75028 (by omega); omega, fun hm => Tr.at0 (tr75028 (by omega) hm) (by omega)⟩⟩⟩
          · refine ev_aload_n rfl ?_
            refine ev_iload_n rfl ?_
            refine ev_in (d := 738) (a := 0) (b := 0) (cd' := c266_0) (m := 2) (L0 := [(2, 42), (0, v75029)]) (jcall_v (A := [(0, v75029)]) (S' := []) (r := 42) rfl (g75028.lt ad42) (g75028.tg ad42) (Nat.le_of_ble_eq_true rfl)) (by decide) ml266 pp266 (Nat.le_of_ble_eq_true rfl) rfl (by decide) (by decide) ?_
            refine ev_aload_n rfl ?_
            refine ev_iload_n rfl ?_
            refine g_putf (r := 42) g75028 ad42 (by decide) ft12_20 (by decide) (fun e => absurd e nz12_20) rf42_20 (by decide) (by omega) (by omega) (fun h75033 e75033 g75033 => ?_)
            have k75033 := k75028.wr e75033 rfl
            refine ev_iconst ?_
            refine ev_ret rfl (by decide) (by decide) ?_
            show jEv _ _ _ _ _ _ _ (_, [(2, 42), (0, v75029), j2], [(0, (-1))], _, _, _)
            refine ev_goto f273_146 ?_
            exact ev_ret rfl (by decide) (by decide) ⟨⟨_, rfl, by omega, by omega, g75033, k75033⟩, fun r hr => by cases hr; exact ⟨_, (((jw_ne e75033 (Or.inr (by decide))).trans em75030)), by omega, fun h0 => by exfalso; omega⟩⟩
        · refine ev_iconst ?_
          refine ev_goto f273_146 ?_
          exact ev_ret rfl (by decide) (by decide) ⟨⟨_, rfl, by omega, by omega, g75028, k75028⟩, fun r hr => by cases hr; exact ⟨_, (em75030), by omega, fun h0 => by exfalso; omega⟩⟩
      · refine ev_aload_n rfl ?_
        refine g_getp (r := 42) (c := 54) g1 ad42 (by decide) (by decide) rf42_16 ft12_16 ?_
        refine ev_iload_n rfl ?_
        refine g_bald g1 ad54 rt54 (by omega) (by omega) (fun v75034 ev75034 lv75034 uv75034 => ?_)
        refine ev_goto f264_18 ?_
        refine ev_ret rfl (by decide) (by decide) ?_
        show jEv _ _ _ _ _ _ _ (_, [(2, 42), (0, x1), j2], [(0, v75034)], _, _, _)
        refine ev_bipush ?_
        refine ev_aload_n rfl ?_
        refine g_getv (r := 42) (v := y0) g1 ad42 (by decide) ft12_19 (ey0) ?_
        refine ev_iadd (r := (y0 + 65)) (by unfold w32; omega) ?_
        refine ev_icmpne f273_112 (fun c75035 => ?_) (fun c75035 => ?_)
        · refine ev_aload_n rfl ?_
          refine ev_iload_n rfl ?_
          refine ev_iconst ?_
          refine ev_iconst ?_
          refine ev_iconst ?_
          refine ev_call (jcall_v (A := [(0, 1), (0, 0), (0, 0), (0, x1)]) (S' := []) (r := 42) rfl (g1.lt ad42) (g1.tg ad42) (Nat.le_of_ble_eq_true rfl)) (jOk_le (by decide) (s272i g1 (by omega) (by omega) (by omega) (by omega) (by omega) (by omega) (by omega) (by omega) (by omega) (by omega) (((k1.v (by decide)).trans ew0)) (by omega) (by omega) (ey1) (by omega) (by omega) (l0 := y0) (b0 := 22369621) (by omega) H0 (Lv.top _ (ey0)) (by decide) (Sk.nil _))) (by decide) (by decide) (fun w75036 h75036 q75036 => ?_)
          obtain ⟨q75036, ad75036, ro75036⟩ := q75036
          obtain ⟨v75037, rfl, lv75037, uv75037, g75036, kk75036⟩ := q75036
          have ad75036 := ad75036 _ rfl
          obtain ⟨m75038, em75038, lm75038, um75038, fr75036, pm75036, tr75036⟩ := ro75036 _ rfl
          have k75036 := k1.tr kk75036 (by decide)
          show jEv _ _ _ _ _ _ _ (_, [(2, 42), (0, x1), j2], [(0, v75037)], _, _, _)
          refine ev_istore_n (L' := [(2, 42), (0, v75037), j2]) (Nat.le_of_ble_eq_true rfl) rfl ?_
          refine ev_iload_n rfl ?_
          refine ev_ifge f273_129 (fun c75039 => ?_) (fun c75039 => ?_)
          · refine ev_iload_n rfl ?_
            refine ev_aload_n rfl ?_
            refine g_getv (r := 42) (v := v75025) g75036 ad42 (by decide) ft12_17 (((kk75036.v (by decide)).trans ev75025)) ?_
            refine ev_icmpge f273_145 (fun c75040 => ?_) (fun c75040 => ?_)
            · refine ev_iload_n rfl ?_
              exact ev_ret rfl (by decide) (by decide) ⟨⟨_, rfl, by omega, by omega, g75036, k75036⟩, fun r hr => by cases hr; exact ⟨_, (em75038), by omega, fun h0 => ⟨by have := pm75036 (by omega); omega, fun hm => Tr.at0 (tr75036 (by omega) hm) (by omega)⟩⟩⟩
            · refine ev_aload_n rfl ?_
              refine ev_iload_n rfl ?_
              refine ev_in (d := 738) (a := 0) (b := 0) (cd' := c266_0) (m := 2) (L0 := [(2, 42), (0, v75037)]) (jcall_v (A := [(0, v75037)]) (S' := []) (r := 42) rfl (g75036.lt ad42) (g75036.tg ad42) (Nat.le_of_ble_eq_true rfl)) (by decide) ml266 pp266 (Nat.le_of_ble_eq_true rfl) rfl (by decide) (by decide) ?_
              refine ev_aload_n rfl ?_
              refine ev_iload_n rfl ?_
              refine g_putf (r := 42) g75036 ad42 (by decide) ft12_20 (by decide) (fun e => absurd e nz12_20) rf42_20 (by decide) (by omega) (by omega) (fun h75041 e75041 g75041 => ?_)
              have k75041 := k75036.wr e75041 rfl
              refine ev_iconst ?_
              refine ev_ret rfl (by decide) (by decide) ?_
              show jEv _ _ _ _ _ _ _ (_, [(2, 42), (0, v75037), j2], [(0, (-1))], _, _, _)
              refine ev_goto f273_146 ?_
              exact ev_ret rfl (by decide) (by decide) ⟨⟨_, rfl, by omega, by omega, g75041, k75041⟩, fun r hr => by cases hr; exact ⟨_, (((jw_ne e75041 (Or.inr (by decide))).trans em75038)), by omega, fun h0 => by exfalso; omega⟩⟩
          · refine ev_iconst ?_
            refine ev_goto f273_146 ?_
            exact ev_ret rfl (by decide) (by decide) ⟨⟨_, rfl, by omega, by omega, g75036, k75036⟩, fun r hr => by cases hr; exact ⟨_, (em75038), by omega, fun h0 => by exfalso; omega⟩⟩
        · refine ev_aload_n rfl ?_
          refine ev_iload_n rfl ?_
          refine ev_iconst ?_
          refine ev_iadd (r := (x1 + 1)) (by unfold w32; omega) ?_
          refine ev_in (d := 738) (a := 0) (b := 0) (cd' := c264_0) (m := 2) (L0 := [(2, 42), (0, (x1 + 1))]) (jcall_v (A := [(0, (x1 + 1))]) (S' := []) (r := 42) rfl (g1.lt ad42) (g1.tg ad42) (Nat.le_of_ble_eq_true rfl)) (by decide) ml264 pp264 (Nat.le_of_ble_eq_true rfl) rfl (by decide) (by decide) ?_
          refine ev_iload_n rfl ?_
          refine ev_aload_n rfl ?_
          refine g_getv (r := 42) (v := v75025) g1 ad42 (by decide) ft12_17 (ev75025) ?_
          refine ev_icmpge f264_17 (fun c75042 => ?_) (fun c75042 => ?_)
          · refine ev_iconst ?_
            refine ev_ret rfl (by decide) (by decide) ?_
            show jEv _ _ _ _ _ _ _ (_, [(2, 42), (0, x1), j2], [(0, (-1))], _, _, _)
            refine ev_bipush ?_
            refine ev_icmpeq f273_51 (fun c75043 => absurd c75043 (by omega)) (fun c75043 => ?_)
            refine ev_aload_n rfl ?_
            refine ev_iload_n rfl ?_
            refine ev_iconst ?_
            refine ev_iadd (r := (x1 + 1)) (by unfold w32; omega) ?_
            refine ev_in (d := 738) (a := 0) (b := 0) (cd' := c266_0) (m := 2) (L0 := [(2, 42), (0, (x1 + 1))]) (jcall_v (A := [(0, (x1 + 1))]) (S' := []) (r := 42) rfl (g1.lt ad42) (g1.tg ad42) (Nat.le_of_ble_eq_true rfl)) (by decide) ml266 pp266 (Nat.le_of_ble_eq_true rfl) rfl (by decide) (by decide) ?_
            refine ev_aload_n rfl ?_
            refine ev_iload_n rfl ?_
            refine g_putf (r := 42) g1 ad42 (by decide) ft12_20 (by decide) (fun e => absurd e nz12_20) rf42_20 (by decide) (by omega) (by omega) (fun h75044 e75044 g75044 => ?_)
            have k75044 := k1.wr e75044 rfl
            refine ev_iconst ?_
            refine ev_ret rfl (by decide) (by decide) ?_
            show jEv _ _ _ _ _ _ _ (_, [(2, 42), (0, x1), j2], [(0, (-1))], _, _, _)
            exact ev_ret rfl (by decide) (by decide) ⟨⟨_, rfl, by omega, by omega, g75044, k75044⟩, fun r hr => by cases hr; exact ⟨_, (((jw_ne e75044 (Or.inr (by decide))).trans ey1)), by omega, fun h0 => by exfalso; omega⟩⟩
          · refine ev_aload_n rfl ?_
            refine g_getp (r := 42) (c := 54) g1 ad42 (by decide) (by decide) rf42_16 ft12_16 ?_
            refine ev_iload_n rfl ?_
            refine g_bald g1 ad54 rt54 (by omega) (by omega) (fun v75045 ev75045 lv75045 uv75045 => ?_)
            refine ev_goto f264_18 ?_
            refine ev_ret rfl (by decide) (by decide) ?_
            show jEv _ _ _ _ _ _ _ (_, [(2, 42), (0, x1), j2], [(0, v75045)], _, _, _)
            refine ev_bipush ?_
            refine ev_icmpeq f273_51 (fun c75046 => ?_) (fun c75046 => ?_)
            · refine ev_iload_n rfl ?_
              refine ev_iconst ?_
              refine ev_iadd (r := (x1 + 2)) (by unfold w32; omega) ?_
              refine ev_istore_n (L' := [(2, 42), (0, x1), (0, (x1 + 2))]) (Nat.le_of_ble_eq_true rfl) rfl ?_
              refine ev_aload_n rfl ?_
              refine ev_iload_n rfl ?_
              refine ev_iconst ?_
              refine ev_iconst ?_
              refine ev_iconst ?_
              refine ev_call (jcall_v (A := [(0, 0), (0, 0), (0, 0), (0, (x1 + 2))]) (S' := []) (r := 42) rfl (g1.lt ad42) (g1.tg ad42) (Nat.le_of_ble_eq_true rfl)) (jOk_le (by decide) (s272f g1 (by omega) (by omega) (by omega) (by omega) (by omega) (by omega) (by omega) (by omega) (l0 := y0) H0 (Lv.top _ (ey0)))) (by decide) (by decide) (fun w75047 h75047 q75047 => ?_)
              obtain ⟨q75047, ad75047⟩ := q75047
              obtain ⟨v75048, rfl, lv75048, uv75048, g75047, kk75047⟩ := q75047
              have ad75047 := ad75047 _ rfl
              have k75047 := k1.tr kk75047 (by decide)
              show jEv _ _ _ _ _ _ _ (_, [(2, 42), (0, x1), (0, (x1 + 2))], [(0, v75048)], _, _, _)
              refine ev_istore_n (L' := [(2, 42), (0, v75048), (0, (x1 + 2))]) (Nat.le_of_ble_eq_true rfl) rfl ?_
              refine ev_iload_n rfl ?_
              refine ev_ifge f273_70 (fun c75049 => ?_) (fun c75049 => ?_)
              · refine ev_aload_n rfl ?_
                refine ev_iload_n rfl ?_
                refine ev_in (d := 738) (a := 0) (b := 0) (cd' := c264_0) (m := 2) (L0 := [(2, 42), (0, v75048)]) (jcall_v (A := [(0, v75048)]) (S' := []) (r := 42) rfl (g75047.lt ad42) (g75047.tg ad42) (Nat.le_of_ble_eq_true rfl)) (by decide) ml264 pp264 (Nat.le_of_ble_eq_true rfl) rfl (by decide) (by decide) ?_
                refine ev_iload_n rfl ?_
                refine ev_aload_n rfl ?_
                refine g_getv (r := 42) (v := v75025) g75047 ad42 (by decide) ft12_17 (((kk75047.v (by decide)).trans ev75025)) ?_
                refine ev_icmpge f264_17 (fun c75050 => ?_) (fun c75050 => ?_)
                · refine ev_iconst ?_
                  refine ev_ret rfl (by decide) (by decide) ?_
                  show jEv _ _ _ _ _ _ _ (_, [(2, 42), (0, v75048), (0, (x1 + 2))], [(0, (-1))], _, _, _)
                  refine ev_bipush ?_
                  refine ev_icmpeq f273_86 (fun c75051 => absurd c75051 (by omega)) (fun c75051 => ?_)
                  refine ev_aload_n rfl ?_
                  refine ev_iload_n rfl ?_
                  refine ev_in (d := 738) (a := 0) (b := 0) (cd' := c266_0) (m := 2) (L0 := [(2, 42), (0, v75048)]) (jcall_v (A := [(0, v75048)]) (S' := []) (r := 42) rfl (g75047.lt ad42) (g75047.tg ad42) (Nat.le_of_ble_eq_true rfl)) (by decide) ml266 pp266 (Nat.le_of_ble_eq_true rfl) rfl (by decide) (by decide) ?_
                  refine ev_aload_n rfl ?_
                  refine ev_iload_n rfl ?_
                  refine g_putf (r := 42) g75047 ad42 (by decide) ft12_20 (by decide) (fun e => absurd e nz12_20) rf42_20 (by decide) (by omega) (by omega) (fun h75052 e75052 g75052 => ?_)
                  have k75052 := k75047.wr e75052 rfl
                  refine ev_iconst ?_
                  refine ev_ret rfl (by decide) (by decide) ?_
                  show jEv _ _ _ _ _ _ _ (_, [(2, 42), (0, v75048), (0, (x1 + 2))], [(0, (-1))], _, _, _)
                  exact ev_ret rfl (by decide) (by decide) ⟨⟨_, rfl, by omega, by omega, g75052, k75052⟩, fun r hr => by cases hr; exact ⟨_, (((jw_ne e75052 (Or.inr (by decide))).trans ((kk75047.v (by decide)).trans ey1))), by omega, fun h0 => by exfalso; omega⟩⟩
                · refine ev_aload_n rfl ?_
                  refine g_getp (r := 42) (c := 54) g75047 ad42 (by decide) (by decide) rf42_16 ft12_16 ?_
                  refine ev_iload_n rfl ?_
                  refine g_bald g75047 ad54 rt54 (by omega) (by omega) (fun v75053 ev75053 lv75053 uv75053 => ?_)
                  refine ev_goto f264_18 ?_
                  refine ev_ret rfl (by decide) (by decide) ?_
                  show jEv _ _ _ _ _ _ _ (_, [(2, 42), (0, v75048), (0, (x1 + 2))], [(0, v75053)], _, _, _)
                  refine ev_bipush ?_
                  refine ev_icmpeq f273_86 (fun c75054 => ?_) (fun c75054 => ?_)
                  · refine ev_aload_n rfl ?_
                    refine g_getp (r := 42) (c := 55) g75047 ad42 (by decide) (by decide) rf42_18 ft12_18 ?_
                    refine ev_aload_n rfl ?_
                    refine g_getv (r := 42) (v := y0) g75047 ad42 (by decide) ft12_19 (((kk75047.v (by decide)).trans ey0)) ?_
                    refine ev_iload_n rfl ?_
                    refine g_iast g75047 ad55 rt55 (fun _ => rfl) (by omega) (by omega) (by omega) (by omega) (fun h75055 e75055 g75055 => ?_)
                    have k75055 := k75047.wr e75055 rfl
                    refine ev_aload_n rfl ?_
                    refine ev_dup (by decide) ?_
                    refine g_getv (r := 42) (v := y0) g75055 ad42 (by decide) ft12_19 (((jw_ne e75055 (Or.inl (by decide))).trans ((kk75047.v (by decide)).trans ey0))) ?_
                    refine ev_iconst ?_
                    refine ev_iadd (r := (y0 + 1)) (by unfold w32; omega) ?_
                    refine g_putf (r := 42) g75055 ad42 (by decide) ft12_19 (by decide) (fun e => absurd e nz12_19) rf42_19 (by decide) (by omega) (by omega) (fun h75056 e75056 g75056 => ?_)
                    have k75056 := k75055.wr e75056 rfl
                    refine ev_iinc (w := (v75048 + 1)) (L' := [(2, 42), (0, (v75048 + 1)), (0, (x1 + 2))]) rfl (by unfold w32; omega) rfl ?_
                    refine ev_goto f273_7 ?_
                    exact ih _ _ _ _ _ g75056 k75056 (by omega) (by omega) ((jw_eq e75056)) (by omega) (by omega) (((jw_ne e75056 (Or.inr (by decide))).trans ((jw_ne e75055 (Or.inl (by decide))).trans ((kk75047.v (by decide)).trans ey1)))) (by omega) (by omega) (Iv.next (Iv.kp H0 kk75047 (fun _ => rfl) (fun _ => rfl) rfl) ((kk75047.v rfl).trans ey0) (by omega) ((ad75047 (by omega)).kp kk75047 (fun _ => rfl)) (by omega) (by rw [(ev75053)]; omega) e75055 e75056 (by omega)) (by omega)
                  · refine ev_aload_n rfl ?_
                    refine ev_iload_n rfl ?_
                    refine ev_in (d := 738) (a := 0) (b := 0) (cd' := c266_0) (m := 2) (L0 := [(2, 42), (0, v75048)]) (jcall_v (A := [(0, v75048)]) (S' := []) (r := 42) rfl (g75047.lt ad42) (g75047.tg ad42) (Nat.le_of_ble_eq_true rfl)) (by decide) ml266 pp266 (Nat.le_of_ble_eq_true rfl) rfl (by decide) (by decide) ?_
                    refine ev_aload_n rfl ?_
                    refine ev_iload_n rfl ?_
                    refine g_putf (r := 42) g75047 ad42 (by decide) ft12_20 (by decide) (fun e => absurd e nz12_20) rf42_20 (by decide) (by omega) (by omega) (fun h75057 e75057 g75057 => ?_)
                    have k75057 := k75047.wr e75057 rfl
                    refine ev_iconst ?_
                    refine ev_ret rfl (by decide) (by decide) ?_
                    show jEv _ _ _ _ _ _ _ (_, [(2, 42), (0, v75048), (0, (x1 + 2))], [(0, (-1))], _, _, _)
                    exact ev_ret rfl (by decide) (by decide) ⟨⟨_, rfl, by omega, by omega, g75057, k75057⟩, fun r hr => by cases hr; exact ⟨_, (((jw_ne e75057 (Or.inr (by decide))).trans ((kk75047.v (by decide)).trans ey1))), by omega, fun h0 => by exfalso; omega⟩⟩
              · refine ev_iconst ?_
                exact ev_ret rfl (by decide) (by decide) ⟨⟨_, rfl, by omega, by omega, g75047, k75047⟩, fun r hr => by cases hr; exact ⟨_, (((kk75047.v (by decide)).trans ey1)), by omega, fun h0 => by exfalso; omega⟩⟩
            · refine ev_aload_n rfl ?_
              refine ev_iload_n rfl ?_
              refine ev_iconst ?_
              refine ev_iadd (r := (x1 + 1)) (by unfold w32; omega) ?_
              refine ev_in (d := 738) (a := 0) (b := 0) (cd' := c266_0) (m := 2) (L0 := [(2, 42), (0, (x1 + 1))]) (jcall_v (A := [(0, (x1 + 1))]) (S' := []) (r := 42) rfl (g1.lt ad42) (g1.tg ad42) (Nat.le_of_ble_eq_true rfl)) (by decide) ml266 pp266 (Nat.le_of_ble_eq_true rfl) rfl (by decide) (by decide) ?_
              refine ev_aload_n rfl ?_
              refine ev_iload_n rfl ?_
              refine g_putf (r := 42) g1 ad42 (by decide) ft12_20 (by decide) (fun e => absurd e nz12_20) rf42_20 (by decide) (by omega) (by omega) (fun h75058 e75058 g75058 => ?_)
              have k75058 := k1.wr e75058 rfl
              refine ev_iconst ?_
              refine ev_ret rfl (by decide) (by decide) ?_
              show jEv _ _ _ _ _ _ _ (_, [(2, 42), (0, x1), j2], [(0, (-1))], _, _, _)
              exact ev_ret rfl (by decide) (by decide) ⟨⟨_, rfl, by omega, by omega, g75058, k75058⟩, fun r hr => by cases hr; exact ⟨_, (((jw_ne e75058 (Or.inr (by decide))).trans ey1)), by omega, fun h0 => by exfalso; omega⟩⟩
set_option maxHeartbeats 4000000 in
theorem s273 {G : GH} {h : JH} (g : Gd G h) {w0 : Int} (ew0 : h.2.2 42 9 = w0) (lw0 : 0 ≤ w0) (uw0 : w0 ≤ 5) (ew1 : h.2.2 42 21 = 0) : jOk 740 0 0 273 [(2, 42)] h (fun v h' => PI G [(42, 21), (42, 22), (49, 0), (50, 0), (51, 0), (52, 0), (53, 0), (42, 20), (55, 0)] h 0 (-1) 200 v h' ∧ ∀ r, v = some (0, r) → RA h' w0 r) := by
  refine ⟨by decide, by rw [ml273]; exact Nat.le_of_ble_eq_true rfl, ?_⟩
  rw [ml273, pp273]
  show jEv _ none _ c273_0 0 0 _ (c273_0, [(2, 42), (9, 0), (9, 0)], [], h, 0, 0)
  have k0 := Kp.rf [(42, 21), (42, 22), (49, 0), (50, 0), (51, 0), (52, 0), (53, 0), (42, 20), (55, 0)] h
  refine ev_iconst ?_
  refine ev_istore_n (L' := [(2, 42), (0, 0), (9, 0)]) (Nat.le_of_ble_eq_true rfl) rfl ?_
  refine ev_aload_n rfl ?_
  refine ev_iconst ?_
  refine g_putf (r := 42) g ad42 (by decide) ft12_19 (by decide) (fun e => absurd e nz12_19) rf42_19 (by decide) (by omega) (by omega) (fun h75059 e75059 g75059 => ?_)
  have k75059 := k0.wr e75059 rfl
  exact (s273_l ew0 lw0 uw0 ew1 14) _ _ _ _ _ g75059 k75059 (by omega) (by omega) ((jw_eq e75059)) (by omega) (by omega) (((jw_ne e75059 (Or.inr (by decide))).trans ew1)) (by omega) (by omega) (Iv.zero ((jw_eq e75059))) (by omega)
set_option maxHeartbeats 4000000 in
theorem s274 {G : GH} {h : JH} (g : Gd G h)  : jOk 741 0 0 274 [(2, 42)] h (PI G [(42, 21), (42, 22), (49, 0), (50, 0), (51, 0), (52, 0), (53, 0), (42, 20), (55, 0), (42, 18), (48, 0), (42, 10)] h 0 (-2147483648) 2147483647) := by
  refine ⟨by decide, by rw [ml274]; exact Nat.le_of_ble_eq_true rfl, ?_⟩
  rw [ml274, pp274]
  show jEv _ none _ c274_0 0 0 _ (c274_0, [(2, 42), (9, 0)], [], h, 0, 0)
  have k0 := Kp.rf [(42, 21), (42, 22), (49, 0), (50, 0), (51, 0), (52, 0), (53, 0), (42, 20), (55, 0), (42, 18), (48, 0), (42, 10)] h
  refine ev_aload_n rfl ?_
  obtain ⟨v75088, ev75088, lv75088, uv75088⟩ := g.rd ad42 (show 9 < 66 by decide) rf42_9
  refine g_getv (r := 42) (v := v75088) g ad42 (by decide) ft12_9 ev75088 ?_
  refine ev_bipush ?_
  refine ev_icmpne f274_12 (fun c75089 => ?_) (fun c75089 => ?_)
  · refine ev_aload_n rfl ?_
    refine ev_iconst ?_
    refine g_putf (r := 42) g ad42 (by decide) ft12_20 (by decide) (fun e => absurd e nz12_20) rf42_20 (by decide) (by omega) (by omega) (fun h75090 e75090 g75090 => ?_)
    have k75090 := k0.wr e75090 rfl
    refine ev_aload_n rfl ?_
    refine ev_iconst ?_
    refine g_putf (r := 42) g75090 ad42 (by decide) ft12_21 (by decide) (fun e => absurd e nz12_21) rf42_21 (by decide) (by omega) (by omega) (fun h75091 e75091 g75091 => ?_)
    have k75091 := k75090.wr e75091 rfl
    refine ev_aload_n rfl ?_
    refine ev_call (jcall_v (A := []) (S' := []) (r := 42) rfl (g75091.lt ad42) (g75091.tg ad42) (Nat.le_of_ble_eq_true rfl)) (jOk_le (by decide) (s273 g75091 (((jw_ne e75091 (Or.inr (by decide))).trans ((jw_ne e75090 (Or.inr (by decide))).trans ev75088))) (by omega) (by omega) ((jw_eq e75091)))) (by decide) (by decide) (fun w75092 h75092 q75092 => ?_)
    obtain ⟨q75092, ra75092⟩ := q75092
    obtain ⟨v75093, rfl, lv75093, uv75093, g75092, kk75092⟩ := q75092
    obtain ⟨m75094, em75094, lm75094, ra75092⟩ := ra75092 _ rfl
    have um75094 := (g75092.rg ad42 (i := 21) (by decide) rf42_21).2
    rw [em75094] at um75094
    have k75092 := k75091.tr kk75092 (by decide)
    show jEv _ _ _ _ _ _ _ (_, [(2, 42), (9, 0)], [(0, v75093)], _, _, _)
    refine ev_istore_n (L' := [(2, 42), (0, v75093)]) (Nat.le_of_ble_eq_true rfl) rfl ?_
    refine ev_aload_n rfl ?_
    refine ev_iconst ?_
    refine g_putf (r := 42) g75092 ad42 (by decide) ft12_17 (by decide) (fun e => absurd e nz12_17) rf42_17 (by decide) (by omega) (by omega) (fun h75095 e75095 g75095 => ?_)
    have k75095 := k75092.wr e75095 rfl
    refine ev_iload_n rfl ?_
    refine ev_ifge f274_44 (fun c75096 => ?_) (fun c75096 => ?_)
    · refine ev_aload_n rfl ?_
      refine g_getv (r := 42) (v := m75094) g75095 ad42 (by decide) ft12_21 (((jw_ne e75095 (Or.inr (by decide))).trans em75094)) ?_
      refine ev_bipush ?_
      refine ev_icmple f274_56 (fun c75097 => ?_) (fun c75097 => ?_)
      · refine ev_aload_n rfl ?_
        refine g_getp (r := 42) (c := 48) g75095 ad42 (by decide) (by decide) rf42_10 ft12_10 ?_
        refine ev_aload_n rfl ?_
        refine g_getv (r := 42) (v := v75088) g75095 ad42 (by decide) ft12_9 (((jw_ne e75095 (Or.inr (by decide))).trans ((kk75092.v (by decide)).trans ((jw_ne e75091 (Or.inr (by decide))).trans ((jw_ne e75090 (Or.inr (by decide))).trans ev75088))))) ?_
        refine ev_aload_n rfl ?_
        refine g_getv (r := 42) (v := m75094) g75095 ad42 (by decide) ft12_21 (((jw_ne e75095 (Or.inr (by decide))).trans em75094)) ?_
        refine ev_iastG (r := 48) (j := (v75088).toNat) (g75095.lt ad48) (g75095.tg ad48) (by omega) (by rw [g75095.ln ad48]; omega) (fun h75098 e75098 => ?_)
        have g75098 := g75095.s48 e75098 (by rw [(((jw_ne e75095 (Or.inr (by decide))).trans ((kk75092.v (by decide)).trans ((jw_ne e75091 (Or.inr (by decide))).trans ((jw_ne e75090 (Or.inr (by decide))).trans ev75088)))))]; omega) (by omega) (by omega)
        have k75098 := k75095.wr e75098 rfl
        refine ev_aload_n rfl ?_
        refine ev_dup (by decide) ?_
        refine g_getv (r := 42) (v := v75088) g75098 ad42 (by decide) ft12_9 (((jw_ne e75098 (Or.inl (by decide))).trans ((jw_ne e75095 (Or.inr (by decide))).trans ((kk75092.v (by decide)).trans ((jw_ne e75091 (Or.inr (by decide))).trans ((jw_ne e75090 (Or.inr (by decide))).trans ev75088)))))) ?_
        refine ev_iconst ?_
        refine ev_iadd (r := (v75088 + 1)) (by unfold w32; omega) ?_
        refine ev_putfG (r := 42) (g75098.lt ad42) (g75098.fam ad42 (by decide)) ft12_9 (fun e => absurd e nz12_9) (fun e => absurd e (by decide)) (fun h75099 e75099 => ?_)
        have g75099 := g75098.newq e75099 (((jw_ne e75098 (Or.inl (by decide))).trans ((jw_ne e75095 (Or.inr (by decide))).trans ((kk75092.v (by decide)).trans ((jw_ne e75091 (Or.inr (by decide))).trans ((jw_ne e75090 (Or.inr (by decide))).trans ev75088)))))) (by omega) (by omega) ((jw_eq e75098)) (Tr.kp ((ra75092 (by omega)).2 (by omega)) (((Kp.rf [(42, 18), (48, 0)] _).wr e75095 rfl).wr e75098 rfl) rfl (fun _ => rfl) (fun _ => rfl) (fun _ => rfl) (fun _ => rfl) (fun _ => rfl))
        have k75099 := k75098.wr e75099 rfl
        refine ev_aload_n rfl ?_
        refine g_getv (r := 42) (v := (v75088 + 1)) g75099 ad42 (by decide) ft12_9 ((jw_eq e75099)) ?_
        refine ev_iconst ?_
        refine ev_isub (r := v75088) (by unfold w32; omega) ?_
        exact ev_ret rfl (by decide) (by decide) ⟨_, rfl, by omega, by omega, g75099, k75099⟩
      · refine ev_bipush ?_
        exact ev_ret rfl (by decide) (by decide) ⟨_, rfl, by omega, by omega, g75095, k75095⟩
    · refine ev_bipush ?_
      refine ev_aload_n rfl ?_
      obtain ⟨v75100, ev75100, lv75100, uv75100⟩ := g75095.rd ad42 (show 20 < 66 by decide) rf42_20
      refine g_getv (r := 42) (v := v75100) g75095 ad42 (by decide) ft12_20 ev75100 ?_
      refine g_isubG (fun v75101 ev75101 lv75101 uv75101 => ?_)
      exact ev_ret rfl (by decide) (by decide) ⟨_, rfl, by omega, by omega, g75095, k75095⟩
  · refine ev_bipush ?_
    exact ev_ret rfl (by decide) (by decide) ⟨_, rfl, by omega, by omega, g, k0⟩
