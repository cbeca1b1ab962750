/-! 73 newNode -/
set_option maxHeartbeats 4000000 in
theorem s73 {G : GH} {h : JH} (g : Gd G h) {a1 : Int} (la1 : 0 ≤ a1) (ua1 : a1 ≤ 2) {w0 : Int} (ew0 : h.2.2 7 1 = w0) (lw0 : (-1) ≤ w0) (uw0 : w0 ≤ 200) : jOk 2 0 0 73 [(2, 7), (0, a1)] h (fun v h' => ∃ r F : Int, v = some (0, r) ∧ (-1) ≤ r ∧ r ≤ 199 ∧ Gd G h' ∧ Kp [(7, 2), (7, 4), (10, 0), (11, 0), (12, 0), (15, 0), (16, 0), (17, 0)] h h' ∧ h'.2.2 7 1 = F ∧ ((-F) + w0) ≤ 0 ∧ ((-F) + (-r)) ≤ 1) := by
  refine ⟨by decide, by rw [ml73]; exact Nat.le_of_ble_eq_true rfl, ?_⟩
  rw [ml73, pp73]
  show jEv _ none _ c73_0 0 0 _ (c73_0, [(2, 7), (0, a1)], [], h, 0, 0)
  have k0 := Kp.rf [(7, 2), (7, 4), (10, 0), (11, 0), (12, 0), (15, 0), (16, 0), (17, 0)] h
  refine ev_aload_n rfl ?_
  obtain ⟨v15726, ev15726, lv15726, uv15726⟩ := g.rd ad7 (show 3 < 15 by decide) rf7_3
  refine g_getv (r := 7) (v := v15726) g ad7 (by decide) ft5_3 ev15726 ?_
  refine ev_sipush ?_
  refine ev_icmplt f73_16 (fun c15727 => ?_) (fun c15727 => ?_)
  · refine ev_aload_n rfl ?_
    refine g_getp (r := 7) (c := 10) g ad7 (by decide) (by decide) rf7_7 ft5_7 ?_
    refine ev_aload_n rfl ?_
    refine g_getv (r := 7) (v := v15726) g ad7 (by decide) ft5_3 (ev15726) ?_
    refine ev_iload_n rfl ?_
    refine g_iast g ad10 rt10 (fun _ => rfl) (by omega) (by omega) (by omega) (by omega) (fun h15728 e15728 g15728 => ?_)
    have k15728 := k0.wr e15728 rfl
    refine ev_aload_n rfl ?_
    refine g_getp (r := 7) (c := 11) g15728 ad7 (by decide) (by decide) rf7_8 ft5_8 ?_
    refine ev_aload_n rfl ?_
    refine g_getv (r := 7) (v := v15726) g15728 ad7 (by decide) ft5_3 (((jw_ne e15728 (Or.inl (by decide))).trans ev15726)) ?_
    refine ev_iconst ?_
    refine g_iast g15728 ad11 rt11 (fun _ => rfl) (by omega) (by omega) (by omega) (by omega) (fun h15729 e15729 g15729 => ?_)
    have k15729 := k15728.wr e15729 rfl
    refine ev_aload_n rfl ?_
    refine g_getp (r := 7) (c := 12) g15729 ad7 (by decide) (by decide) rf7_9 ft5_9 ?_
    refine ev_aload_n rfl ?_
    refine g_getv (r := 7) (v := v15726) g15729 ad7 (by decide) ft5_3 (((jw_ne e15729 (Or.inl (by decide))).trans ((jw_ne e15728 (Or.inl (by decide))).trans ev15726))) ?_
    refine ev_iconst ?_
    refine g_iast g15729 ad12 rt12 (fun _ => rfl) (by omega) (by omega) (by omega) (by omega) (fun h15730 e15730 g15730 => ?_)
    have k15730 := k15729.wr e15730 rfl
    refine ev_aload_n rfl ?_
    refine g_getp (r := 7) (c := 15) g15730 ad7 (by decide) (by decide) rf7_12 ft5_12 ?_
    refine ev_aload_n rfl ?_
    refine g_getv (r := 7) (v := v15726) g15730 ad7 (by decide) ft5_3 (((jw_ne e15730 (Or.inl (by decide))).trans ((jw_ne e15729 (Or.inl (by decide))).trans ((jw_ne e15728 (Or.inl (by decide))).trans ev15726)))) ?_
    refine ev_iconst ?_
    refine g_iast g15730 ad15 rt15 (fun _ => rfl) (by omega) (by omega) (by omega) (by omega) (fun h15731 e15731 g15731 => ?_)
    have k15731 := k15730.wr e15731 rfl
    refine ev_aload_n rfl ?_
    refine g_getp (r := 7) (c := 16) g15731 ad7 (by decide) (by decide) rf7_13 ft5_13 ?_
    refine ev_aload_n rfl ?_
    refine g_getv (r := 7) (v := v15726) g15731 ad7 (by decide) ft5_3 (((jw_ne e15731 (Or.inl (by decide))).trans ((jw_ne e15730 (Or.inl (by decide))).trans ((jw_ne e15729 (Or.inl (by decide))).trans ((jw_ne e15728 (Or.inl (by decide))).trans ev15726))))) ?_
    refine ev_iconst ?_
    refine g_iast g15731 ad16 rt16 (fun _ => rfl) (by omega) (by omega) (by omega) (by omega) (fun h15732 e15732 g15732 => ?_)
    have k15732 := k15731.wr e15732 rfl
    refine ev_aload_n rfl ?_
    refine g_getp (r := 7) (c := 17) g15732 ad7 (by decide) (by decide) rf7_14 ft5_14 ?_
    refine ev_aload_n rfl ?_
    refine g_getv (r := 7) (v := v15726) g15732 ad7 (by decide) ft5_3 (((jw_ne e15732 (Or.inl (by decide))).trans ((jw_ne e15731 (Or.inl (by decide))).trans ((jw_ne e15730 (Or.inl (by decide))).trans ((jw_ne e15729 (Or.inl (by decide))).trans ((jw_ne e15728 (Or.inl (by decide))).trans ev15726)))))) ?_
    refine ev_iconst ?_
    refine g_iast g15732 ad17 rt17 (fun _ => rfl) (by omega) (by omega) (by omega) (by omega) (fun h15733 e15733 g15733 => ?_)
    have k15733 := k15732.wr e15733 rfl
    refine ev_aload_n rfl ?_
    refine ev_dup (by decide) ?_
    refine g_getv (r := 7) (v := v15726) g15733 ad7 (by decide) ft5_3 (((jw_ne e15733 (Or.inl (by decide))).trans ((jw_ne e15732 (Or.inl (by decide))).trans ((jw_ne e15731 (Or.inl (by decide))).trans ((jw_ne e15730 (Or.inl (by decide))).trans ((jw_ne e15729 (Or.inl (by decide))).trans ((jw_ne e15728 (Or.inl (by decide))).trans ev15726))))))) ?_
    refine ev_iconst ?_
    refine ev_iadd (r := (v15726 + 1)) (by unfold w32; omega) ?_
    refine g_putf (r := 7) g15733 ad7 (by decide) ft5_3 (by decide) (fun e => absurd e nz5_3) rf7_3 (by decide) (by omega) (by omega) (fun h15734 e15734 g15734 => ?_)
    have k15734 := k15733.wr e15734 rfl
    refine ev_aload_n rfl ?_
    refine g_getv (r := 7) (v := (v15726 + 1)) g15734 ad7 (by decide) ft5_3 ((jw_eq e15734)) ?_
    refine ev_iconst ?_
    refine ev_isub (r := v15726) (by unfold w32; omega) ?_
    exact ev_ret rfl (by decide) (by decide) ⟨_, _, rfl, by omega, by omega, g15734, k15734, (((jw_ne e15734 (Or.inr (by decide))).trans ((jw_ne e15733 (Or.inl (by decide))).trans ((jw_ne e15732 (Or.inl (by decide))).trans ((jw_ne e15731 (Or.inl (by decide))).trans ((jw_ne e15730 (Or.inl (by decide))).trans ((jw_ne e15729 (Or.inl (by decide))).trans ((jw_ne e15728 (Or.inl (by decide))).trans ew0)))))))), by omega, by omega⟩
  · refine ev_aload_n rfl ?_
    refine ev_in (d := 0) (a := 0) (b := 0) (cd' := c70_0) (m := 1) (L0 := [(2, 7)]) (jcall_v (A := []) (S' := []) (r := 7) rfl (g.lt ad7) (g.tg ad7) (Nat.le_of_ble_eq_true rfl)) (by decide) ml70 pp70 (Nat.le_of_ble_eq_true rfl) rfl (by decide) (by decide) ?_
    refine ev_aload_n rfl ?_
    refine g_getv (r := 7) (v := w0) g ad7 (by decide) ft5_1 (ew0) ?_
    refine ev_ifge f70_15 (fun c15735 => ?_) (fun c15735 => ?_)
    · refine ev_ret rfl (by decide) (by decide) ?_
      show jEv _ _ _ _ _ _ _ (_, [(2, 7), (0, a1)], [], _, _, _)
      refine ev_iconst ?_
      exact ev_ret rfl (by decide) (by decide) ⟨_, _, rfl, by omega, by omega, g, k0, (ew0), by omega, by omega⟩
    · refine ev_aload_n rfl ?_
      refine ev_aload_n rfl ?_
      obtain ⟨v15736, ev15736, lv15736, uv15736⟩ := g.rd ad7 (show 2 < 15 by decide) rf7_2
      refine g_getv (r := 7) (v := v15736) g ad7 (by decide) ft5_2 ev15736 ?_
      refine g_putf (r := 7) g ad7 (by decide) ft5_1 (by decide) (fun e => absurd e nz5_1) rf7_1 (by decide) (by omega) (by omega) (fun h15737 e15737 g15737 => ?_)
      have k15737 := k0.wr e15737 rfl
      refine ev_ret rfl (by decide) (by decide) ?_
      show jEv _ _ _ _ _ _ _ (_, [(2, 7), (0, a1)], [], _, _, _)
      refine ev_iconst ?_
      exact ev_ret rfl (by decide) (by decide) ⟨_, _, rfl, by omega, by omega, g15737, k15737, ((jw_eq e15737)), by omega, by omega⟩
/-! 76 readNumber -/
set_option maxHeartbeats 4000000 in
theorem s76_l {G : GH} {h : JH} {a1 : Int} (la1 : 1 ≤ a1) (ua1 : a1 ≤ 3) {w0 : Int} (ew0 : h.2.2 7 1 = w0) (lw0 : (-1) ≤ w0) (uw0 : w0 ≤ 200) : ∀ N : Nat, (∀ (h1 : JH) (x2 x3 y0 : Int), Gd G h1 → Kp [(7, 2), (7, 3)] h h1 → 1 ≤ a1 → a1 ≤ 3 → (-2147483648) ≤ x2 → x2 ≤ 2147483647 → 0 ≤ x3 → x3 ≤ 3 → (w0 + (-y0)) ≤ 0 → h1.2.2 7 1 = y0 → (-1) ≤ y0 → y0 ≤ 200 → ((-x3) + 3) < N → jEv (jOk 2) none (fun _ => 0) c76_0 0 0 (fun v h' => ∃ r F : Int, v = some (0, r) ∧ (-2147483648) ≤ r ∧ r ≤ 2147483647 ∧ Gd G h' ∧ Kp [(7, 2), (7, 3)] h h' ∧ h'.2.2 7 1 = F ∧ ((-F) + w0) ≤ 0) (c76_15, [(2, 7), (0, a1), (0, x2), (0, x3)], [], h1, 0, 0)) := by
  intro N
  induction N with
  | zero => exact fun h1 x2 x3 y0 g1 k1 b0 b1 b2 b3 b4 b5 b6 b7 b8 b9 hm => absurd hm (by omega)
  | succ N ih =>
    show _
    intro h1 x2 x3 y0 g1 k1 b0 b1 b2 b3 b4 b5 b6 ey0 ly0 uy0 hm
    refine ev_iload_n rfl ?_
    refine ev_iload_n rfl ?_
    refine ev_icmpge f76_63 (fun c15920 => ?_) (fun c15920 => ?_)
    · refine ev_iload_n rfl ?_
      exact ev_ret rfl (by decide) (by decide) ⟨_, _, rfl, by omega, by omega, g1, k1, (ey0), by omega⟩
    · refine ev_aload_n rfl ?_
      refine g_getv (r := 7) (v := y0) g1 ad7 (by decide) ft5_1 (ey0) ?_
      refine ev_ifge f76_63 (fun c15921 => ?_) (fun c15921 => ?_)
      · refine ev_iload_n rfl ?_
        exact ev_ret rfl (by decide) (by decide) ⟨_, _, rfl, by omega, by omega, g1, k1, (ey0), by omega⟩
      · refine ev_aload_n rfl ?_
        refine ev_in (d := 1) (a := 0) (b := 0) (cd' := c69_0) (m := 1) (L0 := [(2, 7)]) (jcall_v (A := []) (S' := []) (r := 7) rfl (g1.lt ad7) (g1.tg ad7) (Nat.le_of_ble_eq_true rfl)) (by decide) ml69 pp69 (Nat.le_of_ble_eq_true rfl) rfl (by decide) (by decide) ?_
        refine ev_aload_n rfl ?_
        refine ev_in (d := 0) (a := 0) (b := 0) (cd' := c68_0) (m := 1) (L0 := [(2, 7)]) (jcall_v (A := []) (S' := []) (r := 7) rfl (g1.lt ad7) (g1.tg ad7) (Nat.le_of_ble_eq_true rfl)) (by decide) ml68 pp68 (Nat.le_of_ble_eq_true rfl) rfl (by decide) (by decide) ?_
        refine ev_aload_n rfl ?_
        obtain ⟨v15922, ev15922, lv15922, uv15922⟩ := g1.rd ad7 (show 2 < 15 by decide) rf7_2
        refine g_getv (r := 7) (v := v15922) g1 ad7 (by decide) ft5_2 ev15922 ?_
        refine ev_aload_n rfl ?_
        obtain ⟨v15923, ev15923, lv15923, uv15923⟩ := g1.rd ad7 (show 0 < 15 by decide) rf7_0
        refine g_getv (r := 7) (v := v15923) g1 ad7 (by decide) ft5_0 ev15923 ?_
        refine ev_icmpge f68_27 (fun c15924 => ?_) (fun c15924 => ?_)
        · refine ev_iconst ?_
          refine ev_ret rfl (by decide) (by decide) ?_
          show jEv _ _ _ _ _ _ _ (_, [(2, 7)], [(0, (-1))], _, _, _)
          refine ev_bipush ?_
          refine ev_icmplt f69_22 (fun c15925 => ?_) (fun c15925 => absurd c15925 (by omega))
          refine ev_iconst ?_
          refine ev_ret rfl (by decide) (by decide) ?_
          show jEv _ _ _ _ _ _ _ (_, [(2, 7), (0, a1), (0, x2), (0, x3)], [(0, 0)], _, _, _)
          refine ev_ifeq f76_63 (fun c15926 => ?_) (fun c15926 => absurd c15926 (by omega))
          refine ev_iload_n rfl ?_
          exact ev_ret rfl (by decide) (by decide) ⟨_, _, rfl, by omega, by omega, g1, k1, (ey0), by omega⟩
        · refine ev_aload_n rfl ?_
          refine g_getp (r := 7) (c := 8) g1 ad7 (by decide) (by decide) rf7_5 ft5_5 ?_
          refine ev_aload_n rfl ?_
          refine g_getv (r := 7) (v := v15922) g1 ad7 (by decide) ft5_2 (ev15922) ?_
          refine g_bald g1 ad8 rt8 (by omega) (by omega) (fun v15927 ev15927 lv15927 uv15927 => ?_)
          refine ev_sipush ?_
          refine g_iandB (b := 255) (by omega) (by omega) (by decide) (fun v15928 ev15928 lv15928 uv15928 => ?_)
          refine ev_goto f68_28 ?_
          refine ev_ret rfl (by decide) (by decide) ?_
          show jEv _ _ _ _ _ _ _ (_, [(2, 7)], [(0, v15928)], _, _, _)
          refine ev_bipush ?_
          refine ev_icmplt f69_22 (fun c15929 => ?_) (fun c15929 => ?_)
          · refine ev_iconst ?_
            refine ev_ret rfl (by decide) (by decide) ?_
            show jEv _ _ _ _ _ _ _ (_, [(2, 7), (0, a1), (0, x2), (0, x3)], [(0, 0)], _, _, _)
            refine ev_ifeq f76_63 (fun c15930 => ?_) (fun c15930 => absurd c15930 (by omega))
            refine ev_iload_n rfl ?_
            exact ev_ret rfl (by decide) (by decide) ⟨_, _, rfl, by omega, by omega, g1, k1, (ey0), by omega⟩
          · refine ev_aload_n rfl ?_
            refine ev_in (d := 0) (a := 0) (b := 0) (cd' := c68_0) (m := 1) (L0 := [(2, 7)]) (jcall_v (A := []) (S' := []) (r := 7) rfl (g1.lt ad7) (g1.tg ad7) (Nat.le_of_ble_eq_true rfl)) (by decide) ml68 pp68 (Nat.le_of_ble_eq_true rfl) rfl (by decide) (by decide) ?_
            refine ev_aload_n rfl ?_
            refine g_getv (r := 7) (v := v15922) g1 ad7 (by decide) ft5_2 (ev15922) ?_
            refine ev_aload_n rfl ?_
            refine g_getv (r := 7) (v := v15923) g1 ad7 (by decide) ft5_0 (ev15923) ?_
            refine ev_icmpge f68_27 (fun c15931 => absurd c15931 (by omega)) (fun c15931 => ?_)
            refine ev_aload_n rfl ?_
            refine g_getp (r := 7) (c := 8) g1 ad7 (by decide) (by decide) rf7_5 ft5_5 ?_
            refine ev_aload_n rfl ?_
            refine g_getv (r := 7) (v := v15922) g1 ad7 (by decide) ft5_2 (ev15922) ?_
            refine g_baldv (v := v15927) g1 ad8 (by omega) (by omega) (ev15927) ?_
            refine ev_sipush ?_
            refine g_iandB (b := 255) (by omega) (by omega) (by decide) (fun v15932 ev15932 lv15932 uv15932 => ?_)
            refine ev_goto f68_28 ?_
            refine ev_ret rfl (by decide) (by decide) ?_
            show jEv _ _ _ _ _ _ _ (_, [(2, 7)], [(0, v15932)], _, _, _)
            refine ev_bipush ?_
            refine ev_icmpgt f69_22 (fun c15933 => ?_) (fun c15933 => ?_)
            · refine ev_iconst ?_
              refine ev_ret rfl (by decide) (by decide) ?_
              show jEv _ _ _ _ _ _ _ (_, [(2, 7), (0, a1), (0, x2), (0, x3)], [(0, 0)], _, _, _)
              refine ev_ifeq f76_63 (fun c15934 => ?_) (fun c15934 => absurd c15934 (by omega))
              refine ev_iload_n rfl ?_
              exact ev_ret rfl (by decide) (by decide) ⟨_, _, rfl, by omega, by omega, g1, k1, (ey0), by omega⟩
            · refine ev_iconst ?_
              refine ev_goto f69_23 ?_
              refine ev_ret rfl (by decide) (by decide) ?_
              show jEv _ _ _ _ _ _ _ (_, [(2, 7), (0, a1), (0, x2), (0, x3)], [(0, 1)], _, _, _)
              refine ev_ifeq f76_63 (fun c15935 => absurd c15935 (by omega)) (fun c15935 => ?_)
              refine ev_bipush ?_
              refine ev_iload_n rfl ?_
              refine g_imulG (fun v15936 ev15936 lv15936 uv15936 => ?_)
              refine ev_aload_n rfl ?_
              refine ev_in (d := 1) (a := 0) (b := 0) (cd' := c68_0) (m := 1) (L0 := [(2, 7)]) (jcall_v (A := []) (S' := [(0, v15936)]) (r := 7) rfl (g1.lt ad7) (g1.tg ad7) (Nat.le_of_ble_eq_true rfl)) (by decide) ml68 pp68 (Nat.le_of_ble_eq_true rfl) rfl (by decide) (by decide) ?_
              refine ev_aload_n rfl ?_
              refine g_getv (r := 7) (v := v15922) g1 ad7 (by decide) ft5_2 (ev15922) ?_
              refine ev_aload_n rfl ?_
              refine g_getv (r := 7) (v := v15923) g1 ad7 (by decide) ft5_0 (ev15923) ?_
              refine ev_icmpge f68_27 (fun c15937 => absurd c15937 (by omega)) (fun c15937 => ?_)
              refine ev_aload_n rfl ?_
              refine g_getp (r := 7) (c := 8) g1 ad7 (by decide) (by decide) rf7_5 ft5_5 ?_
              refine ev_aload_n rfl ?_
              refine g_getv (r := 7) (v := v15922) g1 ad7 (by decide) ft5_2 (ev15922) ?_
              refine g_baldv (v := v15927) g1 ad8 (by omega) (by omega) (ev15927) ?_
              refine ev_sipush ?_
              refine g_iandB (b := 255) (by omega) (by omega) (by decide) (fun v15938 ev15938 lv15938 uv15938 => ?_)
              refine ev_goto f68_28 ?_
              refine ev_ret rfl (by decide) (by decide) ?_
              show jEv _ _ _ _ _ _ _ (_, [(2, 7), (0, a1), (0, x2), (0, x3)], [(0, v15938), (0, v15936)], _, _, _)
              refine g_iaddG (fun v15939 ev15939 lv15939 uv15939 => ?_)
              refine ev_bipush ?_
              refine g_isubG (fun v15940 ev15940 lv15940 uv15940 => ?_)
              refine ev_istore_n (L' := [(2, 7), (0, a1), (0, v15940), (0, x3)]) (Nat.le_of_ble_eq_true rfl) rfl ?_
              refine ev_aload_n rfl ?_
              refine ev_dup (by decide) ?_
              refine g_getv (r := 7) (v := v15922) g1 ad7 (by decide) ft5_2 (ev15922) ?_
              refine ev_iconst ?_
              refine ev_iadd (r := (v15922 + 1)) (by unfold w32; omega) ?_
              refine g_putf (r := 7) g1 ad7 (by decide) ft5_2 (by decide) (fun e => absurd e nz5_2) rf7_2 (by decide) (by omega) (by omega) (fun h15941 e15941 g15941 => ?_)
              have k15941 := k1.wr e15941 rfl
              refine ev_iinc (w := (x3 + 1)) (L' := [(2, 7), (0, a1), (0, v15940), (0, (x3 + 1))]) rfl (by unfold w32; omega) rfl ?_
              refine ev_goto f76_15 ?_
              exact ih _ _ _ _ g15941 k15941 (by omega) (by omega) (by omega) (by omega) (by omega) (by omega) (by omega) (((jw_ne e15941 (Or.inr (by decide))).trans ey0)) (by omega) (by omega) (by omega)
set_option maxHeartbeats 4000000 in
theorem s76 {G : GH} {h : JH} (g : Gd G h) {a1 : Int} (la1 : 1 ≤ a1) (ua1 : a1 ≤ 3) {w0 : Int} (ew0 : h.2.2 7 1 = w0) (lw0 : (-1) ≤ w0) (uw0 : w0 ≤ 200) : jOk 3 0 0 76 [(2, 7), (0, a1)] h (fun v h' => ∃ r F : Int, v = some (0, r) ∧ (-2147483648) ≤ r ∧ r ≤ 2147483647 ∧ Gd G h' ∧ Kp [(7, 2), (7, 3)] h h' ∧ h'.2.2 7 1 = F ∧ ((-F) + w0) ≤ 0) := by
  refine ⟨by decide, by rw [ml76]; exact Nat.le_of_ble_eq_true rfl, ?_⟩
  rw [ml76, pp76]
  show jEv _ none _ c76_0 0 0 _ (c76_0, [(2, 7), (0, a1), (9, 0), (9, 0)], [], h, 0, 0)
  have k0 := Kp.rf [(7, 2), (7, 3)] h
  refine ev_iconst ?_
  refine ev_istore_n (L' := [(2, 7), (0, a1), (0, 0), (9, 0)]) (Nat.le_of_ble_eq_true rfl) rfl ?_
  refine ev_aload_n rfl ?_
  refine ev_in (d := 1) (a := 0) (b := 0) (cd' := c69_0) (m := 1) (L0 := [(2, 7)]) (jcall_v (A := []) (S' := []) (r := 7) rfl (g.lt ad7) (g.tg ad7) (Nat.le_of_ble_eq_true rfl)) (by decide) ml69 pp69 (Nat.le_of_ble_eq_true rfl) rfl (by decide) (by decide) ?_
  refine ev_aload_n rfl ?_
  refine ev_in (d := 0) (a := 0) (b := 0) (cd' := c68_0) (m := 1) (L0 := [(2, 7)]) (jcall_v (A := []) (S' := []) (r := 7) rfl (g.lt ad7) (g.tg ad7) (Nat.le_of_ble_eq_true rfl)) (by decide) ml68 pp68 (Nat.le_of_ble_eq_true rfl) rfl (by decide) (by decide) ?_
  refine ev_aload_n rfl ?_
  obtain ⟨v15942, ev15942, lv15942, uv15942⟩ := g.rd ad7 (show 2 < 15 by decide) rf7_2
  refine g_getv (r := 7) (v := v15942) g ad7 (by decide) ft5_2 ev15942 ?_
  refine ev_aload_n rfl ?_
  obtain ⟨v15943, ev15943, lv15943, uv15943⟩ := g.rd ad7 (show 0 < 15 by decide) rf7_0
  refine g_getv (r := 7) (v := v15943) g ad7 (by decide) ft5_0 ev15943 ?_
  refine ev_icmpge f68_27 (fun c15944 => ?_) (fun c15944 => ?_)
  · refine ev_iconst ?_
    refine ev_ret rfl (by decide) (by decide) ?_
    show jEv _ _ _ _ _ _ _ (_, [(2, 7)], [(0, (-1))], _, _, _)
    refine ev_bipush ?_
    refine ev_icmplt f69_22 (fun c15945 => ?_) (fun c15945 => absurd c15945 (by omega))
    refine ev_iconst ?_
    refine ev_ret rfl (by decide) (by decide) ?_
    show jEv _ _ _ _ _ _ _ (_, [(2, 7), (0, a1), (0, 0), (9, 0)], [(0, 0)], _, _, _)
    refine ev_ifne f76_13 (fun c15946 => absurd c15946 (by omega)) (fun c15946 => ?_)
    refine ev_aload_n rfl ?_
    refine ev_in (d := 1) (a := 0) (b := 0) (cd' := c70_0) (m := 1) (L0 := [(2, 7)]) (jcall_v (A := []) (S' := []) (r := 7) rfl (g.lt ad7) (g.tg ad7) (Nat.le_of_ble_eq_true rfl)) (by decide) ml70 pp70 (Nat.le_of_ble_eq_true rfl) rfl (by decide) (by decide) ?_
    refine ev_aload_n rfl ?_
    refine g_getv (r := 7) (v := w0) g ad7 (by decide) ft5_1 (ew0) ?_
    refine ev_ifge f70_15 (fun c15947 => ?_) (fun c15947 => ?_)
    · refine ev_ret rfl (by decide) (by decide) ?_
      show jEv _ _ _ _ _ _ _ (_, [(2, 7), (0, a1), (0, 0), (9, 0)], [], _, _, _)
      refine ev_iconst ?_
      refine ev_istore_n (L' := [(2, 7), (0, a1), (0, 0), (0, 0)]) (Nat.le_of_ble_eq_true rfl) rfl ?_
      exact (s76_l la1 ua1 ew0 lw0 uw0 8) _ _ _ _ g k0 (by omega) (by omega) (by omega) (by omega) (by omega) (by omega) (by omega) (ew0) (by omega) (by omega) (by omega)
    · refine ev_aload_n rfl ?_
      refine ev_aload_n rfl ?_
      refine g_getv (r := 7) (v := v15942) g ad7 (by decide) ft5_2 (ev15942) ?_
      refine g_putf (r := 7) g ad7 (by decide) ft5_1 (by decide) (fun e => absurd e nz5_1) rf7_1 (by decide) (by omega) (by omega) (fun h15948 e15948 g15948 => ?_)
      have k15948 := k0.wr e15948 rfl
      refine ev_ret rfl (by decide) (by decide) ?_
      show jEv _ _ _ _ _ _ _ (_, [(2, 7), (0, a1), (0, 0), (9, 0)], [], _, _, _)
      refine ev_iconst ?_
      refine ev_istore_n (L' := [(2, 7), (0, a1), (0, 0), (0, 0)]) (Nat.le_of_ble_eq_true rfl) rfl ?_
      exact (s76_l la1 ua1 ew0 lw0 uw0 8) _ _ _ _ g15948 k15948 (by omega) (by omega) (by omega) (by omega) (by omega) (by omega) (by omega) ((jw_eq e15948)) (by omega) (by omega) (by omega)
  · refine ev_aload_n rfl ?_
    refine g_getp (r := 7) (c := 8) g ad7 (by decide) (by decide) rf7_5 ft5_5 ?_
    refine ev_aload_n rfl ?_
    refine g_getv (r := 7) (v := v15942) g ad7 (by decide) ft5_2 (ev15942) ?_
    refine g_bald g ad8 rt8 (by omega) (by omega) (fun v15949 ev15949 lv15949 uv15949 => ?_)
    refine ev_sipush ?_
    refine g_iandB (b := 255) (by omega) (by omega) (by decide) (fun v15950 ev15950 lv15950 uv15950 => ?_)
    refine ev_goto f68_28 ?_
    refine ev_ret rfl (by decide) (by decide) ?_
    show jEv _ _ _ _ _ _ _ (_, [(2, 7)], [(0, v15950)], _, _, _)
    refine ev_bipush ?_
    refine ev_icmplt f69_22 (fun c15951 => ?_) (fun c15951 => ?_)
    · refine ev_iconst ?_
      refine ev_ret rfl (by decide) (by decide) ?_
      show jEv _ _ _ _ _ _ _ (_, [(2, 7), (0, a1), (0, 0), (9, 0)], [(0, 0)], _, _, _)
      refine ev_ifne f76_13 (fun c15952 => absurd c15952 (by omega)) (fun c15952 => ?_)
      refine ev_aload_n rfl ?_
      refine ev_in (d := 1) (a := 0) (b := 0) (cd' := c70_0) (m := 1) (L0 := [(2, 7)]) (jcall_v (A := []) (S' := []) (r := 7) rfl (g.lt ad7) (g.tg ad7) (Nat.le_of_ble_eq_true rfl)) (by decide) ml70 pp70 (Nat.le_of_ble_eq_true rfl) rfl (by decide) (by decide) ?_
      refine ev_aload_n rfl ?_
      refine g_getv (r := 7) (v := w0) g ad7 (by decide) ft5_1 (ew0) ?_
      refine ev_ifge f70_15 (fun c15953 => ?_) (fun c15953 => ?_)
      · refine ev_ret rfl (by decide) (by decide) ?_
        show jEv _ _ _ _ _ _ _ (_, [(2, 7), (0, a1), (0, 0), (9, 0)], [], _, _, _)
        refine ev_iconst ?_
        refine ev_istore_n (L' := [(2, 7), (0, a1), (0, 0), (0, 0)]) (Nat.le_of_ble_eq_true rfl) rfl ?_
        exact (s76_l la1 ua1 ew0 lw0 uw0 8) _ _ _ _ g k0 (by omega) (by omega) (by omega) (by omega) (by omega) (by omega) (by omega) (ew0) (by omega) (by omega) (by omega)
      · refine ev_aload_n rfl ?_
        refine ev_aload_n rfl ?_
        refine g_getv (r := 7) (v := v15942) g ad7 (by decide) ft5_2 (ev15942) ?_
        refine g_putf (r := 7) g ad7 (by decide) ft5_1 (by decide) (fun e => absurd e nz5_1) rf7_1 (by decide) (by omega) (by omega) (fun h15954 e15954 g15954 => ?_)
        have k15954 := k0.wr e15954 rfl
        refine ev_ret rfl (by decide) (by decide) ?_
        show jEv _ _ _ _ _ _ _ (_, [(2, 7), (0, a1), (0, 0), (9, 0)], [], _, _, _)
        refine ev_iconst ?_
        refine ev_istore_n (L' := [(2, 7), (0, a1), (0, 0), (0, 0)]) (Nat.le_of_ble_eq_true rfl) rfl ?_
        exact (s76_l la1 ua1 ew0 lw0 uw0 8) _ _ _ _ g15954 k15954 (by omega) (by omega) (by omega) (by omega) (by omega) (by omega) (by omega) ((jw_eq e15954)) (by omega) (by omega) (by omega)
    · refine ev_aload_n rfl ?_
      refine ev_in (d := 0) (a := 0) (b := 0) (cd' := c68_0) (m := 1) (L0 := [(2, 7)]) (jcall_v (A := []) (S' := []) (r := 7) rfl (g.lt ad7) (g.tg ad7) (Nat.le_of_ble_eq_true rfl)) (by decide) ml68 pp68 (Nat.le_of_ble_eq_true rfl) rfl (by decide) (by decide) ?_
      refine ev_aload_n rfl ?_
      refine g_getv (r := 7) (v := v15942) g ad7 (by decide) ft5_2 (ev15942) ?_
      refine ev_aload_n rfl ?_
      refine g_getv (r := 7) (v := v15943) g ad7 (by decide) ft5_0 (ev15943) ?_
      refine ev_icmpge f68_27 (fun c15955 => absurd c15955 (by omega)) (fun c15955 => ?_)
      refine ev_aload_n rfl ?_
      refine g_getp (r := 7) (c := 8) g ad7 (by decide) (by decide) rf7_5 ft5_5 ?_
      refine ev_aload_n rfl ?_
      refine g_getv (r := 7) (v := v15942) g ad7 (by decide) ft5_2 (ev15942) ?_
      refine g_baldv (v := v15949) g ad8 (by omega) (by omega) (ev15949) ?_
      refine ev_sipush ?_
      refine g_iandB (b := 255) (by omega) (by omega) (by decide) (fun v15956 ev15956 lv15956 uv15956 => ?_)
      refine ev_goto f68_28 ?_
      refine ev_ret rfl (by decide) (by decide) ?_
      show jEv _ _ _ _ _ _ _ (_, [(2, 7)], [(0, v15956)], _, _, _)
      refine ev_bipush ?_
      refine ev_icmpgt f69_22 (fun c15957 => ?_) (fun c15957 => ?_)
      · refine ev_iconst ?_
        refine ev_ret rfl (by decide) (by decide) ?_
        show jEv _ _ _ _ _ _ _ (_, [(2, 7), (0, a1), (0, 0), (9, 0)], [(0, 0)], _, _, _)
        refine ev_ifne f76_13 (fun c15958 => absurd c15958 (by omega)) (fun c15958 => ?_)
        refine ev_aload_n rfl ?_
        refine ev_in (d := 1) (a := 0) (b := 0) (cd' := c70_0) (m := 1) (L0 := [(2, 7)]) (jcall_v (A := []) (S' := []) (r := 7) rfl (g.lt ad7) (g.tg ad7) (Nat.le_of_ble_eq_true rfl)) (by decide) ml70 pp70 (Nat.le_of_ble_eq_true rfl) rfl (by decide) (by decide) ?_
        refine ev_aload_n rfl ?_
        refine g_getv (r := 7) (v := w0) g ad7 (by decide) ft5_1 (ew0) ?_
        refine ev_ifge f70_15 (fun c15959 => ?_) (fun c15959 => ?_)
        · refine ev_ret rfl (by decide) (by decide) ?_
          show jEv _ _ _ _ _ _ _ (_, [(2, 7), (0, a1), (0, 0), (9, 0)], [], _, _, _)
          refine ev_iconst ?_
          refine ev_istore_n (L' := [(2, 7), (0, a1), (0, 0), (0, 0)]) (Nat.le_of_ble_eq_true rfl) rfl ?_
          exact (s76_l la1 ua1 ew0 lw0 uw0 8) _ _ _ _ g k0 (by omega) (by omega) (by omega) (by omega) (by omega) (by omega) (by omega) (ew0) (by omega) (by omega) (by omega)
        · refine ev_aload_n rfl ?_
          refine ev_aload_n rfl ?_
          refine g_getv (r := 7) (v := v15942) g ad7 (by decide) ft5_2 (ev15942) ?_
          refine g_putf (r := 7) g ad7 (by decide) ft5_1 (by decide) (fun e => absurd e nz5_1) rf7_1 (by decide) (by omega) (by omega) (fun h15960 e15960 g15960 => ?_)
          have k15960 := k0.wr e15960 rfl
          refine ev_ret rfl (by decide) (by decide) ?_
          show jEv _ _ _ _ _ _ _ (_, [(2, 7), (0, a1), (0, 0), (9, 0)], [], _, _, _)
          refine ev_iconst ?_
          refine ev_istore_n (L' := [(2, 7), (0, a1), (0, 0), (0, 0)]) (Nat.le_of_ble_eq_true rfl) rfl ?_
          exact (s76_l la1 ua1 ew0 lw0 uw0 8) _ _ _ _ g15960 k15960 (by omega) (by omega) (by omega) (by omega) (by omega) (by omega) (by omega) ((jw_eq e15960)) (by omega) (by omega) (by omega)
      · refine ev_iconst ?_
        refine ev_goto f69_23 ?_
        refine ev_ret rfl (by decide) (by decide) ?_
        show jEv _ _ _ _ _ _ _ (_, [(2, 7), (0, a1), (0, 0), (9, 0)], [(0, 1)], _, _, _)
        refine ev_ifne f76_13 (fun c15961 => ?_) (fun c15961 => absurd c15961 (by omega))
        refine ev_iconst ?_
        refine ev_istore_n (L' := [(2, 7), (0, a1), (0, 0), (0, 0)]) (Nat.le_of_ble_eq_true rfl) rfl ?_
        exact (s76_l la1 ua1 ew0 lw0 uw0 8) _ _ _ _ g k0 (by omega) (by omega) (by omega) (by omega) (by omega) (by omega) (by omega) (ew0) (by omega) (by omega) (by omega)
/-! 80 lead -/
set_option maxHeartbeats 4000000 in
theorem s80 {G : GH} {h : JH} (g : Gd G h) {a1 : Int} (la1 : (-1) ≤ a1) (ua1 : a1 ≤ 199) {a2 : Int} (la2 : 0 ≤ a2) (ua2 : a2 ≤ 3) {a3 : Int} (la3 : (-2147483648) ≤ a3) (ua3 : a3 ≤ 2147483647) {a4 : Int} (la4 : (-1) ≤ a4) (ua4 : a4 ≤ 199) : jOk 2 0 0 80 [(2, 7), (0, a1), (0, a2), (0, a3), (0, a4)] h (PV G [(12, 0), (13, 0), (14, 0), (15, 0), (16, 0), (17, 0)] h) := by
  refine ⟨by decide, by rw [ml80]; exact Nat.le_of_ble_eq_true rfl, ?_⟩
  rw [ml80, pp80]
  show jEv _ none _ c80_0 0 0 _ (c80_0, [(2, 7), (0, a1), (0, a2), (0, a3), (0, a4)], [], h, 0, 0)
  have k0 := Kp.rf [(12, 0), (13, 0), (14, 0), (15, 0), (16, 0), (17, 0)] h
  refine ev_aload_n rfl ?_
  obtain ⟨v16022, ev16022, lv16022, uv16022⟩ := g.rd ad7 (show 1 < 15 by decide) rf7_1
  refine g_getv (r := 7) (v := v16022) g ad7 (by decide) ft5_1 ev16022 ?_
  refine ev_ifge f80_21 (fun c16023 => ?_) (fun c16023 => ?_)
  · exact ev_ret rfl (by decide) (by decide) ⟨rfl, g, k0⟩
  · refine ev_iload_n rfl ?_
    refine ev_iflt f80_21 (fun c16024 => ?_) (fun c16024 => ?_)
    · exact ev_ret rfl (by decide) (by decide) ⟨rfl, g, k0⟩
    · refine ev_iload rfl ?_
      refine ev_iflt f80_21 (fun c16025 => ?_) (fun c16025 => ?_)
      · exact ev_ret rfl (by decide) (by decide) ⟨rfl, g, k0⟩
      · refine ev_iload_n rfl ?_
        refine ev_iconst ?_
        refine ev_icmplt f80_22 (fun c16026 => ?_) (fun c16026 => absurd c16026 (by omega))
        refine ev_aload_n rfl ?_
        refine g_getp (r := 7) (c := 13) g ad7 (by decide) (by decide) rf7_10 ft5_10 ?_
        refine ev_iconst ?_
        refine ev_iload_n rfl ?_
        refine ev_imul (r := (4 * a1)) (by unfold w32; omega) ?_
        refine ev_iload_n rfl ?_
        refine ev_iadd (r := (4 * a1 + a2)) (by unfold w32; omega) ?_
        refine ev_iload rfl ?_
        refine g_iast g ad13 rt13 (fun _ => rfl) (by omega) (by omega) (by omega) (by omega) (fun h16027 e16027 g16027 => ?_)
        have k16027 := k0.wr e16027 rfl
        refine ev_aload_n rfl ?_
        refine g_getp (r := 7) (c := 14) g16027 ad7 (by decide) (by decide) rf7_11 ft5_11 ?_
        refine ev_iconst ?_
        refine ev_iload_n rfl ?_
        refine ev_imul (r := (4 * a1)) (by unfold w32; omega) ?_
        refine ev_iload_n rfl ?_
        refine ev_iadd (r := (4 * a1 + a2)) (by unfold w32; omega) ?_
        refine ev_iload_n rfl ?_
        refine g_iast g16027 ad14 rt14 (fun _ => rfl) (by omega) (by omega) (by omega) (by omega) (fun h16028 e16028 g16028 => ?_)
        have k16028 := k16027.wr e16028 rfl
        refine ev_aload_n rfl ?_
        refine g_getp (r := 7) (c := 12) g16028 ad7 (by decide) (by decide) rf7_9 ft5_9 ?_
        refine ev_iload_n rfl ?_
        refine ev_iload_n rfl ?_
        refine ev_iconst ?_
        refine ev_iadd (r := (a2 + 1)) (by unfold w32; omega) ?_
        refine g_iast g16028 ad12 rt12 (fun _ => rfl) (by omega) (by omega) (by omega) (by omega) (fun h16029 e16029 g16029 => ?_)
        have k16029 := k16028.wr e16029 rfl
        refine ev_aload_n rfl ?_
        refine g_getp (r := 7) (c := 15) g16029 ad7 (by decide) (by decide) rf7_12 ft5_12 ?_
        refine ev_iload_n rfl ?_
        refine ev_dup2 (by decide) (by decide) ?_
        refine g_iald g16029 ad15 rt15 (by omega) (by omega) (fun v16030 ev16030 lv16030 uv16030 => ?_)
        refine ev_aload_n rfl ?_
        refine g_getp (r := 7) (c := 15) g16029 ad7 (by decide) (by decide) rf7_12 ft5_12 ?_
        refine ev_iload rfl ?_
        refine g_iald g16029 ad15 rt15 (by omega) (by omega) (fun v16031 ev16031 lv16031 uv16031 => ?_)
        refine g_iorG (fun v16032 ev16032 lv16032 uv16032 => ?_)
        refine g_iast g16029 ad15 rt15 (fun _ => rfl) (by omega) (by omega) (by omega) (by omega) (fun h16033 e16033 g16033 => ?_)
        have k16033 := k16029.wr e16033 rfl
        refine ev_aload_n rfl ?_
        refine g_getp (r := 7) (c := 16) g16033 ad7 (by decide) (by decide) rf7_13 ft5_13 ?_
        refine ev_iload_n rfl ?_
        refine ev_aload_n rfl ?_
        refine g_getp (r := 7) (c := 16) g16033 ad7 (by decide) (by decide) rf7_13 ft5_13 ?_
        refine ev_iload_n rfl ?_
        refine g_iald g16033 ad16 rt16 (by omega) (by omega) (fun v16034 ev16034 lv16034 uv16034 => ?_)
        refine ev_iconst ?_
        refine ev_aload_n rfl ?_
        refine g_getp (r := 7) (c := 16) g16033 ad7 (by decide) (by decide) rf7_13 ft5_13 ?_
        refine ev_iload rfl ?_
        refine g_iald g16033 ad16 rt16 (by omega) (by omega) (fun v16035 ev16035 lv16035 uv16035 => ?_)
        refine g_iaddG (fun v16036 ev16036 lv16036 uv16036 => ?_)
        refine ev_in (d := 0) (a := 0) (b := 0) (cd' := c379_0) (m := 2) (L0 := [(0, v16034), (0, v16036)]) (jcall_s (A := [(0, v16036), (0, v16034)]) (S' := [(0, a1), (2, 16)]) (by decide) rfl (Nat.le_of_ble_eq_true rfl)) (by decide) ml379 pp379 (Nat.le_of_ble_eq_true rfl) rfl (by decide) (by decide) ?_
        refine ev_iload_n rfl ?_
        refine ev_iload_n rfl ?_
        refine ev_icmplt f379_9 (fun c16037 => ?_) (fun c16037 => ?_)
        · refine ev_iload_n rfl ?_
          refine ev_ret rfl (by decide) (by decide) ?_
          show jEv _ _ _ _ _ _ _ (_, [(2, 7), (0, a1), (0, a2), (0, a3), (0, a4)], [(0, v16036), (0, a1), (2, 16)], _, _, _)
          refine g_iast g16033 ad16 rt16 (fun _ => rfl) (by omega) (by omega) (by omega) (by omega) (fun h16038 e16038 g16038 => ?_)
          have k16038 := k16033.wr e16038 rfl
          refine ev_aload_n rfl ?_
          refine g_getp (r := 7) (c := 17) g16038 ad7 (by decide) (by decide) rf7_14 ft5_14 ?_
          refine ev_iload_n rfl ?_
          refine ev_sipush ?_
          refine ev_aload_n rfl ?_
          refine g_getp (r := 7) (c := 17) g16038 ad7 (by decide) (by decide) rf7_14 ft5_14 ?_
          refine ev_iload_n rfl ?_
          refine g_iald g16038 ad17 rt17 (by omega) (by omega) (fun v16039 ev16039 lv16039 uv16039 => ?_)
          refine ev_aload_n rfl ?_
          refine g_getp (r := 7) (c := 17) g16038 ad7 (by decide) (by decide) rf7_14 ft5_14 ?_
          refine ev_iload rfl ?_
          refine g_iald g16038 ad17 rt17 (by omega) (by omega) (fun v16040 ev16040 lv16040 uv16040 => ?_)
          refine g_iaddG (fun v16041 ev16041 lv16041 uv16041 => ?_)
          refine ev_in (d := 0) (a := 0) (b := 0) (cd' := c381_0) (m := 2) (L0 := [(0, 1000), (0, v16041)]) (jcall_s (A := [(0, v16041), (0, 1000)]) (S' := [(0, a1), (2, 17)]) (by decide) rfl (Nat.le_of_ble_eq_true rfl)) (by decide) ml381 pp381 (Nat.le_of_ble_eq_true rfl) rfl (by decide) (by decide) ?_
          refine ev_iload_n rfl ?_
          refine ev_iload_n rfl ?_
          refine ev_icmpgt f381_9 (fun c16042 => ?_) (fun c16042 => ?_)
          · refine ev_iload_n rfl ?_
            refine ev_ret rfl (by decide) (by decide) ?_
            show jEv _ _ _ _ _ _ _ (_, [(2, 7), (0, a1), (0, a2), (0, a3), (0, a4)], [(0, v16041), (0, a1), (2, 17)], _, _, _)
            refine g_iast g16038 ad17 rt17 (fun _ => rfl) (by omega) (by omega) (by omega) (by omega) (fun h16043 e16043 g16043 => ?_)
            have k16043 := k16038.wr e16043 rfl
            exact ev_ret rfl (by decide) (by decide) ⟨rfl, g16043, k16043⟩
          · refine ev_iload_n rfl ?_
            refine ev_goto f381_10 ?_
            refine ev_ret rfl (by decide) (by decide) ?_
            show jEv _ _ _ _ _ _ _ (_, [(2, 7), (0, a1), (0, a2), (0, a3), (0, a4)], [(0, 1000), (0, a1), (2, 17)], _, _, _)
            refine g_iast g16038 ad17 rt17 (fun _ => rfl) (by omega) (by omega) (by omega) (by omega) (fun h16044 e16044 g16044 => ?_)
            have k16044 := k16038.wr e16044 rfl
            exact ev_ret rfl (by decide) (by decide) ⟨rfl, g16044, k16044⟩
        · refine ev_iload_n rfl ?_
          refine ev_goto f379_10 ?_
          refine ev_ret rfl (by decide) (by decide) ?_
          show jEv _ _ _ _ _ _ _ (_, [(2, 7), (0, a1), (0, a2), (0, a3), (0, a4)], [(0, v16034), (0, a1), (2, 16)], _, _, _)
          refine g_iast g16033 ad16 rt16 (fun _ => rfl) (by omega) (by omega) (by omega) (by omega) (fun h16045 e16045 g16045 => ?_)
          have k16045 := k16033.wr e16045 rfl
          refine ev_aload_n rfl ?_
          refine g_getp (r := 7) (c := 17) g16045 ad7 (by decide) (by decide) rf7_14 ft5_14 ?_
          refine ev_iload_n rfl ?_
          refine ev_sipush ?_
          refine ev_aload_n rfl ?_
          refine g_getp (r := 7) (c := 17) g16045 ad7 (by decide) (by decide) rf7_14 ft5_14 ?_
          refine ev_iload_n rfl ?_
          refine g_iald g16045 ad17 rt17 (by omega) (by omega) (fun v16046 ev16046 lv16046 uv16046 => ?_)
          refine ev_aload_n rfl ?_
          refine g_getp (r := 7) (c := 17) g16045 ad7 (by decide) (by decide) rf7_14 ft5_14 ?_
          refine ev_iload rfl ?_
          refine g_iald g16045 ad17 rt17 (by omega) (by omega) (fun v16047 ev16047 lv16047 uv16047 => ?_)
          refine g_iaddG (fun v16048 ev16048 lv16048 uv16048 => ?_)
          refine ev_in (d := 0) (a := 0) (b := 0) (cd' := c381_0) (m := 2) (L0 := [(0, 1000), (0, v16048)]) (jcall_s (A := [(0, v16048), (0, 1000)]) (S' := [(0, a1), (2, 17)]) (by decide) rfl (Nat.le_of_ble_eq_true rfl)) (by decide) ml381 pp381 (Nat.le_of_ble_eq_true rfl) rfl (by decide) (by decide) ?_
          refine ev_iload_n rfl ?_
          refine ev_iload_n rfl ?_
          refine ev_icmpgt f381_9 (fun c16049 => ?_) (fun c16049 => ?_)
          · refine ev_iload_n rfl ?_
            refine ev_ret rfl (by decide) (by decide) ?_
            show jEv _ _ _ _ _ _ _ (_, [(2, 7), (0, a1), (0, a2), (0, a3), (0, a4)], [(0, v16048), (0, a1), (2, 17)], _, _, _)
            refine g_iast g16045 ad17 rt17 (fun _ => rfl) (by omega) (by omega) (by omega) (by omega) (fun h16050 e16050 g16050 => ?_)
            have k16050 := k16045.wr e16050 rfl
            exact ev_ret rfl (by decide) (by decide) ⟨rfl, g16050, k16050⟩
          · refine ev_iload_n rfl ?_
            refine ev_goto f381_10 ?_
            refine ev_ret rfl (by decide) (by decide) ?_
            show jEv _ _ _ _ _ _ _ (_, [(2, 7), (0, a1), (0, a2), (0, a3), (0, a4)], [(0, 1000), (0, a1), (2, 17)], _, _, _)
            refine g_iast g16045 ad17 rt17 (fun _ => rfl) (by omega) (by omega) (by omega) (by omega) (fun h16051 e16051 g16051 => ?_)
            have k16051 := k16045.wr e16051 rfl
            exact ev_ret rfl (by decide) (by decide) ⟨rfl, g16051, k16051⟩
/-! 75 readEnd -/
set_option maxHeartbeats 4000000 in
theorem s75 {G : GH} {h : JH} (g : Gd G h) {w0 : Int} (ew0 : h.2.2 7 1 = w0) (lw0 : (-1) ≤ w0) (uw0 : w0 ≤ 200) : jOk 4 0 0 75 [(2, 7)] h (fun v h' => ∃ r F : Int, v = some (0, r) ∧ (-1) ≤ r ∧ r ≤ 199 ∧ Gd G h' ∧ Kp [(7, 2), (7, 3), (7, 4), (10, 0), (11, 0), (12, 0), (13, 0), (14, 0), (15, 0), (16, 0), (17, 0)] h h' ∧ h'.2.2 7 1 = F ∧ ((-F) + w0) ≤ 0 ∧ ((-F) + (-r)) ≤ 1) := by
  refine ⟨by decide, by rw [ml75]; exact Nat.le_of_ble_eq_true rfl, ?_⟩
  rw [ml75, pp75]
  show jEv _ none _ c75_0 0 0 _ (c75_0, [(2, 7), (9, 0), (9, 0), (9, 0)], [], h, 0, 0)
  have k0 := Kp.rf [(7, 2), (7, 3), (7, 4), (10, 0), (11, 0), (12, 0), (13, 0), (14, 0), (15, 0), (16, 0), (17, 0)] h
  refine ev_aload_n rfl ?_
  refine ev_in (d := 2) (a := 0) (b := 0) (cd' := c68_0) (m := 1) (L0 := [(2, 7)]) (jcall_v (A := []) (S' := []) (r := 7) rfl (g.lt ad7) (g.tg ad7) (Nat.le_of_ble_eq_true rfl)) (by decide) ml68 pp68 (Nat.le_of_ble_eq_true rfl) rfl (by decide) (by decide) ?_
  refine ev_aload_n rfl ?_
  obtain ⟨v16136, ev16136, lv16136, uv16136⟩ := g.rd ad7 (show 2 < 15 by decide) rf7_2
  refine g_getv (r := 7) (v := v16136) g ad7 (by decide) ft5_2 ev16136 ?_
  refine ev_aload_n rfl ?_
  obtain ⟨v16137, ev16137, lv16137, uv16137⟩ := g.rd ad7 (show 0 < 15 by decide) rf7_0
  refine g_getv (r := 7) (v := v16137) g ad7 (by decide) ft5_0 ev16137 ?_
  refine ev_icmpge f68_27 (fun c16138 => ?_) (fun c16138 => ?_)
  · refine ev_iconst ?_
    refine ev_ret rfl (by decide) (by decide) ?_
    show jEv _ _ _ _ _ _ _ (_, [(2, 7), (9, 0), (9, 0), (9, 0)], [(0, (-1))], _, _, _)
    refine ev_bipush ?_
    refine ev_icmpne f75_13 (fun c16139 => ?_) (fun c16139 => absurd c16139 (by omega))
    refine ev_iconst ?_
    refine ev_istore_n (L' := [(2, 7), (0, 0), (9, 0), (9, 0)]) (Nat.le_of_ble_eq_true rfl) rfl ?_
    refine ev_iload_n rfl ?_
    refine ev_ifeq f75_29 (fun c16140 => ?_) (fun c16140 => absurd c16140 (by omega))
    refine ev_aload_n rfl ?_
    refine ev_iconst ?_
    refine ev_call (jcall_v (A := [(0, 3)]) (S' := []) (r := 7) rfl (g.lt ad7) (g.tg ad7) (Nat.le_of_ble_eq_true rfl)) (jOk_le (by decide) (s76 g (by omega) (by omega) (ew0) (by omega) (by omega))) (by decide) (by decide) (fun w16141 h16141 q16141 => ?_)
    obtain ⟨v16143, v16142, rfl, lv16143, uv16143, g16141, kk16141, ev16142, p16141_0⟩ := q16141
    have bv16142 := g16141.rg ad7 (i := 1) (by decide) rf7_1
    rw [ev16142] at bv16142
    have k16141 := k0.tr kk16141 (by decide)
    show jEv _ _ _ _ _ _ _ (_, [(2, 7), (0, 0), (9, 0), (9, 0)], [(0, v16143)], _, _, _)
    refine ev_istore_n (L' := [(2, 7), (0, 0), (0, v16143), (9, 0)]) (Nat.le_of_ble_eq_true rfl) rfl ?_
    refine ev_aload_n rfl ?_
    refine ev_iconst ?_
    refine ev_call (jcall_v (A := [(0, 0)]) (S' := []) (r := 7) rfl (g16141.lt ad7) (g16141.tg ad7) (Nat.le_of_ble_eq_true rfl)) (jOk_le (by decide) (s73 g16141 (by omega) (by omega) (ev16142) (by omega) (by omega))) (by decide) (by decide) (fun w16144 h16144 q16144 => ?_)
    obtain ⟨v16146, v16145, rfl, lv16146, uv16146, g16144, kk16144, ev16145, p16144_0, p16144_1⟩ := q16144
    have bv16145 := g16144.rg ad7 (i := 1) (by decide) rf7_1
    rw [ev16145] at bv16145
    have k16144 := k16141.tr kk16144 (by decide)
    show jEv _ _ _ _ _ _ _ (_, [(2, 7), (0, 0), (0, v16143), (9, 0)], [(0, v16146)], _, _, _)
    refine ev_istore_n (L' := [(2, 7), (0, 0), (0, v16143), (0, v16146)]) (Nat.le_of_ble_eq_true rfl) rfl ?_
    refine ev_aload_n rfl ?_
    refine g_getv (r := 7) (v := v16145) g16144 ad7 (by decide) ft5_1 (ev16145) ?_
    refine ev_ifge f75_52 (fun c16147 => ?_) (fun c16147 => ?_)
    · refine ev_iconst ?_
      exact ev_ret rfl (by decide) (by decide) ⟨_, _, rfl, by omega, by omega, g16144, k16144, (ev16145), by omega, by omega⟩
    · refine ev_iload_n rfl ?_
      refine ev_ifge f75_54 (fun c16148 => ?_) (fun c16148 => absurd c16148 (by omega))
      refine ev_aload_n rfl ?_
      refine g_getp (r := 7) (c := 11) g16144 ad7 (by decide) (by decide) rf7_8 ft5_8 ?_
      refine ev_iload_n rfl ?_
      refine ev_iload_n rfl ?_
      refine ev_ifeq f75_68 (fun c16149 => ?_) (fun c16149 => absurd c16149 (by omega))
      refine ev_iload_n rfl ?_
      refine g_iast g16144 ad11 rt11 (fun _ => rfl) (by omega) (by omega) (by omega) (by omega) (fun h16150 e16150 g16150 => ?_)
      have k16150 := k16144.wr e16150 rfl
      refine ev_iload_n rfl ?_
      exact ev_ret rfl (by decide) (by decide) ⟨_, _, rfl, by omega, by omega, g16150, k16150, (((jw_ne e16150 (Or.inl (by decide))).trans ev16145)), by omega, by omega⟩
  · refine ev_aload_n rfl ?_
    refine g_getp (r := 7) (c := 8) g ad7 (by decide) (by decide) rf7_5 ft5_5 ?_
    refine ev_aload_n rfl ?_
    refine g_getv (r := 7) (v := v16136) g ad7 (by decide) ft5_2 (ev16136) ?_
    refine g_bald g ad8 rt8 (by omega) (by omega) (fun v16151 ev16151 lv16151 uv16151 => ?_)
    refine ev_sipush ?_
    refine g_iandB (b := 255) (by omega) (by omega) (by decide) (fun v16152 ev16152 lv16152 uv16152 => ?_)
    refine ev_goto f68_28 ?_
    refine ev_ret rfl (by decide) (by decide) ?_
    show jEv _ _ _ _ _ _ _ (_, [(2, 7), (9, 0), (9, 0), (9, 0)], [(0, v16152)], _, _, _)
    refine ev_bipush ?_
    refine ev_icmpne f75_13 (fun c16153 => ?_) (fun c16153 => ?_)
    · refine ev_iconst ?_
      refine ev_istore_n (L' := [(2, 7), (0, 0), (9, 0), (9, 0)]) (Nat.le_of_ble_eq_true rfl) rfl ?_
      refine ev_iload_n rfl ?_
      refine ev_ifeq f75_29 (fun c16154 => ?_) (fun c16154 => absurd c16154 (by omega))
      refine ev_aload_n rfl ?_
      refine ev_iconst ?_
      refine ev_call (jcall_v (A := [(0, 3)]) (S' := []) (r := 7) rfl (g.lt ad7) (g.tg ad7) (Nat.le_of_ble_eq_true rfl)) (jOk_le (by decide) (s76 g (by omega) (by omega) (ew0) (by omega) (by omega))) (by decide) (by decide) (fun w16155 h16155 q16155 => ?_)
      obtain ⟨v16157, v16156, rfl, lv16157, uv16157, g16155, kk16155, ev16156, p16155_0⟩ := q16155
      have bv16156 := g16155.rg ad7 (i := 1) (by decide) rf7_1
      rw [ev16156] at bv16156
      have k16155 := k0.tr kk16155 (by decide)
      show jEv _ _ _ _ _ _ _ (_, [(2, 7), (0, 0), (9, 0), (9, 0)], [(0, v16157)], _, _, _)
      refine ev_istore_n (L' := [(2, 7), (0, 0), (0, v16157), (9, 0)]) (Nat.le_of_ble_eq_true rfl) rfl ?_
      refine ev_aload_n rfl ?_
      refine ev_iconst ?_
      refine ev_call (jcall_v (A := [(0, 0)]) (S' := []) (r := 7) rfl (g16155.lt ad7) (g16155.tg ad7) (Nat.le_of_ble_eq_true rfl)) (jOk_le (by decide) (s73 g16155 (by omega) (by omega) (ev16156) (by omega) (by omega))) (by decide) (by decide) (fun w16158 h16158 q16158 => ?_)
      obtain ⟨v16160, v16159, rfl, lv16160, uv16160, g16158, kk16158, ev16159, p16158_0, p16158_1⟩ := q16158
      have bv16159 := g16158.rg ad7 (i := 1) (by decide) rf7_1
      rw [ev16159] at bv16159
      have k16158 := k16155.tr kk16158 (by decide)
      show jEv _ _ _ _ _ _ _ (_, [(2, 7), (0, 0), (0, v16157), (9, 0)], [(0, v16160)], _, _, _)
      refine ev_istore_n (L' := [(2, 7), (0, 0), (0, v16157), (0, v16160)]) (Nat.le_of_ble_eq_true rfl) rfl ?_
      refine ev_aload_n rfl ?_
      refine g_getv (r := 7) (v := v16159) g16158 ad7 (by decide) ft5_1 (ev16159) ?_
      refine ev_ifge f75_52 (fun c16161 => ?_) (fun c16161 => ?_)
      · refine ev_iconst ?_
        exact ev_ret rfl (by decide) (by decide) ⟨_, _, rfl, by omega, by omega, g16158, k16158, (ev16159), by omega, by omega⟩
      · refine ev_iload_n rfl ?_
        refine ev_ifge f75_54 (fun c16162 => ?_) (fun c16162 => absurd c16162 (by omega))
        refine ev_aload_n rfl ?_
        refine g_getp (r := 7) (c := 11) g16158 ad7 (by decide) (by decide) rf7_8 ft5_8 ?_
        refine ev_iload_n rfl ?_
        refine ev_iload_n rfl ?_
        refine ev_ifeq f75_68 (fun c16163 => ?_) (fun c16163 => absurd c16163 (by omega))
        refine ev_iload_n rfl ?_
        refine g_iast g16158 ad11 rt11 (fun _ => rfl) (by omega) (by omega) (by omega) (by omega) (fun h16164 e16164 g16164 => ?_)
        have k16164 := k16158.wr e16164 rfl
        refine ev_iload_n rfl ?_
        exact ev_ret rfl (by decide) (by decide) ⟨_, _, rfl, by omega, by omega, g16164, k16164, (((jw_ne e16164 (Or.inl (by decide))).trans ev16159)), by omega, by omega⟩
    · refine ev_iconst ?_
      refine ev_goto f75_14 ?_
      refine ev_istore_n (L' := [(2, 7), (0, 1), (9, 0), (9, 0)]) (Nat.le_of_ble_eq_true rfl) rfl ?_
      refine ev_iload_n rfl ?_
      refine ev_ifeq f75_29 (fun c16165 => absurd c16165 (by omega)) (fun c16165 => ?_)
      refine ev_aload_n rfl ?_
      refine ev_dup (by decide) ?_
      refine g_getv (r := 7) (v := v16136) g ad7 (by decide) ft5_2 (ev16136) ?_
      refine ev_iconst ?_
      refine ev_iadd (r := (v16136 + 1)) (by unfold w32; omega) ?_
      refine g_putf (r := 7) g ad7 (by decide) ft5_2 (by decide) (fun e => absurd e nz5_2) rf7_2 (by decide) (by omega) (by omega) (fun h16166 e16166 g16166 => ?_)
      have k16166 := k0.wr e16166 rfl
      refine ev_aload_n rfl ?_
      refine ev_iconst ?_
      refine ev_call (jcall_v (A := [(0, 3)]) (S' := []) (r := 7) rfl (g16166.lt ad7) (g16166.tg ad7) (Nat.le_of_ble_eq_true rfl)) (jOk_le (by decide) (s76 g16166 (by omega) (by omega) (((jw_ne e16166 (Or.inr (by decide))).trans ew0)) (by omega) (by omega))) (by decide) (by decide) (fun w16167 h16167 q16167 => ?_)
      obtain ⟨v16169, v16168, rfl, lv16169, uv16169, g16167, kk16167, ev16168, p16167_0⟩ := q16167
      have bv16168 := g16167.rg ad7 (i := 1) (by decide) rf7_1
      rw [ev16168] at bv16168
      have k16167 := k16166.tr kk16167 (by decide)
      show jEv _ _ _ _ _ _ _ (_, [(2, 7), (0, 1), (9, 0), (9, 0)], [(0, v16169)], _, _, _)
      refine ev_istore_n (L' := [(2, 7), (0, 1), (0, v16169), (9, 0)]) (Nat.le_of_ble_eq_true rfl) rfl ?_
      refine ev_aload_n rfl ?_
      refine ev_iconst ?_
      refine ev_call (jcall_v (A := [(0, 0)]) (S' := []) (r := 7) rfl (g16167.lt ad7) (g16167.tg ad7) (Nat.le_of_ble_eq_true rfl)) (jOk_le (by decide) (s73 g16167 (by omega) (by omega) (ev16168) (by omega) (by omega))) (by decide) (by decide) (fun w16170 h16170 q16170 => ?_)
      obtain ⟨v16172, v16171, rfl, lv16172, uv16172, g16170, kk16170, ev16171, p16170_0, p16170_1⟩ := q16170
      have bv16171 := g16170.rg ad7 (i := 1) (by decide) rf7_1
      rw [ev16171] at bv16171
      have k16170 := k16167.tr kk16170 (by decide)
      show jEv _ _ _ _ _ _ _ (_, [(2, 7), (0, 1), (0, v16169), (9, 0)], [(0, v16172)], _, _, _)
      refine ev_istore_n (L' := [(2, 7), (0, 1), (0, v16169), (0, v16172)]) (Nat.le_of_ble_eq_true rfl) rfl ?_
      refine ev_aload_n rfl ?_
      refine g_getv (r := 7) (v := v16171) g16170 ad7 (by decide) ft5_1 (ev16171) ?_
      refine ev_ifge f75_52 (fun c16173 => ?_) (fun c16173 => ?_)
      · refine ev_iconst ?_
        exact ev_ret rfl (by decide) (by decide) ⟨_, _, rfl, by omega, by omega, g16170, k16170, (ev16171), by omega, by omega⟩
      · refine ev_iload_n rfl ?_
        refine ev_ifge f75_54 (fun c16174 => ?_) (fun c16174 => absurd c16174 (by omega))
        refine ev_aload_n rfl ?_
        refine g_getp (r := 7) (c := 11) g16170 ad7 (by decide) (by decide) rf7_8 ft5_8 ?_
        refine ev_iload_n rfl ?_
        refine ev_iload_n rfl ?_
        refine ev_ifeq f75_68 (fun c16175 => absurd c16175 (by omega)) (fun c16175 => ?_)
        refine ev_iload_n rfl ?_
        refine g_inegG (fun v16176 ev16176 lv16176 uv16176 => ?_)
        refine ev_goto f75_69 ?_
        refine g_iast g16170 ad11 rt11 (fun _ => rfl) (by omega) (by omega) (by omega) (by omega) (fun h16177 e16177 g16177 => ?_)
        have k16177 := k16170.wr e16177 rfl
        refine ev_iload_n rfl ?_
        exact ev_ret rfl (by decide) (by decide) ⟨_, _, rfl, by omega, by omega, g16177, k16177, (((jw_ne e16177 (Or.inl (by decide))).trans ev16171)), by omega, by omega⟩
/-! 77 readCapital -/
set_option maxHeartbeats 4000000 in
theorem s77 {G : GH} {h : JH} (g : Gd G h) {a1 : Int} (la1 : 0 ≤ a1) (ua1 : a1 ≤ 13) {a2 : Int} (la2 : (-2147483648) ≤ a2) (ua2 : a2 ≤ 2147483647) {w0 : Int} (ew0 : h.2.2 7 1 = w0) (lw0 : (-1) ≤ w0) (uw0 : w0 ≤ 200) : jOk 2 0 0 77 [(2, 7), (0, a1), (0, a2)] h (fun v h' => ∃ r F : Int, v = some (0, r) ∧ (-1) ≤ r ∧ r ≤ 199 ∧ Gd G h' ∧ Kp [(7, 2), (7, 3), (7, 4), (10, 0), (11, 0), (12, 0), (13, 0), (14, 0), (15, 0), (16, 0), (17, 0)] h h' ∧ h'.2.2 7 1 = F ∧ ((-F) + w0) ≤ 0 ∧ ((-F) + (-r)) ≤ 1) := by
  refine ⟨by decide, by rw [ml77]; exact Nat.le_of_ble_eq_true rfl, ?_⟩
  rw [ml77, pp77]
  show jEv _ none _ c77_0 0 0 _ (c77_0, [(2, 7), (0, a1), (0, a2), (9, 0), (9, 0)], [], h, 0, 0)
  have k0 := Kp.rf [(7, 2), (7, 3), (7, 4), (10, 0), (11, 0), (12, 0), (13, 0), (14, 0), (15, 0), (16, 0), (17, 0)] h
  refine ev_aload_n rfl ?_
  refine ev_in (d := 0) (a := 0) (b := 0) (cd' := c68_0) (m := 1) (L0 := [(2, 7)]) (jcall_v (A := []) (S' := []) (r := 7) rfl (g.lt ad7) (g.tg ad7) (Nat.le_of_ble_eq_true rfl)) (by decide) ml68 pp68 (Nat.le_of_ble_eq_true rfl) rfl (by decide) (by decide) ?_
  refine ev_aload_n rfl ?_
  obtain ⟨v16232, ev16232, lv16232, uv16232⟩ := g.rd ad7 (show 2 < 15 by decide) rf7_2
  refine g_getv (r := 7) (v := v16232) g ad7 (by decide) ft5_2 ev16232 ?_
  refine ev_aload_n rfl ?_
  obtain ⟨v16233, ev16233, lv16233, uv16233⟩ := g.rd ad7 (show 0 < 15 by decide) rf7_0
  refine g_getv (r := 7) (v := v16233) g ad7 (by decide) ft5_0 ev16233 ?_
  refine ev_icmpge f68_27 (fun c16234 => ?_) (fun c16234 => ?_)
  · refine ev_iconst ?_
    refine ev_ret rfl (by decide) (by decide) ?_
    show jEv _ _ _ _ _ _ _ (_, [(2, 7), (0, a1), (0, a2), (9, 0), (9, 0)], [(0, (-1))], _, _, _)
    refine ev_bipush ?_
    refine ev_isub (r := (-66)) (by decide) ?_
    refine ev_istore_n (L' := [(2, 7), (0, a1), (0, a2), (0, (-66)), (9, 0)]) (Nat.le_of_ble_eq_true rfl) rfl ?_
    refine ev_iload_n rfl ?_
    refine ev_iflt f77_20 (fun c16235 => ?_) (fun c16235 => absurd c16235 (by omega))
    refine ev_aload_n rfl ?_
    refine ev_in (d := 0) (a := 0) (b := 0) (cd' := c70_0) (m := 1) (L0 := [(2, 7)]) (jcall_v (A := []) (S' := []) (r := 7) rfl (g.lt ad7) (g.tg ad7) (Nat.le_of_ble_eq_true rfl)) (by decide) ml70 pp70 (Nat.le_of_ble_eq_true rfl) rfl (by decide) (by decide) ?_
    refine ev_aload_n rfl ?_
    refine g_getv (r := 7) (v := w0) g ad7 (by decide) ft5_1 (ew0) ?_
    refine ev_ifge f70_15 (fun c16236 => ?_) (fun c16236 => ?_)
    · refine ev_ret rfl (by decide) (by decide) ?_
      show jEv _ _ _ _ _ _ _ (_, [(2, 7), (0, a1), (0, a2), (0, (-66)), (9, 0)], [], _, _, _)
      refine ev_iconst ?_
      exact ev_ret rfl (by decide) (by decide) ⟨_, _, rfl, by omega, by omega, g, k0, (ew0), by omega, by omega⟩
    · refine ev_aload_n rfl ?_
      refine ev_aload_n rfl ?_
      refine g_getv (r := 7) (v := v16232) g ad7 (by decide) ft5_2 (ev16232) ?_
      refine g_putf (r := 7) g ad7 (by decide) ft5_1 (by decide) (fun e => absurd e nz5_1) rf7_1 (by decide) (by omega) (by omega) (fun h16237 e16237 g16237 => ?_)
      have k16237 := k0.wr e16237 rfl
      refine ev_ret rfl (by decide) (by decide) ?_
      show jEv _ _ _ _ _ _ _ (_, [(2, 7), (0, a1), (0, a2), (0, (-66)), (9, 0)], [], _, _, _)
      refine ev_iconst ?_
      exact ev_ret rfl (by decide) (by decide) ⟨_, _, rfl, by omega, by omega, g16237, k16237, ((jw_eq e16237)), by omega, by omega⟩
  · refine ev_aload_n rfl ?_
    refine g_getp (r := 7) (c := 8) g ad7 (by decide) (by decide) rf7_5 ft5_5 ?_
    refine ev_aload_n rfl ?_
    refine g_getv (r := 7) (v := v16232) g ad7 (by decide) ft5_2 (ev16232) ?_
    refine g_bald g ad8 rt8 (by omega) (by omega) (fun v16238 ev16238 lv16238 uv16238 => ?_)
    refine ev_sipush ?_
    refine g_iandB (b := 255) (by omega) (by omega) (by decide) (fun v16239 ev16239 lv16239 uv16239 => ?_)
    refine ev_goto f68_28 ?_
    refine ev_ret rfl (by decide) (by decide) ?_
    show jEv _ _ _ _ _ _ _ (_, [(2, 7), (0, a1), (0, a2), (9, 0), (9, 0)], [(0, v16239)], _, _, _)
    refine ev_bipush ?_
    refine ev_isub (r := (v16239 - 65)) (by unfold w32; omega) ?_
    refine ev_istore_n (L' := [(2, 7), (0, a1), (0, a2), (0, (v16239 - 65)), (9, 0)]) (Nat.le_of_ble_eq_true rfl) rfl ?_
    refine ev_iload_n rfl ?_
    refine ev_iflt f77_20 (fun c16240 => ?_) (fun c16240 => ?_)
    · refine ev_aload_n rfl ?_
      refine ev_in (d := 0) (a := 0) (b := 0) (cd' := c70_0) (m := 1) (L0 := [(2, 7)]) (jcall_v (A := []) (S' := []) (r := 7) rfl (g.lt ad7) (g.tg ad7) (Nat.le_of_ble_eq_true rfl)) (by decide) ml70 pp70 (Nat.le_of_ble_eq_true rfl) rfl (by decide) (by decide) ?_
      refine ev_aload_n rfl ?_
      refine g_getv (r := 7) (v := w0) g ad7 (by decide) ft5_1 (ew0) ?_
      refine ev_ifge f70_15 (fun c16241 => ?_) (fun c16241 => ?_)
      · refine ev_ret rfl (by decide) (by decide) ?_
        show jEv _ _ _ _ _ _ _ (_, [(2, 7), (0, a1), (0, a2), (0, (v16239 - 65)), (9, 0)], [], _, _, _)
        refine ev_iconst ?_
        exact ev_ret rfl (by decide) (by decide) ⟨_, _, rfl, by omega, by omega, g, k0, (ew0), by omega, by omega⟩
      · refine ev_aload_n rfl ?_
        refine ev_aload_n rfl ?_
        refine g_getv (r := 7) (v := v16232) g ad7 (by decide) ft5_2 (ev16232) ?_
        refine g_putf (r := 7) g ad7 (by decide) ft5_1 (by decide) (fun e => absurd e nz5_1) rf7_1 (by decide) (by omega) (by omega) (fun h16242 e16242 g16242 => ?_)
        have k16242 := k0.wr e16242 rfl
        refine ev_ret rfl (by decide) (by decide) ?_
        show jEv _ _ _ _ _ _ _ (_, [(2, 7), (0, a1), (0, a2), (0, (v16239 - 65)), (9, 0)], [], _, _, _)
        refine ev_iconst ?_
        exact ev_ret rfl (by decide) (by decide) ⟨_, _, rfl, by omega, by omega, g16242, k16242, ((jw_eq e16242)), by omega, by omega⟩
    · refine ev_iload_n rfl ?_
      refine ev_aload_n rfl ?_
      obtain ⟨v16243, ev16243, lv16243, uv16243⟩ := g.rd ad7 (show 4 < 15 by decide) rf7_4
      refine g_getv (r := 7) (v := v16243) g ad7 (by decide) ft5_4 ev16243 ?_
      refine ev_icmplt f77_26 (fun c16244 => ?_) (fun c16244 => ?_)
      · refine ev_aload_n rfl ?_
        refine g_getp (r := 7) (c := 9) g ad7 (by decide) (by decide) rf7_6 ft5_6 ?_
        refine ev_iload_n rfl ?_
        refine g_iald g ad9 rt9 (by omega) (by omega) (fun v16245 ev16245 lv16245 uv16245 => ?_)
        refine ev_istore (L' := [(2, 7), (0, a1), (0, a2), (0, (v16239 - 65)), (0, v16245)]) (Nat.le_of_ble_eq_true rfl) rfl ?_
        refine ev_aload_n rfl ?_
        refine g_getp (r := 7) (c := 15) g ad7 (by decide) (by decide) rf7_12 ft5_12 ?_
        refine ev_iload rfl ?_
        refine g_iald g ad15 rt15 (by omega) (by omega) (fun v16246 ev16246 lv16246 uv16246 => ?_)
        refine ev_iload_n rfl ?_
        refine g_iandG (fun v16247 ev16247 lv16247 uv16247 => ?_)
        refine ev_ifne f77_60 (fun c16248 => ?_) (fun c16248 => ?_)
        · refine ev_aload_n rfl ?_
          refine ev_in (d := 0) (a := 0) (b := 0) (cd' := c70_0) (m := 1) (L0 := [(2, 7)]) (jcall_v (A := []) (S' := []) (r := 7) rfl (g.lt ad7) (g.tg ad7) (Nat.le_of_ble_eq_true rfl)) (by decide) ml70 pp70 (Nat.le_of_ble_eq_true rfl) rfl (by decide) (by decide) ?_
          refine ev_aload_n rfl ?_
          refine g_getv (r := 7) (v := w0) g ad7 (by decide) ft5_1 (ew0) ?_
          refine ev_ifge f70_15 (fun c16249 => ?_) (fun c16249 => ?_)
          · refine ev_ret rfl (by decide) (by decide) ?_
            show jEv _ _ _ _ _ _ _ (_, [(2, 7), (0, a1), (0, a2), (0, (v16239 - 65)), (0, v16245)], [], _, _, _)
            refine ev_iconst ?_
            exact ev_ret rfl (by decide) (by decide) ⟨_, _, rfl, by omega, by omega, g, k0, (ew0), by omega, by omega⟩
          · refine ev_aload_n rfl ?_
            refine ev_aload_n rfl ?_
            refine g_getv (r := 7) (v := v16232) g ad7 (by decide) ft5_2 (ev16232) ?_
            refine g_putf (r := 7) g ad7 (by decide) ft5_1 (by decide) (fun e => absurd e nz5_1) rf7_1 (by decide) (by omega) (by omega) (fun h16250 e16250 g16250 => ?_)
            have k16250 := k0.wr e16250 rfl
            refine ev_ret rfl (by decide) (by decide) ?_
            show jEv _ _ _ _ _ _ _ (_, [(2, 7), (0, a1), (0, a2), (0, (v16239 - 65)), (0, v16245)], [], _, _, _)
            refine ev_iconst ?_
            exact ev_ret rfl (by decide) (by decide) ⟨_, _, rfl, by omega, by omega, g16250, k16250, ((jw_eq e16250)), by omega, by omega⟩
        · refine ev_iload_n rfl ?_
          refine ev_aload_n rfl ?_
          refine g_getp (r := 7) (c := 16) g ad7 (by decide) (by decide) rf7_13 ft5_13 ?_
          refine ev_iload rfl ?_
          refine g_iald g ad16 rt16 (by omega) (by omega) (fun v16251 ev16251 lv16251 uv16251 => ?_)
          refine g_iaddG (fun v16252 ev16252 lv16252 uv16252 => ?_)
          refine ev_bipush ?_
          refine ev_icmple f77_66 (fun c16253 => ?_) (fun c16253 => ?_)
          · refine ev_aload_n rfl ?_
            refine ev_dup (by decide) ?_
            refine g_getv (r := 7) (v := v16232) g ad7 (by decide) ft5_2 (ev16232) ?_
            refine ev_iconst ?_
            refine ev_iadd (r := (v16232 + 1)) (by unfold w32; omega) ?_
            refine g_putf (r := 7) g ad7 (by decide) ft5_2 (by decide) (fun e => absurd e nz5_2) rf7_2 (by decide) (by omega) (by omega) (fun h16254 e16254 g16254 => ?_)
            have k16254 := k0.wr e16254 rfl
            refine ev_iload rfl ?_
            exact ev_ret rfl (by decide) (by decide) ⟨_, _, rfl, by omega, by omega, g16254, k16254, (((jw_ne e16254 (Or.inr (by decide))).trans ew0)), by omega, by omega⟩
          · refine ev_aload_n rfl ?_
            refine ev_in (d := 0) (a := 0) (b := 0) (cd' := c70_0) (m := 1) (L0 := [(2, 7)]) (jcall_v (A := []) (S' := []) (r := 7) rfl (g.lt ad7) (g.tg ad7) (Nat.le_of_ble_eq_true rfl)) (by decide) ml70 pp70 (Nat.le_of_ble_eq_true rfl) rfl (by decide) (by decide) ?_
            refine ev_aload_n rfl ?_
            refine g_getv (r := 7) (v := w0) g ad7 (by decide) ft5_1 (ew0) ?_
            refine ev_ifge f70_15 (fun c16255 => ?_) (fun c16255 => ?_)
            · refine ev_ret rfl (by decide) (by decide) ?_
              show jEv _ _ _ _ _ _ _ (_, [(2, 7), (0, a1), (0, a2), (0, (v16239 - 65)), (0, v16245)], [], _, _, _)
              refine ev_iconst ?_
              exact ev_ret rfl (by decide) (by decide) ⟨_, _, rfl, by omega, by omega, g, k0, (ew0), by omega, by omega⟩
            · refine ev_aload_n rfl ?_
              refine ev_aload_n rfl ?_
              refine g_getv (r := 7) (v := v16232) g ad7 (by decide) ft5_2 (ev16232) ?_
              refine g_putf (r := 7) g ad7 (by decide) ft5_1 (by decide) (fun e => absurd e nz5_1) rf7_1 (by decide) (by omega) (by omega) (fun h16256 e16256 g16256 => ?_)
              have k16256 := k0.wr e16256 rfl
              refine ev_ret rfl (by decide) (by decide) ?_
              show jEv _ _ _ _ _ _ _ (_, [(2, 7), (0, a1), (0, a2), (0, (v16239 - 65)), (0, v16245)], [], _, _, _)
              refine ev_iconst ?_
              exact ev_ret rfl (by decide) (by decide) ⟨_, _, rfl, by omega, by omega, g16256, k16256, ((jw_eq e16256)), by omega, by omega⟩
      · refine ev_aload_n rfl ?_
        refine ev_in (d := 0) (a := 0) (b := 0) (cd' := c70_0) (m := 1) (L0 := [(2, 7)]) (jcall_v (A := []) (S' := []) (r := 7) rfl (g.lt ad7) (g.tg ad7) (Nat.le_of_ble_eq_true rfl)) (by decide) ml70 pp70 (Nat.le_of_ble_eq_true rfl) rfl (by decide) (by decide) ?_
        refine ev_aload_n rfl ?_
        refine g_getv (r := 7) (v := w0) g ad7 (by decide) ft5_1 (ew0) ?_
        refine ev_ifge f70_15 (fun c16257 => ?_) (fun c16257 => ?_)
        · refine ev_ret rfl (by decide) (by decide) ?_
          show jEv _ _ _ _ _ _ _ (_, [(2, 7), (0, a1), (0, a2), (0, (v16239 - 65)), (9, 0)], [], _, _, _)
          refine ev_iconst ?_
          exact ev_ret rfl (by decide) (by decide) ⟨_, _, rfl, by omega, by omega, g, k0, (ew0), by omega, by omega⟩
        · refine ev_aload_n rfl ?_
          refine ev_aload_n rfl ?_
          refine g_getv (r := 7) (v := v16232) g ad7 (by decide) ft5_2 (ev16232) ?_
          refine g_putf (r := 7) g ad7 (by decide) ft5_1 (by decide) (fun e => absurd e nz5_1) rf7_1 (by decide) (by omega) (by omega) (fun h16258 e16258 g16258 => ?_)
          have k16258 := k0.wr e16258 rfl
          refine ev_ret rfl (by decide) (by decide) ?_
          show jEv _ _ _ _ _ _ _ (_, [(2, 7), (0, a1), (0, a2), (0, (v16239 - 65)), (9, 0)], [], _, _, _)
          refine ev_iconst ?_
          exact ev_ret rfl (by decide) (by decide) ⟨_, _, rfl, by omega, by omega, g16258, k16258, ((jw_eq e16258)), by omega, by omega⟩
/-! s74_13  -/
set_option maxHeartbeats 4000000 in
theorem s74_13 {G : GH} {h : JH} (g : Gd G h) {a3 : Int} (la3 : (-2147483648) ≤ a3) (ua3 : a3 ≤ 2147483647) {w0 : Int} (ew0 : h.2.2 7 1 = w0) (lw0 : (-1) ≤ w0) (uw0 : w0 ≤ 200) : jOk 2 0 0 74 [(2, 7), (2, 1), (0, 13), (0, a3)] h (fun v h' => ∃ r F : Int, v = some (0, r) ∧ (-1) ≤ r ∧ r ≤ 199 ∧ Gd G h' ∧ Kp [(7, 2), (7, 3), (7, 4), (10, 0), (11, 0), (12, 0), (13, 0), (14, 0), (15, 0), (16, 0), (17, 0)] h h' ∧ h'.2.2 7 1 = F ∧ ((-F) + w0) ≤ 0 ∧ ((-F) + (-r)) ≤ 1) := by
  refine ⟨by decide, by rw [ml74]; exact Nat.le_of_ble_eq_true rfl, ?_⟩
  rw [ml74, pp74]
  show jEv _ none _ c74_0 0 0 _ (c74_0, [(2, 7), (2, 1), (0, 13), (0, a3), (9, 0)], [], h, 0, 0)
  have k0 := Kp.rf [(7, 2), (7, 3), (7, 4), (10, 0), (11, 0), (12, 0), (13, 0), (14, 0), (15, 0), (16, 0), (17, 0)] h
  refine ev_aload_n rfl ?_
  refine g_getv (r := 7) (v := w0) g ad7 (by decide) ft5_1 (ew0) ?_
  refine ev_ifge f74_13 (fun c16271 => ?_) (fun c16271 => ?_)
  · refine ev_aload_n rfl ?_
    refine ev_in (d := 0) (a := 0) (b := 0) (cd' := c70_0) (m := 1) (L0 := [(2, 7)]) (jcall_v (A := []) (S' := []) (r := 7) rfl (g.lt ad7) (g.tg ad7) (Nat.le_of_ble_eq_true rfl)) (by decide) ml70 pp70 (Nat.le_of_ble_eq_true rfl) rfl (by decide) (by decide) ?_
    refine ev_aload_n rfl ?_
    refine g_getv (r := 7) (v := w0) g ad7 (by decide) ft5_1 (ew0) ?_
    refine ev_ifge f70_15 (fun c16272 => ?_) (fun c16272 => absurd c16272 (by omega))
    refine ev_ret rfl (by decide) (by decide) ?_
    show jEv _ _ _ _ _ _ _ (_, [(2, 7), (2, 1), (0, 13), (0, a3), (9, 0)], [], _, _, _)
    refine ev_iconst ?_
    exact ev_ret rfl (by decide) (by decide) ⟨_, _, rfl, by omega, by omega, g, k0, (ew0), by omega, by omega⟩
  · refine ev_iload_n rfl ?_
    refine ev_bipush ?_
    refine ev_icmple f74_19 (fun c16273 => absurd c16273 (by omega)) (fun c16273 => ?_)
    refine ev_aload_n rfl ?_
    refine ev_in (d := 0) (a := 0) (b := 0) (cd' := c70_0) (m := 1) (L0 := [(2, 7)]) (jcall_v (A := []) (S' := []) (r := 7) rfl (g.lt ad7) (g.tg ad7) (Nat.le_of_ble_eq_true rfl)) (by decide) ml70 pp70 (Nat.le_of_ble_eq_true rfl) rfl (by decide) (by decide) ?_
    refine ev_aload_n rfl ?_
    refine g_getv (r := 7) (v := w0) g ad7 (by decide) ft5_1 (ew0) ?_
    refine ev_ifge f70_15 (fun c16274 => absurd c16274 (by omega)) (fun c16274 => ?_)
    refine ev_aload_n rfl ?_
    refine ev_aload_n rfl ?_
    obtain ⟨v16275, ev16275, lv16275, uv16275⟩ := g.rd ad7 (show 2 < 15 by decide) rf7_2
    refine g_getv (r := 7) (v := v16275) g ad7 (by decide) ft5_2 ev16275 ?_
    refine g_putf (r := 7) g ad7 (by decide) ft5_1 (by decide) (fun e => absurd e nz5_1) rf7_1 (by decide) (by omega) (by omega) (fun h16276 e16276 g16276 => ?_)
    have k16276 := k0.wr e16276 rfl
    refine ev_ret rfl (by decide) (by decide) ?_
    show jEv _ _ _ _ _ _ _ (_, [(2, 7), (2, 1), (0, 13), (0, a3), (9, 0)], [], _, _, _)
    refine ev_iconst ?_
    exact ev_ret rfl (by decide) (by decide) ⟨_, _, rfl, by omega, by omega, g16276, k16276, ((jw_eq e16276)), by omega, by omega⟩
/-! s78_12  -/
set_option maxHeartbeats 4000000 in
theorem s78_12_l {G : GH} {h : JH} {a3 : Int} (la3 : (-2147483648) ≤ a3) (ua3 : a3 ≤ 2147483647) {w0 : Int} (ew0 : h.2.2 7 1 = w0) (lw0 : (-1) ≤ w0) (uw0 : w0 ≤ 200) {w1 : Int} (ew1 : h.2.2 7 2 = w1) (lw1 : 0 ≤ w1) (uw1 : w1 ≤ 199) : ∀ N : Nat, (∀ (h1 : JH) (x4 x5 y0 : Int) (j6 : AV), Gd G h1 → Kp [(7, 2), (7, 3), (7, 4), (10, 0), (11, 0), (12, 0), (13, 0), (14, 0), (15, 0), (16, 0), (17, 0)] h h1 → (-2147483648) ≤ a3 → a3 ≤ 2147483647 → (-1) ≤ x4 → x4 ≤ 199 → 0 ≤ x5 → x5 ≤ 3 → (w0 + (-y0)) ≤ 0 → ((-x4) + (-y0)) ≤ 1 → h1.2.2 7 1 = y0 → (-1) ≤ y0 → y0 ≤ 200 → ((-x5) + 3) < N → jEv (jOk 3) none (fun _ => 0) c78_0 0 0 (fun v h' => ∃ r F : Int, v = some (0, r) ∧ (-1) ≤ r ∧ r ≤ 199 ∧ Gd G h' ∧ Kp [(7, 2), (7, 3), (7, 4), (10, 0), (11, 0), (12, 0), (13, 0), (14, 0), (15, 0), (16, 0), (17, 0)] h h' ∧ h'.2.2 7 1 = F ∧ ((-F) + w0) ≤ 0 ∧ ((-F) + (-r)) ≤ 1) (c78_25, [(2, 7), (2, 1), (0, 12), (0, a3), (0, x4), (0, x5), j6], [], h1, 0, 0)) := by
  intro N
  induction N with
  | zero => exact fun h1 x4 x5 y0 j6 g1 k1 b0 b1 b2 b3 b4 b5 b6 b7 b8 b9 b10 hm => absurd hm (by omega)
  | succ N ih =>
    show _
    intro h1 x4 x5 y0 j6 g1 k1 b0 b1 b2 b3 b4 b5 b6 b7 ey0 ly0 uy0 hm
    refine ev_iload rfl ?_
    refine ev_iconst ?_
    refine ev_icmpge f78_100 (fun c16445 => absurd c16445 (by omega)) (fun c16445 => ?_)
    refine ev_aload_n rfl ?_
    refine g_getv (r := 7) (v := y0) g1 ad7 (by decide) ft5_1 (ey0) ?_
    refine ev_ifge f78_100 (fun c16446 => ?_) (fun c16446 => ?_)
    · refine ev_aload_n rfl ?_
      refine ev_bipush ?_
      refine ev_call (jcall_v (A := [(0, 41)]) (S' := []) (r := 7) rfl (g1.lt ad7) (g1.tg ad7) (Nat.le_of_ble_eq_true rfl)) (jOk_le (by decide) (s71 g1 (by omega) (by omega) (ey0) (by omega) (by omega))) (by decide) (by decide) (fun w16447 h16447 q16447 => ?_)
      obtain ⟨v16448, rfl, g16447, kk16447, ev16448, p16447_0⟩ := q16447
      have bv16448 := g16447.rg ad7 (i := 1) (by decide) rf7_1
      rw [ev16448] at bv16448
      have k16447 := k1.tr kk16447 (by decide)
      show jEv _ _ _ _ _ _ _ (_, [(2, 7), (2, 1), (0, 12), (0, a3), (0, x4), (0, x5), j6], [], _, _, _)
      refine ev_aload_n rfl ?_
      refine g_getv (r := 7) (v := v16448) g16447 ad7 (by decide) ft5_1 (ev16448) ?_
      refine ev_iflt f78_117 (fun c16449 => absurd c16449 (by omega)) (fun c16449 => ?_)
      refine ev_iconst ?_
      refine ev_goto f78_119 ?_
      exact ev_ret rfl (by decide) (by decide) ⟨_, _, rfl, by omega, by omega, g16447, k16447, (ev16448), by omega, by omega⟩
    · refine ev_aload_n rfl ?_
      refine ev_iconst ?_
      refine ev_call (jcall_v (A := [(0, 2)]) (S' := []) (r := 7) rfl (g1.lt ad7) (g1.tg ad7) (Nat.le_of_ble_eq_true rfl)) (jOk_le (by decide) (s76 g1 (by omega) (by omega) (ey0) (by omega) (by omega))) (by decide) (by decide) (fun w16450 h16450 q16450 => ?_)
      obtain ⟨v16452, v16451, rfl, lv16452, uv16452, g16450, kk16450, ev16451, p16450_0⟩ := q16450
      have bv16451 := g16450.rg ad7 (i := 1) (by decide) rf7_1
      rw [ev16451] at bv16451
      have k16450 := k1.tr kk16450 (by decide)
      show jEv _ _ _ _ _ _ _ (_, [(2, 7), (2, 1), (0, 12), (0, a3), (0, x4), (0, x5), j6], [(0, v16452)], _, _, _)
      refine ev_istore (L' := [(2, 7), (2, 1), (0, 12), (0, a3), (0, x4), (0, x5), (0, v16452)]) (Nat.le_of_ble_eq_true rfl) rfl ?_
      refine ev_aload_n rfl ?_
      refine ev_bipush ?_
      refine ev_call (jcall_v (A := [(0, 58)]) (S' := []) (r := 7) rfl (g16450.lt ad7) (g16450.tg ad7) (Nat.le_of_ble_eq_true rfl)) (jOk_le (by decide) (s71 g16450 (by omega) (by omega) (ev16451) (by omega) (by omega))) (by decide) (by decide) (fun w16453 h16453 q16453 => ?_)
      obtain ⟨v16454, rfl, g16453, kk16453, ev16454, p16453_0⟩ := q16453
      have bv16454 := g16453.rg ad7 (i := 1) (by decide) rf7_1
      rw [ev16454] at bv16454
      have k16453 := k16450.tr kk16453 (by decide)
      show jEv _ _ _ _ _ _ _ (_, [(2, 7), (2, 1), (0, 12), (0, a3), (0, x4), (0, x5), (0, v16452)], [], _, _, _)
      refine ev_aload_n rfl ?_
      refine ev_iload rfl ?_
      refine ev_iload rfl ?_
      refine ev_iload rfl ?_
      refine ev_aload_n rfl ?_
      refine ev_aload_n rfl ?_
      refine ev_iload_n rfl ?_
      refine ev_iconst ?_
      refine ev_iadd (r := 13) (by decide) ?_
      refine ev_iload_n rfl ?_
      refine ev_call (jcall_v (A := [(0, a3), (0, 13), (2, 1)]) (S' := [(0, v16452), (0, x5), (0, x4), (2, 7)]) (r := 7) rfl (g16453.lt ad7) (g16453.tg ad7) (Nat.le_of_ble_eq_true rfl)) (jOk_le (by decide) (s74_13 g16453 (by omega) (by omega) (ev16454) (by omega) (by omega))) (by decide) (by decide) (fun w16455 h16455 q16455 => ?_)
      obtain ⟨v16457, v16456, rfl, lv16457, uv16457, g16455, kk16455, ev16456, p16455_0, p16455_1⟩ := q16455
      have bv16456 := g16455.rg ad7 (i := 1) (by decide) rf7_1
      rw [ev16456] at bv16456
      have k16455 := k16453.tr kk16455 (by decide)
      show jEv _ _ _ _ _ _ _ (_, [(2, 7), (2, 1), (0, 12), (0, a3), (0, x4), (0, x5), (0, v16452)], [(0, v16457), (0, v16452), (0, x5), (0, x4), (2, 7)], _, _, _)
      refine ev_call (jcall_v (A := [(0, v16457), (0, v16452), (0, x5), (0, x4)]) (S' := []) (r := 7) rfl (g16455.lt ad7) (g16455.tg ad7) (Nat.le_of_ble_eq_true rfl)) (jOk_le (by decide) (s80 g16455 (by omega) (by omega) (by omega) (by omega) (by omega) (by omega) (by omega) (by omega))) (by decide) (by decide) (fun w16458 h16458 q16458 => ?_)
      obtain ⟨rfl, g16458, kk16458⟩ := q16458
      have k16458 := k16455.tr kk16458 (by decide)
      show jEv _ _ _ _ _ _ _ (_, [(2, 7), (2, 1), (0, 12), (0, a3), (0, x4), (0, x5), (0, v16452)], [], _, _, _)
      refine ev_aload_n rfl ?_
      refine ev_in (d := 2) (a := 0) (b := 0) (cd' := c68_0) (m := 1) (L0 := [(2, 7)]) (jcall_v (A := []) (S' := []) (r := 7) rfl (g16458.lt ad7) (g16458.tg ad7) (Nat.le_of_ble_eq_true rfl)) (by decide) ml68 pp68 (Nat.le_of_ble_eq_true rfl) rfl (by decide) (by decide) ?_
      refine ev_aload_n rfl ?_
      obtain ⟨v16459, ev16459, lv16459, uv16459⟩ := g16458.rd ad7 (show 2 < 15 by decide) rf7_2
      refine g_getv (r := 7) (v := v16459) g16458 ad7 (by decide) ft5_2 ev16459 ?_
      refine ev_aload_n rfl ?_
      obtain ⟨v16460, ev16460, lv16460, uv16460⟩ := g16458.rd ad7 (show 0 < 15 by decide) rf7_0
      refine g_getv (r := 7) (v := v16460) g16458 ad7 (by decide) ft5_0 ev16460 ?_
      refine ev_icmpge f68_27 (fun c16461 => ?_) (fun c16461 => ?_)
      · refine ev_iconst ?_
        refine ev_ret rfl (by decide) (by decide) ?_
        show jEv _ _ _ _ _ _ _ (_, [(2, 7), (2, 1), (0, 12), (0, a3), (0, x4), (0, x5), (0, v16452)], [(0, (-1))], _, _, _)
        refine ev_bipush ?_
        refine ev_icmpne f78_100 (fun c16462 => ?_) (fun c16462 => absurd c16462 (by omega))
        refine ev_aload_n rfl ?_
        refine ev_bipush ?_
        refine ev_call (jcall_v (A := [(0, 41)]) (S' := []) (r := 7) rfl (g16458.lt ad7) (g16458.tg ad7) (Nat.le_of_ble_eq_true rfl)) (jOk_le (by decide) (s71 g16458 (by omega) (by omega) (((kk16458.v (by decide)).trans ev16456)) (by omega) (by omega))) (by decide) (by decide) (fun w16463 h16463 q16463 => ?_)
        obtain ⟨v16464, rfl, g16463, kk16463, ev16464, p16463_0⟩ := q16463
        have bv16464 := g16463.rg ad7 (i := 1) (by decide) rf7_1
        rw [ev16464] at bv16464
        have k16463 := k16458.tr kk16463 (by decide)
        show jEv _ _ _ _ _ _ _ (_, [(2, 7), (2, 1), (0, 12), (0, a3), (0, x4), (0, x5), (0, v16452)], [], _, _, _)
        refine ev_aload_n rfl ?_
        refine g_getv (r := 7) (v := v16464) g16463 ad7 (by decide) ft5_1 (ev16464) ?_
        refine ev_iflt f78_117 (fun c16465 => ?_) (fun c16465 => ?_)
        · refine ev_iload rfl ?_
          exact ev_ret rfl (by decide) (by decide) ⟨_, _, rfl, by omega, by omega, g16463, k16463, (ev16464), by omega, by omega⟩
        · refine ev_iconst ?_
          refine ev_goto f78_119 ?_
          exact ev_ret rfl (by decide) (by decide) ⟨_, _, rfl, by omega, by omega, g16463, k16463, (ev16464), by omega, by omega⟩
      · refine ev_aload_n rfl ?_
        refine g_getp (r := 7) (c := 8) g16458 ad7 (by decide) (by decide) rf7_5 ft5_5 ?_
        refine ev_aload_n rfl ?_
        refine g_getv (r := 7) (v := v16459) g16458 ad7 (by decide) ft5_2 (ev16459) ?_
        refine g_bald g16458 ad8 rt8 (by omega) (by omega) (fun v16466 ev16466 lv16466 uv16466 => ?_)
        refine ev_sipush ?_
        refine g_iandB (b := 255) (by omega) (by omega) (by decide) (fun v16467 ev16467 lv16467 uv16467 => ?_)
        refine ev_goto f68_28 ?_
        refine ev_ret rfl (by decide) (by decide) ?_
        show jEv _ _ _ _ _ _ _ (_, [(2, 7), (2, 1), (0, 12), (0, a3), (0, x4), (0, x5), (0, v16452)], [(0, v16467)], _, _, _)
        refine ev_bipush ?_
        refine ev_icmpne f78_100 (fun c16468 => ?_) (fun c16468 => ?_)
        · refine ev_aload_n rfl ?_
          refine ev_bipush ?_
          refine ev_call (jcall_v (A := [(0, 41)]) (S' := []) (r := 7) rfl (g16458.lt ad7) (g16458.tg ad7) (Nat.le_of_ble_eq_true rfl)) (jOk_le (by decide) (s71 g16458 (by omega) (by omega) (((kk16458.v (by decide)).trans ev16456)) (by omega) (by omega))) (by decide) (by decide) (fun w16469 h16469 q16469 => ?_)
          obtain ⟨v16470, rfl, g16469, kk16469, ev16470, p16469_0⟩ := q16469
          have bv16470 := g16469.rg ad7 (i := 1) (by decide) rf7_1
          rw [ev16470] at bv16470
          have k16469 := k16458.tr kk16469 (by decide)
          show jEv _ _ _ _ _ _ _ (_, [(2, 7), (2, 1), (0, 12), (0, a3), (0, x4), (0, x5), (0, v16452)], [], _, _, _)
          refine ev_aload_n rfl ?_
          refine g_getv (r := 7) (v := v16470) g16469 ad7 (by decide) ft5_1 (ev16470) ?_
          refine ev_iflt f78_117 (fun c16471 => ?_) (fun c16471 => ?_)
          · refine ev_iload rfl ?_
            exact ev_ret rfl (by decide) (by decide) ⟨_, _, rfl, by omega, by omega, g16469, k16469, (ev16470), by omega, by omega⟩
          · refine ev_iconst ?_
            refine ev_goto f78_119 ?_
            exact ev_ret rfl (by decide) (by decide) ⟨_, _, rfl, by omega, by omega, g16469, k16469, (ev16470), by omega, by omega⟩
        · refine ev_iload rfl ?_
          refine ev_iconst ?_
          refine ev_icmpne f78_88 (fun c16472 => ?_) (fun c16472 => ?_)
          · refine ev_aload_n rfl ?_
            refine ev_bipush ?_
            refine ev_call (jcall_v (A := [(0, 44)]) (S' := []) (r := 7) rfl (g16458.lt ad7) (g16458.tg ad7) (Nat.le_of_ble_eq_true rfl)) (jOk_le (by decide) (s71 g16458 (by omega) (by omega) (((kk16458.v (by decide)).trans ev16456)) (by omega) (by omega))) (by decide) (by decide) (fun w16473 h16473 q16473 => ?_)
            obtain ⟨v16474, rfl, g16473, kk16473, ev16474, p16473_0⟩ := q16473
            have bv16474 := g16473.rg ad7 (i := 1) (by decide) rf7_1
            rw [ev16474] at bv16474
            have k16473 := k16458.tr kk16473 (by decide)
            show jEv _ _ _ _ _ _ _ (_, [(2, 7), (2, 1), (0, 12), (0, a3), (0, x4), (0, x5), (0, v16452)], [], _, _, _)
            refine ev_iinc (w := (x5 + 1)) (L' := [(2, 7), (2, 1), (0, 12), (0, a3), (0, x4), (0, (x5 + 1)), (0, v16452)]) rfl (by unfold w32; omega) rfl ?_
            refine ev_goto f78_25 ?_
            exact ih _ _ _ _ _ g16473 k16473 (by omega) (by omega) (by omega) (by omega) (by omega) (by omega) (by omega) (by omega) (ev16474) (by omega) (by omega) (by omega)
          · refine ev_goto f78_100 ?_
            refine ev_aload_n rfl ?_
            refine ev_bipush ?_
            refine ev_call (jcall_v (A := [(0, 41)]) (S' := []) (r := 7) rfl (g16458.lt ad7) (g16458.tg ad7) (Nat.le_of_ble_eq_true rfl)) (jOk_le (by decide) (s71 g16458 (by omega) (by omega) (((kk16458.v (by decide)).trans ev16456)) (by omega) (by omega))) (by decide) (by decide) (fun w16475 h16475 q16475 => ?_)
            obtain ⟨v16476, rfl, g16475, kk16475, ev16476, p16475_0⟩ := q16475
            have bv16476 := g16475.rg ad7 (i := 1) (by decide) rf7_1
            rw [ev16476] at bv16476
            have k16475 := k16458.tr kk16475 (by decide)
            show jEv _ _ _ _ _ _ _ (_, [(2, 7), (2, 1), (0, 12), (0, a3), (0, x4), (0, x5), (0, v16452)], [], _, _, _)
            refine ev_aload_n rfl ?_
            refine g_getv (r := 7) (v := v16476) g16475 ad7 (by decide) ft5_1 (ev16476) ?_
            refine ev_iflt f78_117 (fun c16477 => ?_) (fun c16477 => ?_)
            · refine ev_iload rfl ?_
              exact ev_ret rfl (by decide) (by decide) ⟨_, _, rfl, by omega, by omega, g16475, k16475, (ev16476), by omega, by omega⟩
            · refine ev_iconst ?_
              refine ev_goto f78_119 ?_
              exact ev_ret rfl (by decide) (by decide) ⟨_, _, rfl, by omega, by omega, g16475, k16475, (ev16476), by omega, by omega⟩
set_option maxHeartbeats 4000000 in
theorem s78_12 {G : GH} {h : JH} (g : Gd G h) {a3 : Int} (la3 : (-2147483648) ≤ a3) (ua3 : a3 ≤ 2147483647) {w0 : Int} (ew0 : h.2.2 7 1 = w0) (lw0 : (-1) ≤ w0) (uw0 : w0 ≤ 200) {w1 : Int} (ew1 : h.2.2 7 2 = w1) (lw1 : 0 ≤ w1) (uw1 : w1 ≤ 199) : jOk 4 0 0 78 [(2, 7), (2, 1), (0, 12), (0, a3)] h (fun v h' => ∃ r F : Int, v = some (0, r) ∧ (-1) ≤ r ∧ r ≤ 199 ∧ Gd G h' ∧ Kp [(7, 2), (7, 3), (7, 4), (10, 0), (11, 0), (12, 0), (13, 0), (14, 0), (15, 0), (16, 0), (17, 0)] h h' ∧ h'.2.2 7 1 = F ∧ ((-F) + w0) ≤ 0 ∧ ((-F) + (-r)) ≤ 1) := by
  refine ⟨by decide, by rw [ml78]; exact Nat.le_of_ble_eq_true rfl, ?_⟩
  rw [ml78, pp78]
  show jEv _ none _ c78_0 0 0 _ (c78_0, [(2, 7), (2, 1), (0, 12), (0, a3), (9, 0), (9, 0), (9, 0)], [], h, 0, 0)
  have k0 := Kp.rf [(7, 2), (7, 3), (7, 4), (10, 0), (11, 0), (12, 0), (13, 0), (14, 0), (15, 0), (16, 0), (17, 0)] h
  refine ev_aload_n rfl ?_
  refine ev_dup (by decide) ?_
  refine g_getv (r := 7) (v := w1) g ad7 (by decide) ft5_2 (ew1) ?_
  refine ev_iconst ?_
  refine ev_iadd (r := (w1 + 1)) (by unfold w32; omega) ?_
  refine g_putf (r := 7) g ad7 (by decide) ft5_2 (by decide) (fun e => absurd e nz5_2) rf7_2 (by decide) (by omega) (by omega) (fun h16478 e16478 g16478 => ?_)
  have k16478 := k0.wr e16478 rfl
  refine ev_aload_n rfl ?_
  refine ev_iload_n rfl ?_
  refine ev_call (jcall_v (A := [(0, 12)]) (S' := []) (r := 7) rfl (g16478.lt ad7) (g16478.tg ad7) (Nat.le_of_ble_eq_true rfl)) (jOk_le (by decide) (s72 g16478 (by omega) (by omega) (((jw_ne e16478 (Or.inr (by decide))).trans ew0)) (by omega) (by omega))) (by decide) (by decide) (fun w16479 h16479 q16479 => ?_)
  obtain ⟨v16480, rfl, g16479, kk16479, ev16480, p16479_0⟩ := q16479
  have bv16480 := g16479.rg ad7 (i := 1) (by decide) rf7_1
  rw [ev16480] at bv16480
  have k16479 := k16478.tr kk16479 (by decide)
  show jEv _ _ _ _ _ _ _ (_, [(2, 7), (2, 1), (0, 12), (0, a3), (9, 0), (9, 0), (9, 0)], [], _, _, _)
  refine ev_aload_n rfl ?_
  refine ev_iconst ?_
  refine ev_call (jcall_v (A := [(0, 1)]) (S' := []) (r := 7) rfl (g16479.lt ad7) (g16479.tg ad7) (Nat.le_of_ble_eq_true rfl)) (jOk_le (by decide) (s73 g16479 (by omega) (by omega) (ev16480) (by omega) (by omega))) (by decide) (by decide) (fun w16481 h16481 q16481 => ?_)
  obtain ⟨v16483, v16482, rfl, lv16483, uv16483, g16481, kk16481, ev16482, p16481_0, p16481_1⟩ := q16481
  have bv16482 := g16481.rg ad7 (i := 1) (by decide) rf7_1
  rw [ev16482] at bv16482
  have k16481 := k16479.tr kk16481 (by decide)
  show jEv _ _ _ _ _ _ _ (_, [(2, 7), (2, 1), (0, 12), (0, a3), (9, 0), (9, 0), (9, 0)], [(0, v16483)], _, _, _)
  refine ev_istore (L' := [(2, 7), (2, 1), (0, 12), (0, a3), (0, v16483), (9, 0), (9, 0)]) (Nat.le_of_ble_eq_true rfl) rfl ?_
  refine ev_iconst ?_
  refine ev_istore (L' := [(2, 7), (2, 1), (0, 12), (0, a3), (0, v16483), (0, 0), (9, 0)]) (Nat.le_of_ble_eq_true rfl) rfl ?_
  exact (s78_12_l la3 ua3 ew0 lw0 uw0 ew1 lw1 uw1 8) _ _ _ _ _ g16481 k16481 (by omega) (by omega) (by omega) (by omega) (by omega) (by omega) (by omega) (by omega) (ev16482) (by omega) (by omega) (by omega)
/-! s79_12  -/
set_option maxHeartbeats 4000000 in
theorem s79_12_l {G : GH} {h : JH} {a3 : Int} (la3 : (-2147483648) ≤ a3) (ua3 : a3 ≤ 2147483647) {w0 : Int} (ew0 : h.2.2 7 1 = w0) (lw0 : (-1) ≤ w0) (uw0 : w0 ≤ 200) {w1 : Int} (ew1 : h.2.2 7 2 = w1) (lw1 : 0 ≤ w1) (uw1 : w1 ≤ 199) : ∀ N : Nat, (∀ (h1 : JH) (x4 x5 x6 y0 : Int), Gd G h1 → Kp [(7, 2), (7, 3), (7, 4), (10, 0), (11, 0), (12, 0), (13, 0), (14, 0), (15, 0), (16, 0), (17, 0)] h h1 → (-2147483648) ≤ a3 → a3 ≤ 2147483647 → 0 ≤ x4 → x4 ≤ 3 → (-1) ≤ x5 → x5 ≤ 199 → 0 ≤ x6 → x6 ≤ 3 → (w0 + (-y0)) ≤ 0 → ((-x5) + (-y0)) ≤ 1 → h1.2.2 7 1 = y0 → (-1) ≤ y0 → y0 ≤ 200 → ((-x6) + 3) < N → jEv (jOk 3) none (fun _ => 0) c79_0 0 0 (fun v h' => ∃ r F : Int, v = some (0, r) ∧ (-1) ≤ r ∧ r ≤ 199 ∧ Gd G h' ∧ Kp [(7, 2), (7, 3), (7, 4), (10, 0), (11, 0), (12, 0), (13, 0), (14, 0), (15, 0), (16, 0), (17, 0)] h h' ∧ h'.2.2 7 1 = F ∧ ((-F) + w0) ≤ 0 ∧ ((-F) + (-r)) ≤ 1) (c79_68, [(2, 7), (2, 1), (0, 12), (0, a3), (0, x4), (0, x5), (0, x6)], [], h1, 0, 0)) := by
  intro N
  induction N with
  | zero => exact fun h1 x4 x5 x6 y0 g1 k1 b0 b1 b2 b3 b4 b5 b6 b7 b8 b9 b10 b11 b12 hm => absurd hm (by omega)
  | succ N ih =>
    show _
    intro h1 x4 x5 x6 y0 g1 k1 b0 b1 b2 b3 b4 b5 b6 b7 b8 b9 ey0 ly0 uy0 hm
    refine ev_iload rfl ?_
    refine ev_aload_n rfl ?_
    refine ev_iload rfl ?_
    refine ev_in (d := 2) (a := 0) (b := 0) (cd' := c141_0) (m := 2) (L0 := [(2, 1), (0, x4)]) (jcall_v (A := [(0, x4)]) (S' := [(0, x6)]) (r := 1) rfl (g1.lt ad1) (g1.tg ad1) (Nat.le_of_ble_eq_true rfl)) (by decide) ml141 pp141 (Nat.le_of_ble_eq_true rfl) rfl (by decide) (by decide) ?_
    refine ev_aload_n rfl ?_
    refine ev_iload_n rfl ?_
    refine ev_in (d := 1) (a := 0) (b := 0) (cd' := c140_0) (m := 2) (L0 := [(2, 1), (0, x4)]) (jcall_v (A := [(0, x4)]) (S' := []) (r := 1) rfl (g1.lt ad1) (g1.tg ad1) (Nat.le_of_ble_eq_true rfl)) (by decide) ml140 pp140 (Nat.le_of_ble_eq_true rfl) rfl (by decide) (by decide) ?_
    refine ev_iload_n rfl ?_
    refine ev_iflt f140_16 (fun c16761 => absurd c16761 (by omega)) (fun c16761 => ?_)
    refine ev_iload_n rfl ?_
    refine ev_aload_n rfl ?_
    obtain ⟨v16762, ev16762, lv16762, uv16762⟩ := g1.rd ad1 (show 0 < 8 by decide) rf1_0
    refine g_getv (r := 1) (v := v16762) g1 ad1 (by decide) ft10_0 ev16762 ?_
    refine ev_icmpge f140_16 (fun c16763 => ?_) (fun c16763 => ?_)
    · refine ev_iconst ?_
      refine ev_ret rfl (by decide) (by decide) ?_
      show jEv _ _ _ _ _ _ _ (_, [(2, 1), (0, x4)], [(0, 0)], _, _, _)
      refine ev_ifeq f141_17 (fun c16764 => ?_) (fun c16764 => absurd c16764 (by omega))
      refine ev_iconst ?_
      refine ev_ret rfl (by decide) (by decide) ?_
      show jEv _ _ _ _ _ _ _ (_, [(2, 7), (2, 1), (0, 12), (0, a3), (0, x4), (0, x5), (0, x6)], [(0, 0), (0, x6)], _, _, _)
      refine ev_icmpge f79_126 (fun c16765 => ?_) (fun c16765 => absurd c16765 (by omega))
      refine ev_aload_n rfl ?_
      refine ev_bipush ?_
      refine ev_call (jcall_v (A := [(0, 41)]) (S' := []) (r := 7) rfl (g1.lt ad7) (g1.tg ad7) (Nat.le_of_ble_eq_true rfl)) (jOk_le (by decide) (s71 g1 (by omega) (by omega) (ey0) (by omega) (by omega))) (by decide) (by decide) (fun w16766 h16766 q16766 => ?_)
      obtain ⟨v16767, rfl, g16766, kk16766, ev16767, p16766_0⟩ := q16766
      have bv16767 := g16766.rg ad7 (i := 1) (by decide) rf7_1
      rw [ev16767] at bv16767
      have k16766 := k1.tr kk16766 (by decide)
      show jEv _ _ _ _ _ _ _ (_, [(2, 7), (2, 1), (0, 12), (0, a3), (0, x4), (0, x5), (0, x6)], [], _, _, _)
      refine ev_aload_n rfl ?_
      refine g_getv (r := 7) (v := v16767) g16766 ad7 (by decide) ft5_1 (ev16767) ?_
      refine ev_ifge f79_144 (fun c16768 => ?_) (fun c16768 => ?_)
      · refine ev_iconst ?_
        exact ev_ret rfl (by decide) (by decide) ⟨_, _, rfl, by omega, by omega, g16766, k16766, (ev16767), by omega, by omega⟩
      · refine ev_iload rfl ?_
        refine ev_ifge f79_146 (fun c16769 => ?_) (fun c16769 => absurd c16769 (by omega))
        refine ev_aload_n rfl ?_
        refine g_getp (r := 7) (c := 11) g16766 ad7 (by decide) (by decide) rf7_8 ft5_8 ?_
        refine ev_iload rfl ?_
        refine ev_iload rfl ?_
        refine g_iast g16766 ad11 rt11 (fun _ => rfl) (by omega) (by omega) (by omega) (by omega) (fun h16770 e16770 g16770 => ?_)
        have k16770 := k16766.wr e16770 rfl
        refine ev_aload_n rfl ?_
        refine g_getp (r := 7) (c := 15) g16770 ad7 (by decide) (by decide) rf7_12 ft5_12 ?_
        refine ev_iload rfl ?_
        refine ev_dup2 (by decide) (by decide) ?_
        refine g_iald g16770 ad15 rt15 (by omega) (by omega) (fun v16771 ev16771 lv16771 uv16771 => ?_)
        refine ev_iconst ?_
        refine ev_iload rfl ?_
        refine g_ishlB (a' := 1) (a := 1) (b := 3) (hi := 8) (by omega) (by omega) (by omega) (by omega) (by decide) (by decide) (fun v16772 ev16772 lv16772 uv16772 => ?_)
        refine g_iorG (fun v16773 ev16773 lv16773 uv16773 => ?_)
        refine g_iast g16770 ad15 rt15 (fun _ => rfl) (by omega) (by omega) (by omega) (by omega) (fun h16774 e16774 g16774 => ?_)
        have k16774 := k16770.wr e16774 rfl
        refine ev_iload rfl ?_
        exact ev_ret rfl (by decide) (by decide) ⟨_, _, rfl, by omega, by omega, g16774, k16774, (((jw_ne e16774 (Or.inl (by decide))).trans ((jw_ne e16770 (Or.inl (by decide))).trans ev16767))), by omega, by omega⟩
    · refine ev_iconst ?_
      refine ev_goto f140_17 ?_
      refine ev_ret rfl (by decide) (by decide) ?_
      show jEv _ _ _ _ _ _ _ (_, [(2, 1), (0, x4)], [(0, 1)], _, _, _)
      refine ev_ifeq f141_17 (fun c16775 => absurd c16775 (by omega)) (fun c16775 => ?_)
      refine ev_aload_n rfl ?_
      refine g_getp (r := 1) (c := 2) g1 ad1 (by decide) (by decide) rf1_3 ft10_3 ?_
      refine ev_iload_n rfl ?_
      refine g_iald g1 ad2 rt2 (by omega) (by omega) (fun v16776 ev16776 lv16776 uv16776 => ?_)
      refine ev_goto f141_18 ?_
      refine ev_ret rfl (by decide) (by decide) ?_
      show jEv _ _ _ _ _ _ _ (_, [(2, 7), (2, 1), (0, 12), (0, a3), (0, x4), (0, x5), (0, x6)], [(0, v16776), (0, x6)], _, _, _)
      refine ev_icmpge f79_126 (fun c16777 => ?_) (fun c16777 => ?_)
      · refine ev_aload_n rfl ?_
        refine ev_bipush ?_
        refine ev_call (jcall_v (A := [(0, 41)]) (S' := []) (r := 7) rfl (g1.lt ad7) (g1.tg ad7) (Nat.le_of_ble_eq_true rfl)) (jOk_le (by decide) (s71 g1 (by omega) (by omega) (ey0) (by omega) (by omega))) (by decide) (by decide) (fun w16778 h16778 q16778 => ?_)
        obtain ⟨v16779, rfl, g16778, kk16778, ev16779, p16778_0⟩ := q16778
        have bv16779 := g16778.rg ad7 (i := 1) (by decide) rf7_1
        rw [ev16779] at bv16779
        have k16778 := k1.tr kk16778 (by decide)
        show jEv _ _ _ _ _ _ _ (_, [(2, 7), (2, 1), (0, 12), (0, a3), (0, x4), (0, x5), (0, x6)], [], _, _, _)
        refine ev_aload_n rfl ?_
        refine g_getv (r := 7) (v := v16779) g16778 ad7 (by decide) ft5_1 (ev16779) ?_
        refine ev_ifge f79_144 (fun c16780 => ?_) (fun c16780 => ?_)
        · refine ev_iconst ?_
          exact ev_ret rfl (by decide) (by decide) ⟨_, _, rfl, by omega, by omega, g16778, k16778, (ev16779), by omega, by omega⟩
        · refine ev_iload rfl ?_
          refine ev_ifge f79_146 (fun c16781 => ?_) (fun c16781 => absurd c16781 (by omega))
          refine ev_aload_n rfl ?_
          refine g_getp (r := 7) (c := 11) g16778 ad7 (by decide) (by decide) rf7_8 ft5_8 ?_
          refine ev_iload rfl ?_
          refine ev_iload rfl ?_
          refine g_iast g16778 ad11 rt11 (fun _ => rfl) (by omega) (by omega) (by omega) (by omega) (fun h16782 e16782 g16782 => ?_)
          have k16782 := k16778.wr e16782 rfl
          refine ev_aload_n rfl ?_
          refine g_getp (r := 7) (c := 15) g16782 ad7 (by decide) (by decide) rf7_12 ft5_12 ?_
          refine ev_iload rfl ?_
          refine ev_dup2 (by decide) (by decide) ?_
          refine g_iald g16782 ad15 rt15 (by omega) (by omega) (fun v16783 ev16783 lv16783 uv16783 => ?_)
          refine ev_iconst ?_
          refine ev_iload rfl ?_
          refine g_ishlB (a' := 1) (a := 1) (b := 3) (hi := 8) (by omega) (by omega) (by omega) (by omega) (by decide) (by decide) (fun v16784 ev16784 lv16784 uv16784 => ?_)
          refine g_iorG (fun v16785 ev16785 lv16785 uv16785 => ?_)
          refine g_iast g16782 ad15 rt15 (fun _ => rfl) (by omega) (by omega) (by omega) (by omega) (fun h16786 e16786 g16786 => ?_)
          have k16786 := k16782.wr e16786 rfl
          refine ev_iload rfl ?_
          exact ev_ret rfl (by decide) (by decide) ⟨_, _, rfl, by omega, by omega, g16786, k16786, (((jw_ne e16786 (Or.inl (by decide))).trans ((jw_ne e16782 (Or.inl (by decide))).trans ev16779))), by omega, by omega⟩
      · refine ev_aload_n rfl ?_
        refine g_getv (r := 7) (v := y0) g1 ad7 (by decide) ft5_1 (ey0) ?_
        refine ev_ifge f79_126 (fun c16787 => ?_) (fun c16787 => ?_)
        · refine ev_aload_n rfl ?_
          refine ev_bipush ?_
          refine ev_call (jcall_v (A := [(0, 41)]) (S' := []) (r := 7) rfl (g1.lt ad7) (g1.tg ad7) (Nat.le_of_ble_eq_true rfl)) (jOk_le (by decide) (s71 g1 (by omega) (by omega) (ey0) (by omega) (by omega))) (by decide) (by decide) (fun w16788 h16788 q16788 => ?_)
          obtain ⟨v16789, rfl, g16788, kk16788, ev16789, p16788_0⟩ := q16788
          have bv16789 := g16788.rg ad7 (i := 1) (by decide) rf7_1
          rw [ev16789] at bv16789
          have k16788 := k1.tr kk16788 (by decide)
          show jEv _ _ _ _ _ _ _ (_, [(2, 7), (2, 1), (0, 12), (0, a3), (0, x4), (0, x5), (0, x6)], [], _, _, _)
          refine ev_aload_n rfl ?_
          refine g_getv (r := 7) (v := v16789) g16788 ad7 (by decide) ft5_1 (ev16789) ?_
          refine ev_ifge f79_144 (fun c16790 => ?_) (fun c16790 => absurd c16790 (by omega))
          refine ev_iconst ?_
          exact ev_ret rfl (by decide) (by decide) ⟨_, _, rfl, by omega, by omega, g16788, k16788, (ev16789), by omega, by omega⟩
        · refine ev_iload rfl ?_
          refine ev_ifle f79_97 (fun c16791 => ?_) (fun c16791 => ?_)
          · refine ev_aload_n rfl ?_
            refine ev_iload rfl ?_
            refine ev_iload rfl ?_
            refine ev_iconst ?_
            refine ev_aload_n rfl ?_
            refine ev_aload_n rfl ?_
            refine ev_iload_n rfl ?_
            refine ev_iconst ?_
            refine ev_iadd (r := 13) (by decide) ?_
            refine ev_iload_n rfl ?_
            refine ev_iconst ?_
            refine ev_iload rfl ?_
            refine g_ishlB (a' := 1) (a := 1) (b := 3) (hi := 8) (by omega) (by omega) (by omega) (by omega) (by decide) (by decide) (fun v16792 ev16792 lv16792 uv16792 => ?_)
            refine g_iorG (fun v16793 ev16793 lv16793 uv16793 => ?_)
            refine ev_call (jcall_v (A := [(0, v16793), (0, 13), (2, 1)]) (S' := [(0, 0), (0, x6), (0, x5), (2, 7)]) (r := 7) rfl (g1.lt ad7) (g1.tg ad7) (Nat.le_of_ble_eq_true rfl)) (jOk_le (by decide) (s74_13 g1 (by omega) (by omega) (ey0) (by omega) (by omega))) (by decide) (by decide) (fun w16794 h16794 q16794 => ?_)
            obtain ⟨v16796, v16795, rfl, lv16796, uv16796, g16794, kk16794, ev16795, p16794_0, p16794_1⟩ := q16794
            have bv16795 := g16794.rg ad7 (i := 1) (by decide) rf7_1
            rw [ev16795] at bv16795
            have k16794 := k1.tr kk16794 (by decide)
            show jEv _ _ _ _ _ _ _ (_, [(2, 7), (2, 1), (0, 12), (0, a3), (0, x4), (0, x5), (0, x6)], [(0, v16796), (0, 0), (0, x6), (0, x5), (2, 7)], _, _, _)
            refine ev_call (jcall_v (A := [(0, v16796), (0, 0), (0, x6), (0, x5)]) (S' := []) (r := 7) rfl (g16794.lt ad7) (g16794.tg ad7) (Nat.le_of_ble_eq_true rfl)) (jOk_le (by decide) (s80 g16794 (by omega) (by omega) (by omega) (by omega) (by omega) (by omega) (by omega) (by omega))) (by decide) (by decide) (fun w16797 h16797 q16797 => ?_)
            obtain ⟨rfl, g16797, kk16797⟩ := q16797
            have k16797 := k16794.tr kk16797 (by decide)
            show jEv _ _ _ _ _ _ _ (_, [(2, 7), (2, 1), (0, 12), (0, a3), (0, x4), (0, x5), (0, x6)], [], _, _, _)
            refine ev_iinc (w := (x6 + 1)) (L' := [(2, 7), (2, 1), (0, 12), (0, a3), (0, x4), (0, x5), (0, (x6 + 1))]) rfl (by unfold w32; omega) rfl ?_
            refine ev_goto f79_68 ?_
            exact ih _ _ _ _ _ g16797 k16797 (by omega) (by omega) (by omega) (by omega) (by omega) (by omega) (by omega) (by omega) (by omega) (by omega) (((kk16797.v (by decide)).trans ev16795)) (by omega) (by omega) (by omega)
          · refine ev_aload_n rfl ?_
            refine ev_bipush ?_
            refine ev_call (jcall_v (A := [(0, 44)]) (S' := []) (r := 7) rfl (g1.lt ad7) (g1.tg ad7) (Nat.le_of_ble_eq_true rfl)) (jOk_le (by decide) (s71 g1 (by omega) (by omega) (ey0) (by omega) (by omega))) (by decide) (by decide) (fun w16798 h16798 q16798 => ?_)
            obtain ⟨v16799, rfl, g16798, kk16798, ev16799, p16798_0⟩ := q16798
            have bv16799 := g16798.rg ad7 (i := 1) (by decide) rf7_1
            rw [ev16799] at bv16799
            have k16798 := k1.tr kk16798 (by decide)
            show jEv _ _ _ _ _ _ _ (_, [(2, 7), (2, 1), (0, 12), (0, a3), (0, x4), (0, x5), (0, x6)], [], _, _, _)
            refine ev_aload_n rfl ?_
            refine ev_iload rfl ?_
            refine ev_iload rfl ?_
            refine ev_iconst ?_
            refine ev_aload_n rfl ?_
            refine ev_aload_n rfl ?_
            refine ev_iload_n rfl ?_
            refine ev_iconst ?_
            refine ev_iadd (r := 13) (by decide) ?_
            refine ev_iload_n rfl ?_
            refine ev_iconst ?_
            refine ev_iload rfl ?_
            refine g_ishlB (a' := 1) (a := 1) (b := 3) (hi := 8) (by omega) (by omega) (by omega) (by omega) (by decide) (by decide) (fun v16800 ev16800 lv16800 uv16800 => ?_)
            refine g_iorG (fun v16801 ev16801 lv16801 uv16801 => ?_)
            refine ev_call (jcall_v (A := [(0, v16801), (0, 13), (2, 1)]) (S' := [(0, 0), (0, x6), (0, x5), (2, 7)]) (r := 7) rfl (g16798.lt ad7) (g16798.tg ad7) (Nat.le_of_ble_eq_true rfl)) (jOk_le (by decide) (s74_13 g16798 (by omega) (by omega) (ev16799) (by omega) (by omega))) (by decide) (by decide) (fun w16802 h16802 q16802 => ?_)
            obtain ⟨v16804, v16803, rfl, lv16804, uv16804, g16802, kk16802, ev16803, p16802_0, p16802_1⟩ := q16802
            have bv16803 := g16802.rg ad7 (i := 1) (by decide) rf7_1
            rw [ev16803] at bv16803
            have k16802 := k16798.tr kk16802 (by decide)
            show jEv _ _ _ _ _ _ _ (_, [(2, 7), (2, 1), (0, 12), (0, a3), (0, x4), (0, x5), (0, x6)], [(0, v16804), (0, 0), (0, x6), (0, x5), (2, 7)], _, _, _)
            refine ev_call (jcall_v (A := [(0, v16804), (0, 0), (0, x6), (0, x5)]) (S' := []) (r := 7) rfl (g16802.lt ad7) (g16802.tg ad7) (Nat.le_of_ble_eq_true rfl)) (jOk_le (by decide) (s80 g16802 (by omega) (by omega) (by omega) (by omega) (by omega) (by omega) (by omega) (by omega))) (by decide) (by decide) (fun w16805 h16805 q16805 => ?_)
            obtain ⟨rfl, g16805, kk16805⟩ := q16805
            have k16805 := k16802.tr kk16805 (by decide)
            show jEv _ _ _ _ _ _ _ (_, [(2, 7), (2, 1), (0, 12), (0, a3), (0, x4), (0, x5), (0, x6)], [], _, _, _)
            refine ev_iinc (w := (x6 + 1)) (L' := [(2, 7), (2, 1), (0, 12), (0, a3), (0, x4), (0, x5), (0, (x6 + 1))]) rfl (by unfold w32; omega) rfl ?_
            refine ev_goto f79_68 ?_
            exact ih _ _ _ _ _ g16805 k16805 (by omega) (by omega) (by omega) (by omega) (by omega) (by omega) (by omega) (by omega) (by omega) (by omega) (((kk16805.v (by decide)).trans ev16803)) (by omega) (by omega) (by omega)
set_option maxHeartbeats 4000000 in
theorem s79_12 {G : GH} {h : JH} (g : Gd G h) {a3 : Int} (la3 : (-2147483648) ≤ a3) (ua3 : a3 ≤ 2147483647) {w0 : Int} (ew0 : h.2.2 7 1 = w0) (lw0 : (-1) ≤ w0) (uw0 : w0 ≤ 200) {w1 : Int} (ew1 : h.2.2 7 2 = w1) (lw1 : 0 ≤ w1) (uw1 : w1 ≤ 199) : jOk 4 0 0 79 [(2, 7), (2, 1), (0, 12), (0, a3)] h (fun v h' => ∃ r F : Int, v = some (0, r) ∧ (-1) ≤ r ∧ r ≤ 199 ∧ Gd G h' ∧ Kp [(7, 2), (7, 3), (7, 4), (10, 0), (11, 0), (12, 0), (13, 0), (14, 0), (15, 0), (16, 0), (17, 0)] h h' ∧ h'.2.2 7 1 = F ∧ ((-F) + w0) ≤ 0 ∧ ((-F) + (-r)) ≤ 1) := by
  refine ⟨by decide, by rw [ml79]; exact Nat.le_of_ble_eq_true rfl, ?_⟩
  rw [ml79, pp79]
  show jEv _ none _ c79_0 0 0 _ (c79_0, [(2, 7), (2, 1), (0, 12), (0, a3), (9, 0), (9, 0), (9, 0)], [], h, 0, 0)
  have k0 := Kp.rf [(7, 2), (7, 3), (7, 4), (10, 0), (11, 0), (12, 0), (13, 0), (14, 0), (15, 0), (16, 0), (17, 0)] h
  refine ev_aload_n rfl ?_
  refine ev_dup (by decide) ?_
  refine g_getv (r := 7) (v := w1) g ad7 (by decide) ft5_2 (ew1) ?_
  refine ev_iconst ?_
  refine ev_iadd (r := (w1 + 1)) (by unfold w32; omega) ?_
  refine g_putf (r := 7) g ad7 (by decide) ft5_2 (by decide) (fun e => absurd e nz5_2) rf7_2 (by decide) (by omega) (by omega) (fun h16806 e16806 g16806 => ?_)
  have k16806 := k0.wr e16806 rfl
  refine ev_aload_n rfl ?_
  refine ev_in (d := 2) (a := 0) (b := 0) (cd' := c68_0) (m := 1) (L0 := [(2, 7)]) (jcall_v (A := []) (S' := []) (r := 7) rfl (g16806.lt ad7) (g16806.tg ad7) (Nat.le_of_ble_eq_true rfl)) (by decide) ml68 pp68 (Nat.le_of_ble_eq_true rfl) rfl (by decide) (by decide) ?_
  refine ev_aload_n rfl ?_
  refine g_getv (r := 7) (v := (w1 + 1)) g16806 ad7 (by decide) ft5_2 ((jw_eq e16806)) ?_
  refine ev_aload_n rfl ?_
  obtain ⟨v16807, ev16807, lv16807, uv16807⟩ := g16806.rd ad7 (show 0 < 15 by decide) rf7_0
  refine g_getv (r := 7) (v := v16807) g16806 ad7 (by decide) ft5_0 ev16807 ?_
  refine ev_icmpge f68_27 (fun c16808 => ?_) (fun c16808 => ?_)
  · refine ev_iconst ?_
    refine ev_ret rfl (by decide) (by decide) ?_
    show jEv _ _ _ _ _ _ _ (_, [(2, 7), (2, 1), (0, 12), (0, a3), (9, 0), (9, 0), (9, 0)], [(0, (-1))], _, _, _)
    refine ev_bipush ?_
    refine ev_isub (r := (-98)) (by decide) ?_
    refine ev_istore (L' := [(2, 7), (2, 1), (0, 12), (0, a3), (0, (-98)), (9, 0), (9, 0)]) (Nat.le_of_ble_eq_true rfl) rfl ?_
    refine ev_aload_n rfl ?_
    refine ev_iload rfl ?_
    refine ev_in (d := 2) (a := 0) (b := 0) (cd' := c140_0) (m := 2) (L0 := [(2, 1), (0, (-98))]) (jcall_v (A := [(0, (-98))]) (S' := []) (r := 1) rfl (g16806.lt ad1) (g16806.tg ad1) (Nat.le_of_ble_eq_true rfl)) (by decide) ml140 pp140 (Nat.le_of_ble_eq_true rfl) rfl (by decide) (by decide) ?_
    refine ev_iload_n rfl ?_
    refine ev_iflt f140_16 (fun c16809 => ?_) (fun c16809 => absurd c16809 (by omega))
    refine ev_iconst ?_
    refine ev_ret rfl (by decide) (by decide) ?_
    show jEv _ _ _ _ _ _ _ (_, [(2, 7), (2, 1), (0, 12), (0, a3), (0, (-98)), (9, 0), (9, 0)], [(0, 0)], _, _, _)
    refine ev_ifeq f79_37 (fun c16810 => ?_) (fun c16810 => absurd c16810 (by omega))
    refine ev_aload_n rfl ?_
    refine ev_in (d := 2) (a := 0) (b := 0) (cd' := c70_0) (m := 1) (L0 := [(2, 7)]) (jcall_v (A := []) (S' := []) (r := 7) rfl (g16806.lt ad7) (g16806.tg ad7) (Nat.le_of_ble_eq_true rfl)) (by decide) ml70 pp70 (Nat.le_of_ble_eq_true rfl) rfl (by decide) (by decide) ?_
    refine ev_aload_n rfl ?_
    refine g_getv (r := 7) (v := w0) g16806 ad7 (by decide) ft5_1 (((jw_ne e16806 (Or.inr (by decide))).trans ew0)) ?_
    refine ev_ifge f70_15 (fun c16811 => ?_) (fun c16811 => ?_)
    · refine ev_ret rfl (by decide) (by decide) ?_
      show jEv _ _ _ _ _ _ _ (_, [(2, 7), (2, 1), (0, 12), (0, a3), (0, (-98)), (9, 0), (9, 0)], [], _, _, _)
      refine ev_iconst ?_
      exact ev_ret rfl (by decide) (by decide) ⟨_, _, rfl, by omega, by omega, g16806, k16806, (((jw_ne e16806 (Or.inr (by decide))).trans ew0)), by omega, by omega⟩
    · refine ev_aload_n rfl ?_
      refine ev_aload_n rfl ?_
      refine g_getv (r := 7) (v := (w1 + 1)) g16806 ad7 (by decide) ft5_2 ((jw_eq e16806)) ?_
      refine g_putf (r := 7) g16806 ad7 (by decide) ft5_1 (by decide) (fun e => absurd e nz5_1) rf7_1 (by decide) (by omega) (by omega) (fun h16812 e16812 g16812 => ?_)
      have k16812 := k16806.wr e16812 rfl
      refine ev_ret rfl (by decide) (by decide) ?_
      show jEv _ _ _ _ _ _ _ (_, [(2, 7), (2, 1), (0, 12), (0, a3), (0, (-98)), (9, 0), (9, 0)], [], _, _, _)
      refine ev_iconst ?_
      exact ev_ret rfl (by decide) (by decide) ⟨_, _, rfl, by omega, by omega, g16812, k16812, ((jw_eq e16812)), by omega, by omega⟩
  · refine ev_aload_n rfl ?_
    refine g_getp (r := 7) (c := 8) g16806 ad7 (by decide) (by decide) rf7_5 ft5_5 ?_
    refine ev_aload_n rfl ?_
    refine g_getv (r := 7) (v := (w1 + 1)) g16806 ad7 (by decide) ft5_2 ((jw_eq e16806)) ?_
    refine g_bald g16806 ad8 rt8 (by omega) (by omega) (fun v16813 ev16813 lv16813 uv16813 => ?_)
    refine ev_sipush ?_
    refine g_iandB (b := 255) (by omega) (by omega) (by decide) (fun v16814 ev16814 lv16814 uv16814 => ?_)
    refine ev_goto f68_28 ?_
    refine ev_ret rfl (by decide) (by decide) ?_
    show jEv _ _ _ _ _ _ _ (_, [(2, 7), (2, 1), (0, 12), (0, a3), (9, 0), (9, 0), (9, 0)], [(0, v16814)], _, _, _)
    refine ev_bipush ?_
    refine ev_isub (r := (v16814 - 97)) (by unfold w32; omega) ?_
    refine ev_istore (L' := [(2, 7), (2, 1), (0, 12), (0, a3), (0, (v16814 - 97)), (9, 0), (9, 0)]) (Nat.le_of_ble_eq_true rfl) rfl ?_
    refine ev_aload_n rfl ?_
    refine ev_iload rfl ?_
    refine ev_in (d := 2) (a := 0) (b := 0) (cd' := c140_0) (m := 2) (L0 := [(2, 1), (0, (v16814 - 97))]) (jcall_v (A := [(0, (v16814 - 97))]) (S' := []) (r := 1) rfl (g16806.lt ad1) (g16806.tg ad1) (Nat.le_of_ble_eq_true rfl)) (by decide) ml140 pp140 (Nat.le_of_ble_eq_true rfl) rfl (by decide) (by decide) ?_
    refine ev_iload_n rfl ?_
    refine ev_iflt f140_16 (fun c16815 => ?_) (fun c16815 => ?_)
    · refine ev_iconst ?_
      refine ev_ret rfl (by decide) (by decide) ?_
      show jEv _ _ _ _ _ _ _ (_, [(2, 7), (2, 1), (0, 12), (0, a3), (0, (v16814 - 97)), (9, 0), (9, 0)], [(0, 0)], _, _, _)
      refine ev_ifeq f79_37 (fun c16816 => ?_) (fun c16816 => absurd c16816 (by omega))
      refine ev_aload_n rfl ?_
      refine ev_in (d := 2) (a := 0) (b := 0) (cd' := c70_0) (m := 1) (L0 := [(2, 7)]) (jcall_v (A := []) (S' := []) (r := 7) rfl (g16806.lt ad7) (g16806.tg ad7) (Nat.le_of_ble_eq_true rfl)) (by decide) ml70 pp70 (Nat.le_of_ble_eq_true rfl) rfl (by decide) (by decide) ?_
      refine ev_aload_n rfl ?_
      refine g_getv (r := 7) (v := w0) g16806 ad7 (by decide) ft5_1 (((jw_ne e16806 (Or.inr (by decide))).trans ew0)) ?_
      refine ev_ifge f70_15 (fun c16817 => ?_) (fun c16817 => ?_)
      · refine ev_ret rfl (by decide) (by decide) ?_
        show jEv _ _ _ _ _ _ _ (_, [(2, 7), (2, 1), (0, 12), (0, a3), (0, (v16814 - 97)), (9, 0), (9, 0)], [], _, _, _)
        refine ev_iconst ?_
        exact ev_ret rfl (by decide) (by decide) ⟨_, _, rfl, by omega, by omega, g16806, k16806, (((jw_ne e16806 (Or.inr (by decide))).trans ew0)), by omega, by omega⟩
      · refine ev_aload_n rfl ?_
        refine ev_aload_n rfl ?_
        refine g_getv (r := 7) (v := (w1 + 1)) g16806 ad7 (by decide) ft5_2 ((jw_eq e16806)) ?_
        refine g_putf (r := 7) g16806 ad7 (by decide) ft5_1 (by decide) (fun e => absurd e nz5_1) rf7_1 (by decide) (by omega) (by omega) (fun h16818 e16818 g16818 => ?_)
        have k16818 := k16806.wr e16818 rfl
        refine ev_ret rfl (by decide) (by decide) ?_
        show jEv _ _ _ _ _ _ _ (_, [(2, 7), (2, 1), (0, 12), (0, a3), (0, (v16814 - 97)), (9, 0), (9, 0)], [], _, _, _)
        refine ev_iconst ?_
        exact ev_ret rfl (by decide) (by decide) ⟨_, _, rfl, by omega, by omega, g16818, k16818, ((jw_eq e16818)), by omega, by omega⟩
    · refine ev_iload_n rfl ?_
      refine ev_aload_n rfl ?_
      obtain ⟨v16819, ev16819, lv16819, uv16819⟩ := g16806.rd ad1 (show 0 < 8 by decide) rf1_0
      refine g_getv (r := 1) (v := v16819) g16806 ad1 (by decide) ft10_0 ev16819 ?_
      refine ev_icmpge f140_16 (fun c16820 => ?_) (fun c16820 => ?_)
      · refine ev_iconst ?_
        refine ev_ret rfl (by decide) (by decide) ?_
        show jEv _ _ _ _ _ _ _ (_, [(2, 7), (2, 1), (0, 12), (0, a3), (0, (v16814 - 97)), (9, 0), (9, 0)], [(0, 0)], _, _, _)
        refine ev_ifeq f79_37 (fun c16821 => ?_) (fun c16821 => absurd c16821 (by omega))
        refine ev_aload_n rfl ?_
        refine ev_in (d := 2) (a := 0) (b := 0) (cd' := c70_0) (m := 1) (L0 := [(2, 7)]) (jcall_v (A := []) (S' := []) (r := 7) rfl (g16806.lt ad7) (g16806.tg ad7) (Nat.le_of_ble_eq_true rfl)) (by decide) ml70 pp70 (Nat.le_of_ble_eq_true rfl) rfl (by decide) (by decide) ?_
        refine ev_aload_n rfl ?_
        refine g_getv (r := 7) (v := w0) g16806 ad7 (by decide) ft5_1 (((jw_ne e16806 (Or.inr (by decide))).trans ew0)) ?_
        refine ev_ifge f70_15 (fun c16822 => ?_) (fun c16822 => ?_)
        · refine ev_ret rfl (by decide) (by decide) ?_
          show jEv _ _ _ _ _ _ _ (_, [(2, 7), (2, 1), (0, 12), (0, a3), (0, (v16814 - 97)), (9, 0), (9, 0)], [], _, _, _)
          refine ev_iconst ?_
          exact ev_ret rfl (by decide) (by decide) ⟨_, _, rfl, by omega, by omega, g16806, k16806, (((jw_ne e16806 (Or.inr (by decide))).trans ew0)), by omega, by omega⟩
        · refine ev_aload_n rfl ?_
          refine ev_aload_n rfl ?_
          refine g_getv (r := 7) (v := (w1 + 1)) g16806 ad7 (by decide) ft5_2 ((jw_eq e16806)) ?_
          refine g_putf (r := 7) g16806 ad7 (by decide) ft5_1 (by decide) (fun e => absurd e nz5_1) rf7_1 (by decide) (by omega) (by omega) (fun h16823 e16823 g16823 => ?_)
          have k16823 := k16806.wr e16823 rfl
          refine ev_ret rfl (by decide) (by decide) ?_
          show jEv _ _ _ _ _ _ _ (_, [(2, 7), (2, 1), (0, 12), (0, a3), (0, (v16814 - 97)), (9, 0), (9, 0)], [], _, _, _)
          refine ev_iconst ?_
          exact ev_ret rfl (by decide) (by decide) ⟨_, _, rfl, by omega, by omega, g16823, k16823, ((jw_eq e16823)), by omega, by omega⟩
      · refine ev_iconst ?_
        refine ev_goto f140_17 ?_
        refine ev_ret rfl (by decide) (by decide) ?_
        show jEv _ _ _ _ _ _ _ (_, [(2, 7), (2, 1), (0, 12), (0, a3), (0, (v16814 - 97)), (9, 0), (9, 0)], [(0, 1)], _, _, _)
        refine ev_ifeq f79_37 (fun c16824 => absurd c16824 (by omega)) (fun c16824 => ?_)
        refine ev_iload_n rfl ?_
        refine ev_iload rfl ?_
        refine g_ishrG (fun v16825 ev16825 lv16825 uv16825 => ?_)
        refine ev_iconst ?_
        refine g_iandB (b := 1) (by omega) (by omega) (by decide) (fun v16826 ev16826 lv16826 uv16826 => ?_)
        refine ev_ifeq f79_43 (fun c16827 => ?_) (fun c16827 => ?_)
        · refine ev_aload_n rfl ?_
          refine ev_dup (by decide) ?_
          refine g_getv (r := 7) (v := (w1 + 1)) g16806 ad7 (by decide) ft5_2 ((jw_eq e16806)) ?_
          refine ev_iconst ?_
          refine ev_iadd (r := (w1 + 2)) (by unfold w32; omega) ?_
          refine g_putf (r := 7) g16806 ad7 (by decide) ft5_2 (by decide) (fun e => absurd e nz5_2) rf7_2 (by decide) (by omega) (by omega) (fun h16828 e16828 g16828 => ?_)
          have k16828 := k16806.wr e16828 rfl
          refine ev_aload_n rfl ?_
          refine ev_iload_n rfl ?_
          refine ev_call (jcall_v (A := [(0, 12)]) (S' := []) (r := 7) rfl (g16828.lt ad7) (g16828.tg ad7) (Nat.le_of_ble_eq_true rfl)) (jOk_le (by decide) (s72 g16828 (by omega) (by omega) (((jw_ne e16828 (Or.inr (by decide))).trans ((jw_ne e16806 (Or.inr (by decide))).trans ew0))) (by omega) (by omega))) (by decide) (by decide) (fun w16829 h16829 q16829 => ?_)
          obtain ⟨v16830, rfl, g16829, kk16829, ev16830, p16829_0⟩ := q16829
          have bv16830 := g16829.rg ad7 (i := 1) (by decide) rf7_1
          rw [ev16830] at bv16830
          have k16829 := k16828.tr kk16829 (by decide)
          show jEv _ _ _ _ _ _ _ (_, [(2, 7), (2, 1), (0, 12), (0, a3), (0, (v16814 - 97)), (9, 0), (9, 0)], [], _, _, _)
          refine ev_aload_n rfl ?_
          refine ev_iconst ?_
          refine ev_call (jcall_v (A := [(0, 2)]) (S' := []) (r := 7) rfl (g16829.lt ad7) (g16829.tg ad7) (Nat.le_of_ble_eq_true rfl)) (jOk_le (by decide) (s73 g16829 (by omega) (by omega) (ev16830) (by omega) (by omega))) (by decide) (by decide) (fun w16831 h16831 q16831 => ?_)
          obtain ⟨v16833, v16832, rfl, lv16833, uv16833, g16831, kk16831, ev16832, p16831_0, p16831_1⟩ := q16831
          have bv16832 := g16831.rg ad7 (i := 1) (by decide) rf7_1
          rw [ev16832] at bv16832
          have k16831 := k16829.tr kk16831 (by decide)
          show jEv _ _ _ _ _ _ _ (_, [(2, 7), (2, 1), (0, 12), (0, a3), (0, (v16814 - 97)), (9, 0), (9, 0)], [(0, v16833)], _, _, _)
          refine ev_istore (L' := [(2, 7), (2, 1), (0, 12), (0, a3), (0, (v16814 - 97)), (0, v16833), (9, 0)]) (Nat.le_of_ble_eq_true rfl) rfl ?_
          refine ev_iconst ?_
          refine ev_istore (L' := [(2, 7), (2, 1), (0, 12), (0, a3), (0, (v16814 - 97)), (0, v16833), (0, 0)]) (Nat.le_of_ble_eq_true rfl) rfl ?_
          exact (s79_12_l la3 ua3 ew0 lw0 uw0 ew1 lw1 uw1 8) _ _ _ _ _ g16831 k16831 (by omega) (by omega) (by omega) (by omega) (by omega) (by omega) (by omega) (by omega) (by omega) (by omega) (ev16832) (by omega) (by omega) (by omega)
        · refine ev_aload_n rfl ?_
          refine ev_in (d := 2) (a := 0) (b := 0) (cd' := c70_0) (m := 1) (L0 := [(2, 7)]) (jcall_v (A := []) (S' := []) (r := 7) rfl (g16806.lt ad7) (g16806.tg ad7) (Nat.le_of_ble_eq_true rfl)) (by decide) ml70 pp70 (Nat.le_of_ble_eq_true rfl) rfl (by decide) (by decide) ?_
          refine ev_aload_n rfl ?_
          refine g_getv (r := 7) (v := w0) g16806 ad7 (by decide) ft5_1 (((jw_ne e16806 (Or.inr (by decide))).trans ew0)) ?_
          refine ev_ifge f70_15 (fun c16834 => ?_) (fun c16834 => ?_)
          · refine ev_ret rfl (by decide) (by decide) ?_
            show jEv _ _ _ _ _ _ _ (_, [(2, 7), (2, 1), (0, 12), (0, a3), (0, (v16814 - 97)), (9, 0), (9, 0)], [], _, _, _)
            refine ev_iconst ?_
            exact ev_ret rfl (by decide) (by decide) ⟨_, _, rfl, by omega, by omega, g16806, k16806, (((jw_ne e16806 (Or.inr (by decide))).trans ew0)), by omega, by omega⟩
          · refine ev_aload_n rfl ?_
            refine ev_aload_n rfl ?_
            refine g_getv (r := 7) (v := (w1 + 1)) g16806 ad7 (by decide) ft5_2 ((jw_eq e16806)) ?_
            refine g_putf (r := 7) g16806 ad7 (by decide) ft5_1 (by decide) (fun e => absurd e nz5_1) rf7_1 (by decide) (by omega) (by omega) (fun h16835 e16835 g16835 => ?_)
            have k16835 := k16806.wr e16835 rfl
            refine ev_ret rfl (by decide) (by decide) ?_
            show jEv _ _ _ _ _ _ _ (_, [(2, 7), (2, 1), (0, 12), (0, a3), (0, (v16814 - 97)), (9, 0), (9, 0)], [], _, _, _)
            refine ev_iconst ?_
            exact ev_ret rfl (by decide) (by decide) ⟨_, _, rfl, by omega, by omega, g16835, k16835, ((jw_eq e16835)), by omega, by omega⟩
/-! s74_12  -/
set_option maxHeartbeats 4000000 in
theorem s74_12 {G : GH} {h : JH} (g : Gd G h) {a3 : Int} (la3 : (-2147483648) ≤ a3) (ua3 : a3 ≤ 2147483647) {w0 : Int} (ew0 : h.2.2 7 1 = w0) (lw0 : (-1) ≤ w0) (uw0 : w0 ≤ 200) : jOk 5 0 0 74 [(2, 7), (2, 1), (0, 12), (0, a3)] h (fun v h' => ∃ r F : Int, v = some (0, r) ∧ (-1) ≤ r ∧ r ≤ 199 ∧ Gd G h' ∧ Kp [(7, 2), (7, 3), (7, 4), (10, 0), (11, 0), (12, 0), (13, 0), (14, 0), (15, 0), (16, 0), (17, 0)] h h' ∧ h'.2.2 7 1 = F ∧ ((-F) + w0) ≤ 0 ∧ ((-F) + (-r)) ≤ 1) := by
  refine ⟨by decide, by rw [ml74]; exact Nat.le_of_ble_eq_true rfl, ?_⟩
  rw [ml74, pp74]
  show jEv _ none _ c74_0 0 0 _ (c74_0, [(2, 7), (2, 1), (0, 12), (0, a3), (9, 0)], [], h, 0, 0)
  have k0 := Kp.rf [(7, 2), (7, 3), (7, 4), (10, 0), (11, 0), (12, 0), (13, 0), (14, 0), (15, 0), (16, 0), (17, 0)] h
  refine ev_aload_n rfl ?_
  refine g_getv (r := 7) (v := w0) g ad7 (by decide) ft5_1 (ew0) ?_
  refine ev_ifge f74_13 (fun c16902 => ?_) (fun c16902 => ?_)
  · refine ev_aload_n rfl ?_
    refine ev_in (d := 3) (a := 0) (b := 0) (cd' := c70_0) (m := 1) (L0 := [(2, 7)]) (jcall_v (A := []) (S' := []) (r := 7) rfl (g.lt ad7) (g.tg ad7) (Nat.le_of_ble_eq_true rfl)) (by decide) ml70 pp70 (Nat.le_of_ble_eq_true rfl) rfl (by decide) (by decide) ?_
    refine ev_aload_n rfl ?_
    refine g_getv (r := 7) (v := w0) g ad7 (by decide) ft5_1 (ew0) ?_
    refine ev_ifge f70_15 (fun c16903 => ?_) (fun c16903 => absurd c16903 (by omega))
    refine ev_ret rfl (by decide) (by decide) ?_
    show jEv _ _ _ _ _ _ _ (_, [(2, 7), (2, 1), (0, 12), (0, a3), (9, 0)], [], _, _, _)
    refine ev_iconst ?_
    exact ev_ret rfl (by decide) (by decide) ⟨_, _, rfl, by omega, by omega, g, k0, (ew0), by omega, by omega⟩
  · refine ev_iload_n rfl ?_
    refine ev_bipush ?_
    refine ev_icmple f74_19 (fun c16904 => ?_) (fun c16904 => absurd c16904 (by omega))
    refine ev_aload_n rfl ?_
    refine ev_in (d := 3) (a := 0) (b := 0) (cd' := c68_0) (m := 1) (L0 := [(2, 7)]) (jcall_v (A := []) (S' := []) (r := 7) rfl (g.lt ad7) (g.tg ad7) (Nat.le_of_ble_eq_true rfl)) (by decide) ml68 pp68 (Nat.le_of_ble_eq_true rfl) rfl (by decide) (by decide) ?_
    refine ev_aload_n rfl ?_
    obtain ⟨v16905, ev16905, lv16905, uv16905⟩ := g.rd ad7 (show 2 < 15 by decide) rf7_2
    refine g_getv (r := 7) (v := v16905) g ad7 (by decide) ft5_2 ev16905 ?_
    refine ev_aload_n rfl ?_
    obtain ⟨v16906, ev16906, lv16906, uv16906⟩ := g.rd ad7 (show 0 < 15 by decide) rf7_0
    refine g_getv (r := 7) (v := v16906) g ad7 (by decide) ft5_0 ev16906 ?_
    refine ev_icmpge f68_27 (fun c16907 => ?_) (fun c16907 => ?_)
    · refine ev_iconst ?_
      refine ev_ret rfl (by decide) (by decide) ?_
      show jEv _ _ _ _ _ _ _ (_, [(2, 7), (2, 1), (0, 12), (0, a3), (9, 0)], [(0, (-1))], _, _, _)
      refine ev_istore (L' := [(2, 7), (2, 1), (0, 12), (0, a3), (0, (-1))]) (Nat.le_of_ble_eq_true rfl) rfl ?_
      refine ev_iload rfl ?_
      refine ev_bipush ?_
      refine ev_icmpne f74_40 (fun c16908 => ?_) (fun c16908 => absurd c16908 (by omega))
      refine ev_iload rfl ?_
      refine ev_bipush ?_
      refine ev_icmpne f74_55 (fun c16909 => ?_) (fun c16909 => absurd c16909 (by omega))
      refine ev_iload rfl ?_
      refine ev_bipush ?_
      refine ev_icmplt f74_78 (fun c16910 => ?_) (fun c16910 => absurd c16910 (by omega))
      refine ev_aload_n rfl ?_
      refine ev_call (jcall_v (A := []) (S' := []) (r := 7) rfl (g.lt ad7) (g.tg ad7) (Nat.le_of_ble_eq_true rfl)) (jOk_le (by decide) (s75 g (ew0) (by omega) (by omega))) (by decide) (by decide) (fun w16911 h16911 q16911 => ?_)
      obtain ⟨v16913, v16912, rfl, lv16913, uv16913, g16911, kk16911, ev16912, p16911_0, p16911_1⟩ := q16911
      have bv16912 := g16911.rg ad7 (i := 1) (by decide) rf7_1
      rw [ev16912] at bv16912
      have k16911 := k0.tr kk16911 (by decide)
      show jEv _ _ _ _ _ _ _ (_, [(2, 7), (2, 1), (0, 12), (0, a3), (0, (-1))], [(0, v16913)], _, _, _)
      exact ev_ret rfl (by decide) (by decide) ⟨_, _, rfl, by omega, by omega, g16911, k16911, (ev16912), by omega, by omega⟩
    · refine ev_aload_n rfl ?_
      refine g_getp (r := 7) (c := 8) g ad7 (by decide) (by decide) rf7_5 ft5_5 ?_
      refine ev_aload_n rfl ?_
      refine g_getv (r := 7) (v := v16905) g ad7 (by decide) ft5_2 (ev16905) ?_
      refine g_bald g ad8 rt8 (by omega) (by omega) (fun v16914 ev16914 lv16914 uv16914 => ?_)
      refine ev_sipush ?_
      refine g_iandB (b := 255) (by omega) (by omega) (by decide) (fun v16915 ev16915 lv16915 uv16915 => ?_)
      refine ev_goto f68_28 ?_
      refine ev_ret rfl (by decide) (by decide) ?_
      show jEv _ _ _ _ _ _ _ (_, [(2, 7), (2, 1), (0, 12), (0, a3), (9, 0)], [(0, v16915)], _, _, _)
      refine ev_istore (L' := [(2, 7), (2, 1), (0, 12), (0, a3), (0, v16915)]) (Nat.le_of_ble_eq_true rfl) rfl ?_
      refine ev_iload rfl ?_
      refine ev_bipush ?_
      refine ev_icmpne f74_40 (fun c16916 => ?_) (fun c16916 => ?_)
      · refine ev_iload rfl ?_
        refine ev_bipush ?_
        refine ev_icmpne f74_55 (fun c16917 => ?_) (fun c16917 => ?_)
        · refine ev_iload rfl ?_
          refine ev_bipush ?_
          refine ev_icmplt f74_78 (fun c16918 => ?_) (fun c16918 => ?_)
          · refine ev_aload_n rfl ?_
            refine ev_call (jcall_v (A := []) (S' := []) (r := 7) rfl (g.lt ad7) (g.tg ad7) (Nat.le_of_ble_eq_true rfl)) (jOk_le (by decide) (s75 g (ew0) (by omega) (by omega))) (by decide) (by decide) (fun w16919 h16919 q16919 => ?_)
            obtain ⟨v16921, v16920, rfl, lv16921, uv16921, g16919, kk16919, ev16920, p16919_0, p16919_1⟩ := q16919
            have bv16920 := g16919.rg ad7 (i := 1) (by decide) rf7_1
            rw [ev16920] at bv16920
            have k16919 := k0.tr kk16919 (by decide)
            show jEv _ _ _ _ _ _ _ (_, [(2, 7), (2, 1), (0, 12), (0, a3), (0, v16915)], [(0, v16921)], _, _, _)
            exact ev_ret rfl (by decide) (by decide) ⟨_, _, rfl, by omega, by omega, g16919, k16919, (ev16920), by omega, by omega⟩
          · refine ev_iload rfl ?_
            refine ev_bipush ?_
            refine ev_icmpge f74_78 (fun c16922 => ?_) (fun c16922 => ?_)
            · refine ev_aload_n rfl ?_
              refine ev_call (jcall_v (A := []) (S' := []) (r := 7) rfl (g.lt ad7) (g.tg ad7) (Nat.le_of_ble_eq_true rfl)) (jOk_le (by decide) (s75 g (ew0) (by omega) (by omega))) (by decide) (by decide) (fun w16923 h16923 q16923 => ?_)
              obtain ⟨v16925, v16924, rfl, lv16925, uv16925, g16923, kk16923, ev16924, p16923_0, p16923_1⟩ := q16923
              have bv16924 := g16923.rg ad7 (i := 1) (by decide) rf7_1
              rw [ev16924] at bv16924
              have k16923 := k0.tr kk16923 (by decide)
              show jEv _ _ _ _ _ _ _ (_, [(2, 7), (2, 1), (0, 12), (0, a3), (0, v16915)], [(0, v16925)], _, _, _)
              exact ev_ret rfl (by decide) (by decide) ⟨_, _, rfl, by omega, by omega, g16923, k16923, (ev16924), by omega, by omega⟩
            · refine ev_aload_n rfl ?_
              refine ev_iload_n rfl ?_
              refine ev_iload_n rfl ?_
              refine ev_call (jcall_v (A := [(0, a3), (0, 12)]) (S' := []) (r := 7) rfl (g.lt ad7) (g.tg ad7) (Nat.le_of_ble_eq_true rfl)) (jOk_le (by decide) (s77 g (by omega) (by omega) (by omega) (by omega) (ew0) (by omega) (by omega))) (by decide) (by decide) (fun w16926 h16926 q16926 => ?_)
              obtain ⟨v16928, v16927, rfl, lv16928, uv16928, g16926, kk16926, ev16927, p16926_0, p16926_1⟩ := q16926
              have bv16927 := g16926.rg ad7 (i := 1) (by decide) rf7_1
              rw [ev16927] at bv16927
              have k16926 := k0.tr kk16926 (by decide)
              show jEv _ _ _ _ _ _ _ (_, [(2, 7), (2, 1), (0, 12), (0, a3), (0, v16915)], [(0, v16928)], _, _, _)
              refine ev_goto f74_82 ?_
              exact ev_ret rfl (by decide) (by decide) ⟨_, _, rfl, by omega, by omega, g16926, k16926, (ev16927), by omega, by omega⟩
        · refine ev_aload_n rfl ?_
          refine ev_aload_n rfl ?_
          refine ev_iload_n rfl ?_
          refine ev_iload_n rfl ?_
          refine ev_call (jcall_v (A := [(0, a3), (0, 12), (2, 1)]) (S' := []) (r := 7) rfl (g.lt ad7) (g.tg ad7) (Nat.le_of_ble_eq_true rfl)) (jOk_le (by decide) (s79_12 g (by omega) (by omega) (ew0) (by omega) (by omega) (ev16905) (by omega) (by omega))) (by decide) (by decide) (fun w16929 h16929 q16929 => ?_)
          obtain ⟨v16931, v16930, rfl, lv16931, uv16931, g16929, kk16929, ev16930, p16929_0, p16929_1⟩ := q16929
          have bv16930 := g16929.rg ad7 (i := 1) (by decide) rf7_1
          rw [ev16930] at bv16930
          have k16929 := k0.tr kk16929 (by decide)
          show jEv _ _ _ _ _ _ _ (_, [(2, 7), (2, 1), (0, 12), (0, a3), (0, v16915)], [(0, v16931)], _, _, _)
          exact ev_ret rfl (by decide) (by decide) ⟨_, _, rfl, by omega, by omega, g16929, k16929, (ev16930), by omega, by omega⟩
      · refine ev_aload_n rfl ?_
        refine ev_aload_n rfl ?_
        refine ev_iload_n rfl ?_
        refine ev_iload_n rfl ?_
        refine ev_call (jcall_v (A := [(0, a3), (0, 12), (2, 1)]) (S' := []) (r := 7) rfl (g.lt ad7) (g.tg ad7) (Nat.le_of_ble_eq_true rfl)) (jOk_le (by decide) (s78_12 g (by omega) (by omega) (ew0) (by omega) (by omega) (ev16905) (by omega) (by omega))) (by decide) (by decide) (fun w16932 h16932 q16932 => ?_)
        obtain ⟨v16934, v16933, rfl, lv16934, uv16934, g16932, kk16932, ev16933, p16932_0, p16932_1⟩ := q16932
        have bv16933 := g16932.rg ad7 (i := 1) (by decide) rf7_1
        rw [ev16933] at bv16933
        have k16932 := k0.tr kk16932 (by decide)
        show jEv _ _ _ _ _ _ _ (_, [(2, 7), (2, 1), (0, 12), (0, a3), (0, v16915)], [(0, v16934)], _, _, _)
        exact ev_ret rfl (by decide) (by decide) ⟨_, _, rfl, by omega, by omega, g16932, k16932, (ev16933), by omega, by omega⟩
/-! s78_11  -/
set_option maxHeartbeats 4000000 in
theorem s78_11_l {G : GH} {h : JH} {a3 : Int} (la3 : (-2147483648) ≤ a3) (ua3 : a3 ≤ 2147483647) {w0 : Int} (ew0 : h.2.2 7 1 = w0) (lw0 : (-1) ≤ w0) (uw0 : w0 ≤ 200) {w1 : Int} (ew1 : h.2.2 7 2 = w1) (lw1 : 0 ≤ w1) (uw1 : w1 ≤ 199) : ∀ N : Nat, (∀ (h1 : JH) (x4 x5 y0 : Int) (j6 : AV), Gd G h1 → Kp [(7, 2), (7, 3), (7, 4), (10, 0), (11, 0), (12, 0), (13, 0), (14, 0), (15, 0), (16, 0), (17, 0)] h h1 → (-2147483648) ≤ a3 → a3 ≤ 2147483647 → (-1) ≤ x4 → x4 ≤ 199 → 0 ≤ x5 → x5 ≤ 3 → (w0 + (-y0)) ≤ 0 → ((-x4) + (-y0)) ≤ 1 → h1.2.2 7 1 = y0 → (-1) ≤ y0 → y0 ≤ 200 → ((-x5) + 3) < N → jEv (jOk 5) none (fun _ => 0) c78_0 0 0 (fun v h' => ∃ r F : Int, v = some (0, r) ∧ (-1) ≤ r ∧ r ≤ 199 ∧ Gd G h' ∧ Kp [(7, 2), (7, 3), (7, 4), (10, 0), (11, 0), (12, 0), (13, 0), (14, 0), (15, 0), (16, 0), (17, 0)] h h' ∧ h'.2.2 7 1 = F ∧ ((-F) + w0) ≤ 0 ∧ ((-F) + (-r)) ≤ 1) (c78_25, [(2, 7), (2, 1), (0, 11), (0, a3), (0, x4), (0, x5), j6], [], h1, 0, 0)) := by
  intro N
  induction N with
  | zero => exact fun h1 x4 x5 y0 j6 g1 k1 b0 b1 b2 b3 b4 b5 b6 b7 b8 b9 b10 hm => absurd hm (by omega)
  | succ N ih =>
    show _
    intro h1 x4 x5 y0 j6 g1 k1 b0 b1 b2 b3 b4 b5 b6 b7 ey0 ly0 uy0 hm
    refine ev_iload rfl ?_
    refine ev_iconst ?_
    refine ev_icmpge f78_100 (fun c17103 => absurd c17103 (by omega)) (fun c17103 => ?_)
    refine ev_aload_n rfl ?_
    refine g_getv (r := 7) (v := y0) g1 ad7 (by decide) ft5_1 (ey0) ?_
    refine ev_ifge f78_100 (fun c17104 => ?_) (fun c17104 => ?_)
    · refine ev_aload_n rfl ?_
      refine ev_bipush ?_
      refine ev_call (jcall_v (A := [(0, 41)]) (S' := []) (r := 7) rfl (g1.lt ad7) (g1.tg ad7) (Nat.le_of_ble_eq_true rfl)) (jOk_le (by decide) (s71 g1 (by omega) (by omega) (ey0) (by omega) (by omega))) (by decide) (by decide) (fun w17105 h17105 q17105 => ?_)
      obtain ⟨v17106, rfl, g17105, kk17105, ev17106, p17105_0⟩ := q17105
      have bv17106 := g17105.rg ad7 (i := 1) (by decide) rf7_1
      rw [ev17106] at bv17106
      have k17105 := k1.tr kk17105 (by decide)
      show jEv _ _ _ _ _ _ _ (_, [(2, 7), (2, 1), (0, 11), (0, a3), (0, x4), (0, x5), j6], [], _, _, _)
      refine ev_aload_n rfl ?_
      refine g_getv (r := 7) (v := v17106) g17105 ad7 (by decide) ft5_1 (ev17106) ?_
      refine ev_iflt f78_117 (fun c17107 => absurd c17107 (by omega)) (fun c17107 => ?_)
      refine ev_iconst ?_
      refine ev_goto f78_119 ?_
      exact ev_ret rfl (by decide) (by decide) ⟨_, _, rfl, by omega, by omega, g17105, k17105, (ev17106), by omega, by omega⟩
    · refine ev_aload_n rfl ?_
      refine ev_iconst ?_
      refine ev_call (jcall_v (A := [(0, 2)]) (S' := []) (r := 7) rfl (g1.lt ad7) (g1.tg ad7) (Nat.le_of_ble_eq_true rfl)) (jOk_le (by decide) (s76 g1 (by omega) (by omega) (ey0) (by omega) (by omega))) (by decide) (by decide) (fun w17108 h17108 q17108 => ?_)
      obtain ⟨v17110, v17109, rfl, lv17110, uv17110, g17108, kk17108, ev17109, p17108_0⟩ := q17108
      have bv17109 := g17108.rg ad7 (i := 1) (by decide) rf7_1
      rw [ev17109] at bv17109
      have k17108 := k1.tr kk17108 (by decide)
      show jEv _ _ _ _ _ _ _ (_, [(2, 7), (2, 1), (0, 11), (0, a3), (0, x4), (0, x5), j6], [(0, v17110)], _, _, _)
      refine ev_istore (L' := [(2, 7), (2, 1), (0, 11), (0, a3), (0, x4), (0, x5), (0, v17110)]) (Nat.le_of_ble_eq_true rfl) rfl ?_
      refine ev_aload_n rfl ?_
      refine ev_bipush ?_
      refine ev_call (jcall_v (A := [(0, 58)]) (S' := []) (r := 7) rfl (g17108.lt ad7) (g17108.tg ad7) (Nat.le_of_ble_eq_true rfl)) (jOk_le (by decide) (s71 g17108 (by omega) (by omega) (ev17109) (by omega) (by omega))) (by decide) (by decide) (fun w17111 h17111 q17111 => ?_)
      obtain ⟨v17112, rfl, g17111, kk17111, ev17112, p17111_0⟩ := q17111
      have bv17112 := g17111.rg ad7 (i := 1) (by decide) rf7_1
      rw [ev17112] at bv17112
      have k17111 := k17108.tr kk17111 (by decide)
      show jEv _ _ _ _ _ _ _ (_, [(2, 7), (2, 1), (0, 11), (0, a3), (0, x4), (0, x5), (0, v17110)], [], _, _, _)
      refine ev_aload_n rfl ?_
      refine ev_iload rfl ?_
      refine ev_iload rfl ?_
      refine ev_iload rfl ?_
      refine ev_aload_n rfl ?_
      refine ev_aload_n rfl ?_
      refine ev_iload_n rfl ?_
      refine ev_iconst ?_
      refine ev_iadd (r := 12) (by decide) ?_
      refine ev_iload_n rfl ?_
      refine ev_call (jcall_v (A := [(0, a3), (0, 12), (2, 1)]) (S' := [(0, v17110), (0, x5), (0, x4), (2, 7)]) (r := 7) rfl (g17111.lt ad7) (g17111.tg ad7) (Nat.le_of_ble_eq_true rfl)) (jOk_le (by decide) (s74_12 g17111 (by omega) (by omega) (ev17112) (by omega) (by omega))) (by decide) (by decide) (fun w17113 h17113 q17113 => ?_)
      obtain ⟨v17115, v17114, rfl, lv17115, uv17115, g17113, kk17113, ev17114, p17113_0, p17113_1⟩ := q17113
      have bv17114 := g17113.rg ad7 (i := 1) (by decide) rf7_1
      rw [ev17114] at bv17114
      have k17113 := k17111.tr kk17113 (by decide)
      show jEv _ _ _ _ _ _ _ (_, [(2, 7), (2, 1), (0, 11), (0, a3), (0, x4), (0, x5), (0, v17110)], [(0, v17115), (0, v17110), (0, x5), (0, x4), (2, 7)], _, _, _)
      refine ev_call (jcall_v (A := [(0, v17115), (0, v17110), (0, x5), (0, x4)]) (S' := []) (r := 7) rfl (g17113.lt ad7) (g17113.tg ad7) (Nat.le_of_ble_eq_true rfl)) (jOk_le (by decide) (s80 g17113 (by omega) (by omega) (by omega) (by omega) (by omega) (by omega) (by omega) (by omega))) (by decide) (by decide) (fun w17116 h17116 q17116 => ?_)
      obtain ⟨rfl, g17116, kk17116⟩ := q17116
      have k17116 := k17113.tr kk17116 (by decide)
      show jEv _ _ _ _ _ _ _ (_, [(2, 7), (2, 1), (0, 11), (0, a3), (0, x4), (0, x5), (0, v17110)], [], _, _, _)
      refine ev_aload_n rfl ?_
      refine ev_in (d := 4) (a := 0) (b := 0) (cd' := c68_0) (m := 1) (L0 := [(2, 7)]) (jcall_v (A := []) (S' := []) (r := 7) rfl (g17116.lt ad7) (g17116.tg ad7) (Nat.le_of_ble_eq_true rfl)) (by decide) ml68 pp68 (Nat.le_of_ble_eq_true rfl) rfl (by decide) (by decide) ?_
      refine ev_aload_n rfl ?_
      obtain ⟨v17117, ev17117, lv17117, uv17117⟩ := g17116.rd ad7 (show 2 < 15 by decide) rf7_2
      refine g_getv (r := 7) (v := v17117) g17116 ad7 (by decide) ft5_2 ev17117 ?_
      refine ev_aload_n rfl ?_
      obtain ⟨v17118, ev17118, lv17118, uv17118⟩ := g17116.rd ad7 (show 0 < 15 by decide) rf7_0
      refine g_getv (r := 7) (v := v17118) g17116 ad7 (by decide) ft5_0 ev17118 ?_
      refine ev_icmpge f68_27 (fun c17119 => ?_) (fun c17119 => ?_)
      · refine ev_iconst ?_
        refine ev_ret rfl (by decide) (by decide) ?_
        show jEv _ _ _ _ _ _ _ (_, [(2, 7), (2, 1), (0, 11), (0, a3), (0, x4), (0, x5), (0, v17110)], [(0, (-1))], _, _, _)
        refine ev_bipush ?_
        refine ev_icmpne f78_100 (fun c17120 => ?_) (fun c17120 => absurd c17120 (by omega))
        refine ev_aload_n rfl ?_
        refine ev_bipush ?_
        refine ev_call (jcall_v (A := [(0, 41)]) (S' := []) (r := 7) rfl (g17116.lt ad7) (g17116.tg ad7) (Nat.le_of_ble_eq_true rfl)) (jOk_le (by decide) (s71 g17116 (by omega) (by omega) (((kk17116.v (by decide)).trans ev17114)) (by omega) (by omega))) (by decide) (by decide) (fun w17121 h17121 q17121 => ?_)
        obtain ⟨v17122, rfl, g17121, kk17121, ev17122, p17121_0⟩ := q17121
        have bv17122 := g17121.rg ad7 (i := 1) (by decide) rf7_1
        rw [ev17122] at bv17122
        have k17121 := k17116.tr kk17121 (by decide)
        show jEv _ _ _ _ _ _ _ (_, [(2, 7), (2, 1), (0, 11), (0, a3), (0, x4), (0, x5), (0, v17110)], [], _, _, _)
        refine ev_aload_n rfl ?_
        refine g_getv (r := 7) (v := v17122) g17121 ad7 (by decide) ft5_1 (ev17122) ?_
        refine ev_iflt f78_117 (fun c17123 => ?_) (fun c17123 => ?_)
        · refine ev_iload rfl ?_
          exact ev_ret rfl (by decide) (by decide) ⟨_, _, rfl, by omega, by omega, g17121, k17121, (ev17122), by omega, by omega⟩
        · refine ev_iconst ?_
          refine ev_goto f78_119 ?_
          exact ev_ret rfl (by decide) (by decide) ⟨_, _, rfl, by omega, by omega, g17121, k17121, (ev17122), by omega, by omega⟩
      · refine ev_aload_n rfl ?_
        refine g_getp (r := 7) (c := 8) g17116 ad7 (by decide) (by decide) rf7_5 ft5_5 ?_
        refine ev_aload_n rfl ?_
        refine g_getv (r := 7) (v := v17117) g17116 ad7 (by decide) ft5_2 (ev17117) ?_
        refine g_bald g17116 ad8 rt8 (by omega) (by omega) (fun v17124 ev17124 lv17124 uv17124 => ?_)
        refine ev_sipush ?_
        refine g_iandB (b := 255) (by omega) (by omega) (by decide) (fun v17125 ev17125 lv17125 uv17125 => ?_)
        refine ev_goto f68_28 ?_
        refine ev_ret rfl (by decide) (by decide) ?_
        show jEv _ _ _ _ _ _ _ (_, [(2, 7), (2, 1), (0, 11), (0, a3), (0, x4), (0, x5), (0, v17110)], [(0, v17125)], _, _, _)
        refine ev_bipush ?_
        refine ev_icmpne f78_100 (fun c17126 => ?_) (fun c17126 => ?_)
        · refine ev_aload_n rfl ?_
          refine ev_bipush ?_
          refine ev_call (jcall_v (A := [(0, 41)]) (S' := []) (r := 7) rfl (g17116.lt ad7) (g17116.tg ad7) (Nat.le_of_ble_eq_true rfl)) (jOk_le (by decide) (s71 g17116 (by omega) (by omega) (((kk17116.v (by decide)).trans ev17114)) (by omega) (by omega))) (by decide) (by decide) (fun w17127 h17127 q17127 => ?_)
          obtain ⟨v17128, rfl, g17127, kk17127, ev17128, p17127_0⟩ := q17127
          have bv17128 := g17127.rg ad7 (i := 1) (by decide) rf7_1
          rw [ev17128] at bv17128
          have k17127 := k17116.tr kk17127 (by decide)
          show jEv _ _ _ _ _ _ _ (_, [(2, 7), (2, 1), (0, 11), (0, a3), (0, x4), (0, x5), (0, v17110)], [], _, _, _)
          refine ev_aload_n rfl ?_
          refine g_getv (r := 7) (v := v17128) g17127 ad7 (by decide) ft5_1 (ev17128) ?_
          refine ev_iflt f78_117 (fun c17129 => ?_) (fun c17129 => ?_)
          · refine ev_iload rfl ?_
            exact ev_ret rfl (by decide) (by decide) ⟨_, _, rfl, by omega, by omega, g17127, k17127, (ev17128), by omega, by omega⟩
          · refine ev_iconst ?_
            refine ev_goto f78_119 ?_
            exact ev_ret rfl (by decide) (by decide) ⟨_, _, rfl, by omega, by omega, g17127, k17127, (ev17128), by omega, by omega⟩
        · refine ev_iload rfl ?_
          refine ev_iconst ?_
          refine ev_icmpne f78_88 (fun c17130 => ?_) (fun c17130 => ?_)
          · refine ev_aload_n rfl ?_
            refine ev_bipush ?_
            refine ev_call (jcall_v (A := [(0, 44)]) (S' := []) (r := 7) rfl (g17116.lt ad7) (g17116.tg ad7) (Nat.le_of_ble_eq_true rfl)) (jOk_le (by decide) (s71 g17116 (by omega) (by omega) (((kk17116.v (by decide)).trans ev17114)) (by omega) (by omega))) (by decide) (by decide) (fun w17131 h17131 q17131 => ?_)
            obtain ⟨v17132, rfl, g17131, kk17131, ev17132, p17131_0⟩ := q17131
            have bv17132 := g17131.rg ad7 (i := 1) (by decide) rf7_1
            rw [ev17132] at bv17132
            have k17131 := k17116.tr kk17131 (by decide)
            show jEv _ _ _ _ _ _ _ (_, [(2, 7), (2, 1), (0, 11), (0, a3), (0, x4), (0, x5), (0, v17110)], [], _, _, _)
            refine ev_iinc (w := (x5 + 1)) (L' := [(2, 7), (2, 1), (0, 11), (0, a3), (0, x4), (0, (x5 + 1)), (0, v17110)]) rfl (by unfold w32; omega) rfl ?_
            refine ev_goto f78_25 ?_
            exact ih _ _ _ _ _ g17131 k17131 (by omega) (by omega) (by omega) (by omega) (by omega) (by omega) (by omega) (by omega) (ev17132) (by omega) (by omega) (by omega)
          · refine ev_goto f78_100 ?_
            refine ev_aload_n rfl ?_
            refine ev_bipush ?_
            refine ev_call (jcall_v (A := [(0, 41)]) (S' := []) (r := 7) rfl (g17116.lt ad7) (g17116.tg ad7) (Nat.le_of_ble_eq_true rfl)) (jOk_le (by decide) (s71 g17116 (by omega) (by omega) (((kk17116.v (by decide)).trans ev17114)) (by omega) (by omega))) (by decide) (by decide) (fun w17133 h17133 q17133 => ?_)
            obtain ⟨v17134, rfl, g17133, kk17133, ev17134, p17133_0⟩ := q17133
            have bv17134 := g17133.rg ad7 (i := 1) (by decide) rf7_1
            rw [ev17134] at bv17134
            have k17133 := k17116.tr kk17133 (by decide)
            show jEv _ _ _ _ _ _ _ (_, [(2, 7), (2, 1), (0, 11), (0, a3), (0, x4), (0, x5), (0, v17110)], [], _, _, _)
            refine ev_aload_n rfl ?_
            refine g_getv (r := 7) (v := v17134) g17133 ad7 (by decide) ft5_1 (ev17134) ?_
            refine ev_iflt f78_117 (fun c17135 => ?_) (fun c17135 => ?_)
            · refine ev_iload rfl ?_
              exact ev_ret rfl (by decide) (by decide) ⟨_, _, rfl, by omega, by omega, g17133, k17133, (ev17134), by omega, by omega⟩
            · refine ev_iconst ?_
              refine ev_goto f78_119 ?_
              exact ev_ret rfl (by decide) (by decide) ⟨_, _, rfl, by omega, by omega, g17133, k17133, (ev17134), by omega, by omega⟩
set_option maxHeartbeats 4000000 in
theorem s78_11 {G : GH} {h : JH} (g : Gd G h) {a3 : Int} (la3 : (-2147483648) ≤ a3) (ua3 : a3 ≤ 2147483647) {w0 : Int} (ew0 : h.2.2 7 1 = w0) (lw0 : (-1) ≤ w0) (uw0 : w0 ≤ 200) {w1 : Int} (ew1 : h.2.2 7 2 = w1) (lw1 : 0 ≤ w1) (uw1 : w1 ≤ 199) : jOk 6 0 0 78 [(2, 7), (2, 1), (0, 11), (0, a3)] h (fun v h' => ∃ r F : Int, v = some (0, r) ∧ (-1) ≤ r ∧ r ≤ 199 ∧ Gd G h' ∧ Kp [(7, 2), (7, 3), (7, 4), (10, 0), (11, 0), (12, 0), (13, 0), (14, 0), (15, 0), (16, 0), (17, 0)] h h' ∧ h'.2.2 7 1 = F ∧ ((-F) + w0) ≤ 0 ∧ ((-F) + (-r)) ≤ 1) := by
  refine ⟨by decide, by rw [ml78]; exact Nat.le_of_ble_eq_true rfl, ?_⟩
  rw [ml78, pp78]
  show jEv _ none _ c78_0 0 0 _ (c78_0, [(2, 7), (2, 1), (0, 11), (0, a3), (9, 0), (9, 0), (9, 0)], [], h, 0, 0)
  have k0 := Kp.rf [(7, 2), (7, 3), (7, 4), (10, 0), (11, 0), (12, 0), (13, 0), (14, 0), (15, 0), (16, 0), (17, 0)] h
  refine ev_aload_n rfl ?_
  refine ev_dup (by decide) ?_
  refine g_getv (r := 7) (v := w1) g ad7 (by decide) ft5_2 (ew1) ?_
  refine ev_iconst ?_
  refine ev_iadd (r := (w1 + 1)) (by unfold w32; omega) ?_
  refine g_putf (r := 7) g ad7 (by decide) ft5_2 (by decide) (fun e => absurd e nz5_2) rf7_2 (by decide) (by omega) (by omega) (fun h17136 e17136 g17136 => ?_)
  have k17136 := k0.wr e17136 rfl
  refine ev_aload_n rfl ?_
  refine ev_iload_n rfl ?_
  refine ev_call (jcall_v (A := [(0, 11)]) (S' := []) (r := 7) rfl (g17136.lt ad7) (g17136.tg ad7) (Nat.le_of_ble_eq_true rfl)) (jOk_le (by decide) (s72 g17136 (by omega) (by omega) (((jw_ne e17136 (Or.inr (by decide))).trans ew0)) (by omega) (by omega))) (by decide) (by decide) (fun w17137 h17137 q17137 => ?_)
  obtain ⟨v17138, rfl, g17137, kk17137, ev17138, p17137_0⟩ := q17137
  have bv17138 := g17137.rg ad7 (i := 1) (by decide) rf7_1
  rw [ev17138] at bv17138
  have k17137 := k17136.tr kk17137 (by decide)
  show jEv _ _ _ _ _ _ _ (_, [(2, 7), (2, 1), (0, 11), (0, a3), (9, 0), (9, 0), (9, 0)], [], _, _, _)
  refine ev_aload_n rfl ?_
  refine ev_iconst ?_
  refine ev_call (jcall_v (A := [(0, 1)]) (S' := []) (r := 7) rfl (g17137.lt ad7) (g17137.tg ad7) (Nat.le_of_ble_eq_true rfl)) (jOk_le (by decide) (s73 g17137 (by omega) (by omega) (ev17138) (by omega) (by omega))) (by decide) (by decide) (fun w17139 h17139 q17139 => ?_)
  obtain ⟨v17141, v17140, rfl, lv17141, uv17141, g17139, kk17139, ev17140, p17139_0, p17139_1⟩ := q17139
  have bv17140 := g17139.rg ad7 (i := 1) (by decide) rf7_1
  rw [ev17140] at bv17140
  have k17139 := k17137.tr kk17139 (by decide)
  show jEv _ _ _ _ _ _ _ (_, [(2, 7), (2, 1), (0, 11), (0, a3), (9, 0), (9, 0), (9, 0)], [(0, v17141)], _, _, _)
  refine ev_istore (L' := [(2, 7), (2, 1), (0, 11), (0, a3), (0, v17141), (9, 0), (9, 0)]) (Nat.le_of_ble_eq_true rfl) rfl ?_
  refine ev_iconst ?_
  refine ev_istore (L' := [(2, 7), (2, 1), (0, 11), (0, a3), (0, v17141), (0, 0), (9, 0)]) (Nat.le_of_ble_eq_true rfl) rfl ?_
  exact (s78_11_l la3 ua3 ew0 lw0 uw0 ew1 lw1 uw1 8) _ _ _ _ _ g17139 k17139 (by omega) (by omega) (by omega) (by omega) (by omega) (by omega) (by omega) (by omega) (ev17140) (by omega) (by omega) (by omega)
/-! s79_11  -/
set_option maxHeartbeats 4000000 in
theorem s79_11_l {G : GH} {h : JH} {a3 : Int} (la3 : (-2147483648) ≤ a3) (ua3 : a3 ≤ 2147483647) {w0 : Int} (ew0 : h.2.2 7 1 = w0) (lw0 : (-1) ≤ w0) (uw0 : w0 ≤ 200) {w1 : Int} (ew1 : h.2.2 7 2 = w1) (lw1 : 0 ≤ w1) (uw1 : w1 ≤ 199) : ∀ N : Nat, (∀ (h1 : JH) (x4 x5 x6 y0 : Int), Gd G h1 → Kp [(7, 2), (7, 3), (7, 4), (10, 0), (11, 0), (12, 0), (13, 0), (14, 0), (15, 0), (16, 0), (17, 0)] h h1 → (-2147483648) ≤ a3 → a3 ≤ 2147483647 → 0 ≤ x4 → x4 ≤ 3 → (-1) ≤ x5 → x5 ≤ 199 → 0 ≤ x6 → x6 ≤ 3 → (w0 + (-y0)) ≤ 0 → ((-x5) + (-y0)) ≤ 1 → h1.2.2 7 1 = y0 → (-1) ≤ y0 → y0 ≤ 200 → ((-x6) + 3) < N → jEv (jOk 5) none (fun _ => 0) c79_0 0 0 (fun v h' => ∃ r F : Int, v = some (0, r) ∧ (-1) ≤ r ∧ r ≤ 199 ∧ Gd G h' ∧ Kp [(7, 2), (7, 3), (7, 4), (10, 0), (11, 0), (12, 0), (13, 0), (14, 0), (15, 0), (16, 0), (17, 0)] h h' ∧ h'.2.2 7 1 = F ∧ ((-F) + w0) ≤ 0 ∧ ((-F) + (-r)) ≤ 1) (c79_68, [(2, 7), (2, 1), (0, 11), (0, a3), (0, x4), (0, x5), (0, x6)], [], h1, 0, 0)) := by
  intro N
  induction N with
  | zero => exact fun h1 x4 x5 x6 y0 g1 k1 b0 b1 b2 b3 b4 b5 b6 b7 b8 b9 b10 b11 b12 hm => absurd hm (by omega)
  | succ N ih =>
    show _
    intro h1 x4 x5 x6 y0 g1 k1 b0 b1 b2 b3 b4 b5 b6 b7 b8 b9 ey0 ly0 uy0 hm
    refine ev_iload rfl ?_
    refine ev_aload_n rfl ?_
    refine ev_iload rfl ?_
    refine ev_in (d := 4) (a := 0) (b := 0) (cd' := c141_0) (m := 2) (L0 := [(2, 1), (0, x4)]) (jcall_v (A := [(0, x4)]) (S' := [(0, x6)]) (r := 1) rfl (g1.lt ad1) (g1.tg ad1) (Nat.le_of_ble_eq_true rfl)) (by decide) ml141 pp141 (Nat.le_of_ble_eq_true rfl) rfl (by decide) (by decide) ?_
    refine ev_aload_n rfl ?_
    refine ev_iload_n rfl ?_
    refine ev_in (d := 3) (a := 0) (b := 0) (cd' := c140_0) (m := 2) (L0 := [(2, 1), (0, x4)]) (jcall_v (A := [(0, x4)]) (S' := []) (r := 1) rfl (g1.lt ad1) (g1.tg ad1) (Nat.le_of_ble_eq_true rfl)) (by decide) ml140 pp140 (Nat.le_of_ble_eq_true rfl) rfl (by decide) (by decide) ?_
    refine ev_iload_n rfl ?_
    refine ev_iflt f140_16 (fun c17419 => absurd c17419 (by omega)) (fun c17419 => ?_)
    refine ev_iload_n rfl ?_
    refine ev_aload_n rfl ?_
    obtain ⟨v17420, ev17420, lv17420, uv17420⟩ := g1.rd ad1 (show 0 < 8 by decide) rf1_0
    refine g_getv (r := 1) (v := v17420) g1 ad1 (by decide) ft10_0 ev17420 ?_
    refine ev_icmpge f140_16 (fun c17421 => ?_) (fun c17421 => ?_)
    · refine ev_iconst ?_
      refine ev_ret rfl (by decide) (by decide) ?_
      show jEv _ _ _ _ _ _ _ (_, [(2, 1), (0, x4)], [(0, 0)], _, _, _)
      refine ev_ifeq f141_17 (fun c17422 => ?_) (fun c17422 => absurd c17422 (by omega))
      refine ev_iconst ?_
      refine ev_ret rfl (by decide) (by decide) ?_
      show jEv _ _ _ _ _ _ _ (_, [(2, 7), (2, 1), (0, 11), (0, a3), (0, x4), (0, x5), (0, x6)], [(0, 0), (0, x6)], _, _, _)
      refine ev_icmpge f79_126 (fun c17423 => ?_) (fun c17423 => absurd c17423 (by omega))
      refine ev_aload_n rfl ?_
      refine ev_bipush ?_
      refine ev_call (jcall_v (A := [(0, 41)]) (S' := []) (r := 7) rfl (g1.lt ad7) (g1.tg ad7) (Nat.le_of_ble_eq_true rfl)) (jOk_le (by decide) (s71 g1 (by omega) (by omega) (ey0) (by omega) (by omega))) (by decide) (by decide) (fun w17424 h17424 q17424 => ?_)
      obtain ⟨v17425, rfl, g17424, kk17424, ev17425, p17424_0⟩ := q17424
      have bv17425 := g17424.rg ad7 (i := 1) (by decide) rf7_1
      rw [ev17425] at bv17425
      have k17424 := k1.tr kk17424 (by decide)
      show jEv _ _ _ _ _ _ _ (_, [(2, 7), (2, 1), (0, 11), (0, a3), (0, x4), (0, x5), (0, x6)], [], _, _, _)
      refine ev_aload_n rfl ?_
      refine g_getv (r := 7) (v := v17425) g17424 ad7 (by decide) ft5_1 (ev17425) ?_
      refine ev_ifge f79_144 (fun c17426 => ?_) (fun c17426 => ?_)
      · refine ev_iconst ?_
        exact ev_ret rfl (by decide) (by decide) ⟨_, _, rfl, by omega, by omega, g17424, k17424, (ev17425), by omega, by omega⟩
      · refine ev_iload rfl ?_
        refine ev_ifge f79_146 (fun c17427 => ?_) (fun c17427 => absurd c17427 (by omega))
        refine ev_aload_n rfl ?_
        refine g_getp (r := 7) (c := 11) g17424 ad7 (by decide) (by decide) rf7_8 ft5_8 ?_
        refine ev_iload rfl ?_
        refine ev_iload rfl ?_
        refine g_iast g17424 ad11 rt11 (fun _ => rfl) (by omega) (by omega) (by omega) (by omega) (fun h17428 e17428 g17428 => ?_)
        have k17428 := k17424.wr e17428 rfl
        refine ev_aload_n rfl ?_
        refine g_getp (r := 7) (c := 15) g17428 ad7 (by decide) (by decide) rf7_12 ft5_12 ?_
        refine ev_iload rfl ?_
        refine ev_dup2 (by decide) (by decide) ?_
        refine g_iald g17428 ad15 rt15 (by omega) (by omega) (fun v17429 ev17429 lv17429 uv17429 => ?_)
        refine ev_iconst ?_
        refine ev_iload rfl ?_
        refine g_ishlB (a' := 1) (a := 1) (b := 3) (hi := 8) (by omega) (by omega) (by omega) (by omega) (by decide) (by decide) (fun v17430 ev17430 lv17430 uv17430 => ?_)
        refine g_iorG (fun v17431 ev17431 lv17431 uv17431 => ?_)
        refine g_iast g17428 ad15 rt15 (fun _ => rfl) (by omega) (by omega) (by omega) (by omega) (fun h17432 e17432 g17432 => ?_)
        have k17432 := k17428.wr e17432 rfl
        refine ev_iload rfl ?_
        exact ev_ret rfl (by decide) (by decide) ⟨_, _, rfl, by omega, by omega, g17432, k17432, (((jw_ne e17432 (Or.inl (by decide))).trans ((jw_ne e17428 (Or.inl (by decide))).trans ev17425))), by omega, by omega⟩
    · refine ev_iconst ?_
      refine ev_goto f140_17 ?_
      refine ev_ret rfl (by decide) (by decide) ?_
      show jEv _ _ _ _ _ _ _ (_, [(2, 1), (0, x4)], [(0, 1)], _, _, _)
      refine ev_ifeq f141_17 (fun c17433 => absurd c17433 (by omega)) (fun c17433 => ?_)
      refine ev_aload_n rfl ?_
      refine g_getp (r := 1) (c := 2) g1 ad1 (by decide) (by decide) rf1_3 ft10_3 ?_
      refine ev_iload_n rfl ?_
      refine g_iald g1 ad2 rt2 (by omega) (by omega) (fun v17434 ev17434 lv17434 uv17434 => ?_)
      refine ev_goto f141_18 ?_
      refine ev_ret rfl (by decide) (by decide) ?_
      show jEv _ _ _ _ _ _ _ (_, [(2, 7), (2, 1), (0, 11), (0, a3), (0, x4), (0, x5), (0, x6)], [(0, v17434), (0, x6)], _, _, _)
      refine ev_icmpge f79_126 (fun c17435 => ?_) (fun c17435 => ?_)
      · refine ev_aload_n rfl ?_
        refine ev_bipush ?_
        refine ev_call (jcall_v (A := [(0, 41)]) (S' := []) (r := 7) rfl (g1.lt ad7) (g1.tg ad7) (Nat.le_of_ble_eq_true rfl)) (jOk_le (by decide) (s71 g1 (by omega) (by omega) (ey0) (by omega) (by omega))) (by decide) (by decide) (fun w17436 h17436 q17436 => ?_)
        obtain ⟨v17437, rfl, g17436, kk17436, ev17437, p17436_0⟩ := q17436
        have bv17437 := g17436.rg ad7 (i := 1) (by decide) rf7_1
        rw [ev17437] at bv17437
        have k17436 := k1.tr kk17436 (by decide)
        show jEv _ _ _ _ _ _ _ (_, [(2, 7), (2, 1), (0, 11), (0, a3), (0, x4), (0, x5), (0, x6)], [], _, _, _)
        refine ev_aload_n rfl ?_
        refine g_getv (r := 7) (v := v17437) g17436 ad7 (by decide) ft5_1 (ev17437) ?_
        refine ev_ifge f79_144 (fun c17438 => ?_) (fun c17438 => ?_)
        · refine ev_iconst ?_
          exact ev_ret rfl (by decide) (by decide) ⟨_, _, rfl, by omega, by omega, g17436, k17436, (ev17437), by omega, by omega⟩
        · refine ev_iload rfl ?_
          refine ev_ifge f79_146 (fun c17439 => ?_) (fun c17439 => absurd c17439 (by omega))
          refine ev_aload_n rfl ?_
          refine g_getp (r := 7) (c := 11) g17436 ad7 (by decide) (by decide) rf7_8 ft5_8 ?_
          refine ev_iload rfl ?_
          refine ev_iload rfl ?_
          refine g_iast g17436 ad11 rt11 (fun _ => rfl) (by omega) (by omega) (by omega) (by omega) (fun h17440 e17440 g17440 => ?_)
          have k17440 := k17436.wr e17440 rfl
          refine ev_aload_n rfl ?_
          refine g_getp (r := 7) (c := 15) g17440 ad7 (by decide) (by decide) rf7_12 ft5_12 ?_
          refine ev_iload rfl ?_
          refine ev_dup2 (by decide) (by decide) ?_
          refine g_iald g17440 ad15 rt15 (by omega) (by omega) (fun v17441 ev17441 lv17441 uv17441 => ?_)
          refine ev_iconst ?_
          refine ev_iload rfl ?_
          refine g_ishlB (a' := 1) (a := 1) (b := 3) (hi := 8) (by omega) (by omega) (by omega) (by omega) (by decide) (by decide) (fun v17442 ev17442 lv17442 uv17442 => ?_)
          refine g_iorG (fun v17443 ev17443 lv17443 uv17443 => ?_)
          refine g_iast g17440 ad15 rt15 (fun _ => rfl) (by omega) (by omega) (by omega) (by omega) (fun h17444 e17444 g17444 => ?_)
          have k17444 := k17440.wr e17444 rfl
          refine ev_iload rfl ?_
          exact ev_ret rfl (by decide) (by decide) ⟨_, _, rfl, by omega, by omega, g17444, k17444, (((jw_ne e17444 (Or.inl (by decide))).trans ((jw_ne e17440 (Or.inl (by decide))).trans ev17437))), by omega, by omega⟩
      · refine ev_aload_n rfl ?_
        refine g_getv (r := 7) (v := y0) g1 ad7 (by decide) ft5_1 (ey0) ?_
        refine ev_ifge f79_126 (fun c17445 => ?_) (fun c17445 => ?_)
        · refine ev_aload_n rfl ?_
          refine ev_bipush ?_
          refine ev_call (jcall_v (A := [(0, 41)]) (S' := []) (r := 7) rfl (g1.lt ad7) (g1.tg ad7) (Nat.le_of_ble_eq_true rfl)) (jOk_le (by decide) (s71 g1 (by omega) (by omega) (ey0) (by omega) (by omega))) (by decide) (by decide) (fun w17446 h17446 q17446 => ?_)
          obtain ⟨v17447, rfl, g17446, kk17446, ev17447, p17446_0⟩ := q17446
          have bv17447 := g17446.rg ad7 (i := 1) (by decide) rf7_1
          rw [ev17447] at bv17447
          have k17446 := k1.tr kk17446 (by decide)
          show jEv _ _ _ _ _ _ _ (_, [(2, 7), (2, 1), (0, 11), (0, a3), (0, x4), (0, x5), (0, x6)], [], _, _, _)
          refine ev_aload_n rfl ?_
          refine g_getv (r := 7) (v := v17447) g17446 ad7 (by decide) ft5_1 (ev17447) ?_
          refine ev_ifge f79_144 (fun c17448 => ?_) (fun c17448 => absurd c17448 (by omega))
          refine ev_iconst ?_
          exact ev_ret rfl (by decide) (by decide) ⟨_, _, rfl, by omega, by omega, g17446, k17446, (ev17447), by omega, by omega⟩
        · refine ev_iload rfl ?_
          refine ev_ifle f79_97 (fun c17449 => ?_) (fun c17449 => ?_)
          · refine ev_aload_n rfl ?_
            refine ev_iload rfl ?_
            refine ev_iload rfl ?_
            refine ev_iconst ?_
            refine ev_aload_n rfl ?_
            refine ev_aload_n rfl ?_
            refine ev_iload_n rfl ?_
            refine ev_iconst ?_
            refine ev_iadd (r := 12) (by decide) ?_
            refine ev_iload_n rfl ?_
            refine ev_iconst ?_
            refine ev_iload rfl ?_
            refine g_ishlB (a' := 1) (a := 1) (b := 3) (hi := 8) (by omega) (by omega) (by omega) (by omega) (by decide) (by decide) (fun v17450 ev17450 lv17450 uv17450 => ?_)
            refine g_iorG (fun v17451 ev17451 lv17451 uv17451 => ?_)
            refine ev_call (jcall_v (A := [(0, v17451), (0, 12), (2, 1)]) (S' := [(0, 0), (0, x6), (0, x5), (2, 7)]) (r := 7) rfl (g1.lt ad7) (g1.tg ad7) (Nat.le_of_ble_eq_true rfl)) (jOk_le (by decide) (s74_12 g1 (by omega) (by omega) (ey0) (by omega) (by omega))) (by decide) (by decide) (fun w17452 h17452 q17452 => ?_)
            obtain ⟨v17454, v17453, rfl, lv17454, uv17454, g17452, kk17452, ev17453, p17452_0, p17452_1⟩ := q17452
            have bv17453 := g17452.rg ad7 (i := 1) (by decide) rf7_1
            rw [ev17453] at bv17453
            have k17452 := k1.tr kk17452 (by decide)
            show jEv _ _ _ _ _ _ _ (_, [(2, 7), (2, 1), (0, 11), (0, a3), (0, x4), (0, x5), (0, x6)], [(0, v17454), (0, 0), (0, x6), (0, x5), (2, 7)], _, _, _)
            refine ev_call (jcall_v (A := [(0, v17454), (0, 0), (0, x6), (0, x5)]) (S' := []) (r := 7) rfl (g17452.lt ad7) (g17452.tg ad7) (Nat.le_of_ble_eq_true rfl)) (jOk_le (by decide) (s80 g17452 (by omega) (by omega) (by omega) (by omega) (by omega) (by omega) (by omega) (by omega))) (by decide) (by decide) (fun w17455 h17455 q17455 => ?_)
            obtain ⟨rfl, g17455, kk17455⟩ := q17455
            have k17455 := k17452.tr kk17455 (by decide)
            show jEv _ _ _ _ _ _ _ (_, [(2, 7), (2, 1), (0, 11), (0, a3), (0, x4), (0, x5), (0, x6)], [], _, _, _)
            refine ev_iinc (w := (x6 + 1)) (L' := [(2, 7), (2, 1), (0, 11), (0, a3), (0, x4), (0, x5), (0, (x6 + 1))]) rfl (by unfold w32; omega) rfl ?_
            refine ev_goto f79_68 ?_
            exact ih _ _ _ _ _ g17455 k17455 (by omega) (by omega) (by omega) (by omega) (by omega) (by omega) (by omega) (by omega) (by omega) (by omega) (((kk17455.v (by decide)).trans ev17453)) (by omega) (by omega) (by omega)
          · refine ev_aload_n rfl ?_
            refine ev_bipush ?_
            refine ev_call (jcall_v (A := [(0, 44)]) (S' := []) (r := 7) rfl (g1.lt ad7) (g1.tg ad7) (Nat.le_of_ble_eq_true rfl)) (jOk_le (by decide) (s71 g1 (by omega) (by omega) (ey0) (by omega) (by omega))) (by decide) (by decide) (fun w17456 h17456 q17456 => ?_)
            obtain ⟨v17457, rfl, g17456, kk17456, ev17457, p17456_0⟩ := q17456
            have bv17457 := g17456.rg ad7 (i := 1) (by decide) rf7_1
            rw [ev17457] at bv17457
            have k17456 := k1.tr kk17456 (by decide)
            show jEv _ _ _ _ _ _ _ (_, [(2, 7), (2, 1), (0, 11), (0, a3), (0, x4), (0, x5), (0, x6)], [], _, _, _)
            refine ev_aload_n rfl ?_
            refine ev_iload rfl ?_
            refine ev_iload rfl ?_
            refine ev_iconst ?_
            refine ev_aload_n rfl ?_
            refine ev_aload_n rfl ?_
            refine ev_iload_n rfl ?_
            refine ev_iconst ?_
            refine ev_iadd (r := 12) (by decide) ?_
            refine ev_iload_n rfl ?_
            refine ev_iconst ?_
            refine ev_iload rfl ?_
            refine g_ishlB (a' := 1) (a := 1) (b := 3) (hi := 8) (by omega) (by omega) (by omega) (by omega) (by decide) (by decide) (fun v17458 ev17458 lv17458 uv17458 => ?_)
            refine g_iorG (fun v17459 ev17459 lv17459 uv17459 => ?_)
            refine ev_call (jcall_v (A := [(0, v17459), (0, 12), (2, 1)]) (S' := [(0, 0), (0, x6), (0, x5), (2, 7)]) (r := 7) rfl (g17456.lt ad7) (g17456.tg ad7) (Nat.le_of_ble_eq_true rfl)) (jOk_le (by decide) (s74_12 g17456 (by omega) (by omega) (ev17457) (by omega) (by omega))) (by decide) (by decide) (fun w17460 h17460 q17460 => ?_)
            obtain ⟨v17462, v17461, rfl, lv17462, uv17462, g17460, kk17460, ev17461, p17460_0, p17460_1⟩ := q17460
            have bv17461 := g17460.rg ad7 (i := 1) (by decide) rf7_1
            rw [ev17461] at bv17461
            have k17460 := k17456.tr kk17460 (by decide)
            show jEv _ _ _ _ _ _ _ (_, [(2, 7), (2, 1), (0, 11), (0, a3), (0, x4), (0, x5), (0, x6)], [(0, v17462), (0, 0), (0, x6), (0, x5), (2, 7)], _, _, _)
            refine ev_call (jcall_v (A := [(0, v17462), (0, 0), (0, x6), (0, x5)]) (S' := []) (r := 7) rfl (g17460.lt ad7) (g17460.tg ad7) (Nat.le_of_ble_eq_true rfl)) (jOk_le (by decide) (s80 g17460 (by omega) (by omega) (by omega) (by omega) (by omega) (by omega) (by omega) (by omega))) (by decide) (by decide) (fun w17463 h17463 q17463 => ?_)
            obtain ⟨rfl, g17463, kk17463⟩ := q17463
            have k17463 := k17460.tr kk17463 (by decide)
            show jEv _ _ _ _ _ _ _ (_, [(2, 7), (2, 1), (0, 11), (0, a3), (0, x4), (0, x5), (0, x6)], [], _, _, _)
            refine ev_iinc (w := (x6 + 1)) (L' := [(2, 7), (2, 1), (0, 11), (0, a3), (0, x4), (0, x5), (0, (x6 + 1))]) rfl (by unfold w32; omega) rfl ?_
            refine ev_goto f79_68 ?_
            exact ih _ _ _ _ _ g17463 k17463 (by omega) (by omega) (by omega) (by omega) (by omega) (by omega) (by omega) (by omega) (by omega) (by omega) (((kk17463.v (by decide)).trans ev17461)) (by omega) (by omega) (by omega)
set_option maxHeartbeats 4000000 in
theorem s79_11 {G : GH} {h : JH} (g : Gd G h) {a3 : Int} (la3 : (-2147483648) ≤ a3) (ua3 : a3 ≤ 2147483647) {w0 : Int} (ew0 : h.2.2 7 1 = w0) (lw0 : (-1) ≤ w0) (uw0 : w0 ≤ 200) {w1 : Int} (ew1 : h.2.2 7 2 = w1) (lw1 : 0 ≤ w1) (uw1 : w1 ≤ 199) : jOk 6 0 0 79 [(2, 7), (2, 1), (0, 11), (0, a3)] h (fun v h' => ∃ r F : Int, v = some (0, r) ∧ (-1) ≤ r ∧ r ≤ 199 ∧ Gd G h' ∧ Kp [(7, 2), (7, 3), (7, 4), (10, 0), (11, 0), (12, 0), (13, 0), (14, 0), (15, 0), (16, 0), (17, 0)] h h' ∧ h'.2.2 7 1 = F ∧ ((-F) + w0) ≤ 0 ∧ ((-F) + (-r)) ≤ 1) := by
  refine ⟨by decide, by rw [ml79]; exact Nat.le_of_ble_eq_true rfl, ?_⟩
  rw [ml79, pp79]
  show jEv _ none _ c79_0 0 0 _ (c79_0, [(2, 7), (2, 1), (0, 11), (0, a3), (9, 0), (9, 0), (9, 0)], [], h, 0, 0)
  have k0 := Kp.rf [(7, 2), (7, 3), (7, 4), (10, 0), (11, 0), (12, 0), (13, 0), (14, 0), (15, 0), (16, 0), (17, 0)] h
  refine ev_aload_n rfl ?_
  refine ev_dup (by decide) ?_
  refine g_getv (r := 7) (v := w1) g ad7 (by decide) ft5_2 (ew1) ?_
  refine ev_iconst ?_
  refine ev_iadd (r := (w1 + 1)) (by unfold w32; omega) ?_
  refine g_putf (r := 7) g ad7 (by decide) ft5_2 (by decide) (fun e => absurd e nz5_2) rf7_2 (by decide) (by omega) (by omega) (fun h17464 e17464 g17464 => ?_)
  have k17464 := k0.wr e17464 rfl
  refine ev_aload_n rfl ?_
  refine ev_in (d := 4) (a := 0) (b := 0) (cd' := c68_0) (m := 1) (L0 := [(2, 7)]) (jcall_v (A := []) (S' := []) (r := 7) rfl (g17464.lt ad7) (g17464.tg ad7) (Nat.le_of_ble_eq_true rfl)) (by decide) ml68 pp68 (Nat.le_of_ble_eq_true rfl) rfl (by decide) (by decide) ?_
  refine ev_aload_n rfl ?_
  refine g_getv (r := 7) (v := (w1 + 1)) g17464 ad7 (by decide) ft5_2 ((jw_eq e17464)) ?_
  refine ev_aload_n rfl ?_
  obtain ⟨v17465, ev17465, lv17465, uv17465⟩ := g17464.rd ad7 (show 0 < 15 by decide) rf7_0
  refine g_getv (r := 7) (v := v17465) g17464 ad7 (by decide) ft5_0 ev17465 ?_
  refine ev_icmpge f68_27 (fun c17466 => ?_) (fun c17466 => ?_)
  · refine ev_iconst ?_
    refine ev_ret rfl (by decide) (by decide) ?_
    show jEv _ _ _ _ _ _ _ (_, [(2, 7), (2, 1), (0, 11), (0, a3), (9, 0), (9, 0), (9, 0)], [(0, (-1))], _, _, _)
    refine ev_bipush ?_
    refine ev_isub (r := (-98)) (by decide) ?_
    refine ev_istore (L' := [(2, 7), (2, 1), (0, 11), (0, a3), (0, (-98)), (9, 0), (9, 0)]) (Nat.le_of_ble_eq_true rfl) rfl ?_
    refine ev_aload_n rfl ?_
    refine ev_iload rfl ?_
    refine ev_in (d := 4) (a := 0) (b := 0) (cd' := c140_0) (m := 2) (L0 := [(2, 1), (0, (-98))]) (jcall_v (A := [(0, (-98))]) (S' := []) (r := 1) rfl (g17464.lt ad1) (g17464.tg ad1) (Nat.le_of_ble_eq_true rfl)) (by decide) ml140 pp140 (Nat.le_of_ble_eq_true rfl) rfl (by decide) (by decide) ?_
    refine ev_iload_n rfl ?_
    refine ev_iflt f140_16 (fun c17467 => ?_) (fun c17467 => absurd c17467 (by omega))
    refine ev_iconst ?_
    refine ev_ret rfl (by decide) (by decide) ?_
    show jEv _ _ _ _ _ _ _ (_, [(2, 7), (2, 1), (0, 11), (0, a3), (0, (-98)), (9, 0), (9, 0)], [(0, 0)], _, _, _)
    refine ev_ifeq f79_37 (fun c17468 => ?_) (fun c17468 => absurd c17468 (by omega))
    refine ev_aload_n rfl ?_
    refine ev_in (d := 4) (a := 0) (b := 0) (cd' := c70_0) (m := 1) (L0 := [(2, 7)]) (jcall_v (A := []) (S' := []) (r := 7) rfl (g17464.lt ad7) (g17464.tg ad7) (Nat.le_of_ble_eq_true rfl)) (by decide) ml70 pp70 (Nat.le_of_ble_eq_true rfl) rfl (by decide) (by decide) ?_
    refine ev_aload_n rfl ?_
    refine g_getv (r := 7) (v := w0) g17464 ad7 (by decide) ft5_1 (((jw_ne e17464 (Or.inr (by decide))).trans ew0)) ?_
    refine ev_ifge f70_15 (fun c17469 => ?_) (fun c17469 => ?_)
    · refine ev_ret rfl (by decide) (by decide) ?_
      show jEv _ _ _ _ _ _ _ (_, [(2, 7), (2, 1), (0, 11), (0, a3), (0, (-98)), (9, 0), (9, 0)], [], _, _, _)
      refine ev_iconst ?_
      exact ev_ret rfl (by decide) (by decide) ⟨_, _, rfl, by omega, by omega, g17464, k17464, (((jw_ne e17464 (Or.inr (by decide))).trans ew0)), by omega, by omega⟩
    · refine ev_aload_n rfl ?_
      refine ev_aload_n rfl ?_
      refine g_getv (r := 7) (v := (w1 + 1)) g17464 ad7 (by decide) ft5_2 ((jw_eq e17464)) ?_
      refine g_putf (r := 7) g17464 ad7 (by decide) ft5_1 (by decide) (fun e => absurd e nz5_1) rf7_1 (by decide) (by omega) (by omega) (fun h17470 e17470 g17470 => ?_)
      have k17470 := k17464.wr e17470 rfl
      refine ev_ret rfl (by decide) (by decide) ?_
      show jEv _ _ _ _ _ _ _ (_, [(2, 7), (2, 1), (0, 11), (0, a3), (0, (-98)), (9, 0), (9, 0)], [], _, _, _)
      refine ev_iconst ?_
      exact ev_ret rfl (by decide) (by decide) ⟨_, _, rfl, by omega, by omega, g17470, k17470, ((jw_eq e17470)), by omega, by omega⟩
  · refine ev_aload_n rfl ?_
    refine g_getp (r := 7) (c := 8) g17464 ad7 (by decide) (by decide) rf7_5 ft5_5 ?_
    refine ev_aload_n rfl ?_
    refine g_getv (r := 7) (v := (w1 + 1)) g17464 ad7 (by decide) ft5_2 ((jw_eq e17464)) ?_
    refine g_bald g17464 ad8 rt8 (by omega) (by omega) (fun v17471 ev17471 lv17471 uv17471 => ?_)
    refine ev_sipush ?_
    refine g_iandB (b := 255) (by omega) (by omega) (by decide) (fun v17472 ev17472 lv17472 uv17472 => ?_)
    refine ev_goto f68_28 ?_
    refine ev_ret rfl (by decide) (by decide) ?_
    show jEv _ _ _ _ _ _ _ (_, [(2, 7), (2, 1), (0, 11), (0, a3), (9, 0), (9, 0), (9, 0)], [(0, v17472)], _, _, _)
    refine ev_bipush ?_
    refine ev_isub (r := (v17472 - 97)) (by unfold w32; omega) ?_
    refine ev_istore (L' := [(2, 7), (2, 1), (0, 11), (0, a3), (0, (v17472 - 97)), (9, 0), (9, 0)]) (Nat.le_of_ble_eq_true rfl) rfl ?_
    refine ev_aload_n rfl ?_
    refine ev_iload rfl ?_
    refine ev_in (d := 4) (a := 0) (b := 0) (cd' := c140_0) (m := 2) (L0 := [(2, 1), (0, (v17472 - 97))]) (jcall_v (A := [(0, (v17472 - 97))]) (S' := []) (r := 1) rfl (g17464.lt ad1) (g17464.tg ad1) (Nat.le_of_ble_eq_true rfl)) (by decide) ml140 pp140 (Nat.le_of_ble_eq_true rfl) rfl (by decide) (by decide) ?_
    refine ev_iload_n rfl ?_
    refine ev_iflt f140_16 (fun c17473 => ?_) (fun c17473 => ?_)
    · refine ev_iconst ?_
      refine ev_ret rfl (by decide) (by decide) ?_
      show jEv _ _ _ _ _ _ _ (_, [(2, 7), (2, 1), (0, 11), (0, a3), (0, (v17472 - 97)), (9, 0), (9, 0)], [(0, 0)], _, _, _)
      refine ev_ifeq f79_37 (fun c17474 => ?_) (fun c17474 => absurd c17474 (by omega))
      refine ev_aload_n rfl ?_
      refine ev_in (d := 4) (a := 0) (b := 0) (cd' := c70_0) (m := 1) (L0 := [(2, 7)]) (jcall_v (A := []) (S' := []) (r := 7) rfl (g17464.lt ad7) (g17464.tg ad7) (Nat.le_of_ble_eq_true rfl)) (by decide) ml70 pp70 (Nat.le_of_ble_eq_true rfl) rfl (by decide) (by decide) ?_
      refine ev_aload_n rfl ?_
      refine g_getv (r := 7) (v := w0) g17464 ad7 (by decide) ft5_1 (((jw_ne e17464 (Or.inr (by decide))).trans ew0)) ?_
      refine ev_ifge f70_15 (fun c17475 => ?_) (fun c17475 => ?_)
      · refine ev_ret rfl (by decide) (by decide) ?_
        show jEv _ _ _ _ _ _ _ (_, [(2, 7), (2, 1), (0, 11), (0, a3), (0, (v17472 - 97)), (9, 0), (9, 0)], [], _, _, _)
        refine ev_iconst ?_
        exact ev_ret rfl (by decide) (by decide) ⟨_, _, rfl, by omega, by omega, g17464, k17464, (((jw_ne e17464 (Or.inr (by decide))).trans ew0)), by omega, by omega⟩
      · refine ev_aload_n rfl ?_
        refine ev_aload_n rfl ?_
        refine g_getv (r := 7) (v := (w1 + 1)) g17464 ad7 (by decide) ft5_2 ((jw_eq e17464)) ?_
        refine g_putf (r := 7) g17464 ad7 (by decide) ft5_1 (by decide) (fun e => absurd e nz5_1) rf7_1 (by decide) (by omega) (by omega) (fun h17476 e17476 g17476 => ?_)
        have k17476 := k17464.wr e17476 rfl
        refine ev_ret rfl (by decide) (by decide) ?_
        show jEv _ _ _ _ _ _ _ (_, [(2, 7), (2, 1), (0, 11), (0, a3), (0, (v17472 - 97)), (9, 0), (9, 0)], [], _, _, _)
        refine ev_iconst ?_
        exact ev_ret rfl (by decide) (by decide) ⟨_, _, rfl, by omega, by omega, g17476, k17476, ((jw_eq e17476)), by omega, by omega⟩
    · refine ev_iload_n rfl ?_
      refine ev_aload_n rfl ?_
      obtain ⟨v17477, ev17477, lv17477, uv17477⟩ := g17464.rd ad1 (show 0 < 8 by decide) rf1_0
      refine g_getv (r := 1) (v := v17477) g17464 ad1 (by decide) ft10_0 ev17477 ?_
      refine ev_icmpge f140_16 (fun c17478 => ?_) (fun c17478 => ?_)
      · refine ev_iconst ?_
        refine ev_ret rfl (by decide) (by decide) ?_
        show jEv _ _ _ _ _ _ _ (_, [(2, 7), (2, 1), (0, 11), (0, a3), (0, (v17472 - 97)), (9, 0), (9, 0)], [(0, 0)], _, _, _)
        refine ev_ifeq f79_37 (fun c17479 => ?_) (fun c17479 => absurd c17479 (by omega))
        refine ev_aload_n rfl ?_
        refine ev_in (d := 4) (a := 0) (b := 0) (cd' := c70_0) (m := 1) (L0 := [(2, 7)]) (jcall_v (A := []) (S' := []) (r := 7) rfl (g17464.lt ad7) (g17464.tg ad7) (Nat.le_of_ble_eq_true rfl)) (by decide) ml70 pp70 (Nat.le_of_ble_eq_true rfl) rfl (by decide) (by decide) ?_
        refine ev_aload_n rfl ?_
        refine g_getv (r := 7) (v := w0) g17464 ad7 (by decide) ft5_1 (((jw_ne e17464 (Or.inr (by decide))).trans ew0)) ?_
        refine ev_ifge f70_15 (fun c17480 => ?_) (fun c17480 => ?_)
        · refine ev_ret rfl (by decide) (by decide) ?_
          show jEv _ _ _ _ _ _ _ (_, [(2, 7), (2, 1), (0, 11), (0, a3), (0, (v17472 - 97)), (9, 0), (9, 0)], [], _, _, _)
          refine ev_iconst ?_
          exact ev_ret rfl (by decide) (by decide) ⟨_, _, rfl, by omega, by omega, g17464, k17464, (((jw_ne e17464 (Or.inr (by decide))).trans ew0)), by omega, by omega⟩
        · refine ev_aload_n rfl ?_
          refine ev_aload_n rfl ?_
          refine g_getv (r := 7) (v := (w1 + 1)) g17464 ad7 (by decide) ft5_2 ((jw_eq e17464)) ?_
          refine g_putf (r := 7) g17464 ad7 (by decide) ft5_1 (by decide) (fun e => absurd e nz5_1) rf7_1 (by decide) (by omega) (by omega) (fun h17481 e17481 g17481 => ?_)
          have k17481 := k17464.wr e17481 rfl
          refine ev_ret rfl (by decide) (by decide) ?_
          show jEv _ _ _ _ _ _ _ (_, [(2, 7), (2, 1), (0, 11), (0, a3), (0, (v17472 - 97)), (9, 0), (9, 0)], [], _, _, _)
          refine ev_iconst ?_
          exact ev_ret rfl (by decide) (by decide) ⟨_, _, rfl, by omega, by omega, g17481, k17481, ((jw_eq e17481)), by omega, by omega⟩
      · refine ev_iconst ?_
        refine ev_goto f140_17 ?_
        refine ev_ret rfl (by decide) (by decide) ?_
        show jEv _ _ _ _ _ _ _ (_, [(2, 7), (2, 1), (0, 11), (0, a3), (0, (v17472 - 97)), (9, 0), (9, 0)], [(0, 1)], _, _, _)
        refine ev_ifeq f79_37 (fun c17482 => absurd c17482 (by omega)) (fun c17482 => ?_)
        refine ev_iload_n rfl ?_
        refine ev_iload rfl ?_
        refine g_ishrG (fun v17483 ev17483 lv17483 uv17483 => ?_)
        refine ev_iconst ?_
        refine g_iandB (b := 1) (by omega) (by omega) (by decide) (fun v17484 ev17484 lv17484 uv17484 => ?_)
        refine ev_ifeq f79_43 (fun c17485 => ?_) (fun c17485 => ?_)
        · refine ev_aload_n rfl ?_
          refine ev_dup (by decide) ?_
          refine g_getv (r := 7) (v := (w1 + 1)) g17464 ad7 (by decide) ft5_2 ((jw_eq e17464)) ?_
          refine ev_iconst ?_
          refine ev_iadd (r := (w1 + 2)) (by unfold w32; omega) ?_
          refine g_putf (r := 7) g17464 ad7 (by decide) ft5_2 (by decide) (fun e => absurd e nz5_2) rf7_2 (by decide) (by omega) (by omega) (fun h17486 e17486 g17486 => ?_)
          have k17486 := k17464.wr e17486 rfl
          refine ev_aload_n rfl ?_
          refine ev_iload_n rfl ?_
          refine ev_call (jcall_v (A := [(0, 11)]) (S' := []) (r := 7) rfl (g17486.lt ad7) (g17486.tg ad7) (Nat.le_of_ble_eq_true rfl)) (jOk_le (by decide) (s72 g17486 (by omega) (by omega) (((jw_ne e17486 (Or.inr (by decide))).trans ((jw_ne e17464 (Or.inr (by decide))).trans ew0))) (by omega) (by omega))) (by decide) (by decide) (fun w17487 h17487 q17487 => ?_)
          obtain ⟨v17488, rfl, g17487, kk17487, ev17488, p17487_0⟩ := q17487
          have bv17488 := g17487.rg ad7 (i := 1) (by decide) rf7_1
          rw [ev17488] at bv17488
          have k17487 := k17486.tr kk17487 (by decide)
          show jEv _ _ _ _ _ _ _ (_, [(2, 7), (2, 1), (0, 11), (0, a3), (0, (v17472 - 97)), (9, 0), (9, 0)], [], _, _, _)
          refine ev_aload_n rfl ?_
          refine ev_iconst ?_
          refine ev_call (jcall_v (A := [(0, 2)]) (S' := []) (r := 7) rfl (g17487.lt ad7) (g17487.tg ad7) (Nat.le_of_ble_eq_true rfl)) (jOk_le (by decide) (s73 g17487 (by omega) (by omega) (ev17488) (by omega) (by omega))) (by decide) (by decide) (fun w17489 h17489 q17489 => ?_)
          obtain ⟨v17491, v17490, rfl, lv17491, uv17491, g17489, kk17489, ev17490, p17489_0, p17489_1⟩ := q17489
          have bv17490 := g17489.rg ad7 (i := 1) (by decide) rf7_1
          rw [ev17490] at bv17490
          have k17489 := k17487.tr kk17489 (by decide)
          show jEv _ _ _ _ _ _ _ (_, [(2, 7), (2, 1), (0, 11), (0, a3), (0, (v17472 - 97)), (9, 0), (9, 0)], [(0, v17491)], _, _, _)
          refine ev_istore (L' := [(2, 7), (2, 1), (0, 11), (0, a3), (0, (v17472 - 97)), (0, v17491), (9, 0)]) (Nat.le_of_ble_eq_true rfl) rfl ?_
          refine ev_iconst ?_
          refine ev_istore (L' := [(2, 7), (2, 1), (0, 11), (0, a3), (0, (v17472 - 97)), (0, v17491), (0, 0)]) (Nat.le_of_ble_eq_true rfl) rfl ?_
          exact (s79_11_l la3 ua3 ew0 lw0 uw0 ew1 lw1 uw1 8) _ _ _ _ _ g17489 k17489 (by omega) (by omega) (by omega) (by omega) (by omega) (by omega) (by omega) (by omega) (by omega) (by omega) (ev17490) (by omega) (by omega) (by omega)
        · refine ev_aload_n rfl ?_
          refine ev_in (d := 4) (a := 0) (b := 0) (cd' := c70_0) (m := 1) (L0 := [(2, 7)]) (jcall_v (A := []) (S' := []) (r := 7) rfl (g17464.lt ad7) (g17464.tg ad7) (Nat.le_of_ble_eq_true rfl)) (by decide) ml70 pp70 (Nat.le_of_ble_eq_true rfl) rfl (by decide) (by decide) ?_
          refine ev_aload_n rfl ?_
          refine g_getv (r := 7) (v := w0) g17464 ad7 (by decide) ft5_1 (((jw_ne e17464 (Or.inr (by decide))).trans ew0)) ?_
          refine ev_ifge f70_15 (fun c17492 => ?_) (fun c17492 => ?_)
          · refine ev_ret rfl (by decide) (by decide) ?_
            show jEv _ _ _ _ _ _ _ (_, [(2, 7), (2, 1), (0, 11), (0, a3), (0, (v17472 - 97)), (9, 0), (9, 0)], [], _, _, _)
            refine ev_iconst ?_
            exact ev_ret rfl (by decide) (by decide) ⟨_, _, rfl, by omega, by omega, g17464, k17464, (((jw_ne e17464 (Or.inr (by decide))).trans ew0)), by omega, by omega⟩
          · refine ev_aload_n rfl ?_
            refine ev_aload_n rfl ?_
            refine g_getv (r := 7) (v := (w1 + 1)) g17464 ad7 (by decide) ft5_2 ((jw_eq e17464)) ?_
            refine g_putf (r := 7) g17464 ad7 (by decide) ft5_1 (by decide) (fun e => absurd e nz5_1) rf7_1 (by decide) (by omega) (by omega) (fun h17493 e17493 g17493 => ?_)
            have k17493 := k17464.wr e17493 rfl
            refine ev_ret rfl (by decide) (by decide) ?_
            show jEv _ _ _ _ _ _ _ (_, [(2, 7), (2, 1), (0, 11), (0, a3), (0, (v17472 - 97)), (9, 0), (9, 0)], [], _, _, _)
            refine ev_iconst ?_
            exact ev_ret rfl (by decide) (by decide) ⟨_, _, rfl, by omega, by omega, g17493, k17493, ((jw_eq e17493)), by omega, by omega⟩
/-! s74_11  -/
set_option maxHeartbeats 4000000 in
theorem s74_11 {G : GH} {h : JH} (g : Gd G h) {a3 : Int} (la3 : (-2147483648) ≤ a3) (ua3 : a3 ≤ 2147483647) {w0 : Int} (ew0 : h.2.2 7 1 = w0) (lw0 : (-1) ≤ w0) (uw0 : w0 ≤ 200) : jOk 7 0 0 74 [(2, 7), (2, 1), (0, 11), (0, a3)] h (fun v h' => ∃ r F : Int, v = some (0, r) ∧ (-1) ≤ r ∧ r ≤ 199 ∧ Gd G h' ∧ Kp [(7, 2), (7, 3), (7, 4), (10, 0), (11, 0), (12, 0), (13, 0), (14, 0), (15, 0), (16, 0), (17, 0)] h h' ∧ h'.2.2 7 1 = F ∧ ((-F) + w0) ≤ 0 ∧ ((-F) + (-r)) ≤ 1) := by
  refine ⟨by decide, by rw [ml74]; exact Nat.le_of_ble_eq_true rfl, ?_⟩
  rw [ml74, pp74]
  show jEv _ none _ c74_0 0 0 _ (c74_0, [(2, 7), (2, 1), (0, 11), (0, a3), (9, 0)], [], h, 0, 0)
  have k0 := Kp.rf [(7, 2), (7, 3), (7, 4), (10, 0), (11, 0), (12, 0), (13, 0), (14, 0), (15, 0), (16, 0), (17, 0)] h
  refine ev_aload_n rfl ?_
  refine g_getv (r := 7) (v := w0) g ad7 (by decide) ft5_1 (ew0) ?_
  refine ev_ifge f74_13 (fun c17560 => ?_) (fun c17560 => ?_)
  · refine ev_aload_n rfl ?_
    refine ev_in (d := 5) (a := 0) (b := 0) (cd' := c70_0) (m := 1) (L0 := [(2, 7)]) (jcall_v (A := []) (S' := []) (r := 7) rfl (g.lt ad7) (g.tg ad7) (Nat.le_of_ble_eq_true rfl)) (by decide) ml70 pp70 (Nat.le_of_ble_eq_true rfl) rfl (by decide) (by decide) ?_
    refine ev_aload_n rfl ?_
    refine g_getv (r := 7) (v := w0) g ad7 (by decide) ft5_1 (ew0) ?_
    refine ev_ifge f70_15 (fun c17561 => ?_) (fun c17561 => absurd c17561 (by omega))
    refine ev_ret rfl (by decide) (by decide) ?_
    show jEv _ _ _ _ _ _ _ (_, [(2, 7), (2, 1), (0, 11), (0, a3), (9, 0)], [], _, _, _)
    refine ev_iconst ?_
    exact ev_ret rfl (by decide) (by decide) ⟨_, _, rfl, by omega, by omega, g, k0, (ew0), by omega, by omega⟩
  · refine ev_iload_n rfl ?_
    refine ev_bipush ?_
    refine ev_icmple f74_19 (fun c17562 => ?_) (fun c17562 => absurd c17562 (by omega))
    refine ev_aload_n rfl ?_
    refine ev_in (d := 5) (a := 0) (b := 0) (cd' := c68_0) (m := 1) (L0 := [(2, 7)]) (jcall_v (A := []) (S' := []) (r := 7) rfl (g.lt ad7) (g.tg ad7) (Nat.le_of_ble_eq_true rfl)) (by decide) ml68 pp68 (Nat.le_of_ble_eq_true rfl) rfl (by decide) (by decide) ?_
    refine ev_aload_n rfl ?_
    obtain ⟨v17563, ev17563, lv17563, uv17563⟩ := g.rd ad7 (show 2 < 15 by decide) rf7_2
    refine g_getv (r := 7) (v := v17563) g ad7 (by decide) ft5_2 ev17563 ?_
    refine ev_aload_n rfl ?_
    obtain ⟨v17564, ev17564, lv17564, uv17564⟩ := g.rd ad7 (show 0 < 15 by decide) rf7_0
    refine g_getv (r := 7) (v := v17564) g ad7 (by decide) ft5_0 ev17564 ?_
    refine ev_icmpge f68_27 (fun c17565 => ?_) (fun c17565 => ?_)
    · refine ev_iconst ?_
      refine ev_ret rfl (by decide) (by decide) ?_
      show jEv _ _ _ _ _ _ _ (_, [(2, 7), (2, 1), (0, 11), (0, a3), (9, 0)], [(0, (-1))], _, _, _)
      refine ev_istore (L' := [(2, 7), (2, 1), (0, 11), (0, a3), (0, (-1))]) (Nat.le_of_ble_eq_true rfl) rfl ?_
      refine ev_iload rfl ?_
      refine ev_bipush ?_
      refine ev_icmpne f74_40 (fun c17566 => ?_) (fun c17566 => absurd c17566 (by omega))
      refine ev_iload rfl ?_
      refine ev_bipush ?_
      refine ev_icmpne f74_55 (fun c17567 => ?_) (fun c17567 => absurd c17567 (by omega))
      refine ev_iload rfl ?_
      refine ev_bipush ?_
      refine ev_icmplt f74_78 (fun c17568 => ?_) (fun c17568 => absurd c17568 (by omega))
      refine ev_aload_n rfl ?_
      refine ev_call (jcall_v (A := []) (S' := []) (r := 7) rfl (g.lt ad7) (g.tg ad7) (Nat.le_of_ble_eq_true rfl)) (jOk_le (by decide) (s75 g (ew0) (by omega) (by omega))) (by decide) (by decide) (fun w17569 h17569 q17569 => ?_)
      obtain ⟨v17571, v17570, rfl, lv17571, uv17571, g17569, kk17569, ev17570, p17569_0, p17569_1⟩ := q17569
      have bv17570 := g17569.rg ad7 (i := 1) (by decide) rf7_1
      rw [ev17570] at bv17570
      have k17569 := k0.tr kk17569 (by decide)
      show jEv _ _ _ _ _ _ _ (_, [(2, 7), (2, 1), (0, 11), (0, a3), (0, (-1))], [(0, v17571)], _, _, _)
      exact ev_ret rfl (by decide) (by decide) ⟨_, _, rfl, by omega, by omega, g17569, k17569, (ev17570), by omega, by omega⟩
    · refine ev_aload_n rfl ?_
      refine g_getp (r := 7) (c := 8) g ad7 (by decide) (by decide) rf7_5 ft5_5 ?_
      refine ev_aload_n rfl ?_
      refine g_getv (r := 7) (v := v17563) g ad7 (by decide) ft5_2 (ev17563) ?_
      refine g_bald g ad8 rt8 (by omega) (by omega) (fun v17572 ev17572 lv17572 uv17572 => ?_)
      refine ev_sipush ?_
      refine g_iandB (b := 255) (by omega) (by omega) (by decide) (fun v17573 ev17573 lv17573 uv17573 => ?_)
      refine ev_goto f68_28 ?_
      refine ev_ret rfl (by decide) (by decide) ?_
      show jEv _ _ _ _ _ _ _ (_, [(2, 7), (2, 1), (0, 11), (0, a3), (9, 0)], [(0, v17573)], _, _, _)
      refine ev_istore (L' := [(2, 7), (2, 1), (0, 11), (0, a3), (0, v17573)]) (Nat.le_of_ble_eq_true rfl) rfl ?_
      refine ev_iload rfl ?_
      refine ev_bipush ?_
      refine ev_icmpne f74_40 (fun c17574 => ?_) (fun c17574 => ?_)
      · refine ev_iload rfl ?_
        refine ev_bipush ?_
        refine ev_icmpne f74_55 (fun c17575 => ?_) (fun c17575 => ?_)
        · refine ev_iload rfl ?_
          refine ev_bipush ?_
          refine ev_icmplt f74_78 (fun c17576 => ?_) (fun c17576 => ?_)
          · refine ev_aload_n rfl ?_
            refine ev_call (jcall_v (A := []) (S' := []) (r := 7) rfl (g.lt ad7) (g.tg ad7) (Nat.le_of_ble_eq_true rfl)) (jOk_le (by decide) (s75 g (ew0) (by omega) (by omega))) (by decide) (by decide) (fun w17577 h17577 q17577 => ?_)
            obtain ⟨v17579, v17578, rfl, lv17579, uv17579, g17577, kk17577, ev17578, p17577_0, p17577_1⟩ := q17577
            have bv17578 := g17577.rg ad7 (i := 1) (by decide) rf7_1
            rw [ev17578] at bv17578
            have k17577 := k0.tr kk17577 (by decide)
            show jEv _ _ _ _ _ _ _ (_, [(2, 7), (2, 1), (0, 11), (0, a3), (0, v17573)], [(0, v17579)], _, _, _)
            exact ev_ret rfl (by decide) (by decide) ⟨_, _, rfl, by omega, by omega, g17577, k17577, (ev17578), by omega, by omega⟩
          · refine ev_iload rfl ?_
            refine ev_bipush ?_
            refine ev_icmpge f74_78 (fun c17580 => ?_) (fun c17580 => ?_)
            · refine ev_aload_n rfl ?_
              refine ev_call (jcall_v (A := []) (S' := []) (r := 7) rfl (g.lt ad7) (g.tg ad7) (Nat.le_of_ble_eq_true rfl)) (jOk_le (by decide) (s75 g (ew0) (by omega) (by omega))) (by decide) (by decide) (fun w17581 h17581 q17581 => ?_)
              obtain ⟨v17583, v17582, rfl, lv17583, uv17583, g17581, kk17581, ev17582, p17581_0, p17581_1⟩ := q17581
              have bv17582 := g17581.rg ad7 (i := 1) (by decide) rf7_1
              rw [ev17582] at bv17582
              have k17581 := k0.tr kk17581 (by decide)
              show jEv _ _ _ _ _ _ _ (_, [(2, 7), (2, 1), (0, 11), (0, a3), (0, v17573)], [(0, v17583)], _, _, _)
              exact ev_ret rfl (by decide) (by decide) ⟨_, _, rfl, by omega, by omega, g17581, k17581, (ev17582), by omega, by omega⟩
            · refine ev_aload_n rfl ?_
              refine ev_iload_n rfl ?_
              refine ev_iload_n rfl ?_
              refine ev_call (jcall_v (A := [(0, a3), (0, 11)]) (S' := []) (r := 7) rfl (g.lt ad7) (g.tg ad7) (Nat.le_of_ble_eq_true rfl)) (jOk_le (by decide) (s77 g (by omega) (by omega) (by omega) (by omega) (ew0) (by omega) (by omega))) (by decide) (by decide) (fun w17584 h17584 q17584 => ?_)
              obtain ⟨v17586, v17585, rfl, lv17586, uv17586, g17584, kk17584, ev17585, p17584_0, p17584_1⟩ := q17584
              have bv17585 := g17584.rg ad7 (i := 1) (by decide) rf7_1
              rw [ev17585] at bv17585
              have k17584 := k0.tr kk17584 (by decide)
              show jEv _ _ _ _ _ _ _ (_, [(2, 7), (2, 1), (0, 11), (0, a3), (0, v17573)], [(0, v17586)], _, _, _)
              refine ev_goto f74_82 ?_
              exact ev_ret rfl (by decide) (by decide) ⟨_, _, rfl, by omega, by omega, g17584, k17584, (ev17585), by omega, by omega⟩
        · refine ev_aload_n rfl ?_
          refine ev_aload_n rfl ?_
          refine ev_iload_n rfl ?_
          refine ev_iload_n rfl ?_
          refine ev_call (jcall_v (A := [(0, a3), (0, 11), (2, 1)]) (S' := []) (r := 7) rfl (g.lt ad7) (g.tg ad7) (Nat.le_of_ble_eq_true rfl)) (jOk_le (by decide) (s79_11 g (by omega) (by omega) (ew0) (by omega) (by omega) (ev17563) (by omega) (by omega))) (by decide) (by decide) (fun w17587 h17587 q17587 => ?_)
          obtain ⟨v17589, v17588, rfl, lv17589, uv17589, g17587, kk17587, ev17588, p17587_0, p17587_1⟩ := q17587
          have bv17588 := g17587.rg ad7 (i := 1) (by decide) rf7_1
          rw [ev17588] at bv17588
          have k17587 := k0.tr kk17587 (by decide)
          show jEv _ _ _ _ _ _ _ (_, [(2, 7), (2, 1), (0, 11), (0, a3), (0, v17573)], [(0, v17589)], _, _, _)
          exact ev_ret rfl (by decide) (by decide) ⟨_, _, rfl, by omega, by omega, g17587, k17587, (ev17588), by omega, by omega⟩
      · refine ev_aload_n rfl ?_
        refine ev_aload_n rfl ?_
        refine ev_iload_n rfl ?_
        refine ev_iload_n rfl ?_
        refine ev_call (jcall_v (A := [(0, a3), (0, 11), (2, 1)]) (S' := []) (r := 7) rfl (g.lt ad7) (g.tg ad7) (Nat.le_of_ble_eq_true rfl)) (jOk_le (by decide) (s78_11 g (by omega) (by omega) (ew0) (by omega) (by omega) (ev17563) (by omega) (by omega))) (by decide) (by decide) (fun w17590 h17590 q17590 => ?_)
        obtain ⟨v17592, v17591, rfl, lv17592, uv17592, g17590, kk17590, ev17591, p17590_0, p17590_1⟩ := q17590
        have bv17591 := g17590.rg ad7 (i := 1) (by decide) rf7_1
        rw [ev17591] at bv17591
        have k17590 := k0.tr kk17590 (by decide)
        show jEv _ _ _ _ _ _ _ (_, [(2, 7), (2, 1), (0, 11), (0, a3), (0, v17573)], [(0, v17592)], _, _, _)
        exact ev_ret rfl (by decide) (by decide) ⟨_, _, rfl, by omega, by omega, g17590, k17590, (ev17591), by omega, by omega⟩
/-! s78_10  -/
set_option maxHeartbeats 4000000 in
theorem s78_10_l {G : GH} {h : JH} {a3 : Int} (la3 : (-2147483648) ≤ a3) (ua3 : a3 ≤ 2147483647) {w0 : Int} (ew0 : h.2.2 7 1 = w0) (lw0 : (-1) ≤ w0) (uw0 : w0 ≤ 200) {w1 : Int} (ew1 : h.2.2 7 2 = w1) (lw1 : 0 ≤ w1) (uw1 : w1 ≤ 199) : ∀ N : Nat, (∀ (h1 : JH) (x4 x5 y0 : Int) (j6 : AV), Gd G h1 → Kp [(7, 2), (7, 3), (7, 4), (10, 0), (11, 0), (12, 0), (13, 0), (14, 0), (15, 0), (16, 0), (17, 0)] h h1 → (-2147483648) ≤ a3 → a3 ≤ 2147483647 → (-1) ≤ x4 → x4 ≤ 199 → 0 ≤ x5 → x5 ≤ 3 → (w0 + (-y0)) ≤ 0 → ((-x4) + (-y0)) ≤ 1 → h1.2.2 7 1 = y0 → (-1) ≤ y0 → y0 ≤ 200 → ((-x5) + 3) < N → jEv (jOk 7) none (fun _ => 0) c78_0 0 0 (fun v h' => ∃ r F : Int, v = some (0, r) ∧ (-1) ≤ r ∧ r ≤ 199 ∧ Gd G h' ∧ Kp [(7, 2), (7, 3), (7, 4), (10, 0), (11, 0), (12, 0), (13, 0), (14, 0), (15, 0), (16, 0), (17, 0)] h h' ∧ h'.2.2 7 1 = F ∧ ((-F) + w0) ≤ 0 ∧ ((-F) + (-r)) ≤ 1) (c78_25, [(2, 7), (2, 1), (0, 10), (0, a3), (0, x4), (0, x5), j6], [], h1, 0, 0)) := by
  intro N
  induction N with
  | zero => exact fun h1 x4 x5 y0 j6 g1 k1 b0 b1 b2 b3 b4 b5 b6 b7 b8 b9 b10 hm => absurd hm (by omega)
  | succ N ih =>
    show _
    intro h1 x4 x5 y0 j6 g1 k1 b0 b1 b2 b3 b4 b5 b6 b7 ey0 ly0 uy0 hm
    refine ev_iload rfl ?_
    refine ev_iconst ?_
    refine ev_icmpge f78_100 (fun c17761 => absurd c17761 (by omega)) (fun c17761 => ?_)
    refine ev_aload_n rfl ?_
    refine g_getv (r := 7) (v := y0) g1 ad7 (by decide) ft5_1 (ey0) ?_
    refine ev_ifge f78_100 (fun c17762 => ?_) (fun c17762 => ?_)
    · refine ev_aload_n rfl ?_
      refine ev_bipush ?_
      refine ev_call (jcall_v (A := [(0, 41)]) (S' := []) (r := 7) rfl (g1.lt ad7) (g1.tg ad7) (Nat.le_of_ble_eq_true rfl)) (jOk_le (by decide) (s71 g1 (by omega) (by omega) (ey0) (by omega) (by omega))) (by decide) (by decide) (fun w17763 h17763 q17763 => ?_)
      obtain ⟨v17764, rfl, g17763, kk17763, ev17764, p17763_0⟩ := q17763
      have bv17764 := g17763.rg ad7 (i := 1) (by decide) rf7_1
      rw [ev17764] at bv17764
      have k17763 := k1.tr kk17763 (by decide)
      show jEv _ _ _ _ _ _ _ (_, [(2, 7), (2, 1), (0, 10), (0, a3), (0, x4), (0, x5), j6], [], _, _, _)
      refine ev_aload_n rfl ?_
      refine g_getv (r := 7) (v := v17764) g17763 ad7 (by decide) ft5_1 (ev17764) ?_
      refine ev_iflt f78_117 (fun c17765 => absurd c17765 (by omega)) (fun c17765 => ?_)
      refine ev_iconst ?_
      refine ev_goto f78_119 ?_
      exact ev_ret rfl (by decide) (by decide) ⟨_, _, rfl, by omega, by omega, g17763, k17763, (ev17764), by omega, by omega⟩
    · refine ev_aload_n rfl ?_
      refine ev_iconst ?_
      refine ev_call (jcall_v (A := [(0, 2)]) (S' := []) (r := 7) rfl (g1.lt ad7) (g1.tg ad7) (Nat.le_of_ble_eq_true rfl)) (jOk_le (by decide) (s76 g1 (by omega) (by omega) (ey0) (by omega) (by omega))) (by decide) (by decide) (fun w17766 h17766 q17766 => ?_)
      obtain ⟨v17768, v17767, rfl, lv17768, uv17768, g17766, kk17766, ev17767, p17766_0⟩ := q17766
      have bv17767 := g17766.rg ad7 (i := 1) (by decide) rf7_1
      rw [ev17767] at bv17767
      have k17766 := k1.tr kk17766 (by decide)
      show jEv _ _ _ _ _ _ _ (_, [(2, 7), (2, 1), (0, 10), (0, a3), (0, x4), (0, x5), j6], [(0, v17768)], _, _, _)
      refine ev_istore (L' := [(2, 7), (2, 1), (0, 10), (0, a3), (0, x4), (0, x5), (0, v17768)]) (Nat.le_of_ble_eq_true rfl) rfl ?_
      refine ev_aload_n rfl ?_
      refine ev_bipush ?_
      refine ev_call (jcall_v (A := [(0, 58)]) (S' := []) (r := 7) rfl (g17766.lt ad7) (g17766.tg ad7) (Nat.le_of_ble_eq_true rfl)) (jOk_le (by decide) (s71 g17766 (by omega) (by omega) (ev17767) (by omega) (by omega))) (by decide) (by decide) (fun w17769 h17769 q17769 => ?_)
      obtain ⟨v17770, rfl, g17769, kk17769, ev17770, p17769_0⟩ := q17769
      have bv17770 := g17769.rg ad7 (i := 1) (by decide) rf7_1
      rw [ev17770] at bv17770
      have k17769 := k17766.tr kk17769 (by decide)
      show jEv _ _ _ _ _ _ _ (_, [(2, 7), (2, 1), (0, 10), (0, a3), (0, x4), (0, x5), (0, v17768)], [], _, _, _)
      refine ev_aload_n rfl ?_
      refine ev_iload rfl ?_
      refine ev_iload rfl ?_
      refine ev_iload rfl ?_
      refine ev_aload_n rfl ?_
      refine ev_aload_n rfl ?_
      refine ev_iload_n rfl ?_
      refine ev_iconst ?_
      refine ev_iadd (r := 11) (by decide) ?_
      refine ev_iload_n rfl ?_
      refine ev_call (jcall_v (A := [(0, a3), (0, 11), (2, 1)]) (S' := [(0, v17768), (0, x5), (0, x4), (2, 7)]) (r := 7) rfl (g17769.lt ad7) (g17769.tg ad7) (Nat.le_of_ble_eq_true rfl)) (jOk_le (by decide) (s74_11 g17769 (by omega) (by omega) (ev17770) (by omega) (by omega))) (by decide) (by decide) (fun w17771 h17771 q17771 => ?_)
      obtain ⟨v17773, v17772, rfl, lv17773, uv17773, g17771, kk17771, ev17772, p17771_0, p17771_1⟩ := q17771
      have bv17772 := g17771.rg ad7 (i := 1) (by decide) rf7_1
      rw [ev17772] at bv17772
      have k17771 := k17769.tr kk17771 (by decide)
      show jEv _ _ _ _ _ _ _ (_, [(2, 7), (2, 1), (0, 10), (0, a3), (0, x4), (0, x5), (0, v17768)], [(0, v17773), (0, v17768), (0, x5), (0, x4), (2, 7)], _, _, _)
      refine ev_call (jcall_v (A := [(0, v17773), (0, v17768), (0, x5), (0, x4)]) (S' := []) (r := 7) rfl (g17771.lt ad7) (g17771.tg ad7) (Nat.le_of_ble_eq_true rfl)) (jOk_le (by decide) (s80 g17771 (by omega) (by omega) (by omega) (by omega) (by omega) (by omega) (by omega) (by omega))) (by decide) (by decide) (fun w17774 h17774 q17774 => ?_)
      obtain ⟨rfl, g17774, kk17774⟩ := q17774
      have k17774 := k17771.tr kk17774 (by decide)
      show jEv _ _ _ _ _ _ _ (_, [(2, 7), (2, 1), (0, 10), (0, a3), (0, x4), (0, x5), (0, v17768)], [], _, _, _)
      refine ev_aload_n rfl ?_
      refine ev_in (d := 6) (a := 0) (b := 0) (cd' := c68_0) (m := 1) (L0 := [(2, 7)]) (jcall_v (A := []) (S' := []) (r := 7) rfl (g17774.lt ad7) (g17774.tg ad7) (Nat.le_of_ble_eq_true rfl)) (by decide) ml68 pp68 (Nat.le_of_ble_eq_true rfl) rfl (by decide) (by decide) ?_
      refine ev_aload_n rfl ?_
      obtain ⟨v17775, ev17775, lv17775, uv17775⟩ := g17774.rd ad7 (show 2 < 15 by decide) rf7_2
      refine g_getv (r := 7) (v := v17775) g17774 ad7 (by decide) ft5_2 ev17775 ?_
      refine ev_aload_n rfl ?_
      obtain ⟨v17776, ev17776, lv17776, uv17776⟩ := g17774.rd ad7 (show 0 < 15 by decide) rf7_0
      refine g_getv (r := 7) (v := v17776) g17774 ad7 (by decide) ft5_0 ev17776 ?_
      refine ev_icmpge f68_27 (fun c17777 => ?_) (fun c17777 => ?_)
      · refine ev_iconst ?_
        refine ev_ret rfl (by decide) (by decide) ?_
        show jEv _ _ _ _ _ _ _ (_, [(2, 7), (2, 1), (0, 10), (0, a3), (0, x4), (0, x5), (0, v17768)], [(0, (-1))], _, _, _)
        refine ev_bipush ?_
        refine ev_icmpne f78_100 (fun c17778 => ?_) (fun c17778 => absurd c17778 (by omega))
        refine ev_aload_n rfl ?_
        refine ev_bipush ?_
        refine ev_call (jcall_v (A := [(0, 41)]) (S' := []) (r := 7) rfl (g17774.lt ad7) (g17774.tg ad7) (Nat.le_of_ble_eq_true rfl)) (jOk_le (by decide) (s71 g17774 (by omega) (by omega) (((kk17774.v (by decide)).trans ev17772)) (by omega) (by omega))) (by decide) (by decide) (fun w17779 h17779 q17779 => ?_)
        obtain ⟨v17780, rfl, g17779, kk17779, ev17780, p17779_0⟩ := q17779
        have bv17780 := g17779.rg ad7 (i := 1) (by decide) rf7_1
        rw [ev17780] at bv17780
        have k17779 := k17774.tr kk17779 (by decide)
        show jEv _ _ _ _ _ _ _ (_, [(2, 7), (2, 1), (0, 10), (0, a3), (0, x4), (0, x5), (0, v17768)], [], _, _, _)
        refine ev_aload_n rfl ?_
        refine g_getv (r := 7) (v := v17780) g17779 ad7 (by decide) ft5_1 (ev17780) ?_
        refine ev_iflt f78_117 (fun c17781 => ?_) (fun c17781 => ?_)
        · refine ev_iload rfl ?_
          exact ev_ret rfl (by decide) (by decide) ⟨_, _, rfl, by omega, by omega, g17779, k17779, (ev17780), by omega, by omega⟩
        · refine ev_iconst ?_
          refine ev_goto f78_119 ?_
          exact ev_ret rfl (by decide) (by decide) ⟨_, _, rfl, by omega, by omega, g17779, k17779, (ev17780), by omega, by omega⟩
      · refine ev_aload_n rfl ?_
        refine g_getp (r := 7) (c := 8) g17774 ad7 (by decide) (by decide) rf7_5 ft5_5 ?_
        refine ev_aload_n rfl ?_
        refine g_getv (r := 7) (v := v17775) g17774 ad7 (by decide) ft5_2 (ev17775) ?_
        refine g_bald g17774 ad8 rt8 (by omega) (by omega) (fun v17782 ev17782 lv17782 uv17782 => ?_)
        refine ev_sipush ?_
        refine g_iandB (b := 255) (by omega) (by omega) (by decide) (fun v17783 ev17783 lv17783 uv17783 => ?_)
        refine ev_goto f68_28 ?_
        refine ev_ret rfl (by decide) (by decide) ?_
        show jEv _ _ _ _ _ _ _ (_, [(2, 7), (2, 1), (0, 10), (0, a3), (0, x4), (0, x5), (0, v17768)], [(0, v17783)], _, _, _)
        refine ev_bipush ?_
        refine ev_icmpne f78_100 (fun c17784 => ?_) (fun c17784 => ?_)
        · refine ev_aload_n rfl ?_
          refine ev_bipush ?_
          refine ev_call (jcall_v (A := [(0, 41)]) (S' := []) (r := 7) rfl (g17774.lt ad7) (g17774.tg ad7) (Nat.le_of_ble_eq_true rfl)) (jOk_le (by decide) (s71 g17774 (by omega) (by omega) (((kk17774.v (by decide)).trans ev17772)) (by omega) (by omega))) (by decide) (by decide) (fun w17785 h17785 q17785 => ?_)
          obtain ⟨v17786, rfl, g17785, kk17785, ev17786, p17785_0⟩ := q17785
          have bv17786 := g17785.rg ad7 (i := 1) (by decide) rf7_1
          rw [ev17786] at bv17786
          have k17785 := k17774.tr kk17785 (by decide)
          show jEv _ _ _ _ _ _ _ (_, [(2, 7), (2, 1), (0, 10), (0, a3), (0, x4), (0, x5), (0, v17768)], [], _, _, _)
          refine ev_aload_n rfl ?_
          refine g_getv (r := 7) (v := v17786) g17785 ad7 (by decide) ft5_1 (ev17786) ?_
          refine ev_iflt f78_117 (fun c17787 => ?_) (fun c17787 => ?_)
          · refine ev_iload rfl ?_
            exact ev_ret rfl (by decide) (by decide) ⟨_, _, rfl, by omega, by omega, g17785, k17785, (ev17786), by omega, by omega⟩
          · refine ev_iconst ?_
            refine ev_goto f78_119 ?_
            exact ev_ret rfl (by decide) (by decide) ⟨_, _, rfl, by omega, by omega, g17785, k17785, (ev17786), by omega, by omega⟩
        · refine ev_iload rfl ?_
          refine ev_iconst ?_
          refine ev_icmpne f78_88 (fun c17788 => ?_) (fun c17788 => ?_)
          · refine ev_aload_n rfl ?_
            refine ev_bipush ?_
            refine ev_call (jcall_v (A := [(0, 44)]) (S' := []) (r := 7) rfl (g17774.lt ad7) (g17774.tg ad7) (Nat.le_of_ble_eq_true rfl)) (jOk_le (by decide) (s71 g17774 (by omega) (by omega) (((kk17774.v (by decide)).trans ev17772)) (by omega) (by omega))) (by decide) (by decide) (fun w17789 h17789 q17789 => ?_)
            obtain ⟨v17790, rfl, g17789, kk17789, ev17790, p17789_0⟩ := q17789
            have bv17790 := g17789.rg ad7 (i := 1) (by decide) rf7_1
            rw [ev17790] at bv17790
            have k17789 := k17774.tr kk17789 (by decide)
            show jEv _ _ _ _ _ _ _ (_, [(2, 7), (2, 1), (0, 10), (0, a3), (0, x4), (0, x5), (0, v17768)], [], _, _, _)
            refine ev_iinc (w := (x5 + 1)) (L' := [(2, 7), (2, 1), (0, 10), (0, a3), (0, x4), (0, (x5 + 1)), (0, v17768)]) rfl (by unfold w32; omega) rfl ?_
            refine ev_goto f78_25 ?_
            exact ih _ _ _ _ _ g17789 k17789 (by omega) (by omega) (by omega) (by omega) (by omega) (by omega) (by omega) (by omega) (ev17790) (by omega) (by omega) (by omega)
          · refine ev_goto f78_100 ?_
            refine ev_aload_n rfl ?_
            refine ev_bipush ?_
            refine ev_call (jcall_v (A := [(0, 41)]) (S' := []) (r := 7) rfl (g17774.lt ad7) (g17774.tg ad7) (Nat.le_of_ble_eq_true rfl)) (jOk_le (by decide) (s71 g17774 (by omega) (by omega) (((kk17774.v (by decide)).trans ev17772)) (by omega) (by omega))) (by decide) (by decide) (fun w17791 h17791 q17791 => ?_)
            obtain ⟨v17792, rfl, g17791, kk17791, ev17792, p17791_0⟩ := q17791
            have bv17792 := g17791.rg ad7 (i := 1) (by decide) rf7_1
            rw [ev17792] at bv17792
            have k17791 := k17774.tr kk17791 (by decide)
            show jEv _ _ _ _ _ _ _ (_, [(2, 7), (2, 1), (0, 10), (0, a3), (0, x4), (0, x5), (0, v17768)], [], _, _, _)
            refine ev_aload_n rfl ?_
            refine g_getv (r := 7) (v := v17792) g17791 ad7 (by decide) ft5_1 (ev17792) ?_
            refine ev_iflt f78_117 (fun c17793 => ?_) (fun c17793 => ?_)
            · refine ev_iload rfl ?_
              exact ev_ret rfl (by decide) (by decide) ⟨_, _, rfl, by omega, by omega, g17791, k17791, (ev17792), by omega, by omega⟩
            · refine ev_iconst ?_
              refine ev_goto f78_119 ?_
              exact ev_ret rfl (by decide) (by decide) ⟨_, _, rfl, by omega, by omega, g17791, k17791, (ev17792), by omega, by omega⟩
set_option maxHeartbeats 4000000 in
theorem s78_10 {G : GH} {h : JH} (g : Gd G h) {a3 : Int} (la3 : (-2147483648) ≤ a3) (ua3 : a3 ≤ 2147483647) {w0 : Int} (ew0 : h.2.2 7 1 = w0) (lw0 : (-1) ≤ w0) (uw0 : w0 ≤ 200) {w1 : Int} (ew1 : h.2.2 7 2 = w1) (lw1 : 0 ≤ w1) (uw1 : w1 ≤ 199) : jOk 8 0 0 78 [(2, 7), (2, 1), (0, 10), (0, a3)] h (fun v h' => ∃ r F : Int, v = some (0, r) ∧ (-1) ≤ r ∧ r ≤ 199 ∧ Gd G h' ∧ Kp [(7, 2), (7, 3), (7, 4), (10, 0), (11, 0), (12, 0), (13, 0), (14, 0), (15, 0), (16, 0), (17, 0)] h h' ∧ h'.2.2 7 1 = F ∧ ((-F) + w0) ≤ 0 ∧ ((-F) + (-r)) ≤ 1) := by
  refine ⟨by decide, by rw [ml78]; exact Nat.le_of_ble_eq_true rfl, ?_⟩
  rw [ml78, pp78]
  show jEv _ none _ c78_0 0 0 _ (c78_0, [(2, 7), (2, 1), (0, 10), (0, a3), (9, 0), (9, 0), (9, 0)], [], h, 0, 0)
  have k0 := Kp.rf [(7, 2), (7, 3), (7, 4), (10, 0), (11, 0), (12, 0), (13, 0), (14, 0), (15, 0), (16, 0), (17, 0)] h
  refine ev_aload_n rfl ?_
  refine ev_dup (by decide) ?_
  refine g_getv (r := 7) (v := w1) g ad7 (by decide) ft5_2 (ew1) ?_
  refine ev_iconst ?_
  refine ev_iadd (r := (w1 + 1)) (by unfold w32; omega) ?_
  refine g_putf (r := 7) g ad7 (by decide) ft5_2 (by decide) (fun e => absurd e nz5_2) rf7_2 (by decide) (by omega) (by omega) (fun h17794 e17794 g17794 => ?_)
  have k17794 := k0.wr e17794 rfl
  refine ev_aload_n rfl ?_
  refine ev_iload_n rfl ?_
  refine ev_call (jcall_v (A := [(0, 10)]) (S' := []) (r := 7) rfl (g17794.lt ad7) (g17794.tg ad7) (Nat.le_of_ble_eq_true rfl)) (jOk_le (by decide) (s72 g17794 (by omega) (by omega) (((jw_ne e17794 (Or.inr (by decide))).trans ew0)) (by omega) (by omega))) (by decide) (by decide) (fun w17795 h17795 q17795 => ?_)
  obtain ⟨v17796, rfl, g17795, kk17795, ev17796, p17795_0⟩ := q17795
  have bv17796 := g17795.rg ad7 (i := 1) (by decide) rf7_1
  rw [ev17796] at bv17796
  have k17795 := k17794.tr kk17795 (by decide)
  show jEv _ _ _ _ _ _ _ (_, [(2, 7), (2, 1), (0, 10), (0, a3), (9, 0), (9, 0), (9, 0)], [], _, _, _)
  refine ev_aload_n rfl ?_
  refine ev_iconst ?_
  refine ev_call (jcall_v (A := [(0, 1)]) (S' := []) (r := 7) rfl (g17795.lt ad7) (g17795.tg ad7) (Nat.le_of_ble_eq_true rfl)) (jOk_le (by decide) (s73 g17795 (by omega) (by omega) (ev17796) (by omega) (by omega))) (by decide) (by decide) (fun w17797 h17797 q17797 => ?_)
  obtain ⟨v17799, v17798, rfl, lv17799, uv17799, g17797, kk17797, ev17798, p17797_0, p17797_1⟩ := q17797
  have bv17798 := g17797.rg ad7 (i := 1) (by decide) rf7_1
  rw [ev17798] at bv17798
  have k17797 := k17795.tr kk17797 (by decide)
  show jEv _ _ _ _ _ _ _ (_, [(2, 7), (2, 1), (0, 10), (0, a3), (9, 0), (9, 0), (9, 0)], [(0, v17799)], _, _, _)
  refine ev_istore (L' := [(2, 7), (2, 1), (0, 10), (0, a3), (0, v17799), (9, 0), (9, 0)]) (Nat.le_of_ble_eq_true rfl) rfl ?_
  refine ev_iconst ?_
  refine ev_istore (L' := [(2, 7), (2, 1), (0, 10), (0, a3), (0, v17799), (0, 0), (9, 0)]) (Nat.le_of_ble_eq_true rfl) rfl ?_
  exact (s78_10_l la3 ua3 ew0 lw0 uw0 ew1 lw1 uw1 8) _ _ _ _ _ g17797 k17797 (by omega) (by omega) (by omega) (by omega) (by omega) (by omega) (by omega) (by omega) (ev17798) (by omega) (by omega) (by omega)
/-! s79_10  -/
set_option maxHeartbeats 4000000 in
theorem s79_10_l {G : GH} {h : JH} {a3 : Int} (la3 : (-2147483648) ≤ a3) (ua3 : a3 ≤ 2147483647) {w0 : Int} (ew0 : h.2.2 7 1 = w0) (lw0 : (-1) ≤ w0) (uw0 : w0 ≤ 200) {w1 : Int} (ew1 : h.2.2 7 2 = w1) (lw1 : 0 ≤ w1) (uw1 : w1 ≤ 199) : ∀ N : Nat, (∀ (h1 : JH) (x4 x5 x6 y0 : Int), Gd G h1 → Kp [(7, 2), (7, 3), (7, 4), (10, 0), (11, 0), (12, 0), (13, 0), (14, 0), (15, 0), (16, 0), (17, 0)] h h1 → (-2147483648) ≤ a3 → a3 ≤ 2147483647 → 0 ≤ x4 → x4 ≤ 3 → (-1) ≤ x5 → x5 ≤ 199 → 0 ≤ x6 → x6 ≤ 3 → (w0 + (-y0)) ≤ 0 → ((-x5) + (-y0)) ≤ 1 → h1.2.2 7 1 = y0 → (-1) ≤ y0 → y0 ≤ 200 → ((-x6) + 3) < N → jEv (jOk 7) none (fun _ => 0) c79_0 0 0 (fun v h' => ∃ r F : Int, v = some (0, r) ∧ (-1) ≤ r ∧ r ≤ 199 ∧ Gd G h' ∧ Kp [(7, 2), (7, 3), (7, 4), (10, 0), (11, 0), (12, 0), (13, 0), (14, 0), (15, 0), (16, 0), (17, 0)] h h' ∧ h'.2.2 7 1 = F ∧ ((-F) + w0) ≤ 0 ∧ ((-F) + (-r)) ≤ 1) (c79_68, [(2, 7), (2, 1), (0, 10), (0, a3), (0, x4), (0, x5), (0, x6)], [], h1, 0, 0)) := by
  intro N
  induction N with
  | zero => exact fun h1 x4 x5 x6 y0 g1 k1 b0 b1 b2 b3 b4 b5 b6 b7 b8 b9 b10 b11 b12 hm => absurd hm (by omega)
  | succ N ih =>
    show _
    intro h1 x4 x5 x6 y0 g1 k1 b0 b1 b2 b3 b4 b5 b6 b7 b8 b9 ey0 ly0 uy0 hm
    refine ev_iload rfl ?_
    refine ev_aload_n rfl ?_
    refine ev_iload rfl ?_
    refine ev_in (d := 6) (a := 0) (b := 0) (cd' := c141_0) (m := 2) (L0 := [(2, 1), (0, x4)]) (jcall_v (A := [(0, x4)]) (S' := [(0, x6)]) (r := 1) rfl (g1.lt ad1) (g1.tg ad1) (Nat.le_of_ble_eq_true rfl)) (by decide) ml141 pp141 (Nat.le_of_ble_eq_true rfl) rfl (by decide) (by decide) ?_
    refine ev_aload_n rfl ?_
    refine ev_iload_n rfl ?_
    refine ev_in (d := 5) (a := 0) (b := 0) (cd' := c140_0) (m := 2) (L0 := [(2, 1), (0, x4)]) (jcall_v (A := [(0, x4)]) (S' := []) (r := 1) rfl (g1.lt ad1) (g1.tg ad1) (Nat.le_of_ble_eq_true rfl)) (by decide) ml140 pp140 (Nat.le_of_ble_eq_true rfl) rfl (by decide) (by decide) ?_
    refine ev_iload_n rfl ?_
    refine ev_iflt f140_16 (fun c18077 => absurd c18077 (by omega)) (fun c18077 => ?_)
    refine ev_iload_n rfl ?_
    refine ev_aload_n rfl ?_
    obtain ⟨v18078, ev18078, lv18078, uv18078⟩ := g1.rd ad1 (show 0 < 8 by decide) rf1_0
    refine g_getv (r := 1) (v := v18078) g1 ad1 (by decide) ft10_0 ev18078 ?_
    refine ev_icmpge f140_16 (fun c18079 => ?_) (fun c18079 => ?_)
    · refine ev_iconst ?_
      refine ev_ret rfl (by decide) (by decide) ?_
      show jEv _ _ _ _ _ _ _ (_, [(2, 1), (0, x4)], [(0, 0)], _, _, _)
      refine ev_ifeq f141_17 (fun c18080 => ?_) (fun c18080 => absurd c18080 (by omega))
      refine ev_iconst ?_
      refine ev_ret rfl (by decide) (by decide) ?_
      show jEv _ _ _ _ _ _ _ (_, [(2, 7), (2, 1), (0, 10), (0, a3), (0, x4), (0, x5), (0, x6)], [(0, 0), (0, x6)], _, _, _)
      refine ev_icmpge f79_126 (fun c18081 => ?_) (fun c18081 => absurd c18081 (by omega))
      refine ev_aload_n rfl ?_
      refine ev_bipush ?_
      refine ev_call (jcall_v (A := [(0, 41)]) (S' := []) (r := 7) rfl (g1.lt ad7) (g1.tg ad7) (Nat.le_of_ble_eq_true rfl)) (jOk_le (by decide) (s71 g1 (by omega) (by omega) (ey0) (by omega) (by omega))) (by decide) (by decide) (fun w18082 h18082 q18082 => ?_)
      obtain ⟨v18083, rfl, g18082, kk18082, ev18083, p18082_0⟩ := q18082
      have bv18083 := g18082.rg ad7 (i := 1) (by decide) rf7_1
      rw [ev18083] at bv18083
      have k18082 := k1.tr kk18082 (by decide)
      show jEv _ _ _ _ _ _ _ (_, [(2, 7), (2, 1), (0, 10), (0, a3), (0, x4), (0, x5), (0, x6)], [], _, _, _)
      refine ev_aload_n rfl ?_
      refine g_getv (r := 7) (v := v18083) g18082 ad7 (by decide) ft5_1 (ev18083) ?_
      refine ev_ifge f79_144 (fun c18084 => ?_) (fun c18084 => ?_)
      · refine ev_iconst ?_
        exact ev_ret rfl (by decide) (by decide) ⟨_, _, rfl, by omega, by omega, g18082, k18082, (ev18083), by omega, by omega⟩
      · refine ev_iload rfl ?_
        refine ev_ifge f79_146 (fun c18085 => ?_) (fun c18085 => absurd c18085 (by omega))
        refine ev_aload_n rfl ?_
        refine g_getp (r := 7) (c := 11) g18082 ad7 (by decide) (by decide) rf7_8 ft5_8 ?_
        refine ev_iload rfl ?_
        refine ev_iload rfl ?_
        refine g_iast g18082 ad11 rt11 (fun _ => rfl) (by omega) (by omega) (by omega) (by omega) (fun h18086 e18086 g18086 => ?_)
        have k18086 := k18082.wr e18086 rfl
        refine ev_aload_n rfl ?_
        refine g_getp (r := 7) (c := 15) g18086 ad7 (by decide) (by decide) rf7_12 ft5_12 ?_
        refine ev_iload rfl ?_
        refine ev_dup2 (by decide) (by decide) ?_
        refine g_iald g18086 ad15 rt15 (by omega) (by omega) (fun v18087 ev18087 lv18087 uv18087 => ?_)
        refine ev_iconst ?_
        refine ev_iload rfl ?_
        refine g_ishlB (a' := 1) (a := 1) (b := 3) (hi := 8) (by omega) (by omega) (by omega) (by omega) (by decide) (by decide) (fun v18088 ev18088 lv18088 uv18088 => ?_)
        refine g_iorG (fun v18089 ev18089 lv18089 uv18089 => ?_)
        refine g_iast g18086 ad15 rt15 (fun _ => rfl) (by omega) (by omega) (by omega) (by omega) (fun h18090 e18090 g18090 => ?_)
        have k18090 := k18086.wr e18090 rfl
        refine ev_iload rfl ?_
        exact ev_ret rfl (by decide) (by decide) ⟨_, _, rfl, by omega, by omega, g18090, k18090, (((jw_ne e18090 (Or.inl (by decide))).trans ((jw_ne e18086 (Or.inl (by decide))).trans ev18083))), by omega, by omega⟩
    · refine ev_iconst ?_
      refine ev_goto f140_17 ?_
      refine ev_ret rfl (by decide) (by decide) ?_
      show jEv _ _ _ _ _ _ _ (_, [(2, 1), (0, x4)], [(0, 1)], _, _, _)
      refine ev_ifeq f141_17 (fun c18091 => absurd c18091 (by omega)) (fun c18091 => ?_)
      refine ev_aload_n rfl ?_
      refine g_getp (r := 1) (c := 2) g1 ad1 (by decide) (by decide) rf1_3 ft10_3 ?_
      refine ev_iload_n rfl ?_
      refine g_iald g1 ad2 rt2 (by omega) (by omega) (fun v18092 ev18092 lv18092 uv18092 => ?_)
      refine ev_goto f141_18 ?_
      refine ev_ret rfl (by decide) (by decide) ?_
      show jEv _ _ _ _ _ _ _ (_, [(2, 7), (2, 1), (0, 10), (0, a3), (0, x4), (0, x5), (0, x6)], [(0, v18092), (0, x6)], _, _, _)
      refine ev_icmpge f79_126 (fun c18093 => ?_) (fun c18093 => ?_)
      · refine ev_aload_n rfl ?_
        refine ev_bipush ?_
        refine ev_call (jcall_v (A := [(0, 41)]) (S' := []) (r := 7) rfl (g1.lt ad7) (g1.tg ad7) (Nat.le_of_ble_eq_true rfl)) (jOk_le (by decide) (s71 g1 (by omega) (by omega) (ey0) (by omega) (by omega))) (by decide) (by decide) (fun w18094 h18094 q18094 => ?_)
        obtain ⟨v18095, rfl, g18094, kk18094, ev18095, p18094_0⟩ := q18094
        have bv18095 := g18094.rg ad7 (i := 1) (by decide) rf7_1
        rw [ev18095] at bv18095
        have k18094 := k1.tr kk18094 (by decide)
        show jEv _ _ _ _ _ _ _ (_, [(2, 7), (2, 1), (0, 10), (0, a3), (0, x4), (0, x5), (0, x6)], [], _, _, _)
        refine ev_aload_n rfl ?_
        refine g_getv (r := 7) (v := v18095) g18094 ad7 (by decide) ft5_1 (ev18095) ?_
        refine ev_ifge f79_144 (fun c18096 => ?_) (fun c18096 => ?_)
        · refine ev_iconst ?_
          exact ev_ret rfl (by decide) (by decide) ⟨_, _, rfl, by omega, by omega, g18094, k18094, (ev18095), by omega, by omega⟩
        · refine ev_iload rfl ?_
          refine ev_ifge f79_146 (fun c18097 => ?_) (fun c18097 => absurd c18097 (by omega))
          refine ev_aload_n rfl ?_
          refine g_getp (r := 7) (c := 11) g18094 ad7 (by decide) (by decide) rf7_8 ft5_8 ?_
          refine ev_iload rfl ?_
          refine ev_iload rfl ?_
          refine g_iast g18094 ad11 rt11 (fun _ => rfl) (by omega) (by omega) (by omega) (by omega) (fun h18098 e18098 g18098 => ?_)
          have k18098 := k18094.wr e18098 rfl
          refine ev_aload_n rfl ?_
          refine g_getp (r := 7) (c := 15) g18098 ad7 (by decide) (by decide) rf7_12 ft5_12 ?_
          refine ev_iload rfl ?_
          refine ev_dup2 (by decide) (by decide) ?_
          refine g_iald g18098 ad15 rt15 (by omega) (by omega) (fun v18099 ev18099 lv18099 uv18099 => ?_)
          refine ev_iconst ?_
          refine ev_iload rfl ?_
          refine g_ishlB (a' := 1) (a := 1) (b := 3) (hi := 8) (by omega) (by omega) (by omega) (by omega) (by decide) (by decide) (fun v18100 ev18100 lv18100 uv18100 => ?_)
          refine g_iorG (fun v18101 ev18101 lv18101 uv18101 => ?_)
          refine g_iast g18098 ad15 rt15 (fun _ => rfl) (by omega) (by omega) (by omega) (by omega) (fun h18102 e18102 g18102 => ?_)
          have k18102 := k18098.wr e18102 rfl
          refine ev_iload rfl ?_
          exact ev_ret rfl (by decide) (by decide) ⟨_, _, rfl, by omega, by omega, g18102, k18102, (((jw_ne e18102 (Or.inl (by decide))).trans ((jw_ne e18098 (Or.inl (by decide))).trans ev18095))), by omega, by omega⟩
      · refine ev_aload_n rfl ?_
        refine g_getv (r := 7) (v := y0) g1 ad7 (by decide) ft5_1 (ey0) ?_
        refine ev_ifge f79_126 (fun c18103 => ?_) (fun c18103 => ?_)
        · refine ev_aload_n rfl ?_
          refine ev_bipush ?_
          refine ev_call (jcall_v (A := [(0, 41)]) (S' := []) (r := 7) rfl (g1.lt ad7) (g1.tg ad7) (Nat.le_of_ble_eq_true rfl)) (jOk_le (by decide) (s71 g1 (by omega) (by omega) (ey0) (by omega) (by omega))) (by decide) (by decide) (fun w18104 h18104 q18104 => ?_)
          obtain ⟨v18105, rfl, g18104, kk18104, ev18105, p18104_0⟩ := q18104
          have bv18105 := g18104.rg ad7 (i := 1) (by decide) rf7_1
          rw [ev18105] at bv18105
          have k18104 := k1.tr kk18104 (by decide)
          show jEv _ _ _ _ _ _ _ (_, [(2, 7), (2, 1), (0, 10), (0, a3), (0, x4), (0, x5), (0, x6)], [], _, _, _)
          refine ev_aload_n rfl ?_
          refine g_getv (r := 7) (v := v18105) g18104 ad7 (by decide) ft5_1 (ev18105) ?_
          refine ev_ifge f79_144 (fun c18106 => ?_) (fun c18106 => absurd c18106 (by omega))
          refine ev_iconst ?_
          exact ev_ret rfl (by decide) (by decide) ⟨_, _, rfl, by omega, by omega, g18104, k18104, (ev18105), by omega, by omega⟩
        · refine ev_iload rfl ?_
          refine ev_ifle f79_97 (fun c18107 => ?_) (fun c18107 => ?_)
          · refine ev_aload_n rfl ?_
            refine ev_iload rfl ?_
            refine ev_iload rfl ?_
            refine ev_iconst ?_
            refine ev_aload_n rfl ?_
            refine ev_aload_n rfl ?_
            refine ev_iload_n rfl ?_
            refine ev_iconst ?_
            refine ev_iadd (r := 11) (by decide) ?_
            refine ev_iload_n rfl ?_
            refine ev_iconst ?_
            refine ev_iload rfl ?_
            refine g_ishlB (a' := 1) (a := 1) (b := 3) (hi := 8) (by omega) (by omega) (by omega) (by omega) (by decide) (by decide) (fun v18108 ev18108 lv18108 uv18108 => ?_)
            refine g_iorG (fun v18109 ev18109 lv18109 uv18109 => ?_)
            refine ev_call (jcall_v (A := [(0, v18109), (0, 11), (2, 1)]) (S' := [(0, 0), (0, x6), (0, x5), (2, 7)]) (r := 7) rfl (g1.lt ad7) (g1.tg ad7) (Nat.le_of_ble_eq_true rfl)) (jOk_le (by decide) (s74_11 g1 (by omega) (by omega) (ey0) (by omega) (by omega))) (by decide) (by decide) (fun w18110 h18110 q18110 => ?_)
            obtain ⟨v18112, v18111, rfl, lv18112, uv18112, g18110, kk18110, ev18111, p18110_0, p18110_1⟩ := q18110
            have bv18111 := g18110.rg ad7 (i := 1) (by decide) rf7_1
            rw [ev18111] at bv18111
            have k18110 := k1.tr kk18110 (by decide)
            show jEv _ _ _ _ _ _ _ (_, [(2, 7), (2, 1), (0, 10), (0, a3), (0, x4), (0, x5), (0, x6)], [(0, v18112), (0, 0), (0, x6), (0, x5), (2, 7)], _, _, _)
            refine ev_call (jcall_v (A := [(0, v18112), (0, 0), (0, x6), (0, x5)]) (S' := []) (r := 7) rfl (g18110.lt ad7) (g18110.tg ad7) (Nat.le_of_ble_eq_true rfl)) (jOk_le (by decide) (s80 g18110 (by omega) (by omega) (by omega) (by omega) (by omega) (by omega) (by omega) (by omega))) (by decide) (by decide) (fun w18113 h18113 q18113 => ?_)
            obtain ⟨rfl, g18113, kk18113⟩ := q18113
            have k18113 := k18110.tr kk18113 (by decide)
            show jEv _ _ _ _ _ _ _ (_, [(2, 7), (2, 1), (0, 10), (0, a3), (0, x4), (0, x5), (0, x6)], [], _, _, _)
            refine ev_iinc (w := (x6 + 1)) (L' := [(2, 7), (2, 1), (0, 10), (0, a3), (0, x4), (0, x5), (0, (x6 + 1))]) rfl (by unfold w32; omega) rfl ?_
            refine ev_goto f79_68 ?_
            exact ih _ _ _ _ _ g18113 k18113 (by omega) (by omega) (by omega) (by omega) (by omega) (by omega) (by omega) (by omega) (by omega) (by omega) (((kk18113.v (by decide)).trans ev18111)) (by omega) (by omega) (by omega)
          · refine ev_aload_n rfl ?_
            refine ev_bipush ?_
            refine ev_call (jcall_v (A := [(0, 44)]) (S' := []) (r := 7) rfl (g1.lt ad7) (g1.tg ad7) (Nat.le_of_ble_eq_true rfl)) (jOk_le (by decide) (s71 g1 (by omega) (by omega) (ey0) (by omega) (by omega))) (by decide) (by decide) (fun w18114 h18114 q18114 => ?_)
            obtain ⟨v18115, rfl, g18114, kk18114, ev18115, p18114_0⟩ := q18114
            have bv18115 := g18114.rg ad7 (i := 1) (by decide) rf7_1
            rw [ev18115] at bv18115
            have k18114 := k1.tr kk18114 (by decide)
            show jEv _ _ _ _ _ _ _ (_, [(2, 7), (2, 1), (0, 10), (0, a3), (0, x4), (0, x5), (0, x6)], [], _, _, _)
            refine ev_aload_n rfl ?_
            refine ev_iload rfl ?_
            refine ev_iload rfl ?_
            refine ev_iconst ?_
            refine ev_aload_n rfl ?_
            refine ev_aload_n rfl ?_
            refine ev_iload_n rfl ?_
            refine ev_iconst ?_
            refine ev_iadd (r := 11) (by decide) ?_
            refine ev_iload_n rfl ?_
            refine ev_iconst ?_
            refine ev_iload rfl ?_
            refine g_ishlB (a' := 1) (a := 1) (b := 3) (hi := 8) (by omega) (by omega) (by omega) (by omega) (by decide) (by decide) (fun v18116 ev18116 lv18116 uv18116 => ?_)
            refine g_iorG (fun v18117 ev18117 lv18117 uv18117 => ?_)
            refine ev_call (jcall_v (A := [(0, v18117), (0, 11), (2, 1)]) (S' := [(0, 0), (0, x6), (0, x5), (2, 7)]) (r := 7) rfl (g18114.lt ad7) (g18114.tg ad7) (Nat.le_of_ble_eq_true rfl)) (jOk_le (by decide) (s74_11 g18114 (by omega) (by omega) (ev18115) (by omega) (by omega))) (by decide) (by decide) (fun w18118 h18118 q18118 => ?_)
            obtain ⟨v18120, v18119, rfl, lv18120, uv18120, g18118, kk18118, ev18119, p18118_0, p18118_1⟩ := q18118
            have bv18119 := g18118.rg ad7 (i := 1) (by decide) rf7_1
            rw [ev18119] at bv18119
            have k18118 := k18114.tr kk18118 (by decide)
            show jEv _ _ _ _ _ _ _ (_, [(2, 7), (2, 1), (0, 10), (0, a3), (0, x4), (0, x5), (0, x6)], [(0, v18120), (0, 0), (0, x6), (0, x5), (2, 7)], _, _, _)
            refine ev_call (jcall_v (A := [(0, v18120), (0, 0), (0, x6), (0, x5)]) (S' := []) (r := 7) rfl (g18118.lt ad7) (g18118.tg ad7) (Nat.le_of_ble_eq_true rfl)) (jOk_le (by decide) (s80 g18118 (by omega) (by omega) (by omega) (by omega) (by omega) (by omega) (by omega) (by omega))) (by decide) (by decide) (fun w18121 h18121 q18121 => ?_)
            obtain ⟨rfl, g18121, kk18121⟩ := q18121
            have k18121 := k18118.tr kk18121 (by decide)
            show jEv _ _ _ _ _ _ _ (_, [(2, 7), (2, 1), (0, 10), (0, a3), (0, x4), (0, x5), (0, x6)], [], _, _, _)
            refine ev_iinc (w := (x6 + 1)) (L' := [(2, 7), (2, 1), (0, 10), (0, a3), (0, x4), (0, x5), (0, (x6 + 1))]) rfl (by unfold w32; omega) rfl ?_
            refine ev_goto f79_68 ?_
            exact ih _ _ _ _ _ g18121 k18121 (by omega) (by omega) (by omega) (by omega) (by omega) (by omega) (by omega) (by omega) (by omega) (by omega) (((kk18121.v (by decide)).trans ev18119)) (by omega) (by omega) (by omega)
set_option maxHeartbeats 4000000 in
theorem s79_10 {G : GH} {h : JH} (g : Gd G h) {a3 : Int} (la3 : (-2147483648) ≤ a3) (ua3 : a3 ≤ 2147483647) {w0 : Int} (ew0 : h.2.2 7 1 = w0) (lw0 : (-1) ≤ w0) (uw0 : w0 ≤ 200) {w1 : Int} (ew1 : h.2.2 7 2 = w1) (lw1 : 0 ≤ w1) (uw1 : w1 ≤ 199) : jOk 8 0 0 79 [(2, 7), (2, 1), (0, 10), (0, a3)] h (fun v h' => ∃ r F : Int, v = some (0, r) ∧ (-1) ≤ r ∧ r ≤ 199 ∧ Gd G h' ∧ Kp [(7, 2), (7, 3), (7, 4), (10, 0), (11, 0), (12, 0), (13, 0), (14, 0), (15, 0), (16, 0), (17, 0)] h h' ∧ h'.2.2 7 1 = F ∧ ((-F) + w0) ≤ 0 ∧ ((-F) + (-r)) ≤ 1) := by
  refine ⟨by decide, by rw [ml79]; exact Nat.le_of_ble_eq_true rfl, ?_⟩
  rw [ml79, pp79]
  show jEv _ none _ c79_0 0 0 _ (c79_0, [(2, 7), (2, 1), (0, 10), (0, a3), (9, 0), (9, 0), (9, 0)], [], h, 0, 0)
  have k0 := Kp.rf [(7, 2), (7, 3), (7, 4), (10, 0), (11, 0), (12, 0), (13, 0), (14, 0), (15, 0), (16, 0), (17, 0)] h
  refine ev_aload_n rfl ?_
  refine ev_dup (by decide) ?_
  refine g_getv (r := 7) (v := w1) g ad7 (by decide) ft5_2 (ew1) ?_
  refine ev_iconst ?_
  refine ev_iadd (r := (w1 + 1)) (by unfold w32; omega) ?_
  refine g_putf (r := 7) g ad7 (by decide) ft5_2 (by decide) (fun e => absurd e nz5_2) rf7_2 (by decide) (by omega) (by omega) (fun h18122 e18122 g18122 => ?_)
  have k18122 := k0.wr e18122 rfl
  refine ev_aload_n rfl ?_
  refine ev_in (d := 6) (a := 0) (b := 0) (cd' := c68_0) (m := 1) (L0 := [(2, 7)]) (jcall_v (A := []) (S' := []) (r := 7) rfl (g18122.lt ad7) (g18122.tg ad7) (Nat.le_of_ble_eq_true rfl)) (by decide) ml68 pp68 (Nat.le_of_ble_eq_true rfl) rfl (by decide) (by decide) ?_
  refine ev_aload_n rfl ?_
  refine g_getv (r := 7) (v := (w1 + 1)) g18122 ad7 (by decide) ft5_2 ((jw_eq e18122)) ?_
  refine ev_aload_n rfl ?_
  obtain ⟨v18123, ev18123, lv18123, uv18123⟩ := g18122.rd ad7 (show 0 < 15 by decide) rf7_0
  refine g_getv (r := 7) (v := v18123) g18122 ad7 (by decide) ft5_0 ev18123 ?_
  refine ev_icmpge f68_27 (fun c18124 => ?_) (fun c18124 => ?_)
  · refine ev_iconst ?_
    refine ev_ret rfl (by decide) (by decide) ?_
    show jEv _ _ _ _ _ _ _ (_, [(2, 7), (2, 1), (0, 10), (0, a3), (9, 0), (9, 0), (9, 0)], [(0, (-1))], _, _, _)
    refine ev_bipush ?_
    refine ev_isub (r := (-98)) (by decide) ?_
    refine ev_istore (L' := [(2, 7), (2, 1), (0, 10), (0, a3), (0, (-98)), (9, 0), (9, 0)]) (Nat.le_of_ble_eq_true rfl) rfl ?_
    refine ev_aload_n rfl ?_
    refine ev_iload rfl ?_
    refine ev_in (d := 6) (a := 0) (b := 0) (cd' := c140_0) (m := 2) (L0 := [(2, 1), (0, (-98))]) (jcall_v (A := [(0, (-98))]) (S' := []) (r := 1) rfl (g18122.lt ad1) (g18122.tg ad1) (Nat.le_of_ble_eq_true rfl)) (by decide) ml140 pp140 (Nat.le_of_ble_eq_true rfl) rfl (by decide) (by decide) ?_
    refine ev_iload_n rfl ?_
    refine ev_iflt f140_16 (fun c18125 => ?_) (fun c18125 => absurd c18125 (by omega))
    refine ev_iconst ?_
    refine ev_ret rfl (by decide) (by decide) ?_
    show jEv _ _ _ _ _ _ _ (_, [(2, 7), (2, 1), (0, 10), (0, a3), (0, (-98)), (9, 0), (9, 0)], [(0, 0)], _, _, _)
    refine ev_ifeq f79_37 (fun c18126 => ?_) (fun c18126 => absurd c18126 (by omega))
    refine ev_aload_n rfl ?_
    refine ev_in (d := 6) (a := 0) (b := 0) (cd' := c70_0) (m := 1) (L0 := [(2, 7)]) (jcall_v (A := []) (S' := []) (r := 7) rfl (g18122.lt ad7) (g18122.tg ad7) (Nat.le_of_ble_eq_true rfl)) (by decide) ml70 pp70 (Nat.le_of_ble_eq_true rfl) rfl (by decide) (by decide) ?_
    refine ev_aload_n rfl ?_
    refine g_getv (r := 7) (v := w0) g18122 ad7 (by decide) ft5_1 (((jw_ne e18122 (Or.inr (by decide))).trans ew0)) ?_
    refine ev_ifge f70_15 (fun c18127 => ?_) (fun c18127 => ?_)
    · refine ev_ret rfl (by decide) (by decide) ?_
      show jEv _ _ _ _ _ _ _ (_, [(2, 7), (2, 1), (0, 10), (0, a3), (0, (-98)), (9, 0), (9, 0)], [], _, _, _)
      refine ev_iconst ?_
      exact ev_ret rfl (by decide) (by decide) ⟨_, _, rfl, by omega, by omega, g18122, k18122, (((jw_ne e18122 (Or.inr (by decide))).trans ew0)), by omega, by omega⟩
    · refine ev_aload_n rfl ?_
      refine ev_aload_n rfl ?_
      refine g_getv (r := 7) (v := (w1 + 1)) g18122 ad7 (by decide) ft5_2 ((jw_eq e18122)) ?_
      refine g_putf (r := 7) g18122 ad7 (by decide) ft5_1 (by decide) (fun e => absurd e nz5_1) rf7_1 (by decide) (by omega) (by omega) (fun h18128 e18128 g18128 => ?_)
      have k18128 := k18122.wr e18128 rfl
      refine ev_ret rfl (by decide) (by decide) ?_
      show jEv _ _ _ _ _ _ _ (_, [(2, 7), (2, 1), (0, 10), (0, a3), (0, (-98)), (9, 0), (9, 0)], [], _, _, _)
      refine ev_iconst ?_
      exact ev_ret rfl (by decide) (by decide) ⟨_, _, rfl, by omega, by omega, g18128, k18128, ((jw_eq e18128)), by omega, by omega⟩
  · refine ev_aload_n rfl ?_
    refine g_getp (r := 7) (c := 8) g18122 ad7 (by decide) (by decide) rf7_5 ft5_5 ?_
    refine ev_aload_n rfl ?_
    refine g_getv (r := 7) (v := (w1 + 1)) g18122 ad7 (by decide) ft5_2 ((jw_eq e18122)) ?_
    refine g_bald g18122 ad8 rt8 (by omega) (by omega) (fun v18129 ev18129 lv18129 uv18129 => ?_)
    refine ev_sipush ?_
    refine g_iandB (b := 255) (by omega) (by omega) (by decide) (fun v18130 ev18130 lv18130 uv18130 => ?_)
    refine ev_goto f68_28 ?_
    refine ev_ret rfl (by decide) (by decide) ?_
    show jEv _ _ _ _ _ _ _ (_, [(2, 7), (2, 1), (0, 10), (0, a3), (9, 0), (9, 0), (9, 0)], [(0, v18130)], _, _, _)
    refine ev_bipush ?_
    refine ev_isub (r := (v18130 - 97)) (by unfold w32; omega) ?_
    refine ev_istore (L' := [(2, 7), (2, 1), (0, 10), (0, a3), (0, (v18130 - 97)), (9, 0), (9, 0)]) (Nat.le_of_ble_eq_true rfl) rfl ?_
    refine ev_aload_n rfl ?_
    refine ev_iload rfl ?_
    refine ev_in (d := 6) (a := 0) (b := 0) (cd' := c140_0) (m := 2) (L0 := [(2, 1), (0, (v18130 - 97))]) (jcall_v (A := [(0, (v18130 - 97))]) (S' := []) (r := 1) rfl (g18122.lt ad1) (g18122.tg ad1) (Nat.le_of_ble_eq_true rfl)) (by decide) ml140 pp140 (Nat.le_of_ble_eq_true rfl) rfl (by decide) (by decide) ?_
    refine ev_iload_n rfl ?_
    refine ev_iflt f140_16 (fun c18131 => ?_) (fun c18131 => ?_)
    · refine ev_iconst ?_
      refine ev_ret rfl (by decide) (by decide) ?_
      show jEv _ _ _ _ _ _ _ (_, [(2, 7), (2, 1), (0, 10), (0, a3), (0, (v18130 - 97)), (9, 0), (9, 0)], [(0, 0)], _, _, _)
      refine ev_ifeq f79_37 (fun c18132 => ?_) (fun c18132 => absurd c18132 (by omega))
      refine ev_aload_n rfl ?_
      refine ev_in (d := 6) (a := 0) (b := 0) (cd' := c70_0) (m := 1) (L0 := [(2, 7)]) (jcall_v (A := []) (S' := []) (r := 7) rfl (g18122.lt ad7) (g18122.tg ad7) (Nat.le_of_ble_eq_true rfl)) (by decide) ml70 pp70 (Nat.le_of_ble_eq_true rfl) rfl (by decide) (by decide) ?_
      refine ev_aload_n rfl ?_
      refine g_getv (r := 7) (v := w0) g18122 ad7 (by decide) ft5_1 (((jw_ne e18122 (Or.inr (by decide))).trans ew0)) ?_
      refine ev_ifge f70_15 (fun c18133 => ?_) (fun c18133 => ?_)
      · refine ev_ret rfl (by decide) (by decide) ?_
        show jEv _ _ _ _ _ _ _ (_, [(2, 7), (2, 1), (0, 10), (0, a3), (0, (v18130 - 97)), (9, 0), (9, 0)], [], _, _, _)
        refine ev_iconst ?_
        exact ev_ret rfl (by decide) (by decide) ⟨_, _, rfl, by omega, by omega, g18122, k18122, (((jw_ne e18122 (Or.inr (by decide))).trans ew0)), by omega, by omega⟩
      · refine ev_aload_n rfl ?_
        refine ev_aload_n rfl ?_
        refine g_getv (r := 7) (v := (w1 + 1)) g18122 ad7 (by decide) ft5_2 ((jw_eq e18122)) ?_
        refine g_putf (r := 7) g18122 ad7 (by decide) ft5_1 (by decide) (fun e => absurd e nz5_1) rf7_1 (by decide) (by omega) (by omega) (fun h18134 e18134 g18134 => ?_)
        have k18134 := k18122.wr e18134 rfl
        refine ev_ret rfl (by decide) (by decide) ?_
        show jEv _ _ _ _ _ _ _ (_, [(2, 7), (2, 1), (0, 10), (0, a3), (0, (v18130 - 97)), (9, 0), (9, 0)], [], _, _, _)
        refine ev_iconst ?_
        exact ev_ret rfl (by decide) (by decide) ⟨_, _, rfl, by omega, by omega, g18134, k18134, ((jw_eq e18134)), by omega, by omega⟩
    · refine ev_iload_n rfl ?_
      refine ev_aload_n rfl ?_
      obtain ⟨v18135, ev18135, lv18135, uv18135⟩ := g18122.rd ad1 (show 0 < 8 by decide) rf1_0
      refine g_getv (r := 1) (v := v18135) g18122 ad1 (by decide) ft10_0 ev18135 ?_
      refine ev_icmpge f140_16 (fun c18136 => ?_) (fun c18136 => ?_)
      · refine ev_iconst ?_
        refine ev_ret rfl (by decide) (by decide) ?_
        show jEv _ _ _ _ _ _ _ (_, [(2, 7), (2, 1), (0, 10), (0, a3), (0, (v18130 - 97)), (9, 0), (9, 0)], [(0, 0)], _, _, _)
        refine ev_ifeq f79_37 (fun c18137 => ?_) (fun c18137 => absurd c18137 (by omega))
        refine ev_aload_n rfl ?_
        refine ev_in (d := 6) (a := 0) (b := 0) (cd' := c70_0) (m := 1) (L0 := [(2, 7)]) (jcall_v (A := []) (S' := []) (r := 7) rfl (g18122.lt ad7) (g18122.tg ad7) (Nat.le_of_ble_eq_true rfl)) (by decide) ml70 pp70 (Nat.le_of_ble_eq_true rfl) rfl (by decide) (by decide) ?_
        refine ev_aload_n rfl ?_
        refine g_getv (r := 7) (v := w0) g18122 ad7 (by decide) ft5_1 (((jw_ne e18122 (Or.inr (by decide))).trans ew0)) ?_
        refine ev_ifge f70_15 (fun c18138 => ?_) (fun c18138 => ?_)
        · refine ev_ret rfl (by decide) (by decide) ?_
          show jEv _ _ _ _ _ _ _ (_, [(2, 7), (2, 1), (0, 10), (0, a3), (0, (v18130 - 97)), (9, 0), (9, 0)], [], _, _, _)
          refine ev_iconst ?_
          exact ev_ret rfl (by decide) (by decide) ⟨_, _, rfl, by omega, by omega, g18122, k18122, (((jw_ne e18122 (Or.inr (by decide))).trans ew0)), by omega, by omega⟩
        · refine ev_aload_n rfl ?_
          refine ev_aload_n rfl ?_
          refine g_getv (r := 7) (v := (w1 + 1)) g18122 ad7 (by decide) ft5_2 ((jw_eq e18122)) ?_
          refine g_putf (r := 7) g18122 ad7 (by decide) ft5_1 (by decide) (fun e => absurd e nz5_1) rf7_1 (by decide) (by omega) (by omega) (fun h18139 e18139 g18139 => ?_)
          have k18139 := k18122.wr e18139 rfl
          refine ev_ret rfl (by decide) (by decide) ?_
          show jEv _ _ _ _ _ _ _ (_, [(2, 7), (2, 1), (0, 10), (0, a3), (0, (v18130 - 97)), (9, 0), (9, 0)], [], _, _, _)
          refine ev_iconst ?_
          exact ev_ret rfl (by decide) (by decide) ⟨_, _, rfl, by omega, by omega, g18139, k18139, ((jw_eq e18139)), by omega, by omega⟩
      · refine ev_iconst ?_
        refine ev_goto f140_17 ?_
        refine ev_ret rfl (by decide) (by decide) ?_
        show jEv _ _ _ _ _ _ _ (_, [(2, 7), (2, 1), (0, 10), (0, a3), (0, (v18130 - 97)), (9, 0), (9, 0)], [(0, 1)], _, _, _)
        refine ev_ifeq f79_37 (fun c18140 => absurd c18140 (by omega)) (fun c18140 => ?_)
        refine ev_iload_n rfl ?_
        refine ev_iload rfl ?_
        refine g_ishrG (fun v18141 ev18141 lv18141 uv18141 => ?_)
        refine ev_iconst ?_
        refine g_iandB (b := 1) (by omega) (by omega) (by decide) (fun v18142 ev18142 lv18142 uv18142 => ?_)
        refine ev_ifeq f79_43 (fun c18143 => ?_) (fun c18143 => ?_)
        · refine ev_aload_n rfl ?_
          refine ev_dup (by decide) ?_
          refine g_getv (r := 7) (v := (w1 + 1)) g18122 ad7 (by decide) ft5_2 ((jw_eq e18122)) ?_
          refine ev_iconst ?_
          refine ev_iadd (r := (w1 + 2)) (by unfold w32; omega) ?_
          refine g_putf (r := 7) g18122 ad7 (by decide) ft5_2 (by decide) (fun e => absurd e nz5_2) rf7_2 (by decide) (by omega) (by omega) (fun h18144 e18144 g18144 => ?_)
          have k18144 := k18122.wr e18144 rfl
          refine ev_aload_n rfl ?_
          refine ev_iload_n rfl ?_
          refine ev_call (jcall_v (A := [(0, 10)]) (S' := []) (r := 7) rfl (g18144.lt ad7) (g18144.tg ad7) (Nat.le_of_ble_eq_true rfl)) (jOk_le (by decide) (s72 g18144 (by omega) (by omega) (((jw_ne e18144 (Or.inr (by decide))).trans ((jw_ne e18122 (Or.inr (by decide))).trans ew0))) (by omega) (by omega))) (by decide) (by decide) (fun w18145 h18145 q18145 => ?_)
          obtain ⟨v18146, rfl, g18145, kk18145, ev18146, p18145_0⟩ := q18145
          have bv18146 := g18145.rg ad7 (i := 1) (by decide) rf7_1
          rw [ev18146] at bv18146
          have k18145 := k18144.tr kk18145 (by decide)
          show jEv _ _ _ _ _ _ _ (_, [(2, 7), (2, 1), (0, 10), (0, a3), (0, (v18130 - 97)), (9, 0), (9, 0)], [], _, _, _)
          refine ev_aload_n rfl ?_
          refine ev_iconst ?_
          refine ev_call (jcall_v (A := [(0, 2)]) (S' := []) (r := 7) rfl (g18145.lt ad7) (g18145.tg ad7) (Nat.le_of_ble_eq_true rfl)) (jOk_le (by decide) (s73 g18145 (by omega) (by omega) (ev18146) (by omega) (by omega))) (by decide) (by decide) (fun w18147 h18147 q18147 => ?_)
          obtain ⟨v18149, v18148, rfl, lv18149, uv18149, g18147, kk18147, ev18148, p18147_0, p18147_1⟩ := q18147
          have bv18148 := g18147.rg ad7 (i := 1) (by decide) rf7_1
          rw [ev18148] at bv18148
          have k18147 := k18145.tr kk18147 (by decide)
          show jEv _ _ _ _ _ _ _ (_, [(2, 7), (2, 1), (0, 10), (0, a3), (0, (v18130 - 97)), (9, 0), (9, 0)], [(0, v18149)], _, _, _)
          refine ev_istore (L' := [(2, 7), (2, 1), (0, 10), (0, a3), (0, (v18130 - 97)), (0, v18149), (9, 0)]) (Nat.le_of_ble_eq_true rfl) rfl ?_
          refine ev_iconst ?_
          refine ev_istore (L' := [(2, 7), (2, 1), (0, 10), (0, a3), (0, (v18130 - 97)), (0, v18149), (0, 0)]) (Nat.le_of_ble_eq_true rfl) rfl ?_
          exact (s79_10_l la3 ua3 ew0 lw0 uw0 ew1 lw1 uw1 8) _ _ _ _ _ g18147 k18147 (by omega) (by omega) (by omega) (by omega) (by omega) (by omega) (by omega) (by omega) (by omega) (by omega) (ev18148) (by omega) (by omega) (by omega)
        · refine ev_aload_n rfl ?_
          refine ev_in (d := 6) (a := 0) (b := 0) (cd' := c70_0) (m := 1) (L0 := [(2, 7)]) (jcall_v (A := []) (S' := []) (r := 7) rfl (g18122.lt ad7) (g18122.tg ad7) (Nat.le_of_ble_eq_true rfl)) (by decide) ml70 pp70 (Nat.le_of_ble_eq_true rfl) rfl (by decide) (by decide) ?_
          refine ev_aload_n rfl ?_
          refine g_getv (r := 7) (v := w0) g18122 ad7 (by decide) ft5_1 (((jw_ne e18122 (Or.inr (by decide))).trans ew0)) ?_
          refine ev_ifge f70_15 (fun c18150 => ?_) (fun c18150 => ?_)
          · refine ev_ret rfl (by decide) (by decide) ?_
            show jEv _ _ _ _ _ _ _ (_, [(2, 7), (2, 1), (0, 10), (0, a3), (0, (v18130 - 97)), (9, 0), (9, 0)], [], _, _, _)
            refine ev_iconst ?_
            exact ev_ret rfl (by decide) (by decide) ⟨_, _, rfl, by omega, by omega, g18122, k18122, (((jw_ne e18122 (Or.inr (by decide))).trans ew0)), by omega, by omega⟩
          · refine ev_aload_n rfl ?_
            refine ev_aload_n rfl ?_
            refine g_getv (r := 7) (v := (w1 + 1)) g18122 ad7 (by decide) ft5_2 ((jw_eq e18122)) ?_
            refine g_putf (r := 7) g18122 ad7 (by decide) ft5_1 (by decide) (fun e => absurd e nz5_1) rf7_1 (by decide) (by omega) (by omega) (fun h18151 e18151 g18151 => ?_)
            have k18151 := k18122.wr e18151 rfl
            refine ev_ret rfl (by decide) (by decide) ?_
            show jEv _ _ _ _ _ _ _ (_, [(2, 7), (2, 1), (0, 10), (0, a3), (0, (v18130 - 97)), (9, 0), (9, 0)], [], _, _, _)
            refine ev_iconst ?_
            exact ev_ret rfl (by decide) (by decide) ⟨_, _, rfl, by omega, by omega, g18151, k18151, ((jw_eq e18151)), by omega, by omega⟩
/-! s74_10  -/
set_option maxHeartbeats 4000000 in
theorem s74_10 {G : GH} {h : JH} (g : Gd G h) {a3 : Int} (la3 : (-2147483648) ≤ a3) (ua3 : a3 ≤ 2147483647) {w0 : Int} (ew0 : h.2.2 7 1 = w0) (lw0 : (-1) ≤ w0) (uw0 : w0 ≤ 200) : jOk 9 0 0 74 [(2, 7), (2, 1), (0, 10), (0, a3)] h (fun v h' => ∃ r F : Int, v = some (0, r) ∧ (-1) ≤ r ∧ r ≤ 199 ∧ Gd G h' ∧ Kp [(7, 2), (7, 3), (7, 4), (10, 0), (11, 0), (12, 0), (13, 0), (14, 0), (15, 0), (16, 0), (17, 0)] h h' ∧ h'.2.2 7 1 = F ∧ ((-F) + w0) ≤ 0 ∧ ((-F) + (-r)) ≤ 1) := by
  refine ⟨by decide, by rw [ml74]; exact Nat.le_of_ble_eq_true rfl, ?_⟩
  rw [ml74, pp74]
  show jEv _ none _ c74_0 0 0 _ (c74_0, [(2, 7), (2, 1), (0, 10), (0, a3), (9, 0)], [], h, 0, 0)
  have k0 := Kp.rf [(7, 2), (7, 3), (7, 4), (10, 0), (11, 0), (12, 0), (13, 0), (14, 0), (15, 0), (16, 0), (17, 0)] h
  refine ev_aload_n rfl ?_
  refine g_getv (r := 7) (v := w0) g ad7 (by decide) ft5_1 (ew0) ?_
  refine ev_ifge f74_13 (fun c18218 => ?_) (fun c18218 => ?_)
  · refine ev_aload_n rfl ?_
    refine ev_in (d := 7) (a := 0) (b := 0) (cd' := c70_0) (m := 1) (L0 := [(2, 7)]) (jcall_v (A := []) (S' := []) (r := 7) rfl (g.lt ad7) (g.tg ad7) (Nat.le_of_ble_eq_true rfl)) (by decide) ml70 pp70 (Nat.le_of_ble_eq_true rfl) rfl (by decide) (by decide) ?_
    refine ev_aload_n rfl ?_
    refine g_getv (r := 7) (v := w0) g ad7 (by decide) ft5_1 (ew0) ?_
    refine ev_ifge f70_15 (fun c18219 => ?_) (fun c18219 => absurd c18219 (by omega))
    refine ev_ret rfl (by decide) (by decide) ?_
    show jEv _ _ _ _ _ _ _ (_, [(2, 7), (2, 1), (0, 10), (0, a3), (9, 0)], [], _, _, _)
    refine ev_iconst ?_
    exact ev_ret rfl (by decide) (by decide) ⟨_, _, rfl, by omega, by omega, g, k0, (ew0), by omega, by omega⟩
  · refine ev_iload_n rfl ?_
    refine ev_bipush ?_
    refine ev_icmple f74_19 (fun c18220 => ?_) (fun c18220 => absurd c18220 (by omega))
    refine ev_aload_n rfl ?_
    refine ev_in (d := 7) (a := 0) (b := 0) (cd' := c68_0) (m := 1) (L0 := [(2, 7)]) (jcall_v (A := []) (S' := []) (r := 7) rfl (g.lt ad7) (g.tg ad7) (Nat.le_of_ble_eq_true rfl)) (by decide) ml68 pp68 (Nat.le_of_ble_eq_true rfl) rfl (by decide) (by decide) ?_
    refine ev_aload_n rfl ?_
    obtain ⟨v18221, ev18221, lv18221, uv18221⟩ := g.rd ad7 (show 2 < 15 by decide) rf7_2
    refine g_getv (r := 7) (v := v18221) g ad7 (by decide) ft5_2 ev18221 ?_
    refine ev_aload_n rfl ?_
    obtain ⟨v18222, ev18222, lv18222, uv18222⟩ := g.rd ad7 (show 0 < 15 by decide) rf7_0
    refine g_getv (r := 7) (v := v18222) g ad7 (by decide) ft5_0 ev18222 ?_
    refine ev_icmpge f68_27 (fun c18223 => ?_) (fun c18223 => ?_)
    · refine ev_iconst ?_
      refine ev_ret rfl (by decide) (by decide) ?_
      show jEv _ _ _ _ _ _ _ (_, [(2, 7), (2, 1), (0, 10), (0, a3), (9, 0)], [(0, (-1))], _, _, _)
      refine ev_istore (L' := [(2, 7), (2, 1), (0, 10), (0, a3), (0, (-1))]) (Nat.le_of_ble_eq_true rfl) rfl ?_
      refine ev_iload rfl ?_
      refine ev_bipush ?_
      refine ev_icmpne f74_40 (fun c18224 => ?_) (fun c18224 => absurd c18224 (by omega))
      refine ev_iload rfl ?_
      refine ev_bipush ?_
      refine ev_icmpne f74_55 (fun c18225 => ?_) (fun c18225 => absurd c18225 (by omega))
      refine ev_iload rfl ?_
      refine ev_bipush ?_
      refine ev_icmplt f74_78 (fun c18226 => ?_) (fun c18226 => absurd c18226 (by omega))
      refine ev_aload_n rfl ?_
      refine ev_call (jcall_v (A := []) (S' := []) (r := 7) rfl (g.lt ad7) (g.tg ad7) (Nat.le_of_ble_eq_true rfl)) (jOk_le (by decide) (s75 g (ew0) (by omega) (by omega))) (by decide) (by decide) (fun w18227 h18227 q18227 => ?_)
      obtain ⟨v18229, v18228, rfl, lv18229, uv18229, g18227, kk18227, ev18228, p18227_0, p18227_1⟩ := q18227
      have bv18228 := g18227.rg ad7 (i := 1) (by decide) rf7_1
      rw [ev18228] at bv18228
      have k18227 := k0.tr kk18227 (by decide)
      show jEv _ _ _ _ _ _ _ (_, [(2, 7), (2, 1), (0, 10), (0, a3), (0, (-1))], [(0, v18229)], _, _, _)
      exact ev_ret rfl (by decide) (by decide) ⟨_, _, rfl, by omega, by omega, g18227, k18227, (ev18228), by omega, by omega⟩
    · refine ev_aload_n rfl ?_
      refine g_getp (r := 7) (c := 8) g ad7 (by decide) (by decide) rf7_5 ft5_5 ?_
      refine ev_aload_n rfl ?_
      refine g_getv (r := 7) (v := v18221) g ad7 (by decide) ft5_2 (ev18221) ?_
      refine g_bald g ad8 rt8 (by omega) (by omega) (fun v18230 ev18230 lv18230 uv18230 => ?_)
      refine ev_sipush ?_
      refine g_iandB (b := 255) (by omega) (by omega) (by decide) (fun v18231 ev18231 lv18231 uv18231 => ?_)
      refine ev_goto f68_28 ?_
      refine ev_ret rfl (by decide) (by decide) ?_
      show jEv _ _ _ _ _ _ _ (_, [(2, 7), (2, 1), (0, 10), (0, a3), (9, 0)], [(0, v18231)], _, _, _)
      refine ev_istore (L' := [(2, 7), (2, 1), (0, 10), (0, a3), (0, v18231)]) (Nat.le_of_ble_eq_true rfl) rfl ?_
      refine ev_iload rfl ?_
      refine ev_bipush ?_
      refine ev_icmpne f74_40 (fun c18232 => ?_) (fun c18232 => ?_)
      · refine ev_iload rfl ?_
        refine ev_bipush ?_
        refine ev_icmpne f74_55 (fun c18233 => ?_) (fun c18233 => ?_)
        · refine ev_iload rfl ?_
          refine ev_bipush ?_
          refine ev_icmplt f74_78 (fun c18234 => ?_) (fun c18234 => ?_)
          · refine ev_aload_n rfl ?_
            refine ev_call (jcall_v (A := []) (S' := []) (r := 7) rfl (g.lt ad7) (g.tg ad7) (Nat.le_of_ble_eq_true rfl)) (jOk_le (by decide) (s75 g (ew0) (by omega) (by omega))) (by decide) (by decide) (fun w18235 h18235 q18235 => ?_)
            obtain ⟨v18237, v18236, rfl, lv18237, uv18237, g18235, kk18235, ev18236, p18235_0, p18235_1⟩ := q18235
            have bv18236 := g18235.rg ad7 (i := 1) (by decide) rf7_1
            rw [ev18236] at bv18236
            have k18235 := k0.tr kk18235 (by decide)
            show jEv _ _ _ _ _ _ _ (_, [(2, 7), (2, 1), (0, 10), (0, a3), (0, v18231)], [(0, v18237)], _, _, _)
            exact ev_ret rfl (by decide) (by decide) ⟨_, _, rfl, by omega, by omega, g18235, k18235, (ev18236), by omega, by omega⟩
          · refine ev_iload rfl ?_
            refine ev_bipush ?_
            refine ev_icmpge f74_78 (fun c18238 => ?_) (fun c18238 => ?_)
            · refine ev_aload_n rfl ?_
              refine ev_call (jcall_v (A := []) (S' := []) (r := 7) rfl (g.lt ad7) (g.tg ad7) (Nat.le_of_ble_eq_true rfl)) (jOk_le (by decide) (s75 g (ew0) (by omega) (by omega))) (by decide) (by decide) (fun w18239 h18239 q18239 => ?_)
              obtain ⟨v18241, v18240, rfl, lv18241, uv18241, g18239, kk18239, ev18240, p18239_0, p18239_1⟩ := q18239
              have bv18240 := g18239.rg ad7 (i := 1) (by decide) rf7_1
              rw [ev18240] at bv18240
              have k18239 := k0.tr kk18239 (by decide)
              show jEv _ _ _ _ _ _ _ (_, [(2, 7), (2, 1), (0, 10), (0, a3), (0, v18231)], [(0, v18241)], _, _, _)
              exact ev_ret rfl (by decide) (by decide) ⟨_, _, rfl, by omega, by omega, g18239, k18239, (ev18240), by omega, by omega⟩
            · refine ev_aload_n rfl ?_
              refine ev_iload_n rfl ?_
              refine ev_iload_n rfl ?_
              refine ev_call (jcall_v (A := [(0, a3), (0, 10)]) (S' := []) (r := 7) rfl (g.lt ad7) (g.tg ad7) (Nat.le_of_ble_eq_true rfl)) (jOk_le (by decide) (s77 g (by omega) (by omega) (by omega) (by omega) (ew0) (by omega) (by omega))) (by decide) (by decide) (fun w18242 h18242 q18242 => ?_)
              obtain ⟨v18244, v18243, rfl, lv18244, uv18244, g18242, kk18242, ev18243, p18242_0, p18242_1⟩ := q18242
              have bv18243 := g18242.rg ad7 (i := 1) (by decide) rf7_1
              rw [ev18243] at bv18243
              have k18242 := k0.tr kk18242 (by decide)
              show jEv _ _ _ _ _ _ _ (_, [(2, 7), (2, 1), (0, 10), (0, a3), (0, v18231)], [(0, v18244)], _, _, _)
              refine ev_goto f74_82 ?_
              exact ev_ret rfl (by decide) (by decide) ⟨_, _, rfl, by omega, by omega, g18242, k18242, (ev18243), by omega, by omega⟩
        · refine ev_aload_n rfl ?_
          refine ev_aload_n rfl ?_
          refine ev_iload_n rfl ?_
          refine ev_iload_n rfl ?_
          refine ev_call (jcall_v (A := [(0, a3), (0, 10), (2, 1)]) (S' := []) (r := 7) rfl (g.lt ad7) (g.tg ad7) (Nat.le_of_ble_eq_true rfl)) (jOk_le (by decide) (s79_10 g (by omega) (by omega) (ew0) (by omega) (by omega) (ev18221) (by omega) (by omega))) (by decide) (by decide) (fun w18245 h18245 q18245 => ?_)
          obtain ⟨v18247, v18246, rfl, lv18247, uv18247, g18245, kk18245, ev18246, p18245_0, p18245_1⟩ := q18245
          have bv18246 := g18245.rg ad7 (i := 1) (by decide) rf7_1
          rw [ev18246] at bv18246
          have k18245 := k0.tr kk18245 (by decide)
          show jEv _ _ _ _ _ _ _ (_, [(2, 7), (2, 1), (0, 10), (0, a3), (0, v18231)], [(0, v18247)], _, _, _)
          exact ev_ret rfl (by decide) (by decide) ⟨_, _, rfl, by omega, by omega, g18245, k18245, (ev18246), by omega, by omega⟩
      · refine ev_aload_n rfl ?_
        refine ev_aload_n rfl ?_
        refine ev_iload_n rfl ?_
        refine ev_iload_n rfl ?_
        refine ev_call (jcall_v (A := [(0, a3), (0, 10), (2, 1)]) (S' := []) (r := 7) rfl (g.lt ad7) (g.tg ad7) (Nat.le_of_ble_eq_true rfl)) (jOk_le (by decide) (s78_10 g (by omega) (by omega) (ew0) (by omega) (by omega) (ev18221) (by omega) (by omega))) (by decide) (by decide) (fun w18248 h18248 q18248 => ?_)
        obtain ⟨v18250, v18249, rfl, lv18250, uv18250, g18248, kk18248, ev18249, p18248_0, p18248_1⟩ := q18248
        have bv18249 := g18248.rg ad7 (i := 1) (by decide) rf7_1
        rw [ev18249] at bv18249
        have k18248 := k0.tr kk18248 (by decide)
        show jEv _ _ _ _ _ _ _ (_, [(2, 7), (2, 1), (0, 10), (0, a3), (0, v18231)], [(0, v18250)], _, _, _)
        exact ev_ret rfl (by decide) (by decide) ⟨_, _, rfl, by omega, by omega, g18248, k18248, (ev18249), by omega, by omega⟩
/-! s78_9  -/
set_option maxHeartbeats 4000000 in
theorem s78_9_l {G : GH} {h : JH} {a3 : Int} (la3 : (-2147483648) ≤ a3) (ua3 : a3 ≤ 2147483647) {w0 : Int} (ew0 : h.2.2 7 1 = w0) (lw0 : (-1) ≤ w0) (uw0 : w0 ≤ 200) {w1 : Int} (ew1 : h.2.2 7 2 = w1) (lw1 : 0 ≤ w1) (uw1 : w1 ≤ 199) : ∀ N : Nat, (∀ (h1 : JH) (x4 x5 y0 : Int) (j6 : AV), Gd G h1 → Kp [(7, 2), (7, 3), (7, 4), (10, 0), (11, 0), (12, 0), (13, 0), (14, 0), (15, 0), (16, 0), (17, 0)] h h1 → (-2147483648) ≤ a3 → a3 ≤ 2147483647 → (-1) ≤ x4 → x4 ≤ 199 → 0 ≤ x5 → x5 ≤ 3 → (w0 + (-y0)) ≤ 0 → ((-x4) + (-y0)) ≤ 1 → h1.2.2 7 1 = y0 → (-1) ≤ y0 → y0 ≤ 200 → ((-x5) + 3) < N → jEv (jOk 9) none (fun _ => 0) c78_0 0 0 (fun v h' => ∃ r F : Int, v = some (0, r) ∧ (-1) ≤ r ∧ r ≤ 199 ∧ Gd G h' ∧ Kp [(7, 2), (7, 3), (7, 4), (10, 0), (11, 0), (12, 0), (13, 0), (14, 0), (15, 0), (16, 0), (17, 0)] h h' ∧ h'.2.2 7 1 = F ∧ ((-F) + w0) ≤ 0 ∧ ((-F) + (-r)) ≤ 1) (c78_25, [(2, 7), (2, 1), (0, 9), (0, a3), (0, x4), (0, x5), j6], [], h1, 0, 0)) := by
  intro N
  induction N with
  | zero => exact fun h1 x4 x5 y0 j6 g1 k1 b0 b1 b2 b3 b4 b5 b6 b7 b8 b9 b10 hm => absurd hm (by omega)
  | succ N ih =>
    show _
    intro h1 x4 x5 y0 j6 g1 k1 b0 b1 b2 b3 b4 b5 b6 b7 ey0 ly0 uy0 hm
    refine ev_iload rfl ?_
    refine ev_iconst ?_
    refine ev_icmpge f78_100 (fun c18419 => absurd c18419 (by omega)) (fun c18419 => ?_)
    refine ev_aload_n rfl ?_
    refine g_getv (r := 7) (v := y0) g1 ad7 (by decide) ft5_1 (ey0) ?_
    refine ev_ifge f78_100 (fun c18420 => ?_) (fun c18420 => ?_)
    · refine ev_aload_n rfl ?_
      refine ev_bipush ?_
      refine ev_call (jcall_v (A := [(0, 41)]) (S' := []) (r := 7) rfl (g1.lt ad7) (g1.tg ad7) (Nat.le_of_ble_eq_true rfl)) (jOk_le (by decide) (s71 g1 (by omega) (by omega) (ey0) (by omega) (by omega))) (by decide) (by decide) (fun w18421 h18421 q18421 => ?_)
      obtain ⟨v18422, rfl, g18421, kk18421, ev18422, p18421_0⟩ := q18421
      have bv18422 := g18421.rg ad7 (i := 1) (by decide) rf7_1
      rw [ev18422] at bv18422
      have k18421 := k1.tr kk18421 (by decide)
      show jEv _ _ _ _ _ _ _ (_, [(2, 7), (2, 1), (0, 9), (0, a3), (0, x4), (0, x5), j6], [], _, _, _)
      refine ev_aload_n rfl ?_
      refine g_getv (r := 7) (v := v18422) g18421 ad7 (by decide) ft5_1 (ev18422) ?_
      refine ev_iflt f78_117 (fun c18423 => absurd c18423 (by omega)) (fun c18423 => ?_)
      refine ev_iconst ?_
      refine ev_goto f78_119 ?_
      exact ev_ret rfl (by decide) (by decide) ⟨_, _, rfl, by omega, by omega, g18421, k18421, (ev18422), by omega, by omega⟩
    · refine ev_aload_n rfl ?_
      refine ev_iconst ?_
      refine ev_call (jcall_v (A := [(0, 2)]) (S' := []) (r := 7) rfl (g1.lt ad7) (g1.tg ad7) (Nat.le_of_ble_eq_true rfl)) (jOk_le (by decide) (s76 g1 (by omega) (by omega) (ey0) (by omega) (by omega))) (by decide) (by decide) (fun w18424 h18424 q18424 => ?_)
      obtain ⟨v18426, v18425, rfl, lv18426, uv18426, g18424, kk18424, ev18425, p18424_0⟩ := q18424
      have bv18425 := g18424.rg ad7 (i := 1) (by decide) rf7_1
      rw [ev18425] at bv18425
      have k18424 := k1.tr kk18424 (by decide)
      show jEv _ _ _ _ _ _ _ (_, [(2, 7), (2, 1), (0, 9), (0, a3), (0, x4), (0, x5), j6], [(0, v18426)], _, _, _)
      refine ev_istore (L' := [(2, 7), (2, 1), (0, 9), (0, a3), (0, x4), (0, x5), (0, v18426)]) (Nat.le_of_ble_eq_true rfl) rfl ?_
      refine ev_aload_n rfl ?_
      refine ev_bipush ?_
      refine ev_call (jcall_v (A := [(0, 58)]) (S' := []) (r := 7) rfl (g18424.lt ad7) (g18424.tg ad7) (Nat.le_of_ble_eq_true rfl)) (jOk_le (by decide) (s71 g18424 (by omega) (by omega) (ev18425) (by omega) (by omega))) (by decide) (by decide) (fun w18427 h18427 q18427 => ?_)
      obtain ⟨v18428, rfl, g18427, kk18427, ev18428, p18427_0⟩ := q18427
      have bv18428 := g18427.rg ad7 (i := 1) (by decide) rf7_1
      rw [ev18428] at bv18428
      have k18427 := k18424.tr kk18427 (by decide)
      show jEv _ _ _ _ _ _ _ (_, [(2, 7), (2, 1), (0, 9), (0, a3), (0, x4), (0, x5), (0, v18426)], [], _, _, _)
      refine ev_aload_n rfl ?_
      refine ev_iload rfl ?_
      refine ev_iload rfl ?_
      refine ev_iload rfl ?_
      refine ev_aload_n rfl ?_
      refine ev_aload_n rfl ?_
      refine ev_iload_n rfl ?_
      refine ev_iconst ?_
      refine ev_iadd (r := 10) (by decide) ?_
      refine ev_iload_n rfl ?_
      refine ev_call (jcall_v (A := [(0, a3), (0, 10), (2, 1)]) (S' := [(0, v18426), (0, x5), (0, x4), (2, 7)]) (r := 7) rfl (g18427.lt ad7) (g18427.tg ad7) (Nat.le_of_ble_eq_true rfl)) (jOk_le (by decide) (s74_10 g18427 (by omega) (by omega) (ev18428) (by omega) (by omega))) (by decide) (by decide) (fun w18429 h18429 q18429 => ?_)
      obtain ⟨v18431, v18430, rfl, lv18431, uv18431, g18429, kk18429, ev18430, p18429_0, p18429_1⟩ := q18429
      have bv18430 := g18429.rg ad7 (i := 1) (by decide) rf7_1
      rw [ev18430] at bv18430
      have k18429 := k18427.tr kk18429 (by decide)
      show jEv _ _ _ _ _ _ _ (_, [(2, 7), (2, 1), (0, 9), (0, a3), (0, x4), (0, x5), (0, v18426)], [(0, v18431), (0, v18426), (0, x5), (0, x4), (2, 7)], _, _, _)
      refine ev_call (jcall_v (A := [(0, v18431), (0, v18426), (0, x5), (0, x4)]) (S' := []) (r := 7) rfl (g18429.lt ad7) (g18429.tg ad7) (Nat.le_of_ble_eq_true rfl)) (jOk_le (by decide) (s80 g18429 (by omega) (by omega) (by omega) (by omega) (by omega) (by omega) (by omega) (by omega))) (by decide) (by decide) (fun w18432 h18432 q18432 => ?_)
      obtain ⟨rfl, g18432, kk18432⟩ := q18432
      have k18432 := k18429.tr kk18432 (by decide)
      show jEv _ _ _ _ _ _ _ (_, [(2, 7), (2, 1), (0, 9), (0, a3), (0, x4), (0, x5), (0, v18426)], [], _, _, _)
      refine ev_aload_n rfl ?_
      refine ev_in (d := 8) (a := 0) (b := 0) (cd' := c68_0) (m := 1) (L0 := [(2, 7)]) (jcall_v (A := []) (S' := []) (r := 7) rfl (g18432.lt ad7) (g18432.tg ad7) (Nat.le_of_ble_eq_true rfl)) (by decide) ml68 pp68 (Nat.le_of_ble_eq_true rfl) rfl (by decide) (by decide) ?_
      refine ev_aload_n rfl ?_
      obtain ⟨v18433, ev18433, lv18433, uv18433⟩ := g18432.rd ad7 (show 2 < 15 by decide) rf7_2
      refine g_getv (r := 7) (v := v18433) g18432 ad7 (by decide) ft5_2 ev18433 ?_
      refine ev_aload_n rfl ?_
      obtain ⟨v18434, ev18434, lv18434, uv18434⟩ := g18432.rd ad7 (show 0 < 15 by decide) rf7_0
      refine g_getv (r := 7) (v := v18434) g18432 ad7 (by decide) ft5_0 ev18434 ?_
      refine ev_icmpge f68_27 (fun c18435 => ?_) (fun c18435 => ?_)
      · refine ev_iconst ?_
        refine ev_ret rfl (by decide) (by decide) ?_
        show jEv _ _ _ _ _ _ _ (_, [(2, 7), (2, 1), (0, 9), (0, a3), (0, x4), (0, x5), (0, v18426)], [(0, (-1))], _, _, _)
        refine ev_bipush ?_
        refine ev_icmpne f78_100 (fun c18436 => ?_) (fun c18436 => absurd c18436 (by omega))
        refine ev_aload_n rfl ?_
        refine ev_bipush ?_
        refine ev_call (jcall_v (A := [(0, 41)]) (S' := []) (r := 7) rfl (g18432.lt ad7) (g18432.tg ad7) (Nat.le_of_ble_eq_true rfl)) (jOk_le (by decide) (s71 g18432 (by omega) (by omega) (((kk18432.v (by decide)).trans ev18430)) (by omega) (by omega))) (by decide) (by decide) (fun w18437 h18437 q18437 => ?_)
        obtain ⟨v18438, rfl, g18437, kk18437, ev18438, p18437_0⟩ := q18437
        have bv18438 := g18437.rg ad7 (i := 1) (by decide) rf7_1
        rw [ev18438] at bv18438
        have k18437 := k18432.tr kk18437 (by decide)
        show jEv _ _ _ _ _ _ _ (_, [(2, 7), (2, 1), (0, 9), (0, a3), (0, x4), (0, x5), (0, v18426)], [], _, _, _)
        refine ev_aload_n rfl ?_
        refine g_getv (r := 7) (v := v18438) g18437 ad7 (by decide) ft5_1 (ev18438) ?_
        refine ev_iflt f78_117 (fun c18439 => ?_) (fun c18439 => ?_)
        · refine ev_iload rfl ?_
          exact ev_ret rfl (by decide) (by decide) ⟨_, _, rfl, by omega, by omega, g18437, k18437, (ev18438), by omega, by omega⟩
        · refine ev_iconst ?_
          refine ev_goto f78_119 ?_
          exact ev_ret rfl (by decide) (by decide) ⟨_, _, rfl, by omega, by omega, g18437, k18437, (ev18438), by omega, by omega⟩
      · refine ev_aload_n rfl ?_
        refine g_getp (r := 7) (c := 8) g18432 ad7 (by decide) (by decide) rf7_5 ft5_5 ?_
        refine ev_aload_n rfl ?_
        refine g_getv (r := 7) (v := v18433) g18432 ad7 (by decide) ft5_2 (ev18433) ?_
        refine g_bald g18432 ad8 rt8 (by omega) (by omega) (fun v18440 ev18440 lv18440 uv18440 => ?_)
        refine ev_sipush ?_
        refine g_iandB (b := 255) (by omega) (by omega) (by decide) (fun v18441 ev18441 lv18441 uv18441 => ?_)
        refine ev_goto f68_28 ?_
        refine ev_ret rfl (by decide) (by decide) ?_
        show jEv _ _ _ _ _ _ _ (_, [(2, 7), (2, 1), (0, 9), (0, a3), (0, x4), (0, x5), (0, v18426)], [(0, v18441)], _, _, _)
        refine ev_bipush ?_
        refine ev_icmpne f78_100 (fun c18442 => ?_) (fun c18442 => ?_)
        · refine ev_aload_n rfl ?_
          refine ev_bipush ?_
          refine ev_call (jcall_v (A := [(0, 41)]) (S' := []) (r := 7) rfl (g18432.lt ad7) (g18432.tg ad7) (Nat.le_of_ble_eq_true rfl)) (jOk_le (by decide) (s71 g18432 (by omega) (by omega) (((kk18432.v (by decide)).trans ev18430)) (by omega) (by omega))) (by decide) (by decide) (fun w18443 h18443 q18443 => ?_)
          obtain ⟨v18444, rfl, g18443, kk18443, ev18444, p18443_0⟩ := q18443
          have bv18444 := g18443.rg ad7 (i := 1) (by decide) rf7_1
          rw [ev18444] at bv18444
          have k18443 := k18432.tr kk18443 (by decide)
          show jEv _ _ _ _ _ _ _ (_, [(2, 7), (2, 1), (0, 9), (0, a3), (0, x4), (0, x5), (0, v18426)], [], _, _, _)
          refine ev_aload_n rfl ?_
          refine g_getv (r := 7) (v := v18444) g18443 ad7 (by decide) ft5_1 (ev18444) ?_
          refine ev_iflt f78_117 (fun c18445 => ?_) (fun c18445 => ?_)
          · refine ev_iload rfl ?_
            exact ev_ret rfl (by decide) (by decide) ⟨_, _, rfl, by omega, by omega, g18443, k18443, (ev18444), by omega, by omega⟩
          · refine ev_iconst ?_
            refine ev_goto f78_119 ?_
            exact ev_ret rfl (by decide) (by decide) ⟨_, _, rfl, by omega, by omega, g18443, k18443, (ev18444), by omega, by omega⟩
        · refine ev_iload rfl ?_
          refine ev_iconst ?_
          refine ev_icmpne f78_88 (fun c18446 => ?_) (fun c18446 => ?_)
          · refine ev_aload_n rfl ?_
            refine ev_bipush ?_
            refine ev_call (jcall_v (A := [(0, 44)]) (S' := []) (r := 7) rfl (g18432.lt ad7) (g18432.tg ad7) (Nat.le_of_ble_eq_true rfl)) (jOk_le (by decide) (s71 g18432 (by omega) (by omega) (((kk18432.v (by decide)).trans ev18430)) (by omega) (by omega))) (by decide) (by decide) (fun w18447 h18447 q18447 => ?_)
            obtain ⟨v18448, rfl, g18447, kk18447, ev18448, p18447_0⟩ := q18447
            have bv18448 := g18447.rg ad7 (i := 1) (by decide) rf7_1
            rw [ev18448] at bv18448
            have k18447 := k18432.tr kk18447 (by decide)
            show jEv _ _ _ _ _ _ _ (_, [(2, 7), (2, 1), (0, 9), (0, a3), (0, x4), (0, x5), (0, v18426)], [], _, _, _)
            refine ev_iinc (w := (x5 + 1)) (L' := [(2, 7), (2, 1), (0, 9), (0, a3), (0, x4), (0, (x5 + 1)), (0, v18426)]) rfl (by unfold w32; omega) rfl ?_
            refine ev_goto f78_25 ?_
            exact ih _ _ _ _ _ g18447 k18447 (by omega) (by omega) (by omega) (by omega) (by omega) (by omega) (by omega) (by omega) (ev18448) (by omega) (by omega) (by omega)
          · refine ev_goto f78_100 ?_
            refine ev_aload_n rfl ?_
            refine ev_bipush ?_
            refine ev_call (jcall_v (A := [(0, 41)]) (S' := []) (r := 7) rfl (g18432.lt ad7) (g18432.tg ad7) (Nat.le_of_ble_eq_true rfl)) (jOk_le (by decide) (s71 g18432 (by omega) (by omega) (((kk18432.v (by decide)).trans ev18430)) (by omega) (by omega))) (by decide) (by decide) (fun w18449 h18449 q18449 => ?_)
            obtain ⟨v18450, rfl, g18449, kk18449, ev18450, p18449_0⟩ := q18449
            have bv18450 := g18449.rg ad7 (i := 1) (by decide) rf7_1
            rw [ev18450] at bv18450
            have k18449 := k18432.tr kk18449 (by decide)
            show jEv _ _ _ _ _ _ _ (_, [(2, 7), (2, 1), (0, 9), (0, a3), (0, x4), (0, x5), (0, v18426)], [], _, _, _)
            refine ev_aload_n rfl ?_
            refine g_getv (r := 7) (v := v18450) g18449 ad7 (by decide) ft5_1 (ev18450) ?_
            refine ev_iflt f78_117 (fun c18451 => ?_) (fun c18451 => ?_)
            · refine ev_iload rfl ?_
              exact ev_ret rfl (by decide) (by decide) ⟨_, _, rfl, by omega, by omega, g18449, k18449, (ev18450), by omega, by omega⟩
            · refine ev_iconst ?_
              refine ev_goto f78_119 ?_
              exact ev_ret rfl (by decide) (by decide) ⟨_, _, rfl, by omega, by omega, g18449, k18449, (ev18450), by omega, by omega⟩
set_option maxHeartbeats 4000000 in
theorem s78_9 {G : GH} {h : JH} (g : Gd G h) {a3 : Int} (la3 : (-2147483648) ≤ a3) (ua3 : a3 ≤ 2147483647) {w0 : Int} (ew0 : h.2.2 7 1 = w0) (lw0 : (-1) ≤ w0) (uw0 : w0 ≤ 200) {w1 : Int} (ew1 : h.2.2 7 2 = w1) (lw1 : 0 ≤ w1) (uw1 : w1 ≤ 199) : jOk 10 0 0 78 [(2, 7), (2, 1), (0, 9), (0, a3)] h (fun v h' => ∃ r F : Int, v = some (0, r) ∧ (-1) ≤ r ∧ r ≤ 199 ∧ Gd G h' ∧ Kp [(7, 2), (7, 3), (7, 4), (10, 0), (11, 0), (12, 0), (13, 0), (14, 0), (15, 0), (16, 0), (17, 0)] h h' ∧ h'.2.2 7 1 = F ∧ ((-F) + w0) ≤ 0 ∧ ((-F) + (-r)) ≤ 1) := by
  refine ⟨by decide, by rw [ml78]; exact Nat.le_of_ble_eq_true rfl, ?_⟩
  rw [ml78, pp78]
  show jEv _ none _ c78_0 0 0 _ (c78_0, [(2, 7), (2, 1), (0, 9), (0, a3), (9, 0), (9, 0), (9, 0)], [], h, 0, 0)
  have k0 := Kp.rf [(7, 2), (7, 3), (7, 4), (10, 0), (11, 0), (12, 0), (13, 0), (14, 0), (15, 0), (16, 0), (17, 0)] h
  refine ev_aload_n rfl ?_
  refine ev_dup (by decide) ?_
  refine g_getv (r := 7) (v := w1) g ad7 (by decide) ft5_2 (ew1) ?_
  refine ev_iconst ?_
  refine ev_iadd (r := (w1 + 1)) (by unfold w32; omega) ?_
  refine g_putf (r := 7) g ad7 (by decide) ft5_2 (by decide) (fun e => absurd e nz5_2) rf7_2 (by decide) (by omega) (by omega) (fun h18452 e18452 g18452 => ?_)
  have k18452 := k0.wr e18452 rfl
  refine ev_aload_n rfl ?_
  refine ev_iload_n rfl ?_
  refine ev_call (jcall_v (A := [(0, 9)]) (S' := []) (r := 7) rfl (g18452.lt ad7) (g18452.tg ad7) (Nat.le_of_ble_eq_true rfl)) (jOk_le (by decide) (s72 g18452 (by omega) (by omega) (((jw_ne e18452 (Or.inr (by decide))).trans ew0)) (by omega) (by omega))) (by decide) (by decide) (fun w18453 h18453 q18453 => ?_)
  obtain ⟨v18454, rfl, g18453, kk18453, ev18454, p18453_0⟩ := q18453
  have bv18454 := g18453.rg ad7 (i := 1) (by decide) rf7_1
  rw [ev18454] at bv18454
  have k18453 := k18452.tr kk18453 (by decide)
  show jEv _ _ _ _ _ _ _ (_, [(2, 7), (2, 1), (0, 9), (0, a3), (9, 0), (9, 0), (9, 0)], [], _, _, _)
  refine ev_aload_n rfl ?_
  refine ev_iconst ?_
  refine ev_call (jcall_v (A := [(0, 1)]) (S' := []) (r := 7) rfl (g18453.lt ad7) (g18453.tg ad7) (Nat.le_of_ble_eq_true rfl)) (jOk_le (by decide) (s73 g18453 (by omega) (by omega) (ev18454) (by omega) (by omega))) (by decide) (by decide) (fun w18455 h18455 q18455 => ?_)
  obtain ⟨v18457, v18456, rfl, lv18457, uv18457, g18455, kk18455, ev18456, p18455_0, p18455_1⟩ := q18455
  have bv18456 := g18455.rg ad7 (i := 1) (by decide) rf7_1
  rw [ev18456] at bv18456
  have k18455 := k18453.tr kk18455 (by decide)
  show jEv _ _ _ _ _ _ _ (_, [(2, 7), (2, 1), (0, 9), (0, a3), (9, 0), (9, 0), (9, 0)], [(0, v18457)], _, _, _)
  refine ev_istore (L' := [(2, 7), (2, 1), (0, 9), (0, a3), (0, v18457), (9, 0), (9, 0)]) (Nat.le_of_ble_eq_true rfl) rfl ?_
  refine ev_iconst ?_
  refine ev_istore (L' := [(2, 7), (2, 1), (0, 9), (0, a3), (0, v18457), (0, 0), (9, 0)]) (Nat.le_of_ble_eq_true rfl) rfl ?_
  exact (s78_9_l la3 ua3 ew0 lw0 uw0 ew1 lw1 uw1 8) _ _ _ _ _ g18455 k18455 (by omega) (by omega) (by omega) (by omega) (by omega) (by omega) (by omega) (by omega) (ev18456) (by omega) (by omega) (by omega)
/-! s79_9  -/
set_option maxHeartbeats 4000000 in
theorem s79_9_l {G : GH} {h : JH} {a3 : Int} (la3 : (-2147483648) ≤ a3) (ua3 : a3 ≤ 2147483647) {w0 : Int} (ew0 : h.2.2 7 1 = w0) (lw0 : (-1) ≤ w0) (uw0 : w0 ≤ 200) {w1 : Int} (ew1 : h.2.2 7 2 = w1) (lw1 : 0 ≤ w1) (uw1 : w1 ≤ 199) : ∀ N : Nat, (∀ (h1 : JH) (x4 x5 x6 y0 : Int), Gd G h1 → Kp [(7, 2), (7, 3), (7, 4), (10, 0), (11, 0), (12, 0), (13, 0), (14, 0), (15, 0), (16, 0), (17, 0)] h h1 → (-2147483648) ≤ a3 → a3 ≤ 2147483647 → 0 ≤ x4 → x4 ≤ 3 → (-1) ≤ x5 → x5 ≤ 199 → 0 ≤ x6 → x6 ≤ 3 → (w0 + (-y0)) ≤ 0 → ((-x5) + (-y0)) ≤ 1 → h1.2.2 7 1 = y0 → (-1) ≤ y0 → y0 ≤ 200 → ((-x6) + 3) < N → jEv (jOk 9) none (fun _ => 0) c79_0 0 0 (fun v h' => ∃ r F : Int, v = some (0, r) ∧ (-1) ≤ r ∧ r ≤ 199 ∧ Gd G h' ∧ Kp [(7, 2), (7, 3), (7, 4), (10, 0), (11, 0), (12, 0), (13, 0), (14, 0), (15, 0), (16, 0), (17, 0)] h h' ∧ h'.2.2 7 1 = F ∧ ((-F) + w0) ≤ 0 ∧ ((-F) + (-r)) ≤ 1) (c79_68, [(2, 7), (2, 1), (0, 9), (0, a3), (0, x4), (0, x5), (0, x6)], [], h1, 0, 0)) := by
  intro N
  induction N with
  | zero => exact fun h1 x4 x5 x6 y0 g1 k1 b0 b1 b2 b3 b4 b5 b6 b7 b8 b9 b10 b11 b12 hm => absurd hm (by omega)
  | succ N ih =>
    show _
    intro h1 x4 x5 x6 y0 g1 k1 b0 b1 b2 b3 b4 b5 b6 b7 b8 b9 ey0 ly0 uy0 hm
    refine ev_iload rfl ?_
    refine ev_aload_n rfl ?_
    refine ev_iload rfl ?_
    refine ev_in (d := 8) (a := 0) (b := 0) (cd' := c141_0) (m := 2) (L0 := [(2, 1), (0, x4)]) (jcall_v (A := [(0, x4)]) (S' := [(0, x6)]) (r := 1) rfl (g1.lt ad1) (g1.tg ad1) (Nat.le_of_ble_eq_true rfl)) (by decide) ml141 pp141 (Nat.le_of_ble_eq_true rfl) rfl (by decide) (by decide) ?_
    refine ev_aload_n rfl ?_
    refine ev_iload_n rfl ?_
    refine ev_in (d := 7) (a := 0) (b := 0) (cd' := c140_0) (m := 2) (L0 := [(2, 1), (0, x4)]) (jcall_v (A := [(0, x4)]) (S' := []) (r := 1) rfl (g1.lt ad1) (g1.tg ad1) (Nat.le_of_ble_eq_true rfl)) (by decide) ml140 pp140 (Nat.le_of_ble_eq_true rfl) rfl (by decide) (by decide) ?_
    refine ev_iload_n rfl ?_
    refine ev_iflt f140_16 (fun c18735 => absurd c18735 (by omega)) (fun c18735 => ?_)
    refine ev_iload_n rfl ?_
    refine ev_aload_n rfl ?_
    obtain ⟨v18736, ev18736, lv18736, uv18736⟩ := g1.rd ad1 (show 0 < 8 by decide) rf1_0
    refine g_getv (r := 1) (v := v18736) g1 ad1 (by decide) ft10_0 ev18736 ?_
    refine ev_icmpge f140_16 (fun c18737 => ?_) (fun c18737 => ?_)
    · refine ev_iconst ?_
      refine ev_ret rfl (by decide) (by decide) ?_
      show jEv _ _ _ _ _ _ _ (_, [(2, 1), (0, x4)], [(0, 0)], _, _, _)
      refine ev_ifeq f141_17 (fun c18738 => ?_) (fun c18738 => absurd c18738 (by omega))
      refine ev_iconst ?_
      refine ev_ret rfl (by decide) (by decide) ?_
      show jEv _ _ _ _ _ _ _ (_, [(2, 7), (2, 1), (0, 9), (0, a3), (0, x4), (0, x5), (0, x6)], [(0, 0), (0, x6)], _, _, _)
      refine ev_icmpge f79_126 (fun c18739 => ?_) (fun c18739 => absurd c18739 (by omega))
      refine ev_aload_n rfl ?_
      refine ev_bipush ?_
      refine ev_call (jcall_v (A := [(0, 41)]) (S' := []) (r := 7) rfl (g1.lt ad7) (g1.tg ad7) (Nat.le_of_ble_eq_true rfl)) (jOk_le (by decide) (s71 g1 (by omega) (by omega) (ey0) (by omega) (by omega))) (by decide) (by decide) (fun w18740 h18740 q18740 => ?_)
      obtain ⟨v18741, rfl, g18740, kk18740, ev18741, p18740_0⟩ := q18740
      have bv18741 := g18740.rg ad7 (i := 1) (by decide) rf7_1
      rw [ev18741] at bv18741
      have k18740 := k1.tr kk18740 (by decide)
      show jEv _ _ _ _ _ _ _ (_, [(2, 7), (2, 1), (0, 9), (0, a3), (0, x4), (0, x5), (0, x6)], [], _, _, _)
      refine ev_aload_n rfl ?_
      refine g_getv (r := 7) (v := v18741) g18740 ad7 (by decide) ft5_1 (ev18741) ?_
      refine ev_ifge f79_144 (fun c18742 => ?_) (fun c18742 => ?_)
      · refine ev_iconst ?_
        exact ev_ret rfl (by decide) (by decide) ⟨_, _, rfl, by omega, by omega, g18740, k18740, (ev18741), by omega, by omega⟩
      · refine ev_iload rfl ?_
        refine ev_ifge f79_146 (fun c18743 => ?_) (fun c18743 => absurd c18743 (by omega))
        refine ev_aload_n rfl ?_
        refine g_getp (r := 7) (c := 11) g18740 ad7 (by decide) (by decide) rf7_8 ft5_8 ?_
        refine ev_iload rfl ?_
        refine ev_iload rfl ?_
        refine g_iast g18740 ad11 rt11 (fun _ => rfl) (by omega) (by omega) (by omega) (by omega) (fun h18744 e18744 g18744 => ?_)
        have k18744 := k18740.wr e18744 rfl
        refine ev_aload_n rfl ?_
        refine g_getp (r := 7) (c := 15) g18744 ad7 (by decide) (by decide) rf7_12 ft5_12 ?_
        refine ev_iload rfl ?_
        refine ev_dup2 (by decide) (by decide) ?_
        refine g_iald g18744 ad15 rt15 (by omega) (by omega) (fun v18745 ev18745 lv18745 uv18745 => ?_)
        refine ev_iconst ?_
        refine ev_iload rfl ?_
        refine g_ishlB (a' := 1) (a := 1) (b := 3) (hi := 8) (by omega) (by omega) (by omega) (by omega) (by decide) (by decide) (fun v18746 ev18746 lv18746 uv18746 => ?_)
        refine g_iorG (fun v18747 ev18747 lv18747 uv18747 => ?_)
        refine g_iast g18744 ad15 rt15 (fun _ => rfl) (by omega) (by omega) (by omega) (by omega) (fun h18748 e18748 g18748 => ?_)
        have k18748 := k18744.wr e18748 rfl
        refine ev_iload rfl ?_
        exact ev_ret rfl (by decide) (by decide) ⟨_, _, rfl, by omega, by omega, g18748, k18748, (((jw_ne e18748 (Or.inl (by decide))).trans ((jw_ne e18744 (Or.inl (by decide))).trans ev18741))), by omega, by omega⟩
    · refine ev_iconst ?_
      refine ev_goto f140_17 ?_
      refine ev_ret rfl (by decide) (by decide) ?_
      show jEv _ _ _ _ _ _ _ (_, [(2, 1), (0, x4)], [(0, 1)], _, _, _)
      refine ev_ifeq f141_17 (fun c18749 => absurd c18749 (by omega)) (fun c18749 => ?_)
      refine ev_aload_n rfl ?_
      refine g_getp (r := 1) (c := 2) g1 ad1 (by decide) (by decide) rf1_3 ft10_3 ?_
      refine ev_iload_n rfl ?_
      refine g_iald g1 ad2 rt2 (by omega) (by omega) (fun v18750 ev18750 lv18750 uv18750 => ?_)
      refine ev_goto f141_18 ?_
      refine ev_ret rfl (by decide) (by decide) ?_
      show jEv _ _ _ _ _ _ _ (_, [(2, 7), (2, 1), (0, 9), (0, a3), (0, x4), (0, x5), (0, x6)], [(0, v18750), (0, x6)], _, _, _)
      refine ev_icmpge f79_126 (fun c18751 => ?_) (fun c18751 => ?_)
      · refine ev_aload_n rfl ?_
        refine ev_bipush ?_
        refine ev_call (jcall_v (A := [(0, 41)]) (S' := []) (r := 7) rfl (g1.lt ad7) (g1.tg ad7) (Nat.le_of_ble_eq_true rfl)) (jOk_le (by decide) (s71 g1 (by omega) (by omega) (ey0) (by omega) (by omega))) (by decide) (by decide) (fun w18752 h18752 q18752 => ?_)
        obtain ⟨v18753, rfl, g18752, kk18752, ev18753, p18752_0⟩ := q18752
        have bv18753 := g18752.rg ad7 (i := 1) (by decide) rf7_1
        rw [ev18753] at bv18753
        have k18752 := k1.tr kk18752 (by decide)
        show jEv _ _ _ _ _ _ _ (_, [(2, 7), (2, 1), (0, 9), (0, a3), (0, x4), (0, x5), (0, x6)], [], _, _, _)
        refine ev_aload_n rfl ?_
        refine g_getv (r := 7) (v := v18753) g18752 ad7 (by decide) ft5_1 (ev18753) ?_
        refine ev_ifge f79_144 (fun c18754 => ?_) (fun c18754 => ?_)
        · refine ev_iconst ?_
          exact ev_ret rfl (by decide) (by decide) ⟨_, _, rfl, by omega, by omega, g18752, k18752, (ev18753), by omega, by omega⟩
        · refine ev_iload rfl ?_
          refine ev_ifge f79_146 (fun c18755 => ?_) (fun c18755 => absurd c18755 (by omega))
          refine ev_aload_n rfl ?_
          refine g_getp (r := 7) (c := 11) g18752 ad7 (by decide) (by decide) rf7_8 ft5_8 ?_
          refine ev_iload rfl ?_
          refine ev_iload rfl ?_
          refine g_iast g18752 ad11 rt11 (fun _ => rfl) (by omega) (by omega) (by omega) (by omega) (fun h18756 e18756 g18756 => ?_)
          have k18756 := k18752.wr e18756 rfl
          refine ev_aload_n rfl ?_
          refine g_getp (r := 7) (c := 15) g18756 ad7 (by decide) (by decide) rf7_12 ft5_12 ?_
          refine ev_iload rfl ?_
          refine ev_dup2 (by decide) (by decide) ?_
          refine g_iald g18756 ad15 rt15 (by omega) (by omega) (fun v18757 ev18757 lv18757 uv18757 => ?_)
          refine ev_iconst ?_
          refine ev_iload rfl ?_
          refine g_ishlB (a' := 1) (a := 1) (b := 3) (hi := 8) (by omega) (by omega) (by omega) (by omega) (by decide) (by decide) (fun v18758 ev18758 lv18758 uv18758 => ?_)
          refine g_iorG (fun v18759 ev18759 lv18759 uv18759 => ?_)
          refine g_iast g18756 ad15 rt15 (fun _ => rfl) (by omega) (by omega) (by omega) (by omega) (fun h18760 e18760 g18760 => ?_)
          have k18760 := k18756.wr e18760 rfl
          refine ev_iload rfl ?_
          exact ev_ret rfl (by decide) (by decide) ⟨_, _, rfl, by omega, by omega, g18760, k18760, (((jw_ne e18760 (Or.inl (by decide))).trans ((jw_ne e18756 (Or.inl (by decide))).trans ev18753))), by omega, by omega⟩
      · refine ev_aload_n rfl ?_
        refine g_getv (r := 7) (v := y0) g1 ad7 (by decide) ft5_1 (ey0) ?_
        refine ev_ifge f79_126 (fun c18761 => ?_) (fun c18761 => ?_)
        · refine ev_aload_n rfl ?_
          refine ev_bipush ?_
          refine ev_call (jcall_v (A := [(0, 41)]) (S' := []) (r := 7) rfl (g1.lt ad7) (g1.tg ad7) (Nat.le_of_ble_eq_true rfl)) (jOk_le (by decide) (s71 g1 (by omega) (by omega) (ey0) (by omega) (by omega))) (by decide) (by decide) (fun w18762 h18762 q18762 => ?_)
          obtain ⟨v18763, rfl, g18762, kk18762, ev18763, p18762_0⟩ := q18762
          have bv18763 := g18762.rg ad7 (i := 1) (by decide) rf7_1
          rw [ev18763] at bv18763
          have k18762 := k1.tr kk18762 (by decide)
          show jEv _ _ _ _ _ _ _ (_, [(2, 7), (2, 1), (0, 9), (0, a3), (0, x4), (0, x5), (0, x6)], [], _, _, _)
          refine ev_aload_n rfl ?_
          refine g_getv (r := 7) (v := v18763) g18762 ad7 (by decide) ft5_1 (ev18763) ?_
          refine ev_ifge f79_144 (fun c18764 => ?_) (fun c18764 => absurd c18764 (by omega))
          refine ev_iconst ?_
          exact ev_ret rfl (by decide) (by decide) ⟨_, _, rfl, by omega, by omega, g18762, k18762, (ev18763), by omega, by omega⟩
        · refine ev_iload rfl ?_
          refine ev_ifle f79_97 (fun c18765 => ?_) (fun c18765 => ?_)
          · refine ev_aload_n rfl ?_
            refine ev_iload rfl ?_
            refine ev_iload rfl ?_
            refine ev_iconst ?_
            refine ev_aload_n rfl ?_
            refine ev_aload_n rfl ?_
            refine ev_iload_n rfl ?_
            refine ev_iconst ?_
            refine ev_iadd (r := 10) (by decide) ?_
            refine ev_iload_n rfl ?_
            refine ev_iconst ?_
            refine ev_iload rfl ?_
            refine g_ishlB (a' := 1) (a := 1) (b := 3) (hi := 8) (by omega) (by omega) (by omega) (by omega) (by decide) (by decide) (fun v18766 ev18766 lv18766 uv18766 => ?_)
            refine g_iorG (fun v18767 ev18767 lv18767 uv18767 => ?_)
            refine ev_call (jcall_v (A := [(0, v18767), (0, 10), (2, 1)]) (S' := [(0, 0), (0, x6), (0, x5), (2, 7)]) (r := 7) rfl (g1.lt ad7) (g1.tg ad7) (Nat.le_of_ble_eq_true rfl)) (jOk_le (by decide) (s74_10 g1 (by omega) (by omega) (ey0) (by omega) (by omega))) (by decide) (by decide) (fun w18768 h18768 q18768 => ?_)
            obtain ⟨v18770, v18769, rfl, lv18770, uv18770, g18768, kk18768, ev18769, p18768_0, p18768_1⟩ := q18768
            have bv18769 := g18768.rg ad7 (i := 1) (by decide) rf7_1
            rw [ev18769] at bv18769
            have k18768 := k1.tr kk18768 (by decide)
            show jEv _ _ _ _ _ _ _ (_, [(2, 7), (2, 1), (0, 9), (0, a3), (0, x4), (0, x5), (0, x6)], [(0, v18770), (0, 0), (0, x6), (0, x5), (2, 7)], _, _, _)
            refine ev_call (jcall_v (A := [(0, v18770), (0, 0), (0, x6), (0, x5)]) (S' := []) (r := 7) rfl (g18768.lt ad7) (g18768.tg ad7) (Nat.le_of_ble_eq_true rfl)) (jOk_le (by decide) (s80 g18768 (by omega) (by omega) (by omega) (by omega) (by omega) (by omega) (by omega) (by omega))) (by decide) (by decide) (fun w18771 h18771 q18771 => ?_)
            obtain ⟨rfl, g18771, kk18771⟩ := q18771
            have k18771 := k18768.tr kk18771 (by decide)
            show jEv _ _ _ _ _ _ _ (_, [(2, 7), (2, 1), (0, 9), (0, a3), (0, x4), (0, x5), (0, x6)], [], _, _, _)
            refine ev_iinc (w := (x6 + 1)) (L' := [(2, 7), (2, 1), (0, 9), (0, a3), (0, x4), (0, x5), (0, (x6 + 1))]) rfl (by unfold w32; omega) rfl ?_
            refine ev_goto f79_68 ?_
            exact ih _ _ _ _ _ g18771 k18771 (by omega) (by omega) (by omega) (by omega) (by omega) (by omega) (by omega) (by omega) (by omega) (by omega) (((kk18771.v (by decide)).trans ev18769)) (by omega) (by omega) (by omega)
          · refine ev_aload_n rfl ?_
            refine ev_bipush ?_
            refine ev_call (jcall_v (A := [(0, 44)]) (S' := []) (r := 7) rfl (g1.lt ad7) (g1.tg ad7) (Nat.le_of_ble_eq_true rfl)) (jOk_le (by decide) (s71 g1 (by omega) (by omega) (ey0) (by omega) (by omega))) (by decide) (by decide) (fun w18772 h18772 q18772 => ?_)
            obtain ⟨v18773, rfl, g18772, kk18772, ev18773, p18772_0⟩ := q18772
            have bv18773 := g18772.rg ad7 (i := 1) (by decide) rf7_1
            rw [ev18773] at bv18773
            have k18772 := k1.tr kk18772 (by decide)
            show jEv _ _ _ _ _ _ _ (_, [(2, 7), (2, 1), (0, 9), (0, a3), (0, x4), (0, x5), (0, x6)], [], _, _, _)
            refine ev_aload_n rfl ?_
            refine ev_iload rfl ?_
            refine ev_iload rfl ?_
            refine ev_iconst ?_
            refine ev_aload_n rfl ?_
            refine ev_aload_n rfl ?_
            refine ev_iload_n rfl ?_
            refine ev_iconst ?_
            refine ev_iadd (r := 10) (by decide) ?_
            refine ev_iload_n rfl ?_
            refine ev_iconst ?_
            refine ev_iload rfl ?_
            refine g_ishlB (a' := 1) (a := 1) (b := 3) (hi := 8) (by omega) (by omega) (by omega) (by omega) (by decide) (by decide) (fun v18774 ev18774 lv18774 uv18774 => ?_)
            refine g_iorG (fun v18775 ev18775 lv18775 uv18775 => ?_)
            refine ev_call (jcall_v (A := [(0, v18775), (0, 10), (2, 1)]) (S' := [(0, 0), (0, x6), (0, x5), (2, 7)]) (r := 7) rfl (g18772.lt ad7) (g18772.tg ad7) (Nat.le_of_ble_eq_true rfl)) (jOk_le (by decide) (s74_10 g18772 (by omega) (by omega) (ev18773) (by omega) (by omega))) (by decide) (by decide) (fun w18776 h18776 q18776 => ?_)
            obtain ⟨v18778, v18777, rfl, lv18778, uv18778, g18776, kk18776, ev18777, p18776_0, p18776_1⟩ := q18776
            have bv18777 := g18776.rg ad7 (i := 1) (by decide) rf7_1
            rw [ev18777] at bv18777
            have k18776 := k18772.tr kk18776 (by decide)
            show jEv _ _ _ _ _ _ _ (_, [(2, 7), (2, 1), (0, 9), (0, a3), (0, x4), (0, x5), (0, x6)], [(0, v18778), (0, 0), (0, x6), (0, x5), (2, 7)], _, _, _)
            refine ev_call (jcall_v (A := [(0, v18778), (0, 0), (0, x6), (0, x5)]) (S' := []) (r := 7) rfl (g18776.lt ad7) (g18776.tg ad7) (Nat.le_of_ble_eq_true rfl)) (jOk_le (by decide) (s80 g18776 (by omega) (by omega) (by omega) (by omega) (by omega) (by omega) (by omega) (by omega))) (by decide) (by decide) (fun w18779 h18779 q18779 => ?_)
            obtain ⟨rfl, g18779, kk18779⟩ := q18779
            have k18779 := k18776.tr kk18779 (by decide)
            show jEv _ _ _ _ _ _ _ (_, [(2, 7), (2, 1), (0, 9), (0, a3), (0, x4), (0, x5), (0, x6)], [], _, _, _)
            refine ev_iinc (w := (x6 + 1)) (L' := [(2, 7), (2, 1), (0, 9), (0, a3), (0, x4), (0, x5), (0, (x6 + 1))]) rfl (by unfold w32; omega) rfl ?_
            refine ev_goto f79_68 ?_
            exact ih _ _ _ _ _ g18779 k18779 (by omega) (by omega) (by omega) (by omega) (by omega) (by omega) (by omega) (by omega) (by omega) (by omega) (((kk18779.v (by decide)).trans ev18777)) (by omega) (by omega) (by omega)
set_option maxHeartbeats 4000000 in
theorem s79_9 {G : GH} {h : JH} (g : Gd G h) {a3 : Int} (la3 : (-2147483648) ≤ a3) (ua3 : a3 ≤ 2147483647) {w0 : Int} (ew0 : h.2.2 7 1 = w0) (lw0 : (-1) ≤ w0) (uw0 : w0 ≤ 200) {w1 : Int} (ew1 : h.2.2 7 2 = w1) (lw1 : 0 ≤ w1) (uw1 : w1 ≤ 199) : jOk 10 0 0 79 [(2, 7), (2, 1), (0, 9), (0, a3)] h (fun v h' => ∃ r F : Int, v = some (0, r) ∧ (-1) ≤ r ∧ r ≤ 199 ∧ Gd G h' ∧ Kp [(7, 2), (7, 3), (7, 4), (10, 0), (11, 0), (12, 0), (13, 0), (14, 0), (15, 0), (16, 0), (17, 0)] h h' ∧ h'.2.2 7 1 = F ∧ ((-F) + w0) ≤ 0 ∧ ((-F) + (-r)) ≤ 1) := by
  refine ⟨by decide, by rw [ml79]; exact Nat.le_of_ble_eq_true rfl, ?_⟩
  rw [ml79, pp79]
  show jEv _ none _ c79_0 0 0 _ (c79_0, [(2, 7), (2, 1), (0, 9), (0, a3), (9, 0), (9, 0), (9, 0)], [], h, 0, 0)
  have k0 := Kp.rf [(7, 2), (7, 3), (7, 4), (10, 0), (11, 0), (12, 0), (13, 0), (14, 0), (15, 0), (16, 0), (17, 0)] h
  refine ev_aload_n rfl ?_
  refine ev_dup (by decide) ?_
  refine g_getv (r := 7) (v := w1) g ad7 (by decide) ft5_2 (ew1) ?_
  refine ev_iconst ?_
  refine ev_iadd (r := (w1 + 1)) (by unfold w32; omega) ?_
  refine g_putf (r := 7) g ad7 (by decide) ft5_2 (by decide) (fun e => absurd e nz5_2) rf7_2 (by decide) (by omega) (by omega) (fun h18780 e18780 g18780 => ?_)
  have k18780 := k0.wr e18780 rfl
  refine ev_aload_n rfl ?_
  refine ev_in (d := 8) (a := 0) (b := 0) (cd' := c68_0) (m := 1) (L0 := [(2, 7)]) (jcall_v (A := []) (S' := []) (r := 7) rfl (g18780.lt ad7) (g18780.tg ad7) (Nat.le_of_ble_eq_true rfl)) (by decide) ml68 pp68 (Nat.le_of_ble_eq_true rfl) rfl (by decide) (by decide) ?_
  refine ev_aload_n rfl ?_
  refine g_getv (r := 7) (v := (w1 + 1)) g18780 ad7 (by decide) ft5_2 ((jw_eq e18780)) ?_
  refine ev_aload_n rfl ?_
  obtain ⟨v18781, ev18781, lv18781, uv18781⟩ := g18780.rd ad7 (show 0 < 15 by decide) rf7_0
  refine g_getv (r := 7) (v := v18781) g18780 ad7 (by decide) ft5_0 ev18781 ?_
  refine ev_icmpge f68_27 (fun c18782 => ?_) (fun c18782 => ?_)
  · refine ev_iconst ?_
    refine ev_ret rfl (by decide) (by decide) ?_
    show jEv _ _ _ _ _ _ _ (_, [(2, 7), (2, 1), (0, 9), (0, a3), (9, 0), (9, 0), (9, 0)], [(0, (-1))], _, _, _)
    refine ev_bipush ?_
    refine ev_isub (r := (-98)) (by decide) ?_
    refine ev_istore (L' := [(2, 7), (2, 1), (0, 9), (0, a3), (0, (-98)), (9, 0), (9, 0)]) (Nat.le_of_ble_eq_true rfl) rfl ?_
    refine ev_aload_n rfl ?_
    refine ev_iload rfl ?_
    refine ev_in (d := 8) (a := 0) (b := 0) (cd' := c140_0) (m := 2) (L0 := [(2, 1), (0, (-98))]) (jcall_v (A := [(0, (-98))]) (S' := []) (r := 1) rfl (g18780.lt ad1) (g18780.tg ad1) (Nat.le_of_ble_eq_true rfl)) (by decide) ml140 pp140 (Nat.le_of_ble_eq_true rfl) rfl (by decide) (by decide) ?_
    refine ev_iload_n rfl ?_
    refine ev_iflt f140_16 (fun c18783 => ?_) (fun c18783 => absurd c18783 (by omega))
    refine ev_iconst ?_
    refine ev_ret rfl (by decide) (by decide) ?_
    show jEv _ _ _ _ _ _ _ (_, [(2, 7), (2, 1), (0, 9), (0, a3), (0, (-98)), (9, 0), (9, 0)], [(0, 0)], _, _, _)
    refine ev_ifeq f79_37 (fun c18784 => ?_) (fun c18784 => absurd c18784 (by omega))
    refine ev_aload_n rfl ?_
    refine ev_in (d := 8) (a := 0) (b := 0) (cd' := c70_0) (m := 1) (L0 := [(2, 7)]) (jcall_v (A := []) (S' := []) (r := 7) rfl (g18780.lt ad7) (g18780.tg ad7) (Nat.le_of_ble_eq_true rfl)) (by decide) ml70 pp70 (Nat.le_of_ble_eq_true rfl) rfl (by decide) (by decide) ?_
    refine ev_aload_n rfl ?_
    refine g_getv (r := 7) (v := w0) g18780 ad7 (by decide) ft5_1 (((jw_ne e18780 (Or.inr (by decide))).trans ew0)) ?_
    refine ev_ifge f70_15 (fun c18785 => ?_) (fun c18785 => ?_)
    · refine ev_ret rfl (by decide) (by decide) ?_
      show jEv _ _ _ _ _ _ _ (_, [(2, 7), (2, 1), (0, 9), (0, a3), (0, (-98)), (9, 0), (9, 0)], [], _, _, _)
      refine ev_iconst ?_
      exact ev_ret rfl (by decide) (by decide) ⟨_, _, rfl, by omega, by omega, g18780, k18780, (((jw_ne e18780 (Or.inr (by decide))).trans ew0)), by omega, by omega⟩
    · refine ev_aload_n rfl ?_
      refine ev_aload_n rfl ?_
      refine g_getv (r := 7) (v := (w1 + 1)) g18780 ad7 (by decide) ft5_2 ((jw_eq e18780)) ?_
      refine g_putf (r := 7) g18780 ad7 (by decide) ft5_1 (by decide) (fun e => absurd e nz5_1) rf7_1 (by decide) (by omega) (by omega) (fun h18786 e18786 g18786 => ?_)
      have k18786 := k18780.wr e18786 rfl
      refine ev_ret rfl (by decide) (by decide) ?_
      show jEv _ _ _ _ _ _ _ (_, [(2, 7), (2, 1), (0, 9), (0, a3), (0, (-98)), (9, 0), (9, 0)], [], _, _, _)
      refine ev_iconst ?_
      exact ev_ret rfl (by decide) (by decide) ⟨_, _, rfl, by omega, by omega, g18786, k18786, ((jw_eq e18786)), by omega, by omega⟩
  · refine ev_aload_n rfl ?_
    refine g_getp (r := 7) (c := 8) g18780 ad7 (by decide) (by decide) rf7_5 ft5_5 ?_
    refine ev_aload_n rfl ?_
    refine g_getv (r := 7) (v := (w1 + 1)) g18780 ad7 (by decide) ft5_2 ((jw_eq e18780)) ?_
    refine g_bald g18780 ad8 rt8 (by omega) (by omega) (fun v18787 ev18787 lv18787 uv18787 => ?_)
    refine ev_sipush ?_
    refine g_iandB (b := 255) (by omega) (by omega) (by decide) (fun v18788 ev18788 lv18788 uv18788 => ?_)
    refine ev_goto f68_28 ?_
    refine ev_ret rfl (by decide) (by decide) ?_
    show jEv _ _ _ _ _ _ _ (_, [(2, 7), (2, 1), (0, 9), (0, a3), (9, 0), (9, 0), (9, 0)], [(0, v18788)], _, _, _)
    refine ev_bipush ?_
    refine ev_isub (r := (v18788 - 97)) (by unfold w32; omega) ?_
    refine ev_istore (L' := [(2, 7), (2, 1), (0, 9), (0, a3), (0, (v18788 - 97)), (9, 0), (9, 0)]) (Nat.le_of_ble_eq_true rfl) rfl ?_
    refine ev_aload_n rfl ?_
    refine ev_iload rfl ?_
    refine ev_in (d := 8) (a := 0) (b := 0) (cd' := c140_0) (m := 2) (L0 := [(2, 1), (0, (v18788 - 97))]) (jcall_v (A := [(0, (v18788 - 97))]) (S' := []) (r := 1) rfl (g18780.lt ad1) (g18780.tg ad1) (Nat.le_of_ble_eq_true rfl)) (by decide) ml140 pp140 (Nat.le_of_ble_eq_true rfl) rfl (by decide) (by decide) ?_
    refine ev_iload_n rfl ?_
    refine ev_iflt f140_16 (fun c18789 => ?_) (fun c18789 => ?_)
    · refine ev_iconst ?_
      refine ev_ret rfl (by decide) (by decide) ?_
      show jEv _ _ _ _ _ _ _ (_, [(2, 7), (2, 1), (0, 9), (0, a3), (0, (v18788 - 97)), (9, 0), (9, 0)], [(0, 0)], _, _, _)
      refine ev_ifeq f79_37 (fun c18790 => ?_) (fun c18790 => absurd c18790 (by omega))
      refine ev_aload_n rfl ?_
      refine ev_in (d := 8) (a := 0) (b := 0) (cd' := c70_0) (m := 1) (L0 := [(2, 7)]) (jcall_v (A := []) (S' := []) (r := 7) rfl (g18780.lt ad7) (g18780.tg ad7) (Nat.le_of_ble_eq_true rfl)) (by decide) ml70 pp70 (Nat.le_of_ble_eq_true rfl) rfl (by decide) (by decide) ?_
      refine ev_aload_n rfl ?_
      refine g_getv (r := 7) (v := w0) g18780 ad7 (by decide) ft5_1 (((jw_ne e18780 (Or.inr (by decide))).trans ew0)) ?_
      refine ev_ifge f70_15 (fun c18791 => ?_) (fun c18791 => ?_)
      · refine ev_ret rfl (by decide) (by decide) ?_
        show jEv _ _ _ _ _ _ _ (_, [(2, 7), (2, 1), (0, 9), (0, a3), (0, (v18788 - 97)), (9, 0), (9, 0)], [], _, _, _)
        refine ev_iconst ?_
        exact ev_ret rfl (by decide) (by decide) ⟨_, _, rfl, by omega, by omega, g18780, k18780, (((jw_ne e18780 (Or.inr (by decide))).trans ew0)), by omega, by omega⟩
      · refine ev_aload_n rfl ?_
        refine ev_aload_n rfl ?_
        refine g_getv (r := 7) (v := (w1 + 1)) g18780 ad7 (by decide) ft5_2 ((jw_eq e18780)) ?_
        refine g_putf (r := 7) g18780 ad7 (by decide) ft5_1 (by decide) (fun e => absurd e nz5_1) rf7_1 (by decide) (by omega) (by omega) (fun h18792 e18792 g18792 => ?_)
        have k18792 := k18780.wr e18792 rfl
        refine ev_ret rfl (by decide) (by decide) ?_
        show jEv _ _ _ _ _ _ _ (_, [(2, 7), (2, 1), (0, 9), (0, a3), (0, (v18788 - 97)), (9, 0), (9, 0)], [], _, _, _)
        refine ev_iconst ?_
        exact ev_ret rfl (by decide) (by decide) ⟨_, _, rfl, by omega, by omega, g18792, k18792, ((jw_eq e18792)), by omega, by omega⟩
    · refine ev_iload_n rfl ?_
      refine ev_aload_n rfl ?_
      obtain ⟨v18793, ev18793, lv18793, uv18793⟩ := g18780.rd ad1 (show 0 < 8 by decide) rf1_0
      refine g_getv (r := 1) (v := v18793) g18780 ad1 (by decide) ft10_0 ev18793 ?_
      refine ev_icmpge f140_16 (fun c18794 => ?_) (fun c18794 => ?_)
      · refine ev_iconst ?_
        refine ev_ret rfl (by decide) (by decide) ?_
        show jEv _ _ _ _ _ _ _ (_, [(2, 7), (2, 1), (0, 9), (0, a3), (0, (v18788 - 97)), (9, 0), (9, 0)], [(0, 0)], _, _, _)
        refine ev_ifeq f79_37 (fun c18795 => ?_) (fun c18795 => absurd c18795 (by omega))
        refine ev_aload_n rfl ?_
        refine ev_in (d := 8) (a := 0) (b := 0) (cd' := c70_0) (m := 1) (L0 := [(2, 7)]) (jcall_v (A := []) (S' := []) (r := 7) rfl (g18780.lt ad7) (g18780.tg ad7) (Nat.le_of_ble_eq_true rfl)) (by decide) ml70 pp70 (Nat.le_of_ble_eq_true rfl) rfl (by decide) (by decide) ?_
        refine ev_aload_n rfl ?_
        refine g_getv (r := 7) (v := w0) g18780 ad7 (by decide) ft5_1 (((jw_ne e18780 (Or.inr (by decide))).trans ew0)) ?_
        refine ev_ifge f70_15 (fun c18796 => ?_) (fun c18796 => ?_)
        · refine ev_ret rfl (by decide) (by decide) ?_
          show jEv _ _ _ _ _ _ _ (_, [(2, 7), (2, 1), (0, 9), (0, a3), (0, (v18788 - 97)), (9, 0), (9, 0)], [], _, _, _)
          refine ev_iconst ?_
          exact ev_ret rfl (by decide) (by decide) ⟨_, _, rfl, by omega, by omega, g18780, k18780, (((jw_ne e18780 (Or.inr (by decide))).trans ew0)), by omega, by omega⟩
        · refine ev_aload_n rfl ?_
          refine ev_aload_n rfl ?_
          refine g_getv (r := 7) (v := (w1 + 1)) g18780 ad7 (by decide) ft5_2 ((jw_eq e18780)) ?_
          refine g_putf (r := 7) g18780 ad7 (by decide) ft5_1 (by decide) (fun e => absurd e nz5_1) rf7_1 (by decide) (by omega) (by omega) (fun h18797 e18797 g18797 => ?_)
          have k18797 := k18780.wr e18797 rfl
          refine ev_ret rfl (by decide) (by decide) ?_
          show jEv _ _ _ _ _ _ _ (_, [(2, 7), (2, 1), (0, 9), (0, a3), (0, (v18788 - 97)), (9, 0), (9, 0)], [], _, _, _)
          refine ev_iconst ?_
          exact ev_ret rfl (by decide) (by decide) ⟨_, _, rfl, by omega, by omega, g18797, k18797, ((jw_eq e18797)), by omega, by omega⟩
      · refine ev_iconst ?_
        refine ev_goto f140_17 ?_
        refine ev_ret rfl (by decide) (by decide) ?_
        show jEv _ _ _ _ _ _ _ (_, [(2, 7), (2, 1), (0, 9), (0, a3), (0, (v18788 - 97)), (9, 0), (9, 0)], [(0, 1)], _, _, _)
        refine ev_ifeq f79_37 (fun c18798 => absurd c18798 (by omega)) (fun c18798 => ?_)
        refine ev_iload_n rfl ?_
        refine ev_iload rfl ?_
        refine g_ishrG (fun v18799 ev18799 lv18799 uv18799 => ?_)
        refine ev_iconst ?_
        refine g_iandB (b := 1) (by omega) (by omega) (by decide) (fun v18800 ev18800 lv18800 uv18800 => ?_)
        refine ev_ifeq f79_43 (fun c18801 => ?_) (fun c18801 => ?_)
        · refine ev_aload_n rfl ?_
          refine ev_dup (by decide) ?_
          refine g_getv (r := 7) (v := (w1 + 1)) g18780 ad7 (by decide) ft5_2 ((jw_eq e18780)) ?_
          refine ev_iconst ?_
          refine ev_iadd (r := (w1 + 2)) (by unfold w32; omega) ?_
          refine g_putf (r := 7) g18780 ad7 (by decide) ft5_2 (by decide) (fun e => absurd e nz5_2) rf7_2 (by decide) (by omega) (by omega) (fun h18802 e18802 g18802 => ?_)
          have k18802 := k18780.wr e18802 rfl
          refine ev_aload_n rfl ?_
          refine ev_iload_n rfl ?_
          refine ev_call (jcall_v (A := [(0, 9)]) (S' := []) (r := 7) rfl (g18802.lt ad7) (g18802.tg ad7) (Nat.le_of_ble_eq_true rfl)) (jOk_le (by decide) (s72 g18802 (by omega) (by omega) (((jw_ne e18802 (Or.inr (by decide))).trans ((jw_ne e18780 (Or.inr (by decide))).trans ew0))) (by omega) (by omega))) (by decide) (by decide) (fun w18803 h18803 q18803 => ?_)
          obtain ⟨v18804, rfl, g18803, kk18803, ev18804, p18803_0⟩ := q18803
          have bv18804 := g18803.rg ad7 (i := 1) (by decide) rf7_1
          rw [ev18804] at bv18804
          have k18803 := k18802.tr kk18803 (by decide)
          show jEv _ _ _ _ _ _ _ (_, [(2, 7), (2, 1), (0, 9), (0, a3), (0, (v18788 - 97)), (9, 0), (9, 0)], [], _, _, _)
          refine ev_aload_n rfl ?_
          refine ev_iconst ?_
          refine ev_call (jcall_v (A := [(0, 2)]) (S' := []) (r := 7) rfl (g18803.lt ad7) (g18803.tg ad7) (Nat.le_of_ble_eq_true rfl)) (jOk_le (by decide) (s73 g18803 (by omega) (by omega) (ev18804) (by omega) (by omega))) (by decide) (by decide) (fun w18805 h18805 q18805 => ?_)
          obtain ⟨v18807, v18806, rfl, lv18807, uv18807, g18805, kk18805, ev18806, p18805_0, p18805_1⟩ := q18805
          have bv18806 := g18805.rg ad7 (i := 1) (by decide) rf7_1
          rw [ev18806] at bv18806
          have k18805 := k18803.tr kk18805 (by decide)
          show jEv _ _ _ _ _ _ _ (_, [(2, 7), (2, 1), (0, 9), (0, a3), (0, (v18788 - 97)), (9, 0), (9, 0)], [(0, v18807)], _, _, _)
          refine ev_istore (L' := [(2, 7), (2, 1), (0, 9), (0, a3), (0, (v18788 - 97)), (0, v18807), (9, 0)]) (Nat.le_of_ble_eq_true rfl) rfl ?_
          refine ev_iconst ?_
          refine ev_istore (L' := [(2, 7), (2, 1), (0, 9), (0, a3), (0, (v18788 - 97)), (0, v18807), (0, 0)]) (Nat.le_of_ble_eq_true rfl) rfl ?_
          exact (s79_9_l la3 ua3 ew0 lw0 uw0 ew1 lw1 uw1 8) _ _ _ _ _ g18805 k18805 (by omega) (by omega) (by omega) (by omega) (by omega) (by omega) (by omega) (by omega) (by omega) (by omega) (ev18806) (by omega) (by omega) (by omega)
        · refine ev_aload_n rfl ?_
          refine ev_in (d := 8) (a := 0) (b := 0) (cd' := c70_0) (m := 1) (L0 := [(2, 7)]) (jcall_v (A := []) (S' := []) (r := 7) rfl (g18780.lt ad7) (g18780.tg ad7) (Nat.le_of_ble_eq_true rfl)) (by decide) ml70 pp70 (Nat.le_of_ble_eq_true rfl) rfl (by decide) (by decide) ?_
          refine ev_aload_n rfl ?_
          refine g_getv (r := 7) (v := w0) g18780 ad7 (by decide) ft5_1 (((jw_ne e18780 (Or.inr (by decide))).trans ew0)) ?_
          refine ev_ifge f70_15 (fun c18808 => ?_) (fun c18808 => ?_)
          · refine ev_ret rfl (by decide) (by decide) ?_
            show jEv _ _ _ _ _ _ _ (_, [(2, 7), (2, 1), (0, 9), (0, a3), (0, (v18788 - 97)), (9, 0), (9, 0)], [], _, _, _)
            refine ev_iconst ?_
            exact ev_ret rfl (by decide) (by decide) ⟨_, _, rfl, by omega, by omega, g18780, k18780, (((jw_ne e18780 (Or.inr (by decide))).trans ew0)), by omega, by omega⟩
          · refine ev_aload_n rfl ?_
            refine ev_aload_n rfl ?_
            refine g_getv (r := 7) (v := (w1 + 1)) g18780 ad7 (by decide) ft5_2 ((jw_eq e18780)) ?_
            refine g_putf (r := 7) g18780 ad7 (by decide) ft5_1 (by decide) (fun e => absurd e nz5_1) rf7_1 (by decide) (by omega) (by omega) (fun h18809 e18809 g18809 => ?_)
            have k18809 := k18780.wr e18809 rfl
            refine ev_ret rfl (by decide) (by decide) ?_
            show jEv _ _ _ _ _ _ _ (_, [(2, 7), (2, 1), (0, 9), (0, a3), (0, (v18788 - 97)), (9, 0), (9, 0)], [], _, _, _)
            refine ev_iconst ?_
            exact ev_ret rfl (by decide) (by decide) ⟨_, _, rfl, by omega, by omega, g18809, k18809, ((jw_eq e18809)), by omega, by omega⟩
/-! s74_9  -/
set_option maxHeartbeats 4000000 in
theorem s74_9 {G : GH} {h : JH} (g : Gd G h) {a3 : Int} (la3 : (-2147483648) ≤ a3) (ua3 : a3 ≤ 2147483647) {w0 : Int} (ew0 : h.2.2 7 1 = w0) (lw0 : (-1) ≤ w0) (uw0 : w0 ≤ 200) : jOk 11 0 0 74 [(2, 7), (2, 1), (0, 9), (0, a3)] h (fun v h' => ∃ r F : Int, v = some (0, r) ∧ (-1) ≤ r ∧ r ≤ 199 ∧ Gd G h' ∧ Kp [(7, 2), (7, 3), (7, 4), (10, 0), (11, 0), (12, 0), (13, 0), (14, 0), (15, 0), (16, 0), (17, 0)] h h' ∧ h'.2.2 7 1 = F ∧ ((-F) + w0) ≤ 0 ∧ ((-F) + (-r)) ≤ 1) := by
  refine ⟨by decide, by rw [ml74]; exact Nat.le_of_ble_eq_true rfl, ?_⟩
  rw [ml74, pp74]
  show jEv _ none _ c74_0 0 0 _ (c74_0, [(2, 7), (2, 1), (0, 9), (0, a3), (9, 0)], [], h, 0, 0)
  have k0 := Kp.rf [(7, 2), (7, 3), (7, 4), (10, 0), (11, 0), (12, 0), (13, 0), (14, 0), (15, 0), (16, 0), (17, 0)] h
  refine ev_aload_n rfl ?_
  refine g_getv (r := 7) (v := w0) g ad7 (by decide) ft5_1 (ew0) ?_
  refine ev_ifge f74_13 (fun c18876 => ?_) (fun c18876 => ?_)
  · refine ev_aload_n rfl ?_
    refine ev_in (d := 9) (a := 0) (b := 0) (cd' := c70_0) (m := 1) (L0 := [(2, 7)]) (jcall_v (A := []) (S' := []) (r := 7) rfl (g.lt ad7) (g.tg ad7) (Nat.le_of_ble_eq_true rfl)) (by decide) ml70 pp70 (Nat.le_of_ble_eq_true rfl) rfl (by decide) (by decide) ?_
    refine ev_aload_n rfl ?_
    refine g_getv (r := 7) (v := w0) g ad7 (by decide) ft5_1 (ew0) ?_
    refine ev_ifge f70_15 (fun c18877 => ?_) (fun c18877 => absurd c18877 (by omega))
    refine ev_ret rfl (by decide) (by decide) ?_
    show jEv _ _ _ _ _ _ _ (_, [(2, 7), (2, 1), (0, 9), (0, a3), (9, 0)], [], _, _, _)
    refine ev_iconst ?_
    exact ev_ret rfl (by decide) (by decide) ⟨_, _, rfl, by omega, by omega, g, k0, (ew0), by omega, by omega⟩
  · refine ev_iload_n rfl ?_
    refine ev_bipush ?_
    refine ev_icmple f74_19 (fun c18878 => ?_) (fun c18878 => absurd c18878 (by omega))
    refine ev_aload_n rfl ?_
    refine ev_in (d := 9) (a := 0) (b := 0) (cd' := c68_0) (m := 1) (L0 := [(2, 7)]) (jcall_v (A := []) (S' := []) (r := 7) rfl (g.lt ad7) (g.tg ad7) (Nat.le_of_ble_eq_true rfl)) (by decide) ml68 pp68 (Nat.le_of_ble_eq_true rfl) rfl (by decide) (by decide) ?_
    refine ev_aload_n rfl ?_
    obtain ⟨v18879, ev18879, lv18879, uv18879⟩ := g.rd ad7 (show 2 < 15 by decide) rf7_2
    refine g_getv (r := 7) (v := v18879) g ad7 (by decide) ft5_2 ev18879 ?_
    refine ev_aload_n rfl ?_
    obtain ⟨v18880, ev18880, lv18880, uv18880⟩ := g.rd ad7 (show 0 < 15 by decide) rf7_0
    refine g_getv (r := 7) (v := v18880) g ad7 (by decide) ft5_0 ev18880 ?_
    refine ev_icmpge f68_27 (fun c18881 => ?_) (fun c18881 => ?_)
    · refine ev_iconst ?_
      refine ev_ret rfl (by decide) (by decide) ?_
      show jEv _ _ _ _ _ _ _ (_, [(2, 7), (2, 1), (0, 9), (0, a3), (9, 0)], [(0, (-1))], _, _, _)
      refine ev_istore (L' := [(2, 7), (2, 1), (0, 9), (0, a3), (0, (-1))]) (Nat.le_of_ble_eq_true rfl) rfl ?_
      refine ev_iload rfl ?_
      refine ev_bipush ?_
      refine ev_icmpne f74_40 (fun c18882 => ?_) (fun c18882 => absurd c18882 (by omega))
      refine ev_iload rfl ?_
      refine ev_bipush ?_
      refine ev_icmpne f74_55 (fun c18883 => ?_) (fun c18883 => absurd c18883 (by omega))
      refine ev_iload rfl ?_
      refine ev_bipush ?_
      refine ev_icmplt f74_78 (fun c18884 => ?_) (fun c18884 => absurd c18884 (by omega))
      refine ev_aload_n rfl ?_
      refine ev_call (jcall_v (A := []) (S' := []) (r := 7) rfl (g.lt ad7) (g.tg ad7) (Nat.le_of_ble_eq_true rfl)) (jOk_le (by decide) (s75 g (ew0) (by omega) (by omega))) (by decide) (by decide) (fun w18885 h18885 q18885 => ?_)
      obtain ⟨v18887, v18886, rfl, lv18887, uv18887, g18885, kk18885, ev18886, p18885_0, p18885_1⟩ := q18885
      have bv18886 := g18885.rg ad7 (i := 1) (by decide) rf7_1
      rw [ev18886] at bv18886
      have k18885 := k0.tr kk18885 (by decide)
      show jEv _ _ _ _ _ _ _ (_, [(2, 7), (2, 1), (0, 9), (0, a3), (0, (-1))], [(0, v18887)], _, _, _)
      exact ev_ret rfl (by decide) (by decide) ⟨_, _, rfl, by omega, by omega, g18885, k18885, (ev18886), by omega, by omega⟩
    · refine ev_aload_n rfl ?_
      refine g_getp (r := 7) (c := 8) g ad7 (by decide) (by decide) rf7_5 ft5_5 ?_
      refine ev_aload_n rfl ?_
      refine g_getv (r := 7) (v := v18879) g ad7 (by decide) ft5_2 (ev18879) ?_
      refine g_bald g ad8 rt8 (by omega) (by omega) (fun v18888 ev18888 lv18888 uv18888 => ?_)
      refine ev_sipush ?_
      refine g_iandB (b := 255) (by omega) (by omega) (by decide) (fun v18889 ev18889 lv18889 uv18889 => ?_)
      refine ev_goto f68_28 ?_
      refine ev_ret rfl (by decide) (by decide) ?_
      show jEv _ _ _ _ _ _ _ (_, [(2, 7), (2, 1), (0, 9), (0, a3), (9, 0)], [(0, v18889)], _, _, _)
      refine ev_istore (L' := [(2, 7), (2, 1), (0, 9), (0, a3), (0, v18889)]) (Nat.le_of_ble_eq_true rfl) rfl ?_
      refine ev_iload rfl ?_
      refine ev_bipush ?_
      refine ev_icmpne f74_40 (fun c18890 => ?_) (fun c18890 => ?_)
      · refine ev_iload rfl ?_
        refine ev_bipush ?_
        refine ev_icmpne f74_55 (fun c18891 => ?_) (fun c18891 => ?_)
        · refine ev_iload rfl ?_
          refine ev_bipush ?_
          refine ev_icmplt f74_78 (fun c18892 => ?_) (fun c18892 => ?_)
          · refine ev_aload_n rfl ?_
            refine ev_call (jcall_v (A := []) (S' := []) (r := 7) rfl (g.lt ad7) (g.tg ad7) (Nat.le_of_ble_eq_true rfl)) (jOk_le (by decide) (s75 g (ew0) (by omega) (by omega))) (by decide) (by decide) (fun w18893 h18893 q18893 => ?_)
            obtain ⟨v18895, v18894, rfl, lv18895, uv18895, g18893, kk18893, ev18894, p18893_0, p18893_1⟩ := q18893
            have bv18894 := g18893.rg ad7 (i := 1) (by decide) rf7_1
            rw [ev18894] at bv18894
            have k18893 := k0.tr kk18893 (by decide)
            show jEv _ _ _ _ _ _ _ (_, [(2, 7), (2, 1), (0, 9), (0, a3), (0, v18889)], [(0, v18895)], _, _, _)
            exact ev_ret rfl (by decide) (by decide) ⟨_, _, rfl, by omega, by omega, g18893, k18893, (ev18894), by omega, by omega⟩
          · refine ev_iload rfl ?_
            refine ev_bipush ?_
            refine ev_icmpge f74_78 (fun c18896 => ?_) (fun c18896 => ?_)
            · refine ev_aload_n rfl ?_
              refine ev_call (jcall_v (A := []) (S' := []) (r := 7) rfl (g.lt ad7) (g.tg ad7) (Nat.le_of_ble_eq_true rfl)) (jOk_le (by decide) (s75 g (ew0) (by omega) (by omega))) (by decide) (by decide) (fun w18897 h18897 q18897 => ?_)
              obtain ⟨v18899, v18898, rfl, lv18899, uv18899, g18897, kk18897, ev18898, p18897_0, p18897_1⟩ := q18897
              have bv18898 := g18897.rg ad7 (i := 1) (by decide) rf7_1
              rw [ev18898] at bv18898
              have k18897 := k0.tr kk18897 (by decide)
              show jEv _ _ _ _ _ _ _ (_, [(2, 7), (2, 1), (0, 9), (0, a3), (0, v18889)], [(0, v18899)], _, _, _)
              exact ev_ret rfl (by decide) (by decide) ⟨_, _, rfl, by omega, by omega, g18897, k18897, (ev18898), by omega, by omega⟩
            · refine ev_aload_n rfl ?_
              refine ev_iload_n rfl ?_
              refine ev_iload_n rfl ?_
              refine ev_call (jcall_v (A := [(0, a3), (0, 9)]) (S' := []) (r := 7) rfl (g.lt ad7) (g.tg ad7) (Nat.le_of_ble_eq_true rfl)) (jOk_le (by decide) (s77 g (by omega) (by omega) (by omega) (by omega) (ew0) (by omega) (by omega))) (by decide) (by decide) (fun w18900 h18900 q18900 => ?_)
              obtain ⟨v18902, v18901, rfl, lv18902, uv18902, g18900, kk18900, ev18901, p18900_0, p18900_1⟩ := q18900
              have bv18901 := g18900.rg ad7 (i := 1) (by decide) rf7_1
              rw [ev18901] at bv18901
              have k18900 := k0.tr kk18900 (by decide)
              show jEv _ _ _ _ _ _ _ (_, [(2, 7), (2, 1), (0, 9), (0, a3), (0, v18889)], [(0, v18902)], _, _, _)
              refine ev_goto f74_82 ?_
              exact ev_ret rfl (by decide) (by decide) ⟨_, _, rfl, by omega, by omega, g18900, k18900, (ev18901), by omega, by omega⟩
        · refine ev_aload_n rfl ?_
          refine ev_aload_n rfl ?_
          refine ev_iload_n rfl ?_
          refine ev_iload_n rfl ?_
          refine ev_call (jcall_v (A := [(0, a3), (0, 9), (2, 1)]) (S' := []) (r := 7) rfl (g.lt ad7) (g.tg ad7) (Nat.le_of_ble_eq_true rfl)) (jOk_le (by decide) (s79_9 g (by omega) (by omega) (ew0) (by omega) (by omega) (ev18879) (by omega) (by omega))) (by decide) (by decide) (fun w18903 h18903 q18903 => ?_)
          obtain ⟨v18905, v18904, rfl, lv18905, uv18905, g18903, kk18903, ev18904, p18903_0, p18903_1⟩ := q18903
          have bv18904 := g18903.rg ad7 (i := 1) (by decide) rf7_1
          rw [ev18904] at bv18904
          have k18903 := k0.tr kk18903 (by decide)
          show jEv _ _ _ _ _ _ _ (_, [(2, 7), (2, 1), (0, 9), (0, a3), (0, v18889)], [(0, v18905)], _, _, _)
          exact ev_ret rfl (by decide) (by decide) ⟨_, _, rfl, by omega, by omega, g18903, k18903, (ev18904), by omega, by omega⟩
      · refine ev_aload_n rfl ?_
        refine ev_aload_n rfl ?_
        refine ev_iload_n rfl ?_
        refine ev_iload_n rfl ?_
        refine ev_call (jcall_v (A := [(0, a3), (0, 9), (2, 1)]) (S' := []) (r := 7) rfl (g.lt ad7) (g.tg ad7) (Nat.le_of_ble_eq_true rfl)) (jOk_le (by decide) (s78_9 g (by omega) (by omega) (ew0) (by omega) (by omega) (ev18879) (by omega) (by omega))) (by decide) (by decide) (fun w18906 h18906 q18906 => ?_)
        obtain ⟨v18908, v18907, rfl, lv18908, uv18908, g18906, kk18906, ev18907, p18906_0, p18906_1⟩ := q18906
        have bv18907 := g18906.rg ad7 (i := 1) (by decide) rf7_1
        rw [ev18907] at bv18907
        have k18906 := k0.tr kk18906 (by decide)
        show jEv _ _ _ _ _ _ _ (_, [(2, 7), (2, 1), (0, 9), (0, a3), (0, v18889)], [(0, v18908)], _, _, _)
        exact ev_ret rfl (by decide) (by decide) ⟨_, _, rfl, by omega, by omega, g18906, k18906, (ev18907), by omega, by omega⟩
/-! s78_8  -/
set_option maxHeartbeats 4000000 in
theorem s78_8_l {G : GH} {h : JH} {a3 : Int} (la3 : (-2147483648) ≤ a3) (ua3 : a3 ≤ 2147483647) {w0 : Int} (ew0 : h.2.2 7 1 = w0) (lw0 : (-1) ≤ w0) (uw0 : w0 ≤ 200) {w1 : Int} (ew1 : h.2.2 7 2 = w1) (lw1 : 0 ≤ w1) (uw1 : w1 ≤ 199) : ∀ N : Nat, (∀ (h1 : JH) (x4 x5 y0 : Int) (j6 : AV), Gd G h1 → Kp [(7, 2), (7, 3), (7, 4), (10, 0), (11, 0), (12, 0), (13, 0), (14, 0), (15, 0), (16, 0), (17, 0)] h h1 → (-2147483648) ≤ a3 → a3 ≤ 2147483647 → (-1) ≤ x4 → x4 ≤ 199 → 0 ≤ x5 → x5 ≤ 3 → (w0 + (-y0)) ≤ 0 → ((-x4) + (-y0)) ≤ 1 → h1.2.2 7 1 = y0 → (-1) ≤ y0 → y0 ≤ 200 → ((-x5) + 3) < N → jEv (jOk 11) none (fun _ => 0) c78_0 0 0 (fun v h' => ∃ r F : Int, v = some (0, r) ∧ (-1) ≤ r ∧ r ≤ 199 ∧ Gd G h' ∧ Kp [(7, 2), (7, 3), (7, 4), (10, 0), (11, 0), (12, 0), (13, 0), (14, 0), (15, 0), (16, 0), (17, 0)] h h' ∧ h'.2.2 7 1 = F ∧ ((-F) + w0) ≤ 0 ∧ ((-F) + (-r)) ≤ 1) (c78_25, [(2, 7), (2, 1), (0, 8), (0, a3), (0, x4), (0, x5), j6], [], h1, 0, 0)) := by
  intro N
  induction N with
  | zero => exact fun h1 x4 x5 y0 j6 g1 k1 b0 b1 b2 b3 b4 b5 b6 b7 b8 b9 b10 hm => absurd hm (by omega)
  | succ N ih =>
    show _
    intro h1 x4 x5 y0 j6 g1 k1 b0 b1 b2 b3 b4 b5 b6 b7 ey0 ly0 uy0 hm
    refine ev_iload rfl ?_
    refine ev_iconst ?_
    refine ev_icmpge f78_100 (fun c19077 => absurd c19077 (by omega)) (fun c19077 => ?_)
    refine ev_aload_n rfl ?_
    refine g_getv (r := 7) (v := y0) g1 ad7 (by decide) ft5_1 (ey0) ?_
    refine ev_ifge f78_100 (fun c19078 => ?_) (fun c19078 => ?_)
    · refine ev_aload_n rfl ?_
      refine ev_bipush ?_
      refine ev_call (jcall_v (A := [(0, 41)]) (S' := []) (r := 7) rfl (g1.lt ad7) (g1.tg ad7) (Nat.le_of_ble_eq_true rfl)) (jOk_le (by decide) (s71 g1 (by omega) (by omega) (ey0) (by omega) (by omega))) (by decide) (by decide) (fun w19079 h19079 q19079 => ?_)
      obtain ⟨v19080, rfl, g19079, kk19079, ev19080, p19079_0⟩ := q19079
      have bv19080 := g19079.rg ad7 (i := 1) (by decide) rf7_1
      rw [ev19080] at bv19080
      have k19079 := k1.tr kk19079 (by decide)
      show jEv _ _ _ _ _ _ _ (_, [(2, 7), (2, 1), (0, 8), (0, a3), (0, x4), (0, x5), j6], [], _, _, _)
      refine ev_aload_n rfl ?_
      refine g_getv (r := 7) (v := v19080) g19079 ad7 (by decide) ft5_1 (ev19080) ?_
      refine ev_iflt f78_117 (fun c19081 => absurd c19081 (by omega)) (fun c19081 => ?_)
      refine ev_iconst ?_
      refine ev_goto f78_119 ?_
      exact ev_ret rfl (by decide) (by decide) ⟨_, _, rfl, by omega, by omega, g19079, k19079, (ev19080), by omega, by omega⟩
    · refine ev_aload_n rfl ?_
      refine ev_iconst ?_
      refine ev_call (jcall_v (A := [(0, 2)]) (S' := []) (r := 7) rfl (g1.lt ad7) (g1.tg ad7) (Nat.le_of_ble_eq_true rfl)) (jOk_le (by decide) (s76 g1 (by omega) (by omega) (ey0) (by omega) (by omega))) (by decide) (by decide) (fun w19082 h19082 q19082 => ?_)
      obtain ⟨v19084, v19083, rfl, lv19084, uv19084, g19082, kk19082, ev19083, p19082_0⟩ := q19082
      have bv19083 := g19082.rg ad7 (i := 1) (by decide) rf7_1
      rw [ev19083] at bv19083
      have k19082 := k1.tr kk19082 (by decide)
      show jEv _ _ _ _ _ _ _ (_, [(2, 7), (2, 1), (0, 8), (0, a3), (0, x4), (0, x5), j6], [(0, v19084)], _, _, _)
      refine ev_istore (L' := [(2, 7), (2, 1), (0, 8), (0, a3), (0, x4), (0, x5), (0, v19084)]) (Nat.le_of_ble_eq_true rfl) rfl ?_
      refine ev_aload_n rfl ?_
      refine ev_bipush ?_
      refine ev_call (jcall_v (A := [(0, 58)]) (S' := []) (r := 7) rfl (g19082.lt ad7) (g19082.tg ad7) (Nat.le_of_ble_eq_true rfl)) (jOk_le (by decide) (s71 g19082 (by omega) (by omega) (ev19083) (by omega) (by omega))) (by decide) (by decide) (fun w19085 h19085 q19085 => ?_)
      obtain ⟨v19086, rfl, g19085, kk19085, ev19086, p19085_0⟩ := q19085
      have bv19086 := g19085.rg ad7 (i := 1) (by decide) rf7_1
      rw [ev19086] at bv19086
      have k19085 := k19082.tr kk19085 (by decide)
      show jEv _ _ _ _ _ _ _ (_, [(2, 7), (2, 1), (0, 8), (0, a3), (0, x4), (0, x5), (0, v19084)], [], _, _, _)
      refine ev_aload_n rfl ?_
      refine ev_iload rfl ?_
      refine ev_iload rfl ?_
      refine ev_iload rfl ?_
      refine ev_aload_n rfl ?_
      refine ev_aload_n rfl ?_
      refine ev_iload_n rfl ?_
      refine ev_iconst ?_
      refine ev_iadd (r := 9) (by decide) ?_
      refine ev_iload_n rfl ?_
      refine ev_call (jcall_v (A := [(0, a3), (0, 9), (2, 1)]) (S' := [(0, v19084), (0, x5), (0, x4), (2, 7)]) (r := 7) rfl (g19085.lt ad7) (g19085.tg ad7) (Nat.le_of_ble_eq_true rfl)) (jOk_le (by decide) (s74_9 g19085 (by omega) (by omega) (ev19086) (by omega) (by omega))) (by decide) (by decide) (fun w19087 h19087 q19087 => ?_)
      obtain ⟨v19089, v19088, rfl, lv19089, uv19089, g19087, kk19087, ev19088, p19087_0, p19087_1⟩ := q19087
      have bv19088 := g19087.rg ad7 (i := 1) (by decide) rf7_1
      rw [ev19088] at bv19088
      have k19087 := k19085.tr kk19087 (by decide)
      show jEv _ _ _ _ _ _ _ (_, [(2, 7), (2, 1), (0, 8), (0, a3), (0, x4), (0, x5), (0, v19084)], [(0, v19089), (0, v19084), (0, x5), (0, x4), (2, 7)], _, _, _)
      refine ev_call (jcall_v (A := [(0, v19089), (0, v19084), (0, x5), (0, x4)]) (S' := []) (r := 7) rfl (g19087.lt ad7) (g19087.tg ad7) (Nat.le_of_ble_eq_true rfl)) (jOk_le (by decide) (s80 g19087 (by omega) (by omega) (by omega) (by omega) (by omega) (by omega) (by omega) (by omega))) (by decide) (by decide) (fun w19090 h19090 q19090 => ?_)
      obtain ⟨rfl, g19090, kk19090⟩ := q19090
      have k19090 := k19087.tr kk19090 (by decide)
      show jEv _ _ _ _ _ _ _ (_, [(2, 7), (2, 1), (0, 8), (0, a3), (0, x4), (0, x5), (0, v19084)], [], _, _, _)
      refine ev_aload_n rfl ?_
      refine ev_in (d := 10) (a := 0) (b := 0) (cd' := c68_0) (m := 1) (L0 := [(2, 7)]) (jcall_v (A := []) (S' := []) (r := 7) rfl (g19090.lt ad7) (g19090.tg ad7) (Nat.le_of_ble_eq_true rfl)) (by decide) ml68 pp68 (Nat.le_of_ble_eq_true rfl) rfl (by decide) (by decide) ?_
      refine ev_aload_n rfl ?_
      obtain ⟨v19091, ev19091, lv19091, uv19091⟩ := g19090.rd ad7 (show 2 < 15 by decide) rf7_2
      refine g_getv (r := 7) (v := v19091) g19090 ad7 (by decide) ft5_2 ev19091 ?_
      refine ev_aload_n rfl ?_
      obtain ⟨v19092, ev19092, lv19092, uv19092⟩ := g19090.rd ad7 (show 0 < 15 by decide) rf7_0
      refine g_getv (r := 7) (v := v19092) g19090 ad7 (by decide) ft5_0 ev19092 ?_
      refine ev_icmpge f68_27 (fun c19093 => ?_) (fun c19093 => ?_)
      · refine ev_iconst ?_
        refine ev_ret rfl (by decide) (by decide) ?_
        show jEv _ _ _ _ _ _ _ (_, [(2, 7), (2, 1), (0, 8), (0, a3), (0, x4), (0, x5), (0, v19084)], [(0, (-1))], _, _, _)
        refine ev_bipush ?_
        refine ev_icmpne f78_100 (fun c19094 => ?_) (fun c19094 => absurd c19094 (by omega))
        refine ev_aload_n rfl ?_
        refine ev_bipush ?_
        refine ev_call (jcall_v (A := [(0, 41)]) (S' := []) (r := 7) rfl (g19090.lt ad7) (g19090.tg ad7) (Nat.le_of_ble_eq_true rfl)) (jOk_le (by decide) (s71 g19090 (by omega) (by omega) (((kk19090.v (by decide)).trans ev19088)) (by omega) (by omega))) (by decide) (by decide) (fun w19095 h19095 q19095 => ?_)
        obtain ⟨v19096, rfl, g19095, kk19095, ev19096, p19095_0⟩ := q19095
        have bv19096 := g19095.rg ad7 (i := 1) (by decide) rf7_1
        rw [ev19096] at bv19096
        have k19095 := k19090.tr kk19095 (by decide)
        show jEv _ _ _ _ _ _ _ (_, [(2, 7), (2, 1), (0, 8), (0, a3), (0, x4), (0, x5), (0, v19084)], [], _, _, _)
        refine ev_aload_n rfl ?_
        refine g_getv (r := 7) (v := v19096) g19095 ad7 (by decide) ft5_1 (ev19096) ?_
        refine ev_iflt f78_117 (fun c19097 => ?_) (fun c19097 => ?_)
        · refine ev_iload rfl ?_
          exact ev_ret rfl (by decide) (by decide) ⟨_, _, rfl, by omega, by omega, g19095, k19095, (ev19096), by omega, by omega⟩
        · refine ev_iconst ?_
          refine ev_goto f78_119 ?_
          exact ev_ret rfl (by decide) (by decide) ⟨_, _, rfl, by omega, by omega, g19095, k19095, (ev19096), by omega, by omega⟩
      · refine ev_aload_n rfl ?_
        refine g_getp (r := 7) (c := 8) g19090 ad7 (by decide) (by decide) rf7_5 ft5_5 ?_
        refine ev_aload_n rfl ?_
        refine g_getv (r := 7) (v := v19091) g19090 ad7 (by decide) ft5_2 (ev19091) ?_
        refine g_bald g19090 ad8 rt8 (by omega) (by omega) (fun v19098 ev19098 lv19098 uv19098 => ?_)
        refine ev_sipush ?_
        refine g_iandB (b := 255) (by omega) (by omega) (by decide) (fun v19099 ev19099 lv19099 uv19099 => ?_)
        refine ev_goto f68_28 ?_
        refine ev_ret rfl (by decide) (by decide) ?_
        show jEv _ _ _ _ _ _ _ (_, [(2, 7), (2, 1), (0, 8), (0, a3), (0, x4), (0, x5), (0, v19084)], [(0, v19099)], _, _, _)
        refine ev_bipush ?_
        refine ev_icmpne f78_100 (fun c19100 => ?_) (fun c19100 => ?_)
        · refine ev_aload_n rfl ?_
          refine ev_bipush ?_
          refine ev_call (jcall_v (A := [(0, 41)]) (S' := []) (r := 7) rfl (g19090.lt ad7) (g19090.tg ad7) (Nat.le_of_ble_eq_true rfl)) (jOk_le (by decide) (s71 g19090 (by omega) (by omega) (((kk19090.v (by decide)).trans ev19088)) (by omega) (by omega))) (by decide) (by decide) (fun w19101 h19101 q19101 => ?_)
          obtain ⟨v19102, rfl, g19101, kk19101, ev19102, p19101_0⟩ := q19101
          have bv19102 := g19101.rg ad7 (i := 1) (by decide) rf7_1
          rw [ev19102] at bv19102
          have k19101 := k19090.tr kk19101 (by decide)
          show jEv _ _ _ _ _ _ _ (_, [(2, 7), (2, 1), (0, 8), (0, a3), (0, x4), (0, x5), (0, v19084)], [], _, _, _)
          refine ev_aload_n rfl ?_
          refine g_getv (r := 7) (v := v19102) g19101 ad7 (by decide) ft5_1 (ev19102) ?_
          refine ev_iflt f78_117 (fun c19103 => ?_) (fun c19103 => ?_)
          · refine ev_iload rfl ?_
            exact ev_ret rfl (by decide) (by decide) ⟨_, _, rfl, by omega, by omega, g19101, k19101, (ev19102), by omega, by omega⟩
          · refine ev_iconst ?_
            refine ev_goto f78_119 ?_
            exact ev_ret rfl (by decide) (by decide) ⟨_, _, rfl, by omega, by omega, g19101, k19101, (ev19102), by omega, by omega⟩
        · refine ev_iload rfl ?_
          refine ev_iconst ?_
          refine ev_icmpne f78_88 (fun c19104 => ?_) (fun c19104 => ?_)
          · refine ev_aload_n rfl ?_
            refine ev_bipush ?_
            refine ev_call (jcall_v (A := [(0, 44)]) (S' := []) (r := 7) rfl (g19090.lt ad7) (g19090.tg ad7) (Nat.le_of_ble_eq_true rfl)) (jOk_le (by decide) (s71 g19090 (by omega) (by omega) (((kk19090.v (by decide)).trans ev19088)) (by omega) (by omega))) (by decide) (by decide) (fun w19105 h19105 q19105 => ?_)
            obtain ⟨v19106, rfl, g19105, kk19105, ev19106, p19105_0⟩ := q19105
            have bv19106 := g19105.rg ad7 (i := 1) (by decide) rf7_1
            rw [ev19106] at bv19106
            have k19105 := k19090.tr kk19105 (by decide)
            show jEv _ _ _ _ _ _ _ (_, [(2, 7), (2, 1), (0, 8), (0, a3), (0, x4), (0, x5), (0, v19084)], [], _, _, _)
            refine ev_iinc (w := (x5 + 1)) (L' := [(2, 7), (2, 1), (0, 8), (0, a3), (0, x4), (0, (x5 + 1)), (0, v19084)]) rfl (by unfold w32; omega) rfl ?_
            refine ev_goto f78_25 ?_
            exact ih _ _ _ _ _ g19105 k19105 (by omega) (by omega) (by omega) (by omega) (by omega) (by omega) (by omega) (by omega) (ev19106) (by omega) (by omega) (by omega)
          · refine ev_goto f78_100 ?_
            refine ev_aload_n rfl ?_
            refine ev_bipush ?_
            refine ev_call (jcall_v (A := [(0, 41)]) (S' := []) (r := 7) rfl (g19090.lt ad7) (g19090.tg ad7) (Nat.le_of_ble_eq_true rfl)) (jOk_le (by decide) (s71 g19090 (by omega) (by omega) (((kk19090.v (by decide)).trans ev19088)) (by omega) (by omega))) (by decide) (by decide) (fun w19107 h19107 q19107 => ?_)
            obtain ⟨v19108, rfl, g19107, kk19107, ev19108, p19107_0⟩ := q19107
            have bv19108 := g19107.rg ad7 (i := 1) (by decide) rf7_1
            rw [ev19108] at bv19108
            have k19107 := k19090.tr kk19107 (by decide)
            show jEv _ _ _ _ _ _ _ (_, [(2, 7), (2, 1), (0, 8), (0, a3), (0, x4), (0, x5), (0, v19084)], [], _, _, _)
            refine ev_aload_n rfl ?_
            refine g_getv (r := 7) (v := v19108) g19107 ad7 (by decide) ft5_1 (ev19108) ?_
            refine ev_iflt f78_117 (fun c19109 => ?_) (fun c19109 => ?_)
            · refine ev_iload rfl ?_
              exact ev_ret rfl (by decide) (by decide) ⟨_, _, rfl, by omega, by omega, g19107, k19107, (ev19108), by omega, by omega⟩
            · refine ev_iconst ?_
              refine ev_goto f78_119 ?_
              exact ev_ret rfl (by decide) (by decide) ⟨_, _, rfl, by omega, by omega, g19107, k19107, (ev19108), by omega, by omega⟩
set_option maxHeartbeats 4000000 in
theorem s78_8 {G : GH} {h : JH} (g : Gd G h) {a3 : Int} (la3 : (-2147483648) ≤ a3) (ua3 : a3 ≤ 2147483647) {w0 : Int} (ew0 : h.2.2 7 1 = w0) (lw0 : (-1) ≤ w0) (uw0 : w0 ≤ 200) {w1 : Int} (ew1 : h.2.2 7 2 = w1) (lw1 : 0 ≤ w1) (uw1 : w1 ≤ 199) : jOk 12 0 0 78 [(2, 7), (2, 1), (0, 8), (0, a3)] h (fun v h' => ∃ r F : Int, v = some (0, r) ∧ (-1) ≤ r ∧ r ≤ 199 ∧ Gd G h' ∧ Kp [(7, 2), (7, 3), (7, 4), (10, 0), (11, 0), (12, 0), (13, 0), (14, 0), (15, 0), (16, 0), (17, 0)] h h' ∧ h'.2.2 7 1 = F ∧ ((-F) + w0) ≤ 0 ∧ ((-F) + (-r)) ≤ 1) := by
  refine ⟨by decide, by rw [ml78]; exact Nat.le_of_ble_eq_true rfl, ?_⟩
  rw [ml78, pp78]
  show jEv _ none _ c78_0 0 0 _ (c78_0, [(2, 7), (2, 1), (0, 8), (0, a3), (9, 0), (9, 0), (9, 0)], [], h, 0, 0)
  have k0 := Kp.rf [(7, 2), (7, 3), (7, 4), (10, 0), (11, 0), (12, 0), (13, 0), (14, 0), (15, 0), (16, 0), (17, 0)] h
  refine ev_aload_n rfl ?_
  refine ev_dup (by decide) ?_
  refine g_getv (r := 7) (v := w1) g ad7 (by decide) ft5_2 (ew1) ?_
  refine ev_iconst ?_
  refine ev_iadd (r := (w1 + 1)) (by unfold w32; omega) ?_
  refine g_putf (r := 7) g ad7 (by decide) ft5_2 (by decide) (fun e => absurd e nz5_2) rf7_2 (by decide) (by omega) (by omega) (fun h19110 e19110 g19110 => ?_)
  have k19110 := k0.wr e19110 rfl
  refine ev_aload_n rfl ?_
  refine ev_iload_n rfl ?_
  refine ev_call (jcall_v (A := [(0, 8)]) (S' := []) (r := 7) rfl (g19110.lt ad7) (g19110.tg ad7) (Nat.le_of_ble_eq_true rfl)) (jOk_le (by decide) (s72 g19110 (by omega) (by omega) (((jw_ne e19110 (Or.inr (by decide))).trans ew0)) (by omega) (by omega))) (by decide) (by decide) (fun w19111 h19111 q19111 => ?_)
  obtain ⟨v19112, rfl, g19111, kk19111, ev19112, p19111_0⟩ := q19111
  have bv19112 := g19111.rg ad7 (i := 1) (by decide) rf7_1
  rw [ev19112] at bv19112
  have k19111 := k19110.tr kk19111 (by decide)
  show jEv _ _ _ _ _ _ _ (_, [(2, 7), (2, 1), (0, 8), (0, a3), (9, 0), (9, 0), (9, 0)], [], _, _, _)
  refine ev_aload_n rfl ?_
  refine ev_iconst ?_
  refine ev_call (jcall_v (A := [(0, 1)]) (S' := []) (r := 7) rfl (g19111.lt ad7) (g19111.tg ad7) (Nat.le_of_ble_eq_true rfl)) (jOk_le (by decide) (s73 g19111 (by omega) (by omega) (ev19112) (by omega) (by omega))) (by decide) (by decide) (fun w19113 h19113 q19113 => ?_)
  obtain ⟨v19115, v19114, rfl, lv19115, uv19115, g19113, kk19113, ev19114, p19113_0, p19113_1⟩ := q19113
  have bv19114 := g19113.rg ad7 (i := 1) (by decide) rf7_1
  rw [ev19114] at bv19114
  have k19113 := k19111.tr kk19113 (by decide)
  show jEv _ _ _ _ _ _ _ (_, [(2, 7), (2, 1), (0, 8), (0, a3), (9, 0), (9, 0), (9, 0)], [(0, v19115)], _, _, _)
  refine ev_istore (L' := [(2, 7), (2, 1), (0, 8), (0, a3), (0, v19115), (9, 0), (9, 0)]) (Nat.le_of_ble_eq_true rfl) rfl ?_
  refine ev_iconst ?_
  refine ev_istore (L' := [(2, 7), (2, 1), (0, 8), (0, a3), (0, v19115), (0, 0), (9, 0)]) (Nat.le_of_ble_eq_true rfl) rfl ?_
  exact (s78_8_l la3 ua3 ew0 lw0 uw0 ew1 lw1 uw1 8) _ _ _ _ _ g19113 k19113 (by omega) (by omega) (by omega) (by omega) (by omega) (by omega) (by omega) (by omega) (ev19114) (by omega) (by omega) (by omega)
/-! s79_8  -/
set_option maxHeartbeats 4000000 in
theorem s79_8_l {G : GH} {h : JH} {a3 : Int} (la3 : (-2147483648) ≤ a3) (ua3 : a3 ≤ 2147483647) {w0 : Int} (ew0 : h.2.2 7 1 = w0) (lw0 : (-1) ≤ w0) (uw0 : w0 ≤ 200) {w1 : Int} (ew1 : h.2.2 7 2 = w1) (lw1 : 0 ≤ w1) (uw1 : w1 ≤ 199) : ∀ N : Nat, (∀ (h1 : JH) (x4 x5 x6 y0 : Int), Gd G h1 → Kp [(7, 2), (7, 3), (7, 4), (10, 0), (11, 0), (12, 0), (13, 0), (14, 0), (15, 0), (16, 0), (17, 0)] h h1 → (-2147483648) ≤ a3 → a3 ≤ 2147483647 → 0 ≤ x4 → x4 ≤ 3 → (-1) ≤ x5 → x5 ≤ 199 → 0 ≤ x6 → x6 ≤ 3 → (w0 + (-y0)) ≤ 0 → ((-x5) + (-y0)) ≤ 1 → h1.2.2 7 1 = y0 → (-1) ≤ y0 → y0 ≤ 200 → ((-x6) + 3) < N → jEv (jOk 11) none (fun _ => 0) c79_0 0 0 (fun v h' => ∃ r F : Int, v = some (0, r) ∧ (-1) ≤ r ∧ r ≤ 199 ∧ Gd G h' ∧ Kp [(7, 2), (7, 3), (7, 4), (10, 0), (11, 0), (12, 0), (13, 0), (14, 0), (15, 0), (16, 0), (17, 0)] h h' ∧ h'.2.2 7 1 = F ∧ ((-F) + w0) ≤ 0 ∧ ((-F) + (-r)) ≤ 1) (c79_68, [(2, 7), (2, 1), (0, 8), (0, a3), (0, x4), (0, x5), (0, x6)], [], h1, 0, 0)) := by
  intro N
  induction N with
  | zero => exact fun h1 x4 x5 x6 y0 g1 k1 b0 b1 b2 b3 b4 b5 b6 b7 b8 b9 b10 b11 b12 hm => absurd hm (by omega)
  | succ N ih =>
    show _
    intro h1 x4 x5 x6 y0 g1 k1 b0 b1 b2 b3 b4 b5 b6 b7 b8 b9 ey0 ly0 uy0 hm
    refine ev_iload rfl ?_
    refine ev_aload_n rfl ?_
    refine ev_iload rfl ?_
    refine ev_in (d := 10) (a := 0) (b := 0) (cd' := c141_0) (m := 2) (L0 := [(2, 1), (0, x4)]) (jcall_v (A := [(0, x4)]) (S' := [(0, x6)]) (r := 1) rfl (g1.lt ad1) (g1.tg ad1) (Nat.le_of_ble_eq_true rfl)) (by decide) ml141 pp141 (Nat.le_of_ble_eq_true rfl) rfl (by decide) (by decide) ?_
    refine ev_aload_n rfl ?_
    refine ev_iload_n rfl ?_
    refine ev_in (d := 9) (a := 0) (b := 0) (cd' := c140_0) (m := 2) (L0 := [(2, 1), (0, x4)]) (jcall_v (A := [(0, x4)]) (S' := []) (r := 1) rfl (g1.lt ad1) (g1.tg ad1) (Nat.le_of_ble_eq_true rfl)) (by decide) ml140 pp140 (Nat.le_of_ble_eq_true rfl) rfl (by decide) (by decide) ?_
    refine ev_iload_n rfl ?_
    refine ev_iflt f140_16 (fun c19393 => absurd c19393 (by omega)) (fun c19393 => ?_)
    refine ev_iload_n rfl ?_
    refine ev_aload_n rfl ?_
    obtain ⟨v19394, ev19394, lv19394, uv19394⟩ := g1.rd ad1 (show 0 < 8 by decide) rf1_0
    refine g_getv (r := 1) (v := v19394) g1 ad1 (by decide) ft10_0 ev19394 ?_
    refine ev_icmpge f140_16 (fun c19395 => ?_) (fun c19395 => ?_)
    · refine ev_iconst ?_
      refine ev_ret rfl (by decide) (by decide) ?_
      show jEv _ _ _ _ _ _ _ (_, [(2, 1), (0, x4)], [(0, 0)], _, _, _)
      refine ev_ifeq f141_17 (fun c19396 => ?_) (fun c19396 => absurd c19396 (by omega))
      refine ev_iconst ?_
      refine ev_ret rfl (by decide) (by decide) ?_
      show jEv _ _ _ _ _ _ _ (_, [(2, 7), (2, 1), (0, 8), (0, a3), (0, x4), (0, x5), (0, x6)], [(0, 0), (0, x6)], _, _, _)
      refine ev_icmpge f79_126 (fun c19397 => ?_) (fun c19397 => absurd c19397 (by omega))
      refine ev_aload_n rfl ?_
      refine ev_bipush ?_
      refine ev_call (jcall_v (A := [(0, 41)]) (S' := []) (r := 7) rfl (g1.lt ad7) (g1.tg ad7) (Nat.le_of_ble_eq_true rfl)) (jOk_le (by decide) (s71 g1 (by omega) (by omega) (ey0) (by omega) (by omega))) (by decide) (by decide) (fun w19398 h19398 q19398 => ?_)
      obtain ⟨v19399, rfl, g19398, kk19398, ev19399, p19398_0⟩ := q19398
      have bv19399 := g19398.rg ad7 (i := 1) (by decide) rf7_1
      rw [ev19399] at bv19399
      have k19398 := k1.tr kk19398 (by decide)
      show jEv _ _ _ _ _ _ _ (_, [(2, 7), (2, 1), (0, 8), (0, a3), (0, x4), (0, x5), (0, x6)], [], _, _, _)
      refine ev_aload_n rfl ?_
      refine g_getv (r := 7) (v := v19399) g19398 ad7 (by decide) ft5_1 (ev19399) ?_
      refine ev_ifge f79_144 (fun c19400 => ?_) (fun c19400 => ?_)
      · refine ev_iconst ?_
        exact ev_ret rfl (by decide) (by decide) ⟨_, _, rfl, by omega, by omega, g19398, k19398, (ev19399), by omega, by omega⟩
      · refine ev_iload rfl ?_
        refine ev_ifge f79_146 (fun c19401 => ?_) (fun c19401 => absurd c19401 (by omega))
        refine ev_aload_n rfl ?_
        refine g_getp (r := 7) (c := 11) g19398 ad7 (by decide) (by decide) rf7_8 ft5_8 ?_
        refine ev_iload rfl ?_
        refine ev_iload rfl ?_
        refine g_iast g19398 ad11 rt11 (fun _ => rfl) (by omega) (by omega) (by omega) (by omega) (fun h19402 e19402 g19402 => ?_)
        have k19402 := k19398.wr e19402 rfl
        refine ev_aload_n rfl ?_
        refine g_getp (r := 7) (c := 15) g19402 ad7 (by decide) (by decide) rf7_12 ft5_12 ?_
        refine ev_iload rfl ?_
        refine ev_dup2 (by decide) (by decide) ?_
        refine g_iald g19402 ad15 rt15 (by omega) (by omega) (fun v19403 ev19403 lv19403 uv19403 => ?_)
        refine ev_iconst ?_
        refine ev_iload rfl ?_
        refine g_ishlB (a' := 1) (a := 1) (b := 3) (hi := 8) (by omega) (by omega) (by omega) (by omega) (by decide) (by decide) (fun v19404 ev19404 lv19404 uv19404 => ?_)
        refine g_iorG (fun v19405 ev19405 lv19405 uv19405 => ?_)
        refine g_iast g19402 ad15 rt15 (fun _ => rfl) (by omega) (by omega) (by omega) (by omega) (fun h19406 e19406 g19406 => ?_)
        have k19406 := k19402.wr e19406 rfl
        refine ev_iload rfl ?_
        exact ev_ret rfl (by decide) (by decide) ⟨_, _, rfl, by omega, by omega, g19406, k19406, (((jw_ne e19406 (Or.inl (by decide))).trans ((jw_ne e19402 (Or.inl (by decide))).trans ev19399))), by omega, by omega⟩
    · refine ev_iconst ?_
      refine ev_goto f140_17 ?_
      refine ev_ret rfl (by decide) (by decide) ?_
      show jEv _ _ _ _ _ _ _ (_, [(2, 1), (0, x4)], [(0, 1)], _, _, _)
      refine ev_ifeq f141_17 (fun c19407 => absurd c19407 (by omega)) (fun c19407 => ?_)
      refine ev_aload_n rfl ?_
      refine g_getp (r := 1) (c := 2) g1 ad1 (by decide) (by decide) rf1_3 ft10_3 ?_
      refine ev_iload_n rfl ?_
      refine g_iald g1 ad2 rt2 (by omega) (by omega) (fun v19408 ev19408 lv19408 uv19408 => ?_)
      refine ev_goto f141_18 ?_
      refine ev_ret rfl (by decide) (by decide) ?_
      show jEv _ _ _ _ _ _ _ (_, [(2, 7), (2, 1), (0, 8), (0, a3), (0, x4), (0, x5), (0, x6)], [(0, v19408), (0, x6)], _, _, _)
      refine ev_icmpge f79_126 (fun c19409 => ?_) (fun c19409 => ?_)
      · refine ev_aload_n rfl ?_
        refine ev_bipush ?_
        refine ev_call (jcall_v (A := [(0, 41)]) (S' := []) (r := 7) rfl (g1.lt ad7) (g1.tg ad7) (Nat.le_of_ble_eq_true rfl)) (jOk_le (by decide) (s71 g1 (by omega) (by omega) (ey0) (by omega) (by omega))) (by decide) (by decide) (fun w19410 h19410 q19410 => ?_)
        obtain ⟨v19411, rfl, g19410, kk19410, ev19411, p19410_0⟩ := q19410
        have bv19411 := g19410.rg ad7 (i := 1) (by decide) rf7_1
        rw [ev19411] at bv19411
        have k19410 := k1.tr kk19410 (by decide)
        show jEv _ _ _ _ _ _ _ (_, [(2, 7), (2, 1), (0, 8), (0, a3), (0, x4), (0, x5), (0, x6)], [], _, _, _)
        refine ev_aload_n rfl ?_
        refine g_getv (r := 7) (v := v19411) g19410 ad7 (by decide) ft5_1 (ev19411) ?_
        refine ev_ifge f79_144 (fun c19412 => ?_) (fun c19412 => ?_)
        · refine ev_iconst ?_
          exact ev_ret rfl (by decide) (by decide) ⟨_, _, rfl, by omega, by omega, g19410, k19410, (ev19411), by omega, by omega⟩
        · refine ev_iload rfl ?_
          refine ev_ifge f79_146 (fun c19413 => ?_) (fun c19413 => absurd c19413 (by omega))
          refine ev_aload_n rfl ?_
          refine g_getp (r := 7) (c := 11) g19410 ad7 (by decide) (by decide) rf7_8 ft5_8 ?_
          refine ev_iload rfl ?_
          refine ev_iload rfl ?_
          refine g_iast g19410 ad11 rt11 (fun _ => rfl) (by omega) (by omega) (by omega) (by omega) (fun h19414 e19414 g19414 => ?_)
          have k19414 := k19410.wr e19414 rfl
          refine ev_aload_n rfl ?_
          refine g_getp (r := 7) (c := 15) g19414 ad7 (by decide) (by decide) rf7_12 ft5_12 ?_
          refine ev_iload rfl ?_
          refine ev_dup2 (by decide) (by decide) ?_
          refine g_iald g19414 ad15 rt15 (by omega) (by omega) (fun v19415 ev19415 lv19415 uv19415 => ?_)
          refine ev_iconst ?_
          refine ev_iload rfl ?_
          refine g_ishlB (a' := 1) (a := 1) (b := 3) (hi := 8) (by omega) (by omega) (by omega) (by omega) (by decide) (by decide) (fun v19416 ev19416 lv19416 uv19416 => ?_)
          refine g_iorG (fun v19417 ev19417 lv19417 uv19417 => ?_)
          refine g_iast g19414 ad15 rt15 (fun _ => rfl) (by omega) (by omega) (by omega) (by omega) (fun h19418 e19418 g19418 => ?_)
          have k19418 := k19414.wr e19418 rfl
          refine ev_iload rfl ?_
          exact ev_ret rfl (by decide) (by decide) ⟨_, _, rfl, by omega, by omega, g19418, k19418, (((jw_ne e19418 (Or.inl (by decide))).trans ((jw_ne e19414 (Or.inl (by decide))).trans ev19411))), by omega, by omega⟩
      · refine ev_aload_n rfl ?_
        refine g_getv (r := 7) (v := y0) g1 ad7 (by decide) ft5_1 (ey0) ?_
        refine ev_ifge f79_126 (fun c19419 => ?_) (fun c19419 => ?_)
        · refine ev_aload_n rfl ?_
          refine ev_bipush ?_
          refine ev_call (jcall_v (A := [(0, 41)]) (S' := []) (r := 7) rfl (g1.lt ad7) (g1.tg ad7) (Nat.le_of_ble_eq_true rfl)) (jOk_le (by decide) (s71 g1 (by omega) (by omega) (ey0) (by omega) (by omega))) (by decide) (by decide) (fun w19420 h19420 q19420 => ?_)
          obtain ⟨v19421, rfl, g19420, kk19420, ev19421, p19420_0⟩ := q19420
          have bv19421 := g19420.rg ad7 (i := 1) (by decide) rf7_1
          rw [ev19421] at bv19421
          have k19420 := k1.tr kk19420 (by decide)
          show jEv _ _ _ _ _ _ _ (_, [(2, 7), (2, 1), (0, 8), (0, a3), (0, x4), (0, x5), (0, x6)], [], _, _, _)
          refine ev_aload_n rfl ?_
          refine g_getv (r := 7) (v := v19421) g19420 ad7 (by decide) ft5_1 (ev19421) ?_
          refine ev_ifge f79_144 (fun c19422 => ?_) (fun c19422 => absurd c19422 (by omega))
          refine ev_iconst ?_
          exact ev_ret rfl (by decide) (by decide) ⟨_, _, rfl, by omega, by omega, g19420, k19420, (ev19421), by omega, by omega⟩
        · refine ev_iload rfl ?_
          refine ev_ifle f79_97 (fun c19423 => ?_) (fun c19423 => ?_)
          · refine ev_aload_n rfl ?_
            refine ev_iload rfl ?_
            refine ev_iload rfl ?_
            refine ev_iconst ?_
            refine ev_aload_n rfl ?_
            refine ev_aload_n rfl ?_
            refine ev_iload_n rfl ?_
            refine ev_iconst ?_
            refine ev_iadd (r := 9) (by decide) ?_
            refine ev_iload_n rfl ?_
            refine ev_iconst ?_
            refine ev_iload rfl ?_
            refine g_ishlB (a' := 1) (a := 1) (b := 3) (hi := 8) (by omega) (by omega) (by omega) (by omega) (by decide) (by decide) (fun v19424 ev19424 lv19424 uv19424 => ?_)
            refine g_iorG (fun v19425 ev19425 lv19425 uv19425 => ?_)
            refine ev_call (jcall_v (A := [(0, v19425), (0, 9), (2, 1)]) (S' := [(0, 0), (0, x6), (0, x5), (2, 7)]) (r := 7) rfl (g1.lt ad7) (g1.tg ad7) (Nat.le_of_ble_eq_true rfl)) (jOk_le (by decide) (s74_9 g1 (by omega) (by omega) (ey0) (by omega) (by omega))) (by decide) (by decide) (fun w19426 h19426 q19426 => ?_)
            obtain ⟨v19428, v19427, rfl, lv19428, uv19428, g19426, kk19426, ev19427, p19426_0, p19426_1⟩ := q19426
            have bv19427 := g19426.rg ad7 (i := 1) (by decide) rf7_1
            rw [ev19427] at bv19427
            have k19426 := k1.tr kk19426 (by decide)
            show jEv _ _ _ _ _ _ _ (_, [(2, 7), (2, 1), (0, 8), (0, a3), (0, x4), (0, x5), (0, x6)], [(0, v19428), (0, 0), (0, x6), (0, x5), (2, 7)], _, _, _)
            refine ev_call (jcall_v (A := [(0, v19428), (0, 0), (0, x6), (0, x5)]) (S' := []) (r := 7) rfl (g19426.lt ad7) (g19426.tg ad7) (Nat.le_of_ble_eq_true rfl)) (jOk_le (by decide) (s80 g19426 (by omega) (by omega) (by omega) (by omega) (by omega) (by omega) (by omega) (by omega))) (by decide) (by decide) (fun w19429 h19429 q19429 => ?_)
            obtain ⟨rfl, g19429, kk19429⟩ := q19429
            have k19429 := k19426.tr kk19429 (by decide)
            show jEv _ _ _ _ _ _ _ (_, [(2, 7), (2, 1), (0, 8), (0, a3), (0, x4), (0, x5), (0, x6)], [], _, _, _)
            refine ev_iinc (w := (x6 + 1)) (L' := [(2, 7), (2, 1), (0, 8), (0, a3), (0, x4), (0, x5), (0, (x6 + 1))]) rfl (by unfold w32; omega) rfl ?_
            refine ev_goto f79_68 ?_
            exact ih _ _ _ _ _ g19429 k19429 (by omega) (by omega) (by omega) (by omega) (by omega) (by omega) (by omega) (by omega) (by omega) (by omega) (((kk19429.v (by decide)).trans ev19427)) (by omega) (by omega) (by omega)
          · refine ev_aload_n rfl ?_
            refine ev_bipush ?_
            refine ev_call (jcall_v (A := [(0, 44)]) (S' := []) (r := 7) rfl (g1.lt ad7) (g1.tg ad7) (Nat.le_of_ble_eq_true rfl)) (jOk_le (by decide) (s71 g1 (by omega) (by omega) (ey0) (by omega) (by omega))) (by decide) (by decide) (fun w19430 h19430 q19430 => ?_)
            obtain ⟨v19431, rfl, g19430, kk19430, ev19431, p19430_0⟩ := q19430
            have bv19431 := g19430.rg ad7 (i := 1) (by decide) rf7_1
            rw [ev19431] at bv19431
            have k19430 := k1.tr kk19430 (by decide)
            show jEv _ _ _ _ _ _ _ (_, [(2, 7), (2, 1), (0, 8), (0, a3), (0, x4), (0, x5), (0, x6)], [], _, _, _)
            refine ev_aload_n rfl ?_
            refine ev_iload rfl ?_
            refine ev_iload rfl ?_
            refine ev_iconst ?_
            refine ev_aload_n rfl ?_
            refine ev_aload_n rfl ?_
            refine ev_iload_n rfl ?_
            refine ev_iconst ?_
            refine ev_iadd (r := 9) (by decide) ?_
            refine ev_iload_n rfl ?_
            refine ev_iconst ?_
            refine ev_iload rfl ?_
            refine g_ishlB (a' := 1) (a := 1) (b := 3) (hi := 8) (by omega) (by omega) (by omega) (by omega) (by decide) (by decide) (fun v19432 ev19432 lv19432 uv19432 => ?_)
            refine g_iorG (fun v19433 ev19433 lv19433 uv19433 => ?_)
            refine ev_call (jcall_v (A := [(0, v19433), (0, 9), (2, 1)]) (S' := [(0, 0), (0, x6), (0, x5), (2, 7)]) (r := 7) rfl (g19430.lt ad7) (g19430.tg ad7) (Nat.le_of_ble_eq_true rfl)) (jOk_le (by decide) (s74_9 g19430 (by omega) (by omega) (ev19431) (by omega) (by omega))) (by decide) (by decide) (fun w19434 h19434 q19434 => ?_)
            obtain ⟨v19436, v19435, rfl, lv19436, uv19436, g19434, kk19434, ev19435, p19434_0, p19434_1⟩ := q19434
            have bv19435 := g19434.rg ad7 (i := 1) (by decide) rf7_1
            rw [ev19435] at bv19435
            have k19434 := k19430.tr kk19434 (by decide)
            show jEv _ _ _ _ _ _ _ (_, [(2, 7), (2, 1), (0, 8), (0, a3), (0, x4), (0, x5), (0, x6)], [(0, v19436), (0, 0), (0, x6), (0, x5), (2, 7)], _, _, _)
            refine ev_call (jcall_v (A := [(0, v19436), (0, 0), (0, x6), (0, x5)]) (S' := []) (r := 7) rfl (g19434.lt ad7) (g19434.tg ad7) (Nat.le_of_ble_eq_true rfl)) (jOk_le (by decide) (s80 g19434 (by omega) (by omega) (by omega) (by omega) (by omega) (by omega) (by omega) (by omega))) (by decide) (by decide) (fun w19437 h19437 q19437 => ?_)
            obtain ⟨rfl, g19437, kk19437⟩ := q19437
            have k19437 := k19434.tr kk19437 (by decide)
            show jEv _ _ _ _ _ _ _ (_, [(2, 7), (2, 1), (0, 8), (0, a3), (0, x4), (0, x5), (0, x6)], [], _, _, _)
            refine ev_iinc (w := (x6 + 1)) (L' := [(2, 7), (2, 1), (0, 8), (0, a3), (0, x4), (0, x5), (0, (x6 + 1))]) rfl (by unfold w32; omega) rfl ?_
            refine ev_goto f79_68 ?_
            exact ih _ _ _ _ _ g19437 k19437 (by omega) (by omega) (by omega) (by omega) (by omega) (by omega) (by omega) (by omega) (by omega) (by omega) (((kk19437.v (by decide)).trans ev19435)) (by omega) (by omega) (by omega)
set_option maxHeartbeats 4000000 in
theorem s79_8 {G : GH} {h : JH} (g : Gd G h) {a3 : Int} (la3 : (-2147483648) ≤ a3) (ua3 : a3 ≤ 2147483647) {w0 : Int} (ew0 : h.2.2 7 1 = w0) (lw0 : (-1) ≤ w0) (uw0 : w0 ≤ 200) {w1 : Int} (ew1 : h.2.2 7 2 = w1) (lw1 : 0 ≤ w1) (uw1 : w1 ≤ 199) : jOk 12 0 0 79 [(2, 7), (2, 1), (0, 8), (0, a3)] h (fun v h' => ∃ r F : Int, v = some (0, r) ∧ (-1) ≤ r ∧ r ≤ 199 ∧ Gd G h' ∧ Kp [(7, 2), (7, 3), (7, 4), (10, 0), (11, 0), (12, 0), (13, 0), (14, 0), (15, 0), (16, 0), (17, 0)] h h' ∧ h'.2.2 7 1 = F ∧ ((-F) + w0) ≤ 0 ∧ ((-F) + (-r)) ≤ 1) := by
  refine ⟨by decide, by rw [ml79]; exact Nat.le_of_ble_eq_true rfl, ?_⟩
  rw [ml79, pp79]
  show jEv _ none _ c79_0 0 0 _ (c79_0, [(2, 7), (2, 1), (0, 8), (0, a3), (9, 0), (9, 0), (9, 0)], [], h, 0, 0)
  have k0 := Kp.rf [(7, 2), (7, 3), (7, 4), (10, 0), (11, 0), (12, 0), (13, 0), (14, 0), (15, 0), (16, 0), (17, 0)] h
  refine ev_aload_n rfl ?_
  refine ev_dup (by decide) ?_
  refine g_getv (r := 7) (v := w1) g ad7 (by decide) ft5_2 (ew1) ?_
  refine ev_iconst ?_
  refine ev_iadd (r := (w1 + 1)) (by unfold w32; omega) ?_
  refine g_putf (r := 7) g ad7 (by decide) ft5_2 (by decide) (fun e => absurd e nz5_2) rf7_2 (by decide) (by omega) (by omega) (fun h19438 e19438 g19438 => ?_)
  have k19438 := k0.wr e19438 rfl
  refine ev_aload_n rfl ?_
  refine ev_in (d := 10) (a := 0) (b := 0) (cd' := c68_0) (m := 1) (L0 := [(2, 7)]) (jcall_v (A := []) (S' := []) (r := 7) rfl (g19438.lt ad7) (g19438.tg ad7) (Nat.le_of_ble_eq_true rfl)) (by decide) ml68 pp68 (Nat.le_of_ble_eq_true rfl) rfl (by decide) (by decide) ?_
  refine ev_aload_n rfl ?_
  refine g_getv (r := 7) (v := (w1 + 1)) g19438 ad7 (by decide) ft5_2 ((jw_eq e19438)) ?_
  refine ev_aload_n rfl ?_
  obtain ⟨v19439, ev19439, lv19439, uv19439⟩ := g19438.rd ad7 (show 0 < 15 by decide) rf7_0
  refine g_getv (r := 7) (v := v19439) g19438 ad7 (by decide) ft5_0 ev19439 ?_
  refine ev_icmpge f68_27 (fun c19440 => ?_) (fun c19440 => ?_)
  · refine ev_iconst ?_
    refine ev_ret rfl (by decide) (by decide) ?_
    show jEv _ _ _ _ _ _ _ (_, [(2, 7), (2, 1), (0, 8), (0, a3), (9, 0), (9, 0), (9, 0)], [(0, (-1))], _, _, _)
    refine ev_bipush ?_
    refine ev_isub (r := (-98)) (by decide) ?_
    refine ev_istore (L' := [(2, 7), (2, 1), (0, 8), (0, a3), (0, (-98)), (9, 0), (9, 0)]) (Nat.le_of_ble_eq_true rfl) rfl ?_
    refine ev_aload_n rfl ?_
    refine ev_iload rfl ?_
    refine ev_in (d := 10) (a := 0) (b := 0) (cd' := c140_0) (m := 2) (L0 := [(2, 1), (0, (-98))]) (jcall_v (A := [(0, (-98))]) (S' := []) (r := 1) rfl (g19438.lt ad1) (g19438.tg ad1) (Nat.le_of_ble_eq_true rfl)) (by decide) ml140 pp140 (Nat.le_of_ble_eq_true rfl) rfl (by decide) (by decide) ?_
    refine ev_iload_n rfl ?_
    refine ev_iflt f140_16 (fun c19441 => ?_) (fun c19441 => absurd c19441 (by omega))
    refine ev_iconst ?_
    refine ev_ret rfl (by decide) (by decide) ?_
    show jEv _ _ _ _ _ _ _ (_, [(2, 7), (2, 1), (0, 8), (0, a3), (0, (-98)), (9, 0), (9, 0)], [(0, 0)], _, _, _)
    refine ev_ifeq f79_37 (fun c19442 => ?_) (fun c19442 => absurd c19442 (by omega))
    refine ev_aload_n rfl ?_
    refine ev_in (d := 10) (a := 0) (b := 0) (cd' := c70_0) (m := 1) (L0 := [(2, 7)]) (jcall_v (A := []) (S' := []) (r := 7) rfl (g19438.lt ad7) (g19438.tg ad7) (Nat.le_of_ble_eq_true rfl)) (by decide) ml70 pp70 (Nat.le_of_ble_eq_true rfl) rfl (by decide) (by decide) ?_
    refine ev_aload_n rfl ?_
    refine g_getv (r := 7) (v := w0) g19438 ad7 (by decide) ft5_1 (((jw_ne e19438 (Or.inr (by decide))).trans ew0)) ?_
    refine ev_ifge f70_15 (fun c19443 => ?_) (fun c19443 => ?_)
    · refine ev_ret rfl (by decide) (by decide) ?_
      show jEv _ _ _ _ _ _ _ (_, [(2, 7), (2, 1), (0, 8), (0, a3), (0, (-98)), (9, 0), (9, 0)], [], _, _, _)
      refine ev_iconst ?_
      exact ev_ret rfl (by decide) (by decide) ⟨_, _, rfl, by omega, by omega, g19438, k19438, (((jw_ne e19438 (Or.inr (by decide))).trans ew0)), by omega, by omega⟩
    · refine ev_aload_n rfl ?_
      refine ev_aload_n rfl ?_
      refine g_getv (r := 7) (v := (w1 + 1)) g19438 ad7 (by decide) ft5_2 ((jw_eq e19438)) ?_
      refine g_putf (r := 7) g19438 ad7 (by decide) ft5_1 (by decide) (fun e => absurd e nz5_1) rf7_1 (by decide) (by omega) (by omega) (fun h19444 e19444 g19444 => ?_)
      have k19444 := k19438.wr e19444 rfl
      refine ev_ret rfl (by decide) (by decide) ?_
      show jEv _ _ _ _ _ _ _ (_, [(2, 7), (2, 1), (0, 8), (0, a3), (0, (-98)), (9, 0), (9, 0)], [], _, _, _)
      refine ev_iconst ?_
      exact ev_ret rfl (by decide) (by decide) ⟨_, _, rfl, by omega, by omega, g19444, k19444, ((jw_eq e19444)), by omega, by omega⟩
  · refine ev_aload_n rfl ?_
    refine g_getp (r := 7) (c := 8) g19438 ad7 (by decide) (by decide) rf7_5 ft5_5 ?_
    refine ev_aload_n rfl ?_
    refine g_getv (r := 7) (v := (w1 + 1)) g19438 ad7 (by decide) ft5_2 ((jw_eq e19438)) ?_
    refine g_bald g19438 ad8 rt8 (by omega) (by omega) (fun v19445 ev19445 lv19445 uv19445 => ?_)
    refine ev_sipush ?_
    refine g_iandB (b := 255) (by omega) (by omega) (by decide) (fun v19446 ev19446 lv19446 uv19446 => ?_)
    refine ev_goto f68_28 ?_
    refine ev_ret rfl (by decide) (by decide) ?_
    show jEv _ _ _ _ _ _ _ (_, [(2, 7), (2, 1), (0, 8), (0, a3), (9, 0), (9, 0), (9, 0)], [(0, v19446)], _, _, _)
    refine ev_bipush ?_
    refine ev_isub (r := (v19446 - 97)) (by unfold w32; omega) ?_
    refine ev_istore (L' := [(2, 7), (2, 1), (0, 8), (0, a3), (0, (v19446 - 97)), (9, 0), (9, 0)]) (Nat.le_of_ble_eq_true rfl) rfl ?_
    refine ev_aload_n rfl ?_
    refine ev_iload rfl ?_
    refine ev_in (d := 10) (a := 0) (b := 0) (cd' := c140_0) (m := 2) (L0 := [(2, 1), (0, (v19446 - 97))]) (jcall_v (A := [(0, (v19446 - 97))]) (S' := []) (r := 1) rfl (g19438.lt ad1) (g19438.tg ad1) (Nat.le_of_ble_eq_true rfl)) (by decide) ml140 pp140 (Nat.le_of_ble_eq_true rfl) rfl (by decide) (by decide) ?_
    refine ev_iload_n rfl ?_
    refine ev_iflt f140_16 (fun c19447 => ?_) (fun c19447 => ?_)
    · refine ev_iconst ?_
      refine ev_ret rfl (by decide) (by decide) ?_
      show jEv _ _ _ _ _ _ _ (_, [(2, 7), (2, 1), (0, 8), (0, a3), (0, (v19446 - 97)), (9, 0), (9, 0)], [(0, 0)], _, _, _)
      refine ev_ifeq f79_37 (fun c19448 => ?_) (fun c19448 => absurd c19448 (by omega))
      refine ev_aload_n rfl ?_
      refine ev_in (d := 10) (a := 0) (b := 0) (cd' := c70_0) (m := 1) (L0 := [(2, 7)]) (jcall_v (A := []) (S' := []) (r := 7) rfl (g19438.lt ad7) (g19438.tg ad7) (Nat.le_of_ble_eq_true rfl)) (by decide) ml70 pp70 (Nat.le_of_ble_eq_true rfl) rfl (by decide) (by decide) ?_
      refine ev_aload_n rfl ?_
      refine g_getv (r := 7) (v := w0) g19438 ad7 (by decide) ft5_1 (((jw_ne e19438 (Or.inr (by decide))).trans ew0)) ?_
      refine ev_ifge f70_15 (fun c19449 => ?_) (fun c19449 => ?_)
      · refine ev_ret rfl (by decide) (by decide) ?_
        show jEv _ _ _ _ _ _ _ (_, [(2, 7), (2, 1), (0, 8), (0, a3), (0, (v19446 - 97)), (9, 0), (9, 0)], [], _, _, _)
        refine ev_iconst ?_
        exact ev_ret rfl (by decide) (by decide) ⟨_, _, rfl, by omega, by omega, g19438, k19438, (((jw_ne e19438 (Or.inr (by decide))).trans ew0)), by omega, by omega⟩
      · refine ev_aload_n rfl ?_
        refine ev_aload_n rfl ?_
        refine g_getv (r := 7) (v := (w1 + 1)) g19438 ad7 (by decide) ft5_2 ((jw_eq e19438)) ?_
        refine g_putf (r := 7) g19438 ad7 (by decide) ft5_1 (by decide) (fun e => absurd e nz5_1) rf7_1 (by decide) (by omega) (by omega) (fun h19450 e19450 g19450 => ?_)
        have k19450 := k19438.wr e19450 rfl
        refine ev_ret rfl (by decide) (by decide) ?_
        show jEv _ _ _ _ _ _ _ (_, [(2, 7), (2, 1), (0, 8), (0, a3), (0, (v19446 - 97)), (9, 0), (9, 0)], [], _, _, _)
        refine ev_iconst ?_
        exact ev_ret rfl (by decide) (by decide) ⟨_, _, rfl, by omega, by omega, g19450, k19450, ((jw_eq e19450)), by omega, by omega⟩
    · refine ev_iload_n rfl ?_
      refine ev_aload_n rfl ?_
      obtain ⟨v19451, ev19451, lv19451, uv19451⟩ := g19438.rd ad1 (show 0 < 8 by decide) rf1_0
      refine g_getv (r := 1) (v := v19451) g19438 ad1 (by decide) ft10_0 ev19451 ?_
      refine ev_icmpge f140_16 (fun c19452 => ?_) (fun c19452 => ?_)
      · refine ev_iconst ?_
        refine ev_ret rfl (by decide) (by decide) ?_
        show jEv _ _ _ _ _ _ _ (_, [(2, 7), (2, 1), (0, 8), (0, a3), (0, (v19446 - 97)), (9, 0), (9, 0)], [(0, 0)], _, _, _)
        refine ev_ifeq f79_37 (fun c19453 => ?_) (fun c19453 => absurd c19453 (by omega))
        refine ev_aload_n rfl ?_
        refine ev_in (d := 10) (a := 0) (b := 0) (cd' := c70_0) (m := 1) (L0 := [(2, 7)]) (jcall_v (A := []) (S' := []) (r := 7) rfl (g19438.lt ad7) (g19438.tg ad7) (Nat.le_of_ble_eq_true rfl)) (by decide) ml70 pp70 (Nat.le_of_ble_eq_true rfl) rfl (by decide) (by decide) ?_
        refine ev_aload_n rfl ?_
        refine g_getv (r := 7) (v := w0) g19438 ad7 (by decide) ft5_1 (((jw_ne e19438 (Or.inr (by decide))).trans ew0)) ?_
        refine ev_ifge f70_15 (fun c19454 => ?_) (fun c19454 => ?_)
        · refine ev_ret rfl (by decide) (by decide) ?_
          show jEv _ _ _ _ _ _ _ (_, [(2, 7), (2, 1), (0, 8), (0, a3), (0, (v19446 - 97)), (9, 0), (9, 0)], [], _, _, _)
          refine ev_iconst ?_
          exact ev_ret rfl (by decide) (by decide) ⟨_, _, rfl, by omega, by omega, g19438, k19438, (((jw_ne e19438 (Or.inr (by decide))).trans ew0)), by omega, by omega⟩
        · refine ev_aload_n rfl ?_
          refine ev_aload_n rfl ?_
          refine g_getv (r := 7) (v := (w1 + 1)) g19438 ad7 (by decide) ft5_2 ((jw_eq e19438)) ?_
          refine g_putf (r := 7) g19438 ad7 (by decide) ft5_1 (by decide) (fun e => absurd e nz5_1) rf7_1 (by decide) (by omega) (by omega) (fun h19455 e19455 g19455 => ?_)
          have k19455 := k19438.wr e19455 rfl
          refine ev_ret rfl (by decide) (by decide) ?_
          show jEv _ _ _ _ _ _ _ (_, [(2, 7), (2, 1), (0, 8), (0, a3), (0, (v19446 - 97)), (9, 0), (9, 0)], [], _, _, _)
          refine ev_iconst ?_
          exact ev_ret rfl (by decide) (by decide) ⟨_, _, rfl, by omega, by omega, g19455, k19455, ((jw_eq e19455)), by omega, by omega⟩
      · refine ev_iconst ?_
        refine ev_goto f140_17 ?_
        refine ev_ret rfl (by decide) (by decide) ?_
        show jEv _ _ _ _ _ _ _ (_, [(2, 7), (2, 1), (0, 8), (0, a3), (0, (v19446 - 97)), (9, 0), (9, 0)], [(0, 1)], _, _, _)
        refine ev_ifeq f79_37 (fun c19456 => absurd c19456 (by omega)) (fun c19456 => ?_)
        refine ev_iload_n rfl ?_
        refine ev_iload rfl ?_
        refine g_ishrG (fun v19457 ev19457 lv19457 uv19457 => ?_)
        refine ev_iconst ?_
        refine g_iandB (b := 1) (by omega) (by omega) (by decide) (fun v19458 ev19458 lv19458 uv19458 => ?_)
        refine ev_ifeq f79_43 (fun c19459 => ?_) (fun c19459 => ?_)
        · refine ev_aload_n rfl ?_
          refine ev_dup (by decide) ?_
          refine g_getv (r := 7) (v := (w1 + 1)) g19438 ad7 (by decide) ft5_2 ((jw_eq e19438)) ?_
          refine ev_iconst ?_
          refine ev_iadd (r := (w1 + 2)) (by unfold w32; omega) ?_
          refine g_putf (r := 7) g19438 ad7 (by decide) ft5_2 (by decide) (fun e => absurd e nz5_2) rf7_2 (by decide) (by omega) (by omega) (fun h19460 e19460 g19460 => ?_)
          have k19460 := k19438.wr e19460 rfl
          refine ev_aload_n rfl ?_
          refine ev_iload_n rfl ?_
          refine ev_call (jcall_v (A := [(0, 8)]) (S' := []) (r := 7) rfl (g19460.lt ad7) (g19460.tg ad7) (Nat.le_of_ble_eq_true rfl)) (jOk_le (by decide) (s72 g19460 (by omega) (by omega) (((jw_ne e19460 (Or.inr (by decide))).trans ((jw_ne e19438 (Or.inr (by decide))).trans ew0))) (by omega) (by omega))) (by decide) (by decide) (fun w19461 h19461 q19461 => ?_)
          obtain ⟨v19462, rfl, g19461, kk19461, ev19462, p19461_0⟩ := q19461
          have bv19462 := g19461.rg ad7 (i := 1) (by decide) rf7_1
          rw [ev19462] at bv19462
          have k19461 := k19460.tr kk19461 (by decide)
          show jEv _ _ _ _ _ _ _ (_, [(2, 7), (2, 1), (0, 8), (0, a3), (0, (v19446 - 97)), (9, 0), (9, 0)], [], _, _, _)
          refine ev_aload_n rfl ?_
          refine ev_iconst ?_
          refine ev_call (jcall_v (A := [(0, 2)]) (S' := []) (r := 7) rfl (g19461.lt ad7) (g19461.tg ad7) (Nat.le_of_ble_eq_true rfl)) (jOk_le (by decide) (s73 g19461 (by omega) (by omega) (ev19462) (by omega) (by omega))) (by decide) (by decide) (fun w19463 h19463 q19463 => ?_)
          obtain ⟨v19465, v19464, rfl, lv19465, uv19465, g19463, kk19463, ev19464, p19463_0, p19463_1⟩ := q19463
          have bv19464 := g19463.rg ad7 (i := 1) (by decide) rf7_1
          rw [ev19464] at bv19464
          have k19463 := k19461.tr kk19463 (by decide)
          show jEv _ _ _ _ _ _ _ (_, [(2, 7), (2, 1), (0, 8), (0, a3), (0, (v19446 - 97)), (9, 0), (9, 0)], [(0, v19465)], _, _, _)
          refine ev_istore (L' := [(2, 7), (2, 1), (0, 8), (0, a3), (0, (v19446 - 97)), (0, v19465), (9, 0)]) (Nat.le_of_ble_eq_true rfl) rfl ?_
          refine ev_iconst ?_
          refine ev_istore (L' := [(2, 7), (2, 1), (0, 8), (0, a3), (0, (v19446 - 97)), (0, v19465), (0, 0)]) (Nat.le_of_ble_eq_true rfl) rfl ?_
          exact (s79_8_l la3 ua3 ew0 lw0 uw0 ew1 lw1 uw1 8) _ _ _ _ _ g19463 k19463 (by omega) (by omega) (by omega) (by omega) (by omega) (by omega) (by omega) (by omega) (by omega) (by omega) (ev19464) (by omega) (by omega) (by omega)
        · refine ev_aload_n rfl ?_
          refine ev_in (d := 10) (a := 0) (b := 0) (cd' := c70_0) (m := 1) (L0 := [(2, 7)]) (jcall_v (A := []) (S' := []) (r := 7) rfl (g19438.lt ad7) (g19438.tg ad7) (Nat.le_of_ble_eq_true rfl)) (by decide) ml70 pp70 (Nat.le_of_ble_eq_true rfl) rfl (by decide) (by decide) ?_
          refine ev_aload_n rfl ?_
          refine g_getv (r := 7) (v := w0) g19438 ad7 (by decide) ft5_1 (((jw_ne e19438 (Or.inr (by decide))).trans ew0)) ?_
          refine ev_ifge f70_15 (fun c19466 => ?_) (fun c19466 => ?_)
          · refine ev_ret rfl (by decide) (by decide) ?_
            show jEv _ _ _ _ _ _ _ (_, [(2, 7), (2, 1), (0, 8), (0, a3), (0, (v19446 - 97)), (9, 0), (9, 0)], [], _, _, _)
            refine ev_iconst ?_
            exact ev_ret rfl (by decide) (by decide) ⟨_, _, rfl, by omega, by omega, g19438, k19438, (((jw_ne e19438 (Or.inr (by decide))).trans ew0)), by omega, by omega⟩
          · refine ev_aload_n rfl ?_
            refine ev_aload_n rfl ?_
            refine g_getv (r := 7) (v := (w1 + 1)) g19438 ad7 (by decide) ft5_2 ((jw_eq e19438)) ?_
            refine g_putf (r := 7) g19438 ad7 (by decide) ft5_1 (by decide) (fun e => absurd e nz5_1) rf7_1 (by decide) (by omega) (by omega) (fun h19467 e19467 g19467 => ?_)
            have k19467 := k19438.wr e19467 rfl
            refine ev_ret rfl (by decide) (by decide) ?_
            show jEv _ _ _ _ _ _ _ (_, [(2, 7), (2, 1), (0, 8), (0, a3), (0, (v19446 - 97)), (9, 0), (9, 0)], [], _, _, _)
            refine ev_iconst ?_
            exact ev_ret rfl (by decide) (by decide) ⟨_, _, rfl, by omega, by omega, g19467, k19467, ((jw_eq e19467)), by omega, by omega⟩
/-! s74_8  -/
set_option maxHeartbeats 4000000 in
theorem s74_8 {G : GH} {h : JH} (g : Gd G h) {a3 : Int} (la3 : (-2147483648) ≤ a3) (ua3 : a3 ≤ 2147483647) {w0 : Int} (ew0 : h.2.2 7 1 = w0) (lw0 : (-1) ≤ w0) (uw0 : w0 ≤ 200) : jOk 13 0 0 74 [(2, 7), (2, 1), (0, 8), (0, a3)] h (fun v h' => ∃ r F : Int, v = some (0, r) ∧ (-1) ≤ r ∧ r ≤ 199 ∧ Gd G h' ∧ Kp [(7, 2), (7, 3), (7, 4), (10, 0), (11, 0), (12, 0), (13, 0), (14, 0), (15, 0), (16, 0), (17, 0)] h h' ∧ h'.2.2 7 1 = F ∧ ((-F) + w0) ≤ 0 ∧ ((-F) + (-r)) ≤ 1) := by
  refine ⟨by decide, by rw [ml74]; exact Nat.le_of_ble_eq_true rfl, ?_⟩
  rw [ml74, pp74]
  show jEv _ none _ c74_0 0 0 _ (c74_0, [(2, 7), (2, 1), (0, 8), (0, a3), (9, 0)], [], h, 0, 0)
  have k0 := Kp.rf [(7, 2), (7, 3), (7, 4), (10, 0), (11, 0), (12, 0), (13, 0), (14, 0), (15, 0), (16, 0), (17, 0)] h
  refine ev_aload_n rfl ?_
  refine g_getv (r := 7) (v := w0) g ad7 (by decide) ft5_1 (ew0) ?_
  refine ev_ifge f74_13 (fun c19534 => ?_) (fun c19534 => ?_)
  · refine ev_aload_n rfl ?_
    refine ev_in (d := 11) (a := 0) (b := 0) (cd' := c70_0) (m := 1) (L0 := [(2, 7)]) (jcall_v (A := []) (S' := []) (r := 7) rfl (g.lt ad7) (g.tg ad7) (Nat.le_of_ble_eq_true rfl)) (by decide) ml70 pp70 (Nat.le_of_ble_eq_true rfl) rfl (by decide) (by decide) ?_
    refine ev_aload_n rfl ?_
    refine g_getv (r := 7) (v := w0) g ad7 (by decide) ft5_1 (ew0) ?_
    refine ev_ifge f70_15 (fun c19535 => ?_) (fun c19535 => absurd c19535 (by omega))
    refine ev_ret rfl (by decide) (by decide) ?_
    show jEv _ _ _ _ _ _ _ (_, [(2, 7), (2, 1), (0, 8), (0, a3), (9, 0)], [], _, _, _)
    refine ev_iconst ?_
    exact ev_ret rfl (by decide) (by decide) ⟨_, _, rfl, by omega, by omega, g, k0, (ew0), by omega, by omega⟩
  · refine ev_iload_n rfl ?_
    refine ev_bipush ?_
    refine ev_icmple f74_19 (fun c19536 => ?_) (fun c19536 => absurd c19536 (by omega))
    refine ev_aload_n rfl ?_
    refine ev_in (d := 11) (a := 0) (b := 0) (cd' := c68_0) (m := 1) (L0 := [(2, 7)]) (jcall_v (A := []) (S' := []) (r := 7) rfl (g.lt ad7) (g.tg ad7) (Nat.le_of_ble_eq_true rfl)) (by decide) ml68 pp68 (Nat.le_of_ble_eq_true rfl) rfl (by decide) (by decide) ?_
    refine ev_aload_n rfl ?_
    obtain ⟨v19537, ev19537, lv19537, uv19537⟩ := g.rd ad7 (show 2 < 15 by decide) rf7_2
    refine g_getv (r := 7) (v := v19537) g ad7 (by decide) ft5_2 ev19537 ?_
    refine ev_aload_n rfl ?_
    obtain ⟨v19538, ev19538, lv19538, uv19538⟩ := g.rd ad7 (show 0 < 15 by decide) rf7_0
    refine g_getv (r := 7) (v := v19538) g ad7 (by decide) ft5_0 ev19538 ?_
    refine ev_icmpge f68_27 (fun c19539 => ?_) (fun c19539 => ?_)
    · refine ev_iconst ?_
      refine ev_ret rfl (by decide) (by decide) ?_
      show jEv _ _ _ _ _ _ _ (_, [(2, 7), (2, 1), (0, 8), (0, a3), (9, 0)], [(0, (-1))], _, _, _)
      refine ev_istore (L' := [(2, 7), (2, 1), (0, 8), (0, a3), (0, (-1))]) (Nat.le_of_ble_eq_true rfl) rfl ?_
      refine ev_iload rfl ?_
      refine ev_bipush ?_
      refine ev_icmpne f74_40 (fun c19540 => ?_) (fun c19540 => absurd c19540 (by omega))
      refine ev_iload rfl ?_
      refine ev_bipush ?_
      refine ev_icmpne f74_55 (fun c19541 => ?_) (fun c19541 => absurd c19541 (by omega))
      refine ev_iload rfl ?_
      refine ev_bipush ?_
      refine ev_icmplt f74_78 (fun c19542 => ?_) (fun c19542 => absurd c19542 (by omega))
      refine ev_aload_n rfl ?_
      refine ev_call (jcall_v (A := []) (S' := []) (r := 7) rfl (g.lt ad7) (g.tg ad7) (Nat.le_of_ble_eq_true rfl)) (jOk_le (by decide) (s75 g (ew0) (by omega) (by omega))) (by decide) (by decide) (fun w19543 h19543 q19543 => ?_)
      obtain ⟨v19545, v19544, rfl, lv19545, uv19545, g19543, kk19543, ev19544, p19543_0, p19543_1⟩ := q19543
      have bv19544 := g19543.rg ad7 (i := 1) (by decide) rf7_1
      rw [ev19544] at bv19544
      have k19543 := k0.tr kk19543 (by decide)
      show jEv _ _ _ _ _ _ _ (_, [(2, 7), (2, 1), (0, 8), (0, a3), (0, (-1))], [(0, v19545)], _, _, _)
      exact ev_ret rfl (by decide) (by decide) ⟨_, _, rfl, by omega, by omega, g19543, k19543, (ev19544), by omega, by omega⟩
    · refine ev_aload_n rfl ?_
      refine g_getp (r := 7) (c := 8) g ad7 (by decide) (by decide) rf7_5 ft5_5 ?_
      refine ev_aload_n rfl ?_
      refine g_getv (r := 7) (v := v19537) g ad7 (by decide) ft5_2 (ev19537) ?_
      refine g_bald g ad8 rt8 (by omega) (by omega) (fun v19546 ev19546 lv19546 uv19546 => ?_)
      refine ev_sipush ?_
      refine g_iandB (b := 255) (by omega) (by omega) (by decide) (fun v19547 ev19547 lv19547 uv19547 => ?_)
      refine ev_goto f68_28 ?_
      refine ev_ret rfl (by decide) (by decide) ?_
      show jEv _ _ _ _ _ _ _ (_, [(2, 7), (2, 1), (0, 8), (0, a3), (9, 0)], [(0, v19547)], _, _, _)
      refine ev_istore (L' := [(2, 7), (2, 1), (0, 8), (0, a3), (0, v19547)]) (Nat.le_of_ble_eq_true rfl) rfl ?_
      refine ev_iload rfl ?_
      refine ev_bipush ?_
      refine ev_icmpne f74_40 (fun c19548 => ?_) (fun c19548 => ?_)
      · refine ev_iload rfl ?_
        refine ev_bipush ?_
        refine ev_icmpne f74_55 (fun c19549 => ?_) (fun c19549 => ?_)
        · refine ev_iload rfl ?_
          refine ev_bipush ?_
          refine ev_icmplt f74_78 (fun c19550 => ?_) (fun c19550 => ?_)
          · refine ev_aload_n rfl ?_
            refine ev_call (jcall_v (A := []) (S' := []) (r := 7) rfl (g.lt ad7) (g.tg ad7) (Nat.le_of_ble_eq_true rfl)) (jOk_le (by decide) (s75 g (ew0) (by omega) (by omega))) (by decide) (by decide) (fun w19551 h19551 q19551 => ?_)
            obtain ⟨v19553, v19552, rfl, lv19553, uv19553, g19551, kk19551, ev19552, p19551_0, p19551_1⟩ := q19551
            have bv19552 := g19551.rg ad7 (i := 1) (by decide) rf7_1
            rw [ev19552] at bv19552
            have k19551 := k0.tr kk19551 (by decide)
            show jEv _ _ _ _ _ _ _ (_, [(2, 7), (2, 1), (0, 8), (0, a3), (0, v19547)], [(0, v19553)], _, _, _)
            exact ev_ret rfl (by decide) (by decide) ⟨_, _, rfl, by omega, by omega, g19551, k19551, (ev19552), by omega, by omega⟩
          · refine ev_iload rfl ?_
            refine ev_bipush ?_
            refine ev_icmpge f74_78 (fun c19554 => ?_) (fun c19554 => ?_)
            · refine ev_aload_n rfl ?_
              refine ev_call (jcall_v (A := []) (S' := []) (r := 7) rfl (g.lt ad7) (g.tg ad7) (Nat.le_of_ble_eq_true rfl)) (jOk_le (by decide) (s75 g (ew0) (by omega) (by omega))) (by decide) (by decide) (fun w19555 h19555 q19555 => ?_)
              obtain ⟨v19557, v19556, rfl, lv19557, uv19557, g19555, kk19555, ev19556, p19555_0, p19555_1⟩ := q19555
              have bv19556 := g19555.rg ad7 (i := 1) (by decide) rf7_1
              rw [ev19556] at bv19556
              have k19555 := k0.tr kk19555 (by decide)
              show jEv _ _ _ _ _ _ _ (_, [(2, 7), (2, 1), (0, 8), (0, a3), (0, v19547)], [(0, v19557)], _, _, _)
              exact ev_ret rfl (by decide) (by decide) ⟨_, _, rfl, by omega, by omega, g19555, k19555, (ev19556), by omega, by omega⟩
            · refine ev_aload_n rfl ?_
              refine ev_iload_n rfl ?_
              refine ev_iload_n rfl ?_
              refine ev_call (jcall_v (A := [(0, a3), (0, 8)]) (S' := []) (r := 7) rfl (g.lt ad7) (g.tg ad7) (Nat.le_of_ble_eq_true rfl)) (jOk_le (by decide) (s77 g (by omega) (by omega) (by omega) (by omega) (ew0) (by omega) (by omega))) (by decide) (by decide) (fun w19558 h19558 q19558 => ?_)
              obtain ⟨v19560, v19559, rfl, lv19560, uv19560, g19558, kk19558, ev19559, p19558_0, p19558_1⟩ := q19558
              have bv19559 := g19558.rg ad7 (i := 1) (by decide) rf7_1
              rw [ev19559] at bv19559
              have k19558 := k0.tr kk19558 (by decide)
              show jEv _ _ _ _ _ _ _ (_, [(2, 7), (2, 1), (0, 8), (0, a3), (0, v19547)], [(0, v19560)], _, _, _)
              refine ev_goto f74_82 ?_
              exact ev_ret rfl (by decide) (by decide) ⟨_, _, rfl, by omega, by omega, g19558, k19558, (ev19559), by omega, by omega⟩
        · refine ev_aload_n rfl ?_
          refine ev_aload_n rfl ?_
          refine ev_iload_n rfl ?_
          refine ev_iload_n rfl ?_
          refine ev_call (jcall_v (A := [(0, a3), (0, 8), (2, 1)]) (S' := []) (r := 7) rfl (g.lt ad7) (g.tg ad7) (Nat.le_of_ble_eq_true rfl)) (jOk_le (by decide) (s79_8 g (by omega) (by omega) (ew0) (by omega) (by omega) (ev19537) (by omega) (by omega))) (by decide) (by decide) (fun w19561 h19561 q19561 => ?_)
          obtain ⟨v19563, v19562, rfl, lv19563, uv19563, g19561, kk19561, ev19562, p19561_0, p19561_1⟩ := q19561
          have bv19562 := g19561.rg ad7 (i := 1) (by decide) rf7_1
          rw [ev19562] at bv19562
          have k19561 := k0.tr kk19561 (by decide)
          show jEv _ _ _ _ _ _ _ (_, [(2, 7), (2, 1), (0, 8), (0, a3), (0, v19547)], [(0, v19563)], _, _, _)
          exact ev_ret rfl (by decide) (by decide) ⟨_, _, rfl, by omega, by omega, g19561, k19561, (ev19562), by omega, by omega⟩
      · refine ev_aload_n rfl ?_
        refine ev_aload_n rfl ?_
        refine ev_iload_n rfl ?_
        refine ev_iload_n rfl ?_
        refine ev_call (jcall_v (A := [(0, a3), (0, 8), (2, 1)]) (S' := []) (r := 7) rfl (g.lt ad7) (g.tg ad7) (Nat.le_of_ble_eq_true rfl)) (jOk_le (by decide) (s78_8 g (by omega) (by omega) (ew0) (by omega) (by omega) (ev19537) (by omega) (by omega))) (by decide) (by decide) (fun w19564 h19564 q19564 => ?_)
        obtain ⟨v19566, v19565, rfl, lv19566, uv19566, g19564, kk19564, ev19565, p19564_0, p19564_1⟩ := q19564
        have bv19565 := g19564.rg ad7 (i := 1) (by decide) rf7_1
        rw [ev19565] at bv19565
        have k19564 := k0.tr kk19564 (by decide)
        show jEv _ _ _ _ _ _ _ (_, [(2, 7), (2, 1), (0, 8), (0, a3), (0, v19547)], [(0, v19566)], _, _, _)
        exact ev_ret rfl (by decide) (by decide) ⟨_, _, rfl, by omega, by omega, g19564, k19564, (ev19565), by omega, by omega⟩
/-! s78_7  -/
set_option maxHeartbeats 4000000 in
theorem s78_7_l {G : GH} {h : JH} {a3 : Int} (la3 : (-2147483648) ≤ a3) (ua3 : a3 ≤ 2147483647) {w0 : Int} (ew0 : h.2.2 7 1 = w0) (lw0 : (-1) ≤ w0) (uw0 : w0 ≤ 200) {w1 : Int} (ew1 : h.2.2 7 2 = w1) (lw1 : 0 ≤ w1) (uw1 : w1 ≤ 199) : ∀ N : Nat, (∀ (h1 : JH) (x4 x5 y0 : Int) (j6 : AV), Gd G h1 → Kp [(7, 2), (7, 3), (7, 4), (10, 0), (11, 0), (12, 0), (13, 0), (14, 0), (15, 0), (16, 0), (17, 0)] h h1 → (-2147483648) ≤ a3 → a3 ≤ 2147483647 → (-1) ≤ x4 → x4 ≤ 199 → 0 ≤ x5 → x5 ≤ 3 → (w0 + (-y0)) ≤ 0 → ((-x4) + (-y0)) ≤ 1 → h1.2.2 7 1 = y0 → (-1) ≤ y0 → y0 ≤ 200 → ((-x5) + 3) < N → jEv (jOk 13) none (fun _ => 0) c78_0 0 0 (fun v h' => ∃ r F : Int, v = some (0, r) ∧ (-1) ≤ r ∧ r ≤ 199 ∧ Gd G h' ∧ Kp [(7, 2), (7, 3), (7, 4), (10, 0), (11, 0), (12, 0), (13, 0), (14, 0), (15, 0), (16, 0), (17, 0)] h h' ∧ h'.2.2 7 1 = F ∧ ((-F) + w0) ≤ 0 ∧ ((-F) + (-r)) ≤ 1) (c78_25, [(2, 7), (2, 1), (0, 7), (0, a3), (0, x4), (0, x5), j6], [], h1, 0, 0)) := by
  intro N
  induction N with
  | zero => exact fun h1 x4 x5 y0 j6 g1 k1 b0 b1 b2 b3 b4 b5 b6 b7 b8 b9 b10 hm => absurd hm (by omega)
  | succ N ih =>
    show _
    intro h1 x4 x5 y0 j6 g1 k1 b0 b1 b2 b3 b4 b5 b6 b7 ey0 ly0 uy0 hm
    refine ev_iload rfl ?_
    refine ev_iconst ?_
    refine ev_icmpge f78_100 (fun c19735 => absurd c19735 (by omega)) (fun c19735 => ?_)
    refine ev_aload_n rfl ?_
    refine g_getv (r := 7) (v := y0) g1 ad7 (by decide) ft5_1 (ey0) ?_
    refine ev_ifge f78_100 (fun c19736 => ?_) (fun c19736 => ?_)
    · refine ev_aload_n rfl ?_
      refine ev_bipush ?_
      refine ev_call (jcall_v (A := [(0, 41)]) (S' := []) (r := 7) rfl (g1.lt ad7) (g1.tg ad7) (Nat.le_of_ble_eq_true rfl)) (jOk_le (by decide) (s71 g1 (by omega) (by omega) (ey0) (by omega) (by omega))) (by decide) (by decide) (fun w19737 h19737 q19737 => ?_)
      obtain ⟨v19738, rfl, g19737, kk19737, ev19738, p19737_0⟩ := q19737
      have bv19738 := g19737.rg ad7 (i := 1) (by decide) rf7_1
      rw [ev19738] at bv19738
      have k19737 := k1.tr kk19737 (by decide)
      show jEv _ _ _ _ _ _ _ (_, [(2, 7), (2, 1), (0, 7), (0, a3), (0, x4), (0, x5), j6], [], _, _, _)
      refine ev_aload_n rfl ?_
      refine g_getv (r := 7) (v := v19738) g19737 ad7 (by decide) ft5_1 (ev19738) ?_
      refine ev_iflt f78_117 (fun c19739 => absurd c19739 (by omega)) (fun c19739 => ?_)
      refine ev_iconst ?_
      refine ev_goto f78_119 ?_
      exact ev_ret rfl (by decide) (by decide) ⟨_, _, rfl, by omega, by omega, g19737, k19737, (ev19738), by omega, by omega⟩
    · refine ev_aload_n rfl ?_
      refine ev_iconst ?_
      refine ev_call (jcall_v (A := [(0, 2)]) (S' := []) (r := 7) rfl (g1.lt ad7) (g1.tg ad7) (Nat.le_of_ble_eq_true rfl)) (jOk_le (by decide) (s76 g1 (by omega) (by omega) (ey0) (by omega) (by omega))) (by decide) (by decide) (fun w19740 h19740 q19740 => ?_)
      obtain ⟨v19742, v19741, rfl, lv19742, uv19742, g19740, kk19740, ev19741, p19740_0⟩ := q19740
      have bv19741 := g19740.rg ad7 (i := 1) (by decide) rf7_1
      rw [ev19741] at bv19741
      have k19740 := k1.tr kk19740 (by decide)
      show jEv _ _ _ _ _ _ _ (_, [(2, 7), (2, 1), (0, 7), (0, a3), (0, x4), (0, x5), j6], [(0, v19742)], _, _, _)
      refine ev_istore (L' := [(2, 7), (2, 1), (0, 7), (0, a3), (0, x4), (0, x5), (0, v19742)]) (Nat.le_of_ble_eq_true rfl) rfl ?_
      refine ev_aload_n rfl ?_
      refine ev_bipush ?_
      refine ev_call (jcall_v (A := [(0, 58)]) (S' := []) (r := 7) rfl (g19740.lt ad7) (g19740.tg ad7) (Nat.le_of_ble_eq_true rfl)) (jOk_le (by decide) (s71 g19740 (by omega) (by omega) (ev19741) (by omega) (by omega))) (by decide) (by decide) (fun w19743 h19743 q19743 => ?_)
      obtain ⟨v19744, rfl, g19743, kk19743, ev19744, p19743_0⟩ := q19743
      have bv19744 := g19743.rg ad7 (i := 1) (by decide) rf7_1
      rw [ev19744] at bv19744
      have k19743 := k19740.tr kk19743 (by decide)
      show jEv _ _ _ _ _ _ _ (_, [(2, 7), (2, 1), (0, 7), (0, a3), (0, x4), (0, x5), (0, v19742)], [], _, _, _)
      refine ev_aload_n rfl ?_
      refine ev_iload rfl ?_
      refine ev_iload rfl ?_
      refine ev_iload rfl ?_
      refine ev_aload_n rfl ?_
      refine ev_aload_n rfl ?_
      refine ev_iload_n rfl ?_
      refine ev_iconst ?_
      refine ev_iadd (r := 8) (by decide) ?_
      refine ev_iload_n rfl ?_
      refine ev_call (jcall_v (A := [(0, a3), (0, 8), (2, 1)]) (S' := [(0, v19742), (0, x5), (0, x4), (2, 7)]) (r := 7) rfl (g19743.lt ad7) (g19743.tg ad7) (Nat.le_of_ble_eq_true rfl)) (jOk_le (by decide) (s74_8 g19743 (by omega) (by omega) (ev19744) (by omega) (by omega))) (by decide) (by decide) (fun w19745 h19745 q19745 => ?_)
      obtain ⟨v19747, v19746, rfl, lv19747, uv19747, g19745, kk19745, ev19746, p19745_0, p19745_1⟩ := q19745
      have bv19746 := g19745.rg ad7 (i := 1) (by decide) rf7_1
      rw [ev19746] at bv19746
      have k19745 := k19743.tr kk19745 (by decide)
      show jEv _ _ _ _ _ _ _ (_, [(2, 7), (2, 1), (0, 7), (0, a3), (0, x4), (0, x5), (0, v19742)], [(0, v19747), (0, v19742), (0, x5), (0, x4), (2, 7)], _, _, _)
      refine ev_call (jcall_v (A := [(0, v19747), (0, v19742), (0, x5), (0, x4)]) (S' := []) (r := 7) rfl (g19745.lt ad7) (g19745.tg ad7) (Nat.le_of_ble_eq_true rfl)) (jOk_le (by decide) (s80 g19745 (by omega) (by omega) (by omega) (by omega) (by omega) (by omega) (by omega) (by omega))) (by decide) (by decide) (fun w19748 h19748 q19748 => ?_)
      obtain ⟨rfl, g19748, kk19748⟩ := q19748
      have k19748 := k19745.tr kk19748 (by decide)
      show jEv _ _ _ _ _ _ _ (_, [(2, 7), (2, 1), (0, 7), (0, a3), (0, x4), (0, x5), (0, v19742)], [], _, _, _)
      refine ev_aload_n rfl ?_
      refine ev_in (d := 12) (a := 0) (b := 0) (cd' := c68_0) (m := 1) (L0 := [(2, 7)]) (jcall_v (A := []) (S' := []) (r := 7) rfl (g19748.lt ad7) (g19748.tg ad7) (Nat.le_of_ble_eq_true rfl)) (by decide) ml68 pp68 (Nat.le_of_ble_eq_true rfl) rfl (by decide) (by decide) ?_
      refine ev_aload_n rfl ?_
      obtain ⟨v19749, ev19749, lv19749, uv19749⟩ := g19748.rd ad7 (show 2 < 15 by decide) rf7_2
      refine g_getv (r := 7) (v := v19749) g19748 ad7 (by decide) ft5_2 ev19749 ?_
      refine ev_aload_n rfl ?_
      obtain ⟨v19750, ev19750, lv19750, uv19750⟩ := g19748.rd ad7 (show 0 < 15 by decide) rf7_0
      refine g_getv (r := 7) (v := v19750) g19748 ad7 (by decide) ft5_0 ev19750 ?_
      refine ev_icmpge f68_27 (fun c19751 => ?_) (fun c19751 => ?_)
      · refine ev_iconst ?_
        refine ev_ret rfl (by decide) (by decide) ?_
        show jEv _ _ _ _ _ _ _ (_, [(2, 7), (2, 1), (0, 7), (0, a3), (0, x4), (0, x5), (0, v19742)], [(0, (-1))], _, _, _)
        refine ev_bipush ?_
        refine ev_icmpne f78_100 (fun c19752 => ?_) (fun c19752 => absurd c19752 (by omega))
        refine ev_aload_n rfl ?_
        refine ev_bipush ?_
        refine ev_call (jcall_v (A := [(0, 41)]) (S' := []) (r := 7) rfl (g19748.lt ad7) (g19748.tg ad7) (Nat.le_of_ble_eq_true rfl)) (jOk_le (by decide) (s71 g19748 (by omega) (by omega) (((kk19748.v (by decide)).trans ev19746)) (by omega) (by omega))) (by decide) (by decide) (fun w19753 h19753 q19753 => ?_)
        obtain ⟨v19754, rfl, g19753, kk19753, ev19754, p19753_0⟩ := q19753
        have bv19754 := g19753.rg ad7 (i := 1) (by decide) rf7_1
        rw [ev19754] at bv19754
        have k19753 := k19748.tr kk19753 (by decide)
        show jEv _ _ _ _ _ _ _ (_, [(2, 7), (2, 1), (0, 7), (0, a3), (0, x4), (0, x5), (0, v19742)], [], _, _, _)
        refine ev_aload_n rfl ?_
        refine g_getv (r := 7) (v := v19754) g19753 ad7 (by decide) ft5_1 (ev19754) ?_
        refine ev_iflt f78_117 (fun c19755 => ?_) (fun c19755 => ?_)
        · refine ev_iload rfl ?_
          exact ev_ret rfl (by decide) (by decide) ⟨_, _, rfl, by omega, by omega, g19753, k19753, (ev19754), by omega, by omega⟩
        · refine ev_iconst ?_
          refine ev_goto f78_119 ?_
          exact ev_ret rfl (by decide) (by decide) ⟨_, _, rfl, by omega, by omega, g19753, k19753, (ev19754), by omega, by omega⟩
      · refine ev_aload_n rfl ?_
        refine g_getp (r := 7) (c := 8) g19748 ad7 (by decide) (by decide) rf7_5 ft5_5 ?_
        refine ev_aload_n rfl ?_
        refine g_getv (r := 7) (v := v19749) g19748 ad7 (by decide) ft5_2 (ev19749) ?_
        refine g_bald g19748 ad8 rt8 (by omega) (by omega) (fun v19756 ev19756 lv19756 uv19756 => ?_)
        refine ev_sipush ?_
        refine g_iandB (b := 255) (by omega) (by omega) (by decide) (fun v19757 ev19757 lv19757 uv19757 => ?_)
        refine ev_goto f68_28 ?_
        refine ev_ret rfl (by decide) (by decide) ?_
        show jEv _ _ _ _ _ _ _ (_, [(2, 7), (2, 1), (0, 7), (0, a3), (0, x4), (0, x5), (0, v19742)], [(0, v19757)], _, _, _)
        refine ev_bipush ?_
        refine ev_icmpne f78_100 (fun c19758 => ?_) (fun c19758 => ?_)
        · refine ev_aload_n rfl ?_
          refine ev_bipush ?_
          refine ev_call (jcall_v (A := [(0, 41)]) (S' := []) (r := 7) rfl (g19748.lt ad7) (g19748.tg ad7) (Nat.le_of_ble_eq_true rfl)) (jOk_le (by decide) (s71 g19748 (by omega) (by omega) (((kk19748.v (by decide)).trans ev19746)) (by omega) (by omega))) (by decide) (by decide) (fun w19759 h19759 q19759 => ?_)
          obtain ⟨v19760, rfl, g19759, kk19759, ev19760, p19759_0⟩ := q19759
          have bv19760 := g19759.rg ad7 (i := 1) (by decide) rf7_1
          rw [ev19760] at bv19760
          have k19759 := k19748.tr kk19759 (by decide)
          show jEv _ _ _ _ _ _ _ (_, [(2, 7), (2, 1), (0, 7), (0, a3), (0, x4), (0, x5), (0, v19742)], [], _, _, _)
          refine ev_aload_n rfl ?_
          refine g_getv (r := 7) (v := v19760) g19759 ad7 (by decide) ft5_1 (ev19760) ?_
          refine ev_iflt f78_117 (fun c19761 => ?_) (fun c19761 => ?_)
          · refine ev_iload rfl ?_
            exact ev_ret rfl (by decide) (by decide) ⟨_, _, rfl, by omega, by omega, g19759, k19759, (ev19760), by omega, by omega⟩
          · refine ev_iconst ?_
            refine ev_goto f78_119 ?_
            exact ev_ret rfl (by decide) (by decide) ⟨_, _, rfl, by omega, by omega, g19759, k19759, (ev19760), by omega, by omega⟩
        · refine ev_iload rfl ?_
          refine ev_iconst ?_
          refine ev_icmpne f78_88 (fun c19762 => ?_) (fun c19762 => ?_)
          · refine ev_aload_n rfl ?_
            refine ev_bipush ?_
            refine ev_call (jcall_v (A := [(0, 44)]) (S' := []) (r := 7) rfl (g19748.lt ad7) (g19748.tg ad7) (Nat.le_of_ble_eq_true rfl)) (jOk_le (by decide) (s71 g19748 (by omega) (by omega) (((kk19748.v (by decide)).trans ev19746)) (by omega) (by omega))) (by decide) (by decide) (fun w19763 h19763 q19763 => ?_)
            obtain ⟨v19764, rfl, g19763, kk19763, ev19764, p19763_0⟩ := q19763
            have bv19764 := g19763.rg ad7 (i := 1) (by decide) rf7_1
            rw [ev19764] at bv19764
            have k19763 := k19748.tr kk19763 (by decide)
            show jEv _ _ _ _ _ _ _ (_, [(2, 7), (2, 1), (0, 7), (0, a3), (0, x4), (0, x5), (0, v19742)], [], _, _, _)
            refine ev_iinc (w := (x5 + 1)) (L' := [(2, 7), (2, 1), (0, 7), (0, a3), (0, x4), (0, (x5 + 1)), (0, v19742)]) rfl (by unfold w32; omega) rfl ?_
            refine ev_goto f78_25 ?_
            exact ih _ _ _ _ _ g19763 k19763 (by omega) (by omega) (by omega) (by omega) (by omega) (by omega) (by omega) (by omega) (ev19764) (by omega) (by omega) (by omega)
          · refine ev_goto f78_100 ?_
            refine ev_aload_n rfl ?_
            refine ev_bipush ?_
            refine ev_call (jcall_v (A := [(0, 41)]) (S' := []) (r := 7) rfl (g19748.lt ad7) (g19748.tg ad7) (Nat.le_of_ble_eq_true rfl)) (jOk_le (by decide) (s71 g19748 (by omega) (by omega) (((kk19748.v (by decide)).trans ev19746)) (by omega) (by omega))) (by decide) (by decide) (fun w19765 h19765 q19765 => ?_)
            obtain ⟨v19766, rfl, g19765, kk19765, ev19766, p19765_0⟩ := q19765
            have bv19766 := g19765.rg ad7 (i := 1) (by decide) rf7_1
            rw [ev19766] at bv19766
            have k19765 := k19748.tr kk19765 (by decide)
            show jEv _ _ _ _ _ _ _ (_, [(2, 7), (2, 1), (0, 7), (0, a3), (0, x4), (0, x5), (0, v19742)], [], _, _, _)
            refine ev_aload_n rfl ?_
            refine g_getv (r := 7) (v := v19766) g19765 ad7 (by decide) ft5_1 (ev19766) ?_
            refine ev_iflt f78_117 (fun c19767 => ?_) (fun c19767 => ?_)
            · refine ev_iload rfl ?_
              exact ev_ret rfl (by decide) (by decide) ⟨_, _, rfl, by omega, by omega, g19765, k19765, (ev19766), by omega, by omega⟩
            · refine ev_iconst ?_
              refine ev_goto f78_119 ?_
              exact ev_ret rfl (by decide) (by decide) ⟨_, _, rfl, by omega, by omega, g19765, k19765, (ev19766), by omega, by omega⟩
set_option maxHeartbeats 4000000 in
theorem s78_7 {G : GH} {h : JH} (g : Gd G h) {a3 : Int} (la3 : (-2147483648) ≤ a3) (ua3 : a3 ≤ 2147483647) {w0 : Int} (ew0 : h.2.2 7 1 = w0) (lw0 : (-1) ≤ w0) (uw0 : w0 ≤ 200) {w1 : Int} (ew1 : h.2.2 7 2 = w1) (lw1 : 0 ≤ w1) (uw1 : w1 ≤ 199) : jOk 14 0 0 78 [(2, 7), (2, 1), (0, 7), (0, a3)] h (fun v h' => ∃ r F : Int, v = some (0, r) ∧ (-1) ≤ r ∧ r ≤ 199 ∧ Gd G h' ∧ Kp [(7, 2), (7, 3), (7, 4), (10, 0), (11, 0), (12, 0), (13, 0), (14, 0), (15, 0), (16, 0), (17, 0)] h h' ∧ h'.2.2 7 1 = F ∧ ((-F) + w0) ≤ 0 ∧ ((-F) + (-r)) ≤ 1) := by
  refine ⟨by decide, by rw [ml78]; exact Nat.le_of_ble_eq_true rfl, ?_⟩
  rw [ml78, pp78]
  show jEv _ none _ c78_0 0 0 _ (c78_0, [(2, 7), (2, 1), (0, 7), (0, a3), (9, 0), (9, 0), (9, 0)], [], h, 0, 0)
  have k0 := Kp.rf [(7, 2), (7, 3), (7, 4), (10, 0), (11, 0), (12, 0), (13, 0), (14, 0), (15, 0), (16, 0), (17, 0)] h
  refine ev_aload_n rfl ?_
  refine ev_dup (by decide) ?_
  refine g_getv (r := 7) (v := w1) g ad7 (by decide) ft5_2 (ew1) ?_
  refine ev_iconst ?_
  refine ev_iadd (r := (w1 + 1)) (by unfold w32; omega) ?_
  refine g_putf (r := 7) g ad7 (by decide) ft5_2 (by decide) (fun e => absurd e nz5_2) rf7_2 (by decide) (by omega) (by omega) (fun h19768 e19768 g19768 => ?_)
  have k19768 := k0.wr e19768 rfl
  refine ev_aload_n rfl ?_
  refine ev_iload_n rfl ?_
  refine ev_call (jcall_v (A := [(0, 7)]) (S' := []) (r := 7) rfl (g19768.lt ad7) (g19768.tg ad7) (Nat.le_of_ble_eq_true rfl)) (jOk_le (by decide) (s72 g19768 (by omega) (by omega) (((jw_ne e19768 (Or.inr (by decide))).trans ew0)) (by omega) (by omega))) (by decide) (by decide) (fun w19769 h19769 q19769 => ?_)
  obtain ⟨v19770, rfl, g19769, kk19769, ev19770, p19769_0⟩ := q19769
  have bv19770 := g19769.rg ad7 (i := 1) (by decide) rf7_1
  rw [ev19770] at bv19770
  have k19769 := k19768.tr kk19769 (by decide)
  show jEv _ _ _ _ _ _ _ (_, [(2, 7), (2, 1), (0, 7), (0, a3), (9, 0), (9, 0), (9, 0)], [], _, _, _)
  refine ev_aload_n rfl ?_
  refine ev_iconst ?_
  refine ev_call (jcall_v (A := [(0, 1)]) (S' := []) (r := 7) rfl (g19769.lt ad7) (g19769.tg ad7) (Nat.le_of_ble_eq_true rfl)) (jOk_le (by decide) (s73 g19769 (by omega) (by omega) (ev19770) (by omega) (by omega))) (by decide) (by decide) (fun w19771 h19771 q19771 => ?_)
  obtain ⟨v19773, v19772, rfl, lv19773, uv19773, g19771, kk19771, ev19772, p19771_0, p19771_1⟩ := q19771
  have bv19772 := g19771.rg ad7 (i := 1) (by decide) rf7_1
  rw [ev19772] at bv19772
  have k19771 := k19769.tr kk19771 (by decide)
  show jEv _ _ _ _ _ _ _ (_, [(2, 7), (2, 1), (0, 7), (0, a3), (9, 0), (9, 0), (9, 0)], [(0, v19773)], _, _, _)
  refine ev_istore (L' := [(2, 7), (2, 1), (0, 7), (0, a3), (0, v19773), (9, 0), (9, 0)]) (Nat.le_of_ble_eq_true rfl) rfl ?_
  refine ev_iconst ?_
  refine ev_istore (L' := [(2, 7), (2, 1), (0, 7), (0, a3), (0, v19773), (0, 0), (9, 0)]) (Nat.le_of_ble_eq_true rfl) rfl ?_
  exact (s78_7_l la3 ua3 ew0 lw0 uw0 ew1 lw1 uw1 8) _ _ _ _ _ g19771 k19771 (by omega) (by omega) (by omega) (by omega) (by omega) (by omega) (by omega) (by omega) (ev19772) (by omega) (by omega) (by omega)
/-! s79_7  -/
set_option maxHeartbeats 4000000 in
theorem s79_7_l {G : GH} {h : JH} {a3 : Int} (la3 : (-2147483648) ≤ a3) (ua3 : a3 ≤ 2147483647) {w0 : Int} (ew0 : h.2.2 7 1 = w0) (lw0 : (-1) ≤ w0) (uw0 : w0 ≤ 200) {w1 : Int} (ew1 : h.2.2 7 2 = w1) (lw1 : 0 ≤ w1) (uw1 : w1 ≤ 199) : ∀ N : Nat, (∀ (h1 : JH) (x4 x5 x6 y0 : Int), Gd G h1 → Kp [(7, 2), (7, 3), (7, 4), (10, 0), (11, 0), (12, 0), (13, 0), (14, 0), (15, 0), (16, 0), (17, 0)] h h1 → (-2147483648) ≤ a3 → a3 ≤ 2147483647 → 0 ≤ x4 → x4 ≤ 3 → (-1) ≤ x5 → x5 ≤ 199 → 0 ≤ x6 → x6 ≤ 3 → (w0 + (-y0)) ≤ 0 → ((-x5) + (-y0)) ≤ 1 → h1.2.2 7 1 = y0 → (-1) ≤ y0 → y0 ≤ 200 → ((-x6) + 3) < N → jEv (jOk 13) none (fun _ => 0) c79_0 0 0 (fun v h' => ∃ r F : Int, v = some (0, r) ∧ (-1) ≤ r ∧ r ≤ 199 ∧ Gd G h' ∧ Kp [(7, 2), (7, 3), (7, 4), (10, 0), (11, 0), (12, 0), (13, 0), (14, 0), (15, 0), (16, 0), (17, 0)] h h' ∧ h'.2.2 7 1 = F ∧ ((-F) + w0) ≤ 0 ∧ ((-F) + (-r)) ≤ 1) (c79_68, [(2, 7), (2, 1), (0, 7), (0, a3), (0, x4), (0, x5), (0, x6)], [], h1, 0, 0)) := by
  intro N
  induction N with
  | zero => exact fun h1 x4 x5 x6 y0 g1 k1 b0 b1 b2 b3 b4 b5 b6 b7 b8 b9 b10 b11 b12 hm => absurd hm (by omega)
  | succ N ih =>
    show _
    intro h1 x4 x5 x6 y0 g1 k1 b0 b1 b2 b3 b4 b5 b6 b7 b8 b9 ey0 ly0 uy0 hm
    refine ev_iload rfl ?_
    refine ev_aload_n rfl ?_
    refine ev_iload rfl ?_
    refine ev_in (d := 12) (a := 0) (b := 0) (cd' := c141_0) (m := 2) (L0 := [(2, 1), (0, x4)]) (jcall_v (A := [(0, x4)]) (S' := [(0, x6)]) (r := 1) rfl (g1.lt ad1) (g1.tg ad1) (Nat.le_of_ble_eq_true rfl)) (by decide) ml141 pp141 (Nat.le_of_ble_eq_true rfl) rfl (by decide) (by decide) ?_
    refine ev_aload_n rfl ?_
    refine ev_iload_n rfl ?_
    refine ev_in (d := 11) (a := 0) (b := 0) (cd' := c140_0) (m := 2) (L0 := [(2, 1), (0, x4)]) (jcall_v (A := [(0, x4)]) (S' := []) (r := 1) rfl (g1.lt ad1) (g1.tg ad1) (Nat.le_of_ble_eq_true rfl)) (by decide) ml140 pp140 (Nat.le_of_ble_eq_true rfl) rfl (by decide) (by decide) ?_
    refine ev_iload_n rfl ?_
    refine ev_iflt f140_16 (fun c20051 => absurd c20051 (by omega)) (fun c20051 => ?_)
    refine ev_iload_n rfl ?_
    refine ev_aload_n rfl ?_
    obtain ⟨v20052, ev20052, lv20052, uv20052⟩ := g1.rd ad1 (show 0 < 8 by decide) rf1_0
    refine g_getv (r := 1) (v := v20052) g1 ad1 (by decide) ft10_0 ev20052 ?_
    refine ev_icmpge f140_16 (fun c20053 => ?_) (fun c20053 => ?_)
    · refine ev_iconst ?_
      refine ev_ret rfl (by decide) (by decide) ?_
      show jEv _ _ _ _ _ _ _ (_, [(2, 1), (0, x4)], [(0, 0)], _, _, _)
      refine ev_ifeq f141_17 (fun c20054 => ?_) (fun c20054 => absurd c20054 (by omega))
      refine ev_iconst ?_
      refine ev_ret rfl (by decide) (by decide) ?_
      show jEv _ _ _ _ _ _ _ (_, [(2, 7), (2, 1), (0, 7), (0, a3), (0, x4), (0, x5), (0, x6)], [(0, 0), (0, x6)], _, _, _)
      refine ev_icmpge f79_126 (fun c20055 => ?_) (fun c20055 => absurd c20055 (by omega))
      refine ev_aload_n rfl ?_
      refine ev_bipush ?_
      refine ev_call (jcall_v (A := [(0, 41)]) (S' := []) (r := 7) rfl (g1.lt ad7) (g1.tg ad7) (Nat.le_of_ble_eq_true rfl)) (jOk_le (by decide) (s71 g1 (by omega) (by omega) (ey0) (by omega) (by omega))) (by decide) (by decide) (fun w20056 h20056 q20056 => ?_)
      obtain ⟨v20057, rfl, g20056, kk20056, ev20057, p20056_0⟩ := q20056
      have bv20057 := g20056.rg ad7 (i := 1) (by decide) rf7_1
      rw [ev20057] at bv20057
      have k20056 := k1.tr kk20056 (by decide)
      show jEv _ _ _ _ _ _ _ (_, [(2, 7), (2, 1), (0, 7), (0, a3), (0, x4), (0, x5), (0, x6)], [], _, _, _)
      refine ev_aload_n rfl ?_
      refine g_getv (r := 7) (v := v20057) g20056 ad7 (by decide) ft5_1 (ev20057) ?_
      refine ev_ifge f79_144 (fun c20058 => ?_) (fun c20058 => ?_)
      · refine ev_iconst ?_
        exact ev_ret rfl (by decide) (by decide) ⟨_, _, rfl, by omega, by omega, g20056, k20056, (ev20057), by omega, by omega⟩
      · refine ev_iload rfl ?_
        refine ev_ifge f79_146 (fun c20059 => ?_) (fun c20059 => absurd c20059 (by omega))
        refine ev_aload_n rfl ?_
        refine g_getp (r := 7) (c := 11) g20056 ad7 (by decide) (by decide) rf7_8 ft5_8 ?_
        refine ev_iload rfl ?_
        refine ev_iload rfl ?_
        refine g_iast g20056 ad11 rt11 (fun _ => rfl) (by omega) (by omega) (by omega) (by omega) (fun h20060 e20060 g20060 => ?_)
        have k20060 := k20056.wr e20060 rfl
        refine ev_aload_n rfl ?_
        refine g_getp (r := 7) (c := 15) g20060 ad7 (by decide) (by decide) rf7_12 ft5_12 ?_
        refine ev_iload rfl ?_
        refine ev_dup2 (by decide) (by decide) ?_
        refine g_iald g20060 ad15 rt15 (by omega) (by omega) (fun v20061 ev20061 lv20061 uv20061 => ?_)
        refine ev_iconst ?_
        refine ev_iload rfl ?_
        refine g_ishlB (a' := 1) (a := 1) (b := 3) (hi := 8) (by omega) (by omega) (by omega) (by omega) (by decide) (by decide) (fun v20062 ev20062 lv20062 uv20062 => ?_)
        refine g_iorG (fun v20063 ev20063 lv20063 uv20063 => ?_)
        refine g_iast g20060 ad15 rt15 (fun _ => rfl) (by omega) (by omega) (by omega) (by omega) (fun h20064 e20064 g20064 => ?_)
        have k20064 := k20060.wr e20064 rfl
        refine ev_iload rfl ?_
        exact ev_ret rfl (by decide) (by decide) ⟨_, _, rfl, by omega, by omega, g20064, k20064, (((jw_ne e20064 (Or.inl (by decide))).trans ((jw_ne e20060 (Or.inl (by decide))).trans ev20057))), by omega, by omega⟩
    · refine ev_iconst ?_
      refine ev_goto f140_17 ?_
      refine ev_ret rfl (by decide) (by decide) ?_
      show jEv _ _ _ _ _ _ _ (_, [(2, 1), (0, x4)], [(0, 1)], _, _, _)
      refine ev_ifeq f141_17 (fun c20065 => absurd c20065 (by omega)) (fun c20065 => ?_)
      refine ev_aload_n rfl ?_
      refine g_getp (r := 1) (c := 2) g1 ad1 (by decide) (by decide) rf1_3 ft10_3 ?_
      refine ev_iload_n rfl ?_
      refine g_iald g1 ad2 rt2 (by omega) (by omega) (fun v20066 ev20066 lv20066 uv20066 => ?_)
      refine ev_goto f141_18 ?_
      refine ev_ret rfl (by decide) (by decide) ?_
      show jEv _ _ _ _ _ _ _ (_, [(2, 7), (2, 1), (0, 7), (0, a3), (0, x4), (0, x5), (0, x6)], [(0, v20066), (0, x6)], _, _, _)
      refine ev_icmpge f79_126 (fun c20067 => ?_) (fun c20067 => ?_)
      · refine ev_aload_n rfl ?_
        refine ev_bipush ?_
        refine ev_call (jcall_v (A := [(0, 41)]) (S' := []) (r := 7) rfl (g1.lt ad7) (g1.tg ad7) (Nat.le_of_ble_eq_true rfl)) (jOk_le (by decide) (s71 g1 (by omega) (by omega) (ey0) (by omega) (by omega))) (by decide) (by decide) (fun w20068 h20068 q20068 => ?_)
        obtain ⟨v20069, rfl, g20068, kk20068, ev20069, p20068_0⟩ := q20068
        have bv20069 := g20068.rg ad7 (i := 1) (by decide) rf7_1
        rw [ev20069] at bv20069
        have k20068 := k1.tr kk20068 (by decide)
        show jEv _ _ _ _ _ _ _ (_, [(2, 7), (2, 1), (0, 7), (0, a3), (0, x4), (0, x5), (0, x6)], [], _, _, _)
        refine ev_aload_n rfl ?_
        refine g_getv (r := 7) (v := v20069) g20068 ad7 (by decide) ft5_1 (ev20069) ?_
        refine ev_ifge f79_144 (fun c20070 => ?_) (fun c20070 => ?_)
        · refine ev_iconst ?_
          exact ev_ret rfl (by decide) (by decide) ⟨_, _, rfl, by omega, by omega, g20068, k20068, (ev20069), by omega, by omega⟩
        · refine ev_iload rfl ?_
          refine ev_ifge f79_146 (fun c20071 => ?_) (fun c20071 => absurd c20071 (by omega))
          refine ev_aload_n rfl ?_
          refine g_getp (r := 7) (c := 11) g20068 ad7 (by decide) (by decide) rf7_8 ft5_8 ?_
          refine ev_iload rfl ?_
          refine ev_iload rfl ?_
          refine g_iast g20068 ad11 rt11 (fun _ => rfl) (by omega) (by omega) (by omega) (by omega) (fun h20072 e20072 g20072 => ?_)
          have k20072 := k20068.wr e20072 rfl
          refine ev_aload_n rfl ?_
          refine g_getp (r := 7) (c := 15) g20072 ad7 (by decide) (by decide) rf7_12 ft5_12 ?_
          refine ev_iload rfl ?_
          refine ev_dup2 (by decide) (by decide) ?_
          refine g_iald g20072 ad15 rt15 (by omega) (by omega) (fun v20073 ev20073 lv20073 uv20073 => ?_)
          refine ev_iconst ?_
          refine ev_iload rfl ?_
          refine g_ishlB (a' := 1) (a := 1) (b := 3) (hi := 8) (by omega) (by omega) (by omega) (by omega) (by decide) (by decide) (fun v20074 ev20074 lv20074 uv20074 => ?_)
          refine g_iorG (fun v20075 ev20075 lv20075 uv20075 => ?_)
          refine g_iast g20072 ad15 rt15 (fun _ => rfl) (by omega) (by omega) (by omega) (by omega) (fun h20076 e20076 g20076 => ?_)
          have k20076 := k20072.wr e20076 rfl
          refine ev_iload rfl ?_
          exact ev_ret rfl (by decide) (by decide) ⟨_, _, rfl, by omega, by omega, g20076, k20076, (((jw_ne e20076 (Or.inl (by decide))).trans ((jw_ne e20072 (Or.inl (by decide))).trans ev20069))), by omega, by omega⟩
      · refine ev_aload_n rfl ?_
        refine g_getv (r := 7) (v := y0) g1 ad7 (by decide) ft5_1 (ey0) ?_
        refine ev_ifge f79_126 (fun c20077 => ?_) (fun c20077 => ?_)
        · refine ev_aload_n rfl ?_
          refine ev_bipush ?_
          refine ev_call (jcall_v (A := [(0, 41)]) (S' := []) (r := 7) rfl (g1.lt ad7) (g1.tg ad7) (Nat.le_of_ble_eq_true rfl)) (jOk_le (by decide) (s71 g1 (by omega) (by omega) (ey0) (by omega) (by omega))) (by decide) (by decide) (fun w20078 h20078 q20078 => ?_)
          obtain ⟨v20079, rfl, g20078, kk20078, ev20079, p20078_0⟩ := q20078
          have bv20079 := g20078.rg ad7 (i := 1) (by decide) rf7_1
          rw [ev20079] at bv20079
          have k20078 := k1.tr kk20078 (by decide)
          show jEv _ _ _ _ _ _ _ (_, [(2, 7), (2, 1), (0, 7), (0, a3), (0, x4), (0, x5), (0, x6)], [], _, _, _)
          refine ev_aload_n rfl ?_
          refine g_getv (r := 7) (v := v20079) g20078 ad7 (by decide) ft5_1 (ev20079) ?_
          refine ev_ifge f79_144 (fun c20080 => ?_) (fun c20080 => absurd c20080 (by omega))
          refine ev_iconst ?_
          exact ev_ret rfl (by decide) (by decide) ⟨_, _, rfl, by omega, by omega, g20078, k20078, (ev20079), by omega, by omega⟩
        · refine ev_iload rfl ?_
          refine ev_ifle f79_97 (fun c20081 => ?_) (fun c20081 => ?_)
          · refine ev_aload_n rfl ?_
            refine ev_iload rfl ?_
            refine ev_iload rfl ?_
            refine ev_iconst ?_
            refine ev_aload_n rfl ?_
            refine ev_aload_n rfl ?_
            refine ev_iload_n rfl ?_
            refine ev_iconst ?_
            refine ev_iadd (r := 8) (by decide) ?_
            refine ev_iload_n rfl ?_
            refine ev_iconst ?_
            refine ev_iload rfl ?_
            refine g_ishlB (a' := 1) (a := 1) (b := 3) (hi := 8) (by omega) (by omega) (by omega) (by omega) (by decide) (by decide) (fun v20082 ev20082 lv20082 uv20082 => ?_)
            refine g_iorG (fun v20083 ev20083 lv20083 uv20083 => ?_)
            refine ev_call (jcall_v (A := [(0, v20083), (0, 8), (2, 1)]) (S' := [(0, 0), (0, x6), (0, x5), (2, 7)]) (r := 7) rfl (g1.lt ad7) (g1.tg ad7) (Nat.le_of_ble_eq_true rfl)) (jOk_le (by decide) (s74_8 g1 (by omega) (by omega) (ey0) (by omega) (by omega))) (by decide) (by decide) (fun w20084 h20084 q20084 => ?_)
            obtain ⟨v20086, v20085, rfl, lv20086, uv20086, g20084, kk20084, ev20085, p20084_0, p20084_1⟩ := q20084
            have bv20085 := g20084.rg ad7 (i := 1) (by decide) rf7_1
            rw [ev20085] at bv20085
            have k20084 := k1.tr kk20084 (by decide)
            show jEv _ _ _ _ _ _ _ (_, [(2, 7), (2, 1), (0, 7), (0, a3), (0, x4), (0, x5), (0, x6)], [(0, v20086), (0, 0), (0, x6), (0, x5), (2, 7)], _, _, _)
            refine ev_call (jcall_v (A := [(0, v20086), (0, 0), (0, x6), (0, x5)]) (S' := []) (r := 7) rfl (g20084.lt ad7) (g20084.tg ad7) (Nat.le_of_ble_eq_true rfl)) (jOk_le (by decide) (s80 g20084 (by omega) (by omega) (by omega) (by omega) (by omega) (by omega) (by omega) (by omega))) (by decide) (by decide) (fun w20087 h20087 q20087 => ?_)
            obtain ⟨rfl, g20087, kk20087⟩ := q20087
            have k20087 := k20084.tr kk20087 (by decide)
            show jEv _ _ _ _ _ _ _ (_, [(2, 7), (2, 1), (0, 7), (0, a3), (0, x4), (0, x5), (0, x6)], [], _, _, _)
            refine ev_iinc (w := (x6 + 1)) (L' := [(2, 7), (2, 1), (0, 7), (0, a3), (0, x4), (0, x5), (0, (x6 + 1))]) rfl (by unfold w32; omega) rfl ?_
            refine ev_goto f79_68 ?_
            exact ih _ _ _ _ _ g20087 k20087 (by omega) (by omega) (by omega) (by omega) (by omega) (by omega) (by omega) (by omega) (by omega) (by omega) (((kk20087.v (by decide)).trans ev20085)) (by omega) (by omega) (by omega)
          · refine ev_aload_n rfl ?_
            refine ev_bipush ?_
            refine ev_call (jcall_v (A := [(0, 44)]) (S' := []) (r := 7) rfl (g1.lt ad7) (g1.tg ad7) (Nat.le_of_ble_eq_true rfl)) (jOk_le (by decide) (s71 g1 (by omega) (by omega) (ey0) (by omega) (by omega))) (by decide) (by decide) (fun w20088 h20088 q20088 => ?_)
            obtain ⟨v20089, rfl, g20088, kk20088, ev20089, p20088_0⟩ := q20088
            have bv20089 := g20088.rg ad7 (i := 1) (by decide) rf7_1
            rw [ev20089] at bv20089
            have k20088 := k1.tr kk20088 (by decide)
            show jEv _ _ _ _ _ _ _ (_, [(2, 7), (2, 1), (0, 7), (0, a3), (0, x4), (0, x5), (0, x6)], [], _, _, _)
            refine ev_aload_n rfl ?_
            refine ev_iload rfl ?_
            refine ev_iload rfl ?_
            refine ev_iconst ?_
            refine ev_aload_n rfl ?_
            refine ev_aload_n rfl ?_
            refine ev_iload_n rfl ?_
            refine ev_iconst ?_
            refine ev_iadd (r := 8) (by decide) ?_
            refine ev_iload_n rfl ?_
            refine ev_iconst ?_
            refine ev_iload rfl ?_
            refine g_ishlB (a' := 1) (a := 1) (b := 3) (hi := 8) (by omega) (by omega) (by omega) (by omega) (by decide) (by decide) (fun v20090 ev20090 lv20090 uv20090 => ?_)
            refine g_iorG (fun v20091 ev20091 lv20091 uv20091 => ?_)
            refine ev_call (jcall_v (A := [(0, v20091), (0, 8), (2, 1)]) (S' := [(0, 0), (0, x6), (0, x5), (2, 7)]) (r := 7) rfl (g20088.lt ad7) (g20088.tg ad7) (Nat.le_of_ble_eq_true rfl)) (jOk_le (by decide) (s74_8 g20088 (by omega) (by omega) (ev20089) (by omega) (by omega))) (by decide) (by decide) (fun w20092 h20092 q20092 => ?_)
            obtain ⟨v20094, v20093, rfl, lv20094, uv20094, g20092, kk20092, ev20093, p20092_0, p20092_1⟩ := q20092
            have bv20093 := g20092.rg ad7 (i := 1) (by decide) rf7_1
            rw [ev20093] at bv20093
            have k20092 := k20088.tr kk20092 (by decide)
            show jEv _ _ _ _ _ _ _ (_, [(2, 7), (2, 1), (0, 7), (0, a3), (0, x4), (0, x5), (0, x6)], [(0, v20094), (0, 0), (0, x6), (0, x5), (2, 7)], _, _, _)
            refine ev_call (jcall_v (A := [(0, v20094), (0, 0), (0, x6), (0, x5)]) (S' := []) (r := 7) rfl (g20092.lt ad7) (g20092.tg ad7) (Nat.le_of_ble_eq_true rfl)) (jOk_le (by decide) (s80 g20092 (by omega) (by omega) (by omega) (by omega) (by omega) (by omega) (by omega) (by omega))) (by decide) (by decide) (fun w20095 h20095 q20095 => ?_)
            obtain ⟨rfl, g20095, kk20095⟩ := q20095
            have k20095 := k20092.tr kk20095 (by decide)
            show jEv _ _ _ _ _ _ _ (_, [(2, 7), (2, 1), (0, 7), (0, a3), (0, x4), (0, x5), (0, x6)], [], _, _, _)
            refine ev_iinc (w := (x6 + 1)) (L' := [(2, 7), (2, 1), (0, 7), (0, a3), (0, x4), (0, x5), (0, (x6 + 1))]) rfl (by unfold w32; omega) rfl ?_
            refine ev_goto f79_68 ?_
            exact ih _ _ _ _ _ g20095 k20095 (by omega) (by omega) (by omega) (by omega) (by omega) (by omega) (by omega) (by omega) (by omega) (by omega) (((kk20095.v (by decide)).trans ev20093)) (by omega) (by omega) (by omega)
set_option maxHeartbeats 4000000 in
theorem s79_7 {G : GH} {h : JH} (g : Gd G h) {a3 : Int} (la3 : (-2147483648) ≤ a3) (ua3 : a3 ≤ 2147483647) {w0 : Int} (ew0 : h.2.2 7 1 = w0) (lw0 : (-1) ≤ w0) (uw0 : w0 ≤ 200) {w1 : Int} (ew1 : h.2.2 7 2 = w1) (lw1 : 0 ≤ w1) (uw1 : w1 ≤ 199) : jOk 14 0 0 79 [(2, 7), (2, 1), (0, 7), (0, a3)] h (fun v h' => ∃ r F : Int, v = some (0, r) ∧ (-1) ≤ r ∧ r ≤ 199 ∧ Gd G h' ∧ Kp [(7, 2), (7, 3), (7, 4), (10, 0), (11, 0), (12, 0), (13, 0), (14, 0), (15, 0), (16, 0), (17, 0)] h h' ∧ h'.2.2 7 1 = F ∧ ((-F) + w0) ≤ 0 ∧ ((-F) + (-r)) ≤ 1) := by
  refine ⟨by decide, by rw [ml79]; exact Nat.le_of_ble_eq_true rfl, ?_⟩
  rw [ml79, pp79]
  show jEv _ none _ c79_0 0 0 _ (c79_0, [(2, 7), (2, 1), (0, 7), (0, a3), (9, 0), (9, 0), (9, 0)], [], h, 0, 0)
  have k0 := Kp.rf [(7, 2), (7, 3), (7, 4), (10, 0), (11, 0), (12, 0), (13, 0), (14, 0), (15, 0), (16, 0), (17, 0)] h
  refine ev_aload_n rfl ?_
  refine ev_dup (by decide) ?_
  refine g_getv (r := 7) (v := w1) g ad7 (by decide) ft5_2 (ew1) ?_
  refine ev_iconst ?_
  refine ev_iadd (r := (w1 + 1)) (by unfold w32; omega) ?_
  refine g_putf (r := 7) g ad7 (by decide) ft5_2 (by decide) (fun e => absurd e nz5_2) rf7_2 (by decide) (by omega) (by omega) (fun h20096 e20096 g20096 => ?_)
  have k20096 := k0.wr e20096 rfl
  refine ev_aload_n rfl ?_
  refine ev_in (d := 12) (a := 0) (b := 0) (cd' := c68_0) (m := 1) (L0 := [(2, 7)]) (jcall_v (A := []) (S' := []) (r := 7) rfl (g20096.lt ad7) (g20096.tg ad7) (Nat.le_of_ble_eq_true rfl)) (by decide) ml68 pp68 (Nat.le_of_ble_eq_true rfl) rfl (by decide) (by decide) ?_
  refine ev_aload_n rfl ?_
  refine g_getv (r := 7) (v := (w1 + 1)) g20096 ad7 (by decide) ft5_2 ((jw_eq e20096)) ?_
  refine ev_aload_n rfl ?_
  obtain ⟨v20097, ev20097, lv20097, uv20097⟩ := g20096.rd ad7 (show 0 < 15 by decide) rf7_0
  refine g_getv (r := 7) (v := v20097) g20096 ad7 (by decide) ft5_0 ev20097 ?_
  refine ev_icmpge f68_27 (fun c20098 => ?_) (fun c20098 => ?_)
  · refine ev_iconst ?_
    refine ev_ret rfl (by decide) (by decide) ?_
    show jEv _ _ _ _ _ _ _ (_, [(2, 7), (2, 1), (0, 7), (0, a3), (9, 0), (9, 0), (9, 0)], [(0, (-1))], _, _, _)
    refine ev_bipush ?_
    refine ev_isub (r := (-98)) (by decide) ?_
    refine ev_istore (L' := [(2, 7), (2, 1), (0, 7), (0, a3), (0, (-98)), (9, 0), (9, 0)]) (Nat.le_of_ble_eq_true rfl) rfl ?_
    refine ev_aload_n rfl ?_
    refine ev_iload rfl ?_
    refine ev_in (d := 12) (a := 0) (b := 0) (cd' := c140_0) (m := 2) (L0 := [(2, 1), (0, (-98))]) (jcall_v (A := [(0, (-98))]) (S' := []) (r := 1) rfl (g20096.lt ad1) (g20096.tg ad1) (Nat.le_of_ble_eq_true rfl)) (by decide) ml140 pp140 (Nat.le_of_ble_eq_true rfl) rfl (by decide) (by decide) ?_
    refine ev_iload_n rfl ?_
    refine ev_iflt f140_16 (fun c20099 => ?_) (fun c20099 => absurd c20099 (by omega))
    refine ev_iconst ?_
    refine ev_ret rfl (by decide) (by decide) ?_
    show jEv _ _ _ _ _ _ _ (_, [(2, 7), (2, 1), (0, 7), (0, a3), (0, (-98)), (9, 0), (9, 0)], [(0, 0)], _, _, _)
    refine ev_ifeq f79_37 (fun c20100 => ?_) (fun c20100 => absurd c20100 (by omega))
    refine ev_aload_n rfl ?_
    refine ev_in (d := 12) (a := 0) (b := 0) (cd' := c70_0) (m := 1) (L0 := [(2, 7)]) (jcall_v (A := []) (S' := []) (r := 7) rfl (g20096.lt ad7) (g20096.tg ad7) (Nat.le_of_ble_eq_true rfl)) (by decide) ml70 pp70 (Nat.le_of_ble_eq_true rfl) rfl (by decide) (by decide) ?_
    refine ev_aload_n rfl ?_
    refine g_getv (r := 7) (v := w0) g20096 ad7 (by decide) ft5_1 (((jw_ne e20096 (Or.inr (by decide))).trans ew0)) ?_
    refine ev_ifge f70_15 (fun c20101 => ?_) (fun c20101 => ?_)
    · refine ev_ret rfl (by decide) (by decide) ?_
      show jEv _ _ _ _ _ _ _ (_, [(2, 7), (2, 1), (0, 7), (0, a3), (0, (-98)), (9, 0), (9, 0)], [], _, _, _)
      refine ev_iconst ?_
      exact ev_ret rfl (by decide) (by decide) ⟨_, _, rfl, by omega, by omega, g20096, k20096, (((jw_ne e20096 (Or.inr (by decide))).trans ew0)), by omega, by omega⟩
    · refine ev_aload_n rfl ?_
      refine ev_aload_n rfl ?_
      refine g_getv (r := 7) (v := (w1 + 1)) g20096 ad7 (by decide) ft5_2 ((jw_eq e20096)) ?_
      refine g_putf (r := 7) g20096 ad7 (by decide) ft5_1 (by decide) (fun e => absurd e nz5_1) rf7_1 (by decide) (by omega) (by omega) (fun h20102 e20102 g20102 => ?_)
      have k20102 := k20096.wr e20102 rfl
      refine ev_ret rfl (by decide) (by decide) ?_
      show jEv _ _ _ _ _ _ _ (_, [(2, 7), (2, 1), (0, 7), (0, a3), (0, (-98)), (9, 0), (9, 0)], [], _, _, _)
      refine ev_iconst ?_
      exact ev_ret rfl (by decide) (by decide) ⟨_, _, rfl, by omega, by omega, g20102, k20102, ((jw_eq e20102)), by omega, by omega⟩
  · refine ev_aload_n rfl ?_
    refine g_getp (r := 7) (c := 8) g20096 ad7 (by decide) (by decide) rf7_5 ft5_5 ?_
    refine ev_aload_n rfl ?_
    refine g_getv (r := 7) (v := (w1 + 1)) g20096 ad7 (by decide) ft5_2 ((jw_eq e20096)) ?_
    refine g_bald g20096 ad8 rt8 (by omega) (by omega) (fun v20103 ev20103 lv20103 uv20103 => ?_)
    refine ev_sipush ?_
    refine g_iandB (b := 255) (by omega) (by omega) (by decide) (fun v20104 ev20104 lv20104 uv20104 => ?_)
    refine ev_goto f68_28 ?_
    refine ev_ret rfl (by decide) (by decide) ?_
    show jEv _ _ _ _ _ _ _ (_, [(2, 7), (2, 1), (0, 7), (0, a3), (9, 0), (9, 0), (9, 0)], [(0, v20104)], _, _, _)
    refine ev_bipush ?_
    refine ev_isub (r := (v20104 - 97)) (by unfold w32; omega) ?_
    refine ev_istore (L' := [(2, 7), (2, 1), (0, 7), (0, a3), (0, (v20104 - 97)), (9, 0), (9, 0)]) (Nat.le_of_ble_eq_true rfl) rfl ?_
    refine ev_aload_n rfl ?_
    refine ev_iload rfl ?_
    refine ev_in (d := 12) (a := 0) (b := 0) (cd' := c140_0) (m := 2) (L0 := [(2, 1), (0, (v20104 - 97))]) (jcall_v (A := [(0, (v20104 - 97))]) (S' := []) (r := 1) rfl (g20096.lt ad1) (g20096.tg ad1) (Nat.le_of_ble_eq_true rfl)) (by decide) ml140 pp140 (Nat.le_of_ble_eq_true rfl) rfl (by decide) (by decide) ?_
    refine ev_iload_n rfl ?_
    refine ev_iflt f140_16 (fun c20105 => ?_) (fun c20105 => ?_)
    · refine ev_iconst ?_
      refine ev_ret rfl (by decide) (by decide) ?_
      show jEv _ _ _ _ _ _ _ (_, [(2, 7), (2, 1), (0, 7), (0, a3), (0, (v20104 - 97)), (9, 0), (9, 0)], [(0, 0)], _, _, _)
      refine ev_ifeq f79_37 (fun c20106 => ?_) (fun c20106 => absurd c20106 (by omega))
      refine ev_aload_n rfl ?_
      refine ev_in (d := 12) (a := 0) (b := 0) (cd' := c70_0) (m := 1) (L0 := [(2, 7)]) (jcall_v (A := []) (S' := []) (r := 7) rfl (g20096.lt ad7) (g20096.tg ad7) (Nat.le_of_ble_eq_true rfl)) (by decide) ml70 pp70 (Nat.le_of_ble_eq_true rfl) rfl (by decide) (by decide) ?_
      refine ev_aload_n rfl ?_
      refine g_getv (r := 7) (v := w0) g20096 ad7 (by decide) ft5_1 (((jw_ne e20096 (Or.inr (by decide))).trans ew0)) ?_
      refine ev_ifge f70_15 (fun c20107 => ?_) (fun c20107 => ?_)
      · refine ev_ret rfl (by decide) (by decide) ?_
        show jEv _ _ _ _ _ _ _ (_, [(2, 7), (2, 1), (0, 7), (0, a3), (0, (v20104 - 97)), (9, 0), (9, 0)], [], _, _, _)
        refine ev_iconst ?_
        exact ev_ret rfl (by decide) (by decide) ⟨_, _, rfl, by omega, by omega, g20096, k20096, (((jw_ne e20096 (Or.inr (by decide))).trans ew0)), by omega, by omega⟩
      · refine ev_aload_n rfl ?_
        refine ev_aload_n rfl ?_
        refine g_getv (r := 7) (v := (w1 + 1)) g20096 ad7 (by decide) ft5_2 ((jw_eq e20096)) ?_
        refine g_putf (r := 7) g20096 ad7 (by decide) ft5_1 (by decide) (fun e => absurd e nz5_1) rf7_1 (by decide) (by omega) (by omega) (fun h20108 e20108 g20108 => ?_)
        have k20108 := k20096.wr e20108 rfl
        refine ev_ret rfl (by decide) (by decide) ?_
        show jEv _ _ _ _ _ _ _ (_, [(2, 7), (2, 1), (0, 7), (0, a3), (0, (v20104 - 97)), (9, 0), (9, 0)], [], _, _, _)
        refine ev_iconst ?_
        exact ev_ret rfl (by decide) (by decide) ⟨_, _, rfl, by omega, by omega, g20108, k20108, ((jw_eq e20108)), by omega, by omega⟩
    · refine ev_iload_n rfl ?_
      refine ev_aload_n rfl ?_
      obtain ⟨v20109, ev20109, lv20109, uv20109⟩ := g20096.rd ad1 (show 0 < 8 by decide) rf1_0
      refine g_getv (r := 1) (v := v20109) g20096 ad1 (by decide) ft10_0 ev20109 ?_
      refine ev_icmpge f140_16 (fun c20110 => ?_) (fun c20110 => ?_)
      · refine ev_iconst ?_
        refine ev_ret rfl (by decide) (by decide) ?_
        show jEv _ _ _ _ _ _ _ (_, [(2, 7), (2, 1), (0, 7), (0, a3), (0, (v20104 - 97)), (9, 0), (9, 0)], [(0, 0)], _, _, _)
        refine ev_ifeq f79_37 (fun c20111 => ?_) (fun c20111 => absurd c20111 (by omega))
        refine ev_aload_n rfl ?_
        refine ev_in (d := 12) (a := 0) (b := 0) (cd' := c70_0) (m := 1) (L0 := [(2, 7)]) (jcall_v (A := []) (S' := []) (r := 7) rfl (g20096.lt ad7) (g20096.tg ad7) (Nat.le_of_ble_eq_true rfl)) (by decide) ml70 pp70 (Nat.le_of_ble_eq_true rfl) rfl (by decide) (by decide) ?_
        refine ev_aload_n rfl ?_
        refine g_getv (r := 7) (v := w0) g20096 ad7 (by decide) ft5_1 (((jw_ne e20096 (Or.inr (by decide))).trans ew0)) ?_
        refine ev_ifge f70_15 (fun c20112 => ?_) (fun c20112 => ?_)
        · refine ev_ret rfl (by decide) (by decide) ?_
          show jEv _ _ _ _ _ _ _ (_, [(2, 7), (2, 1), (0, 7), (0, a3), (0, (v20104 - 97)), (9, 0), (9, 0)], [], _, _, _)
          refine ev_iconst ?_
          exact ev_ret rfl (by decide) (by decide) ⟨_, _, rfl, by omega, by omega, g20096, k20096, (((jw_ne e20096 (Or.inr (by decide))).trans ew0)), by omega, by omega⟩
        · refine ev_aload_n rfl ?_
          refine ev_aload_n rfl ?_
          refine g_getv (r := 7) (v := (w1 + 1)) g20096 ad7 (by decide) ft5_2 ((jw_eq e20096)) ?_
          refine g_putf (r := 7) g20096 ad7 (by decide) ft5_1 (by decide) (fun e => absurd e nz5_1) rf7_1 (by decide) (by omega) (by omega) (fun h20113 e20113 g20113 => ?_)
          have k20113 := k20096.wr e20113 rfl
          refine ev_ret rfl (by decide) (by decide) ?_
          show jEv _ _ _ _ _ _ _ (_, [(2, 7), (2, 1), (0, 7), (0, a3), (0, (v20104 - 97)), (9, 0), (9, 0)], [], _, _, _)
          refine ev_iconst ?_
          exact ev_ret rfl (by decide) (by decide) ⟨_, _, rfl, by omega, by omega, g20113, k20113, ((jw_eq e20113)), by omega, by omega⟩
      · refine ev_iconst ?_
        refine ev_goto f140_17 ?_
        refine ev_ret rfl (by decide) (by decide) ?_
        show jEv _ _ _ _ _ _ _ (_, [(2, 7), (2, 1), (0, 7), (0, a3), (0, (v20104 - 97)), (9, 0), (9, 0)], [(0, 1)], _, _, _)
        refine ev_ifeq f79_37 (fun c20114 => absurd c20114 (by omega)) (fun c20114 => ?_)
        refine ev_iload_n rfl ?_
        refine ev_iload rfl ?_
        refine g_ishrG (fun v20115 ev20115 lv20115 uv20115 => ?_)
        refine ev_iconst ?_
        refine g_iandB (b := 1) (by omega) (by omega) (by decide) (fun v20116 ev20116 lv20116 uv20116 => ?_)
        refine ev_ifeq f79_43 (fun c20117 => ?_) (fun c20117 => ?_)
        · refine ev_aload_n rfl ?_
          refine ev_dup (by decide) ?_
          refine g_getv (r := 7) (v := (w1 + 1)) g20096 ad7 (by decide) ft5_2 ((jw_eq e20096)) ?_
          refine ev_iconst ?_
          refine ev_iadd (r := (w1 + 2)) (by unfold w32; omega) ?_
          refine g_putf (r := 7) g20096 ad7 (by decide) ft5_2 (by decide) (fun e => absurd e nz5_2) rf7_2 (by decide) (by omega) (by omega) (fun h20118 e20118 g20118 => ?_)
          have k20118 := k20096.wr e20118 rfl
          refine ev_aload_n rfl ?_
          refine ev_iload_n rfl ?_
          refine ev_call (jcall_v (A := [(0, 7)]) (S' := []) (r := 7) rfl (g20118.lt ad7) (g20118.tg ad7) (Nat.le_of_ble_eq_true rfl)) (jOk_le (by decide) (s72 g20118 (by omega) (by omega) (((jw_ne e20118 (Or.inr (by decide))).trans ((jw_ne e20096 (Or.inr (by decide))).trans ew0))) (by omega) (by omega))) (by decide) (by decide) (fun w20119 h20119 q20119 => ?_)
          obtain ⟨v20120, rfl, g20119, kk20119, ev20120, p20119_0⟩ := q20119
          have bv20120 := g20119.rg ad7 (i := 1) (by decide) rf7_1
          rw [ev20120] at bv20120
          have k20119 := k20118.tr kk20119 (by decide)
          show jEv _ _ _ _ _ _ _ (_, [(2, 7), (2, 1), (0, 7), (0, a3), (0, (v20104 - 97)), (9, 0), (9, 0)], [], _, _, _)
          refine ev_aload_n rfl ?_
          refine ev_iconst ?_
          refine ev_call (jcall_v (A := [(0, 2)]) (S' := []) (r := 7) rfl (g20119.lt ad7) (g20119.tg ad7) (Nat.le_of_ble_eq_true rfl)) (jOk_le (by decide) (s73 g20119 (by omega) (by omega) (ev20120) (by omega) (by omega))) (by decide) (by decide) (fun w20121 h20121 q20121 => ?_)
          obtain ⟨v20123, v20122, rfl, lv20123, uv20123, g20121, kk20121, ev20122, p20121_0, p20121_1⟩ := q20121
          have bv20122 := g20121.rg ad7 (i := 1) (by decide) rf7_1
          rw [ev20122] at bv20122
          have k20121 := k20119.tr kk20121 (by decide)
          show jEv _ _ _ _ _ _ _ (_, [(2, 7), (2, 1), (0, 7), (0, a3), (0, (v20104 - 97)), (9, 0), (9, 0)], [(0, v20123)], _, _, _)
          refine ev_istore (L' := [(2, 7), (2, 1), (0, 7), (0, a3), (0, (v20104 - 97)), (0, v20123), (9, 0)]) (Nat.le_of_ble_eq_true rfl) rfl ?_
          refine ev_iconst ?_
          refine ev_istore (L' := [(2, 7), (2, 1), (0, 7), (0, a3), (0, (v20104 - 97)), (0, v20123), (0, 0)]) (Nat.le_of_ble_eq_true rfl) rfl ?_
          exact (s79_7_l la3 ua3 ew0 lw0 uw0 ew1 lw1 uw1 8) _ _ _ _ _ g20121 k20121 (by omega) (by omega) (by omega) (by omega) (by omega) (by omega) (by omega) (by omega) (by omega) (by omega) (ev20122) (by omega) (by omega) (by omega)
        · refine ev_aload_n rfl ?_
          refine ev_in (d := 12) (a := 0) (b := 0) (cd' := c70_0) (m := 1) (L0 := [(2, 7)]) (jcall_v (A := []) (S' := []) (r := 7) rfl (g20096.lt ad7) (g20096.tg ad7) (Nat.le_of_ble_eq_true rfl)) (by decide) ml70 pp70 (Nat.le_of_ble_eq_true rfl) rfl (by decide) (by decide) ?_
          refine ev_aload_n rfl ?_
          refine g_getv (r := 7) (v := w0) g20096 ad7 (by decide) ft5_1 (((jw_ne e20096 (Or.inr (by decide))).trans ew0)) ?_
          refine ev_ifge f70_15 (fun c20124 => ?_) (fun c20124 => ?_)
          · refine ev_ret rfl (by decide) (by decide) ?_
            show jEv _ _ _ _ _ _ _ (_, [(2, 7), (2, 1), (0, 7), (0, a3), (0, (v20104 - 97)), (9, 0), (9, 0)], [], _, _, _)
            refine ev_iconst ?_
            exact ev_ret rfl (by decide) (by decide) ⟨_, _, rfl, by omega, by omega, g20096, k20096, (((jw_ne e20096 (Or.inr (by decide))).trans ew0)), by omega, by omega⟩
          · refine ev_aload_n rfl ?_
            refine ev_aload_n rfl ?_
            refine g_getv (r := 7) (v := (w1 + 1)) g20096 ad7 (by decide) ft5_2 ((jw_eq e20096)) ?_
            refine g_putf (r := 7) g20096 ad7 (by decide) ft5_1 (by decide) (fun e => absurd e nz5_1) rf7_1 (by decide) (by omega) (by omega) (fun h20125 e20125 g20125 => ?_)
            have k20125 := k20096.wr e20125 rfl
            refine ev_ret rfl (by decide) (by decide) ?_
            show jEv _ _ _ _ _ _ _ (_, [(2, 7), (2, 1), (0, 7), (0, a3), (0, (v20104 - 97)), (9, 0), (9, 0)], [], _, _, _)
            refine ev_iconst ?_
            exact ev_ret rfl (by decide) (by decide) ⟨_, _, rfl, by omega, by omega, g20125, k20125, ((jw_eq e20125)), by omega, by omega⟩
/-! s74_7  -/
set_option maxHeartbeats 4000000 in
theorem s74_7 {G : GH} {h : JH} (g : Gd G h) {a3 : Int} (la3 : (-2147483648) ≤ a3) (ua3 : a3 ≤ 2147483647) {w0 : Int} (ew0 : h.2.2 7 1 = w0) (lw0 : (-1) ≤ w0) (uw0 : w0 ≤ 200) : jOk 15 0 0 74 [(2, 7), (2, 1), (0, 7), (0, a3)] h (fun v h' => ∃ r F : Int, v = some (0, r) ∧ (-1) ≤ r ∧ r ≤ 199 ∧ Gd G h' ∧ Kp [(7, 2), (7, 3), (7, 4), (10, 0), (11, 0), (12, 0), (13, 0), (14, 0), (15, 0), (16, 0), (17, 0)] h h' ∧ h'.2.2 7 1 = F ∧ ((-F) + w0) ≤ 0 ∧ ((-F) + (-r)) ≤ 1) := by
  refine ⟨by decide, by rw [ml74]; exact Nat.le_of_ble_eq_true rfl, ?_⟩
  rw [ml74, pp74]
  show jEv _ none _ c74_0 0 0 _ (c74_0, [(2, 7), (2, 1), (0, 7), (0, a3), (9, 0)], [], h, 0, 0)
  have k0 := Kp.rf [(7, 2), (7, 3), (7, 4), (10, 0), (11, 0), (12, 0), (13, 0), (14, 0), (15, 0), (16, 0), (17, 0)] h
  refine ev_aload_n rfl ?_
  refine g_getv (r := 7) (v := w0) g ad7 (by decide) ft5_1 (ew0) ?_
  refine ev_ifge f74_13 (fun c20192 => ?_) (fun c20192 => ?_)
  · refine ev_aload_n rfl ?_
    refine ev_in (d := 13) (a := 0) (b := 0) (cd' := c70_0) (m := 1) (L0 := [(2, 7)]) (jcall_v (A := []) (S' := []) (r := 7) rfl (g.lt ad7) (g.tg ad7) (Nat.le_of_ble_eq_true rfl)) (by decide) ml70 pp70 (Nat.le_of_ble_eq_true rfl) rfl (by decide) (by decide) ?_
    refine ev_aload_n rfl ?_
    refine g_getv (r := 7) (v := w0) g ad7 (by decide) ft5_1 (ew0) ?_
    refine ev_ifge f70_15 (fun c20193 => ?_) (fun c20193 => absurd c20193 (by omega))
    refine ev_ret rfl (by decide) (by decide) ?_
    show jEv _ _ _ _ _ _ _ (_, [(2, 7), (2, 1), (0, 7), (0, a3), (9, 0)], [], _, _, _)
    refine ev_iconst ?_
    exact ev_ret rfl (by decide) (by decide) ⟨_, _, rfl, by omega, by omega, g, k0, (ew0), by omega, by omega⟩
  · refine ev_iload_n rfl ?_
    refine ev_bipush ?_
    refine ev_icmple f74_19 (fun c20194 => ?_) (fun c20194 => absurd c20194 (by omega))
    refine ev_aload_n rfl ?_
    refine ev_in (d := 13) (a := 0) (b := 0) (cd' := c68_0) (m := 1) (L0 := [(2, 7)]) (jcall_v (A := []) (S' := []) (r := 7) rfl (g.lt ad7) (g.tg ad7) (Nat.le_of_ble_eq_true rfl)) (by decide) ml68 pp68 (Nat.le_of_ble_eq_true rfl) rfl (by decide) (by decide) ?_
    refine ev_aload_n rfl ?_
    obtain ⟨v20195, ev20195, lv20195, uv20195⟩ := g.rd ad7 (show 2 < 15 by decide) rf7_2
    refine g_getv (r := 7) (v := v20195) g ad7 (by decide) ft5_2 ev20195 ?_
    refine ev_aload_n rfl ?_
    obtain ⟨v20196, ev20196, lv20196, uv20196⟩ := g.rd ad7 (show 0 < 15 by decide) rf7_0
    refine g_getv (r := 7) (v := v20196) g ad7 (by decide) ft5_0 ev20196 ?_
    refine ev_icmpge f68_27 (fun c20197 => ?_) (fun c20197 => ?_)
    · refine ev_iconst ?_
      refine ev_ret rfl (by decide) (by decide) ?_
      show jEv _ _ _ _ _ _ _ (_, [(2, 7), (2, 1), (0, 7), (0, a3), (9, 0)], [(0, (-1))], _, _, _)
      refine ev_istore (L' := [(2, 7), (2, 1), (0, 7), (0, a3), (0, (-1))]) (Nat.le_of_ble_eq_true rfl) rfl ?_
      refine ev_iload rfl ?_
      refine ev_bipush ?_
      refine ev_icmpne f74_40 (fun c20198 => ?_) (fun c20198 => absurd c20198 (by omega))
      refine ev_iload rfl ?_
      refine ev_bipush ?_
      refine ev_icmpne f74_55 (fun c20199 => ?_) (fun c20199 => absurd c20199 (by omega))
      refine ev_iload rfl ?_
      refine ev_bipush ?_
      refine ev_icmplt f74_78 (fun c20200 => ?_) (fun c20200 => absurd c20200 (by omega))
      refine ev_aload_n rfl ?_
      refine ev_call (jcall_v (A := []) (S' := []) (r := 7) rfl (g.lt ad7) (g.tg ad7) (Nat.le_of_ble_eq_true rfl)) (jOk_le (by decide) (s75 g (ew0) (by omega) (by omega))) (by decide) (by decide) (fun w20201 h20201 q20201 => ?_)
      obtain ⟨v20203, v20202, rfl, lv20203, uv20203, g20201, kk20201, ev20202, p20201_0, p20201_1⟩ := q20201
      have bv20202 := g20201.rg ad7 (i := 1) (by decide) rf7_1
      rw [ev20202] at bv20202
      have k20201 := k0.tr kk20201 (by decide)
      show jEv _ _ _ _ _ _ _ (_, [(2, 7), (2, 1), (0, 7), (0, a3), (0, (-1))], [(0, v20203)], _, _, _)
      exact ev_ret rfl (by decide) (by decide) ⟨_, _, rfl, by omega, by omega, g20201, k20201, (ev20202), by omega, by omega⟩
    · refine ev_aload_n rfl ?_
      refine g_getp (r := 7) (c := 8) g ad7 (by decide) (by decide) rf7_5 ft5_5 ?_
      refine ev_aload_n rfl ?_
      refine g_getv (r := 7) (v := v20195) g ad7 (by decide) ft5_2 (ev20195) ?_
      refine g_bald g ad8 rt8 (by omega) (by omega) (fun v20204 ev20204 lv20204 uv20204 => ?_)
      refine ev_sipush ?_
      refine g_iandB (b := 255) (by omega) (by omega) (by decide) (fun v20205 ev20205 lv20205 uv20205 => ?_)
      refine ev_goto f68_28 ?_
      refine ev_ret rfl (by decide) (by decide) ?_
      show jEv _ _ _ _ _ _ _ (_, [(2, 7), (2, 1), (0, 7), (0, a3), (9, 0)], [(0, v20205)], _, _, _)
      refine ev_istore (L' := [(2, 7), (2, 1), (0, 7), (0, a3), (0, v20205)]) (Nat.le_of_ble_eq_true rfl) rfl ?_
      refine ev_iload rfl ?_
      refine ev_bipush ?_
      refine ev_icmpne f74_40 (fun c20206 => ?_) (fun c20206 => ?_)
      · refine ev_iload rfl ?_
        refine ev_bipush ?_
        refine ev_icmpne f74_55 (fun c20207 => ?_) (fun c20207 => ?_)
        · refine ev_iload rfl ?_
          refine ev_bipush ?_
          refine ev_icmplt f74_78 (fun c20208 => ?_) (fun c20208 => ?_)
          · refine ev_aload_n rfl ?_
            refine ev_call (jcall_v (A := []) (S' := []) (r := 7) rfl (g.lt ad7) (g.tg ad7) (Nat.le_of_ble_eq_true rfl)) (jOk_le (by decide) (s75 g (ew0) (by omega) (by omega))) (by decide) (by decide) (fun w20209 h20209 q20209 => ?_)
            obtain ⟨v20211, v20210, rfl, lv20211, uv20211, g20209, kk20209, ev20210, p20209_0, p20209_1⟩ := q20209
            have bv20210 := g20209.rg ad7 (i := 1) (by decide) rf7_1
            rw [ev20210] at bv20210
            have k20209 := k0.tr kk20209 (by decide)
            show jEv _ _ _ _ _ _ _ (_, [(2, 7), (2, 1), (0, 7), (0, a3), (0, v20205)], [(0, v20211)], _, _, _)
            exact ev_ret rfl (by decide) (by decide) ⟨_, _, rfl, by omega, by omega, g20209, k20209, (ev20210), by omega, by omega⟩
          · refine ev_iload rfl ?_
            refine ev_bipush ?_
            refine ev_icmpge f74_78 (fun c20212 => ?_) (fun c20212 => ?_)
            · refine ev_aload_n rfl ?_
              refine ev_call (jcall_v (A := []) (S' := []) (r := 7) rfl (g.lt ad7) (g.tg ad7) (Nat.le_of_ble_eq_true rfl)) (jOk_le (by decide) (s75 g (ew0) (by omega) (by omega))) (by decide) (by decide) (fun w20213 h20213 q20213 => ?_)
              obtain ⟨v20215, v20214, rfl, lv20215, uv20215, g20213, kk20213, ev20214, p20213_0, p20213_1⟩ := q20213
              have bv20214 := g20213.rg ad7 (i := 1) (by decide) rf7_1
              rw [ev20214] at bv20214
              have k20213 := k0.tr kk20213 (by decide)
              show jEv _ _ _ _ _ _ _ (_, [(2, 7), (2, 1), (0, 7), (0, a3), (0, v20205)], [(0, v20215)], _, _, _)
              exact ev_ret rfl (by decide) (by decide) ⟨_, _, rfl, by omega, by omega, g20213, k20213, (ev20214), by omega, by omega⟩
            · refine ev_aload_n rfl ?_
              refine ev_iload_n rfl ?_
              refine ev_iload_n rfl ?_
              refine ev_call (jcall_v (A := [(0, a3), (0, 7)]) (S' := []) (r := 7) rfl (g.lt ad7) (g.tg ad7) (Nat.le_of_ble_eq_true rfl)) (jOk_le (by decide) (s77 g (by omega) (by omega) (by omega) (by omega) (ew0) (by omega) (by omega))) (by decide) (by decide) (fun w20216 h20216 q20216 => ?_)
              obtain ⟨v20218, v20217, rfl, lv20218, uv20218, g20216, kk20216, ev20217, p20216_0, p20216_1⟩ := q20216
              have bv20217 := g20216.rg ad7 (i := 1) (by decide) rf7_1
              rw [ev20217] at bv20217
              have k20216 := k0.tr kk20216 (by decide)
              show jEv _ _ _ _ _ _ _ (_, [(2, 7), (2, 1), (0, 7), (0, a3), (0, v20205)], [(0, v20218)], _, _, _)
              refine ev_goto f74_82 ?_
              exact ev_ret rfl (by decide) (by decide) ⟨_, _, rfl, by omega, by omega, g20216, k20216, (ev20217), by omega, by omega⟩
        · refine ev_aload_n rfl ?_
          refine ev_aload_n rfl ?_
          refine ev_iload_n rfl ?_
          refine ev_iload_n rfl ?_
          refine ev_call (jcall_v (A := [(0, a3), (0, 7), (2, 1)]) (S' := []) (r := 7) rfl (g.lt ad7) (g.tg ad7) (Nat.le_of_ble_eq_true rfl)) (jOk_le (by decide) (s79_7 g (by omega) (by omega) (ew0) (by omega) (by omega) (ev20195) (by omega) (by omega))) (by decide) (by decide) (fun w20219 h20219 q20219 => ?_)
          obtain ⟨v20221, v20220, rfl, lv20221, uv20221, g20219, kk20219, ev20220, p20219_0, p20219_1⟩ := q20219
          have bv20220 := g20219.rg ad7 (i := 1) (by decide) rf7_1
          rw [ev20220] at bv20220
          have k20219 := k0.tr kk20219 (by decide)
          show jEv _ _ _ _ _ _ _ (_, [(2, 7), (2, 1), (0, 7), (0, a3), (0, v20205)], [(0, v20221)], _, _, _)
          exact ev_ret rfl (by decide) (by decide) ⟨_, _, rfl, by omega, by omega, g20219, k20219, (ev20220), by omega, by omega⟩
      · refine ev_aload_n rfl ?_
        refine ev_aload_n rfl ?_
        refine ev_iload_n rfl ?_
        refine ev_iload_n rfl ?_
        refine ev_call (jcall_v (A := [(0, a3), (0, 7), (2, 1)]) (S' := []) (r := 7) rfl (g.lt ad7) (g.tg ad7) (Nat.le_of_ble_eq_true rfl)) (jOk_le (by decide) (s78_7 g (by omega) (by omega) (ew0) (by omega) (by omega) (ev20195) (by omega) (by omega))) (by decide) (by decide) (fun w20222 h20222 q20222 => ?_)
        obtain ⟨v20224, v20223, rfl, lv20224, uv20224, g20222, kk20222, ev20223, p20222_0, p20222_1⟩ := q20222
        have bv20223 := g20222.rg ad7 (i := 1) (by decide) rf7_1
        rw [ev20223] at bv20223
        have k20222 := k0.tr kk20222 (by decide)
        show jEv _ _ _ _ _ _ _ (_, [(2, 7), (2, 1), (0, 7), (0, a3), (0, v20205)], [(0, v20224)], _, _, _)
        exact ev_ret rfl (by decide) (by decide) ⟨_, _, rfl, by omega, by omega, g20222, k20222, (ev20223), by omega, by omega⟩
/-! s78_6  -/
set_option maxHeartbeats 4000000 in
theorem s78_6_l {G : GH} {h : JH} {a3 : Int} (la3 : (-2147483648) ≤ a3) (ua3 : a3 ≤ 2147483647) {w0 : Int} (ew0 : h.2.2 7 1 = w0) (lw0 : (-1) ≤ w0) (uw0 : w0 ≤ 200) {w1 : Int} (ew1 : h.2.2 7 2 = w1) (lw1 : 0 ≤ w1) (uw1 : w1 ≤ 199) : ∀ N : Nat, (∀ (h1 : JH) (x4 x5 y0 : Int) (j6 : AV), Gd G h1 → Kp [(7, 2), (7, 3), (7, 4), (10, 0), (11, 0), (12, 0), (13, 0), (14, 0), (15, 0), (16, 0), (17, 0)] h h1 → (-2147483648) ≤ a3 → a3 ≤ 2147483647 → (-1) ≤ x4 → x4 ≤ 199 → 0 ≤ x5 → x5 ≤ 3 → (w0 + (-y0)) ≤ 0 → ((-x4) + (-y0)) ≤ 1 → h1.2.2 7 1 = y0 → (-1) ≤ y0 → y0 ≤ 200 → ((-x5) + 3) < N → jEv (jOk 15) none (fun _ => 0) c78_0 0 0 (fun v h' => ∃ r F : Int, v = some (0, r) ∧ (-1) ≤ r ∧ r ≤ 199 ∧ Gd G h' ∧ Kp [(7, 2), (7, 3), (7, 4), (10, 0), (11, 0), (12, 0), (13, 0), (14, 0), (15, 0), (16, 0), (17, 0)] h h' ∧ h'.2.2 7 1 = F ∧ ((-F) + w0) ≤ 0 ∧ ((-F) + (-r)) ≤ 1) (c78_25, [(2, 7), (2, 1), (0, 6), (0, a3), (0, x4), (0, x5), j6], [], h1, 0, 0)) := by
  intro N
  induction N with
  | zero => exact fun h1 x4 x5 y0 j6 g1 k1 b0 b1 b2 b3 b4 b5 b6 b7 b8 b9 b10 hm => absurd hm (by omega)
  | succ N ih =>
    show _
    intro h1 x4 x5 y0 j6 g1 k1 b0 b1 b2 b3 b4 b5 b6 b7 ey0 ly0 uy0 hm
    refine ev_iload rfl ?_
    refine ev_iconst ?_
    refine ev_icmpge f78_100 (fun c20393 => absurd c20393 (by omega)) (fun c20393 => ?_)
    refine ev_aload_n rfl ?_
    refine g_getv (r := 7) (v := y0) g1 ad7 (by decide) ft5_1 (ey0) ?_
    refine ev_ifge f78_100 (fun c20394 => ?_) (fun c20394 => ?_)
    · refine ev_aload_n rfl ?_
      refine ev_bipush ?_
      refine ev_call (jcall_v (A := [(0, 41)]) (S' := []) (r := 7) rfl (g1.lt ad7) (g1.tg ad7) (Nat.le_of_ble_eq_true rfl)) (jOk_le (by decide) (s71 g1 (by omega) (by omega) (ey0) (by omega) (by omega))) (by decide) (by decide) (fun w20395 h20395 q20395 => ?_)
      obtain ⟨v20396, rfl, g20395, kk20395, ev20396, p20395_0⟩ := q20395
      have bv20396 := g20395.rg ad7 (i := 1) (by decide) rf7_1
      rw [ev20396] at bv20396
      have k20395 := k1.tr kk20395 (by decide)
      show jEv _ _ _ _ _ _ _ (_, [(2, 7), (2, 1), (0, 6), (0, a3), (0, x4), (0, x5), j6], [], _, _, _)
      refine ev_aload_n rfl ?_
      refine g_getv (r := 7) (v := v20396) g20395 ad7 (by decide) ft5_1 (ev20396) ?_
      refine ev_iflt f78_117 (fun c20397 => absurd c20397 (by omega)) (fun c20397 => ?_)
      refine ev_iconst ?_
      refine ev_goto f78_119 ?_
      exact ev_ret rfl (by decide) (by decide) ⟨_, _, rfl, by omega, by omega, g20395, k20395, (ev20396), by omega, by omega⟩
    · refine ev_aload_n rfl ?_
      refine ev_iconst ?_
      refine ev_call (jcall_v (A := [(0, 2)]) (S' := []) (r := 7) rfl (g1.lt ad7) (g1.tg ad7) (Nat.le_of_ble_eq_true rfl)) (jOk_le (by decide) (s76 g1 (by omega) (by omega) (ey0) (by omega) (by omega))) (by decide) (by decide) (fun w20398 h20398 q20398 => ?_)
      obtain ⟨v20400, v20399, rfl, lv20400, uv20400, g20398, kk20398, ev20399, p20398_0⟩ := q20398
      have bv20399 := g20398.rg ad7 (i := 1) (by decide) rf7_1
      rw [ev20399] at bv20399
      have k20398 := k1.tr kk20398 (by decide)
      show jEv _ _ _ _ _ _ _ (_, [(2, 7), (2, 1), (0, 6), (0, a3), (0, x4), (0, x5), j6], [(0, v20400)], _, _, _)
      refine ev_istore (L' := [(2, 7), (2, 1), (0, 6), (0, a3), (0, x4), (0, x5), (0, v20400)]) (Nat.le_of_ble_eq_true rfl) rfl ?_
      refine ev_aload_n rfl ?_
      refine ev_bipush ?_
      refine ev_call (jcall_v (A := [(0, 58)]) (S' := []) (r := 7) rfl (g20398.lt ad7) (g20398.tg ad7) (Nat.le_of_ble_eq_true rfl)) (jOk_le (by decide) (s71 g20398 (by omega) (by omega) (ev20399) (by omega) (by omega))) (by decide) (by decide) (fun w20401 h20401 q20401 => ?_)
      obtain ⟨v20402, rfl, g20401, kk20401, ev20402, p20401_0⟩ := q20401
      have bv20402 := g20401.rg ad7 (i := 1) (by decide) rf7_1
      rw [ev20402] at bv20402
      have k20401 := k20398.tr kk20401 (by decide)
      show jEv _ _ _ _ _ _ _ (_, [(2, 7), (2, 1), (0, 6), (0, a3), (0, x4), (0, x5), (0, v20400)], [], _, _, _)
      refine ev_aload_n rfl ?_
      refine ev_iload rfl ?_
      refine ev_iload rfl ?_
      refine ev_iload rfl ?_
      refine ev_aload_n rfl ?_
      refine ev_aload_n rfl ?_
      refine ev_iload_n rfl ?_
      refine ev_iconst ?_
      refine ev_iadd (r := 7) (by decide) ?_
      refine ev_iload_n rfl ?_
      refine ev_call (jcall_v (A := [(0, a3), (0, 7), (2, 1)]) (S' := [(0, v20400), (0, x5), (0, x4), (2, 7)]) (r := 7) rfl (g20401.lt ad7) (g20401.tg ad7) (Nat.le_of_ble_eq_true rfl)) (jOk_le (by decide) (s74_7 g20401 (by omega) (by omega) (ev20402) (by omega) (by omega))) (by decide) (by decide) (fun w20403 h20403 q20403 => ?_)
      obtain ⟨v20405, v20404, rfl, lv20405, uv20405, g20403, kk20403, ev20404, p20403_0, p20403_1⟩ := q20403
      have bv20404 := g20403.rg ad7 (i := 1) (by decide) rf7_1
      rw [ev20404] at bv20404
      have k20403 := k20401.tr kk20403 (by decide)
      show jEv _ _ _ _ _ _ _ (_, [(2, 7), (2, 1), (0, 6), (0, a3), (0, x4), (0, x5), (0, v20400)], [(0, v20405), (0, v20400), (0, x5), (0, x4), (2, 7)], _, _, _)
      refine ev_call (jcall_v (A := [(0, v20405), (0, v20400), (0, x5), (0, x4)]) (S' := []) (r := 7) rfl (g20403.lt ad7) (g20403.tg ad7) (Nat.le_of_ble_eq_true rfl)) (jOk_le (by decide) (s80 g20403 (by omega) (by omega) (by omega) (by omega) (by omega) (by omega) (by omega) (by omega))) (by decide) (by decide) (fun w20406 h20406 q20406 => ?_)
      obtain ⟨rfl, g20406, kk20406⟩ := q20406
      have k20406 := k20403.tr kk20406 (by decide)
      show jEv _ _ _ _ _ _ _ (_, [(2, 7), (2, 1), (0, 6), (0, a3), (0, x4), (0, x5), (0, v20400)], [], _, _, _)
      refine ev_aload_n rfl ?_
      refine ev_in (d := 14) (a := 0) (b := 0) (cd' := c68_0) (m := 1) (L0 := [(2, 7)]) (jcall_v (A := []) (S' := []) (r := 7) rfl (g20406.lt ad7) (g20406.tg ad7) (Nat.le_of_ble_eq_true rfl)) (by decide) ml68 pp68 (Nat.le_of_ble_eq_true rfl) rfl (by decide) (by decide) ?_
      refine ev_aload_n rfl ?_
      obtain ⟨v20407, ev20407, lv20407, uv20407⟩ := g20406.rd ad7 (show 2 < 15 by decide) rf7_2
      refine g_getv (r := 7) (v := v20407) g20406 ad7 (by decide) ft5_2 ev20407 ?_
      refine ev_aload_n rfl ?_
      obtain ⟨v20408, ev20408, lv20408, uv20408⟩ := g20406.rd ad7 (show 0 < 15 by decide) rf7_0
      refine g_getv (r := 7) (v := v20408) g20406 ad7 (by decide) ft5_0 ev20408 ?_
      refine ev_icmpge f68_27 (fun c20409 => ?_) (fun c20409 => ?_)
      · refine ev_iconst ?_
        refine ev_ret rfl (by decide) (by decide) ?_
        show jEv _ _ _ _ _ _ _ (_, [(2, 7), (2, 1), (0, 6), (0, a3), (0, x4), (0, x5), (0, v20400)], [(0, (-1))], _, _, _)
        refine ev_bipush ?_
        refine ev_icmpne f78_100 (fun c20410 => ?_) (fun c20410 => absurd c20410 (by omega))
        refine ev_aload_n rfl ?_
        refine ev_bipush ?_
        refine ev_call (jcall_v (A := [(0, 41)]) (S' := []) (r := 7) rfl (g20406.lt ad7) (g20406.tg ad7) (Nat.le_of_ble_eq_true rfl)) (jOk_le (by decide) (s71 g20406 (by omega) (by omega) (((kk20406.v (by decide)).trans ev20404)) (by omega) (by omega))) (by decide) (by decide) (fun w20411 h20411 q20411 => ?_)
        obtain ⟨v20412, rfl, g20411, kk20411, ev20412, p20411_0⟩ := q20411
        have bv20412 := g20411.rg ad7 (i := 1) (by decide) rf7_1
        rw [ev20412] at bv20412
        have k20411 := k20406.tr kk20411 (by decide)
        show jEv _ _ _ _ _ _ _ (_, [(2, 7), (2, 1), (0, 6), (0, a3), (0, x4), (0, x5), (0, v20400)], [], _, _, _)
        refine ev_aload_n rfl ?_
        refine g_getv (r := 7) (v := v20412) g20411 ad7 (by decide) ft5_1 (ev20412) ?_
        refine ev_iflt f78_117 (fun c20413 => ?_) (fun c20413 => ?_)
        · refine ev_iload rfl ?_
          exact ev_ret rfl (by decide) (by decide) ⟨_, _, rfl, by omega, by omega, g20411, k20411, (ev20412), by omega, by omega⟩
        · refine ev_iconst ?_
          refine ev_goto f78_119 ?_
          exact ev_ret rfl (by decide) (by decide) ⟨_, _, rfl, by omega, by omega, g20411, k20411, (ev20412), by omega, by omega⟩
      · refine ev_aload_n rfl ?_
        refine g_getp (r := 7) (c := 8) g20406 ad7 (by decide) (by decide) rf7_5 ft5_5 ?_
        refine ev_aload_n rfl ?_
        refine g_getv (r := 7) (v := v20407) g20406 ad7 (by decide) ft5_2 (ev20407) ?_
        refine g_bald g20406 ad8 rt8 (by omega) (by omega) (fun v20414 ev20414 lv20414 uv20414 => ?_)
        refine ev_sipush ?_
        refine g_iandB (b := 255) (by omega) (by omega) (by decide) (fun v20415 ev20415 lv20415 uv20415 => ?_)
        refine ev_goto f68_28 ?_
        refine ev_ret rfl (by decide) (by decide) ?_
        show jEv _ _ _ _ _ _ _ (_, [(2, 7), (2, 1), (0, 6), (0, a3), (0, x4), (0, x5), (0, v20400)], [(0, v20415)], _, _, _)
        refine ev_bipush ?_
        refine ev_icmpne f78_100 (fun c20416 => ?_) (fun c20416 => ?_)
        · refine ev_aload_n rfl ?_
          refine ev_bipush ?_
          refine ev_call (jcall_v (A := [(0, 41)]) (S' := []) (r := 7) rfl (g20406.lt ad7) (g20406.tg ad7) (Nat.le_of_ble_eq_true rfl)) (jOk_le (by decide) (s71 g20406 (by omega) (by omega) (((kk20406.v (by decide)).trans ev20404)) (by omega) (by omega))) (by decide) (by decide) (fun w20417 h20417 q20417 => ?_)
          obtain ⟨v20418, rfl, g20417, kk20417, ev20418, p20417_0⟩ := q20417
          have bv20418 := g20417.rg ad7 (i := 1) (by decide) rf7_1
          rw [ev20418] at bv20418
          have k20417 := k20406.tr kk20417 (by decide)
          show jEv _ _ _ _ _ _ _ (_, [(2, 7), (2, 1), (0, 6), (0, a3), (0, x4), (0, x5), (0, v20400)], [], _, _, _)
          refine ev_aload_n rfl ?_
          refine g_getv (r := 7) (v := v20418) g20417 ad7 (by decide) ft5_1 (ev20418) ?_
          refine ev_iflt f78_117 (fun c20419 => ?_) (fun c20419 => ?_)
          · refine ev_iload rfl ?_
            exact ev_ret rfl (by decide) (by decide) ⟨_, _, rfl, by omega, by omega, g20417, k20417, (ev20418), by omega, by omega⟩
          · refine ev_iconst ?_
            refine ev_goto f78_119 ?_
            exact ev_ret rfl (by decide) (by decide) ⟨_, _, rfl, by omega, by omega, g20417, k20417, (ev20418), by omega, by omega⟩
        · refine ev_iload rfl ?_
          refine ev_iconst ?_
          refine ev_icmpne f78_88 (fun c20420 => ?_) (fun c20420 => ?_)
          · refine ev_aload_n rfl ?_
            refine ev_bipush ?_
            refine ev_call (jcall_v (A := [(0, 44)]) (S' := []) (r := 7) rfl (g20406.lt ad7) (g20406.tg ad7) (Nat.le_of_ble_eq_true rfl)) (jOk_le (by decide) (s71 g20406 (by omega) (by omega) (((kk20406.v (by decide)).trans ev20404)) (by omega) (by omega))) (by decide) (by decide) (fun w20421 h20421 q20421 => ?_)
            obtain ⟨v20422, rfl, g20421, kk20421, ev20422, p20421_0⟩ := q20421
            have bv20422 := g20421.rg ad7 (i := 1) (by decide) rf7_1
            rw [ev20422] at bv20422
            have k20421 := k20406.tr kk20421 (by decide)
            show jEv _ _ _ _ _ _ _ (_, [(2, 7), (2, 1), (0, 6), (0, a3), (0, x4), (0, x5), (0, v20400)], [], _, _, _)
            refine ev_iinc (w := (x5 + 1)) (L' := [(2, 7), (2, 1), (0, 6), (0, a3), (0, x4), (0, (x5 + 1)), (0, v20400)]) rfl (by unfold w32; omega) rfl ?_
            refine ev_goto f78_25 ?_
            exact ih _ _ _ _ _ g20421 k20421 (by omega) (by omega) (by omega) (by omega) (by omega) (by omega) (by omega) (by omega) (ev20422) (by omega) (by omega) (by omega)
          · refine ev_goto f78_100 ?_
            refine ev_aload_n rfl ?_
            refine ev_bipush ?_
            refine ev_call (jcall_v (A := [(0, 41)]) (S' := []) (r := 7) rfl (g20406.lt ad7) (g20406.tg ad7) (Nat.le_of_ble_eq_true rfl)) (jOk_le (by decide) (s71 g20406 (by omega) (by omega) (((kk20406.v (by decide)).trans ev20404)) (by omega) (by omega))) (by decide) (by decide) (fun w20423 h20423 q20423 => ?_)
            obtain ⟨v20424, rfl, g20423, kk20423, ev20424, p20423_0⟩ := q20423
            have bv20424 := g20423.rg ad7 (i := 1) (by decide) rf7_1
            rw [ev20424] at bv20424
            have k20423 := k20406.tr kk20423 (by decide)
            show jEv _ _ _ _ _ _ _ (_, [(2, 7), (2, 1), (0, 6), (0, a3), (0, x4), (0, x5), (0, v20400)], [], _, _, _)
            refine ev_aload_n rfl ?_
            refine g_getv (r := 7) (v := v20424) g20423 ad7 (by decide) ft5_1 (ev20424) ?_
            refine ev_iflt f78_117 (fun c20425 => ?_) (fun c20425 => ?_)
            · refine ev_iload rfl ?_
              exact ev_ret rfl (by decide) (by decide) ⟨_, _, rfl, by omega, by omega, g20423, k20423, (ev20424), by omega, by omega⟩
            · refine ev_iconst ?_
              refine ev_goto f78_119 ?_
              exact ev_ret rfl (by decide) (by decide) ⟨_, _, rfl, by omega, by omega, g20423, k20423, (ev20424), by omega, by omega⟩
set_option maxHeartbeats 4000000 in
theorem s78_6 {G : GH} {h : JH} (g : Gd G h) {a3 : Int} (la3 : (-2147483648) ≤ a3) (ua3 : a3 ≤ 2147483647) {w0 : Int} (ew0 : h.2.2 7 1 = w0) (lw0 : (-1) ≤ w0) (uw0 : w0 ≤ 200) {w1 : Int} (ew1 : h.2.2 7 2 = w1) (lw1 : 0 ≤ w1) (uw1 : w1 ≤ 199) : jOk 16 0 0 78 [(2, 7), (2, 1), (0, 6), (0, a3)] h (fun v h' => ∃ r F : Int, v = some (0, r) ∧ (-1) ≤ r ∧ r ≤ 199 ∧ Gd G h' ∧ Kp [(7, 2), (7, 3), (7, 4), (10, 0), (11, 0), (12, 0), (13, 0), (14, 0), (15, 0), (16, 0), (17, 0)] h h' ∧ h'.2.2 7 1 = F ∧ ((-F) + w0) ≤ 0 ∧ ((-F) + (-r)) ≤ 1) := by
  refine ⟨by decide, by rw [ml78]; exact Nat.le_of_ble_eq_true rfl, ?_⟩
  rw [ml78, pp78]
  show jEv _ none _ c78_0 0 0 _ (c78_0, [(2, 7), (2, 1), (0, 6), (0, a3), (9, 0), (9, 0), (9, 0)], [], h, 0, 0)
  have k0 := Kp.rf [(7, 2), (7, 3), (7, 4), (10, 0), (11, 0), (12, 0), (13, 0), (14, 0), (15, 0), (16, 0), (17, 0)] h
  refine ev_aload_n rfl ?_
  refine ev_dup (by decide) ?_
  refine g_getv (r := 7) (v := w1) g ad7 (by decide) ft5_2 (ew1) ?_
  refine ev_iconst ?_
  refine ev_iadd (r := (w1 + 1)) (by unfold w32; omega) ?_
  refine g_putf (r := 7) g ad7 (by decide) ft5_2 (by decide) (fun e => absurd e nz5_2) rf7_2 (by decide) (by omega) (by omega) (fun h20426 e20426 g20426 => ?_)
  have k20426 := k0.wr e20426 rfl
  refine ev_aload_n rfl ?_
  refine ev_iload_n rfl ?_
  refine ev_call (jcall_v (A := [(0, 6)]) (S' := []) (r := 7) rfl (g20426.lt ad7) (g20426.tg ad7) (Nat.le_of_ble_eq_true rfl)) (jOk_le (by decide) (s72 g20426 (by omega) (by omega) (((jw_ne e20426 (Or.inr (by decide))).trans ew0)) (by omega) (by omega))) (by decide) (by decide) (fun w20427 h20427 q20427 => ?_)
  obtain ⟨v20428, rfl, g20427, kk20427, ev20428, p20427_0⟩ := q20427
  have bv20428 := g20427.rg ad7 (i := 1) (by decide) rf7_1
  rw [ev20428] at bv20428
  have k20427 := k20426.tr kk20427 (by decide)
  show jEv _ _ _ _ _ _ _ (_, [(2, 7), (2, 1), (0, 6), (0, a3), (9, 0), (9, 0), (9, 0)], [], _, _, _)
  refine ev_aload_n rfl ?_
  refine ev_iconst ?_
  refine ev_call (jcall_v (A := [(0, 1)]) (S' := []) (r := 7) rfl (g20427.lt ad7) (g20427.tg ad7) (Nat.le_of_ble_eq_true rfl)) (jOk_le (by decide) (s73 g20427 (by omega) (by omega) (ev20428) (by omega) (by omega))) (by decide) (by decide) (fun w20429 h20429 q20429 => ?_)
  obtain ⟨v20431, v20430, rfl, lv20431, uv20431, g20429, kk20429, ev20430, p20429_0, p20429_1⟩ := q20429
  have bv20430 := g20429.rg ad7 (i := 1) (by decide) rf7_1
  rw [ev20430] at bv20430
  have k20429 := k20427.tr kk20429 (by decide)
  show jEv _ _ _ _ _ _ _ (_, [(2, 7), (2, 1), (0, 6), (0, a3), (9, 0), (9, 0), (9, 0)], [(0, v20431)], _, _, _)
  refine ev_istore (L' := [(2, 7), (2, 1), (0, 6), (0, a3), (0, v20431), (9, 0), (9, 0)]) (Nat.le_of_ble_eq_true rfl) rfl ?_
  refine ev_iconst ?_
  refine ev_istore (L' := [(2, 7), (2, 1), (0, 6), (0, a3), (0, v20431), (0, 0), (9, 0)]) (Nat.le_of_ble_eq_true rfl) rfl ?_
  exact (s78_6_l la3 ua3 ew0 lw0 uw0 ew1 lw1 uw1 8) _ _ _ _ _ g20429 k20429 (by omega) (by omega) (by omega) (by omega) (by omega) (by omega) (by omega) (by omega) (ev20430) (by omega) (by omega) (by omega)
