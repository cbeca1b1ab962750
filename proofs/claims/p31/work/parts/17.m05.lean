/-! s79_6  -/
set_option maxHeartbeats 4000000 in
theorem s79_6_l {G : GH} {h : JH} {a3 : Int} (la3 : (-2147483648) ≤ a3) (ua3 : a3 ≤ 2147483647) {w0 : Int} (ew0 : h.2.2 7 1 = w0) (lw0 : (-1) ≤ w0) (uw0 : w0 ≤ 200) {w1 : Int} (ew1 : h.2.2 7 2 = w1) (lw1 : 0 ≤ w1) (uw1 : w1 ≤ 199) : ∀ N : Nat, (∀ (h1 : JH) (x4 x5 x6 y0 : Int), Gd G h1 → Kp [(7, 2), (7, 3), (7, 4), (10, 0), (11, 0), (12, 0), (13, 0), (14, 0), (15, 0), (16, 0), (17, 0)] h h1 → (-2147483648) ≤ a3 → a3 ≤ 2147483647 → 0 ≤ x4 → x4 ≤ 3 → (-1) ≤ x5 → x5 ≤ 199 → 0 ≤ x6 → x6 ≤ 3 → (w0 + (-y0)) ≤ 0 → ((-x5) + (-y0)) ≤ 1 → h1.2.2 7 1 = y0 → (-1) ≤ y0 → y0 ≤ 200 → ((-x6) + 3) < N → jEv (jOk 15) none (fun _ => 0) c79_0 0 0 (fun v h' => ∃ r F : Int, v = some (0, r) ∧ (-1) ≤ r ∧ r ≤ 199 ∧ Gd G h' ∧ Kp [(7, 2), (7, 3), (7, 4), (10, 0), (11, 0), (12, 0), (13, 0), (14, 0), (15, 0), (16, 0), (17, 0)] h h' ∧ h'.2.2 7 1 = F ∧ ((-F) + w0) ≤ 0 ∧ ((-F) + (-r)) ≤ 1) (c79_68, [(2, 7), (2, 1), (0, 6), (0, a3), (0, x4), (0, x5), (0, x6)], [], h1, 0, 0)) := by
  intro N
  induction N with
  | zero => exact fun h1 x4 x5 x6 y0 g1 k1 b0 b1 b2 b3 b4 b5 b6 b7 b8 b9 b10 b11 b12 hm => absurd hm (by omega)
  | succ N ih =>
    show _
    intro h1 x4 x5 x6 y0 g1 k1 b0 b1 b2 b3 b4 b5 b6 b7 b8 b9 ey0 ly0 uy0 hm
    refine ev_iload rfl ?_
    refine ev_aload_n rfl ?_
    refine ev_iload rfl ?_
    refine ev_in (d := 14) (a := 0) (b := 0) (cd' := c141_0) (m := 2) (L0 := [(2, 1), (0, x4)]) (jcall_v (A := [(0, x4)]) (S' := [(0, x6)]) (r := 1) rfl (g1.lt ad1) (g1.tg ad1) (Nat.le_of_ble_eq_true rfl)) (by decide) ml141 pp141 (Nat.le_of_ble_eq_true rfl) rfl (by decide) (by decide) ?_
    refine ev_aload_n rfl ?_
    refine ev_iload_n rfl ?_
    refine ev_in (d := 13) (a := 0) (b := 0) (cd' := c140_0) (m := 2) (L0 := [(2, 1), (0, x4)]) (jcall_v (A := [(0, x4)]) (S' := []) (r := 1) rfl (g1.lt ad1) (g1.tg ad1) (Nat.le_of_ble_eq_true rfl)) (by decide) ml140 pp140 (Nat.le_of_ble_eq_true rfl) rfl (by decide) (by decide) ?_
    refine ev_iload_n rfl ?_
    refine ev_iflt f140_16 (fun c20709 => absurd c20709 (by omega)) (fun c20709 => ?_)
    refine ev_iload_n rfl ?_
    refine ev_aload_n rfl ?_
    obtain ⟨v20710, ev20710, lv20710, uv20710⟩ := g1.rd ad1 (show 0 < 8 by decide) rf1_0
    refine g_getv (r := 1) (v := v20710) g1 ad1 (by decide) ft10_0 ev20710 ?_
    refine ev_icmpge f140_16 (fun c20711 => ?_) (fun c20711 => ?_)
    · refine ev_iconst ?_
      refine ev_ret rfl (by decide) (by decide) ?_
      show jEv _ _ _ _ _ _ _ (_, [(2, 1), (0, x4)], [(0, 0)], _, _, _)
      refine ev_ifeq f141_17 (fun c20712 => ?_) (fun c20712 => absurd c20712 (by omega))
      refine ev_iconst ?_
      refine ev_ret rfl (by decide) (by decide) ?_
      show jEv _ _ _ _ _ _ _ (_, [(2, 7), (2, 1), (0, 6), (0, a3), (0, x4), (0, x5), (0, x6)], [(0, 0), (0, x6)], _, _, _)
      refine ev_icmpge f79_126 (fun c20713 => ?_) (fun c20713 => absurd c20713 (by omega))
      refine ev_aload_n rfl ?_
      refine ev_bipush ?_
      refine ev_call (jcall_v (A := [(0, 41)]) (S' := []) (r := 7) rfl (g1.lt ad7) (g1.tg ad7) (Nat.le_of_ble_eq_true rfl)) (jOk_le (by decide) (s71 g1 (by omega) (by omega) (ey0) (by omega) (by omega))) (by decide) (by decide) (fun w20714 h20714 q20714 => ?_)
      obtain ⟨v20715, rfl, g20714, kk20714, ev20715, p20714_0⟩ := q20714
      have bv20715 := g20714.rg ad7 (i := 1) (by decide) rf7_1
      rw [ev20715] at bv20715
      have k20714 := k1.tr kk20714 (by decide)
      show jEv _ _ _ _ _ _ _ (_, [(2, 7), (2, 1), (0, 6), (0, a3), (0, x4), (0, x5), (0, x6)], [], _, _, _)
      refine ev_aload_n rfl ?_
      refine g_getv (r := 7) (v := v20715) g20714 ad7 (by decide) ft5_1 (ev20715) ?_
      refine ev_ifge f79_144 (fun c20716 => ?_) (fun c20716 => ?_)
      · refine ev_iconst ?_
        exact ev_ret rfl (by decide) (by decide) ⟨_, _, rfl, by omega, by omega, g20714, k20714, (ev20715), by omega, by omega⟩
      · refine ev_iload rfl ?_
        refine ev_ifge f79_146 (fun c20717 => ?_) (fun c20717 => absurd c20717 (by omega))
        refine ev_aload_n rfl ?_
        refine g_getp (r := 7) (c := 11) g20714 ad7 (by decide) (by decide) rf7_8 ft5_8 ?_
        refine ev_iload rfl ?_
        refine ev_iload rfl ?_
        refine g_iast g20714 ad11 rt11 (fun _ => rfl) (by omega) (by omega) (by omega) (by omega) (fun h20718 e20718 g20718 => ?_)
        have k20718 := k20714.wr e20718 rfl
        refine ev_aload_n rfl ?_
        refine g_getp (r := 7) (c := 15) g20718 ad7 (by decide) (by decide) rf7_12 ft5_12 ?_
        refine ev_iload rfl ?_
        refine ev_dup2 (by decide) (by decide) ?_
        refine g_iald g20718 ad15 rt15 (by omega) (by omega) (fun v20719 ev20719 lv20719 uv20719 => ?_)
        refine ev_iconst ?_
        refine ev_iload rfl ?_
        refine g_ishlB (a' := 1) (a := 1) (b := 3) (hi := 8) (by omega) (by omega) (by omega) (by omega) (by decide) (by decide) (fun v20720 ev20720 lv20720 uv20720 => ?_)
        refine g_iorG (fun v20721 ev20721 lv20721 uv20721 => ?_)
        refine g_iast g20718 ad15 rt15 (fun _ => rfl) (by omega) (by omega) (by omega) (by omega) (fun h20722 e20722 g20722 => ?_)
        have k20722 := k20718.wr e20722 rfl
        refine ev_iload rfl ?_
        exact ev_ret rfl (by decide) (by decide) ⟨_, _, rfl, by omega, by omega, g20722, k20722, (((jw_ne e20722 (Or.inl (by decide))).trans ((jw_ne e20718 (Or.inl (by decide))).trans ev20715))), by omega, by omega⟩
    · refine ev_iconst ?_
      refine ev_goto f140_17 ?_
      refine ev_ret rfl (by decide) (by decide) ?_
      show jEv _ _ _ _ _ _ _ (_, [(2, 1), (0, x4)], [(0, 1)], _, _, _)
      refine ev_ifeq f141_17 (fun c20723 => absurd c20723 (by omega)) (fun c20723 => ?_)
      refine ev_aload_n rfl ?_
      refine g_getp (r := 1) (c := 2) g1 ad1 (by decide) (by decide) rf1_3 ft10_3 ?_
      refine ev_iload_n rfl ?_
      refine g_iald g1 ad2 rt2 (by omega) (by omega) (fun v20724 ev20724 lv20724 uv20724 => ?_)
      refine ev_goto f141_18 ?_
      refine ev_ret rfl (by decide) (by decide) ?_
      show jEv _ _ _ _ _ _ _ (_, [(2, 7), (2, 1), (0, 6), (0, a3), (0, x4), (0, x5), (0, x6)], [(0, v20724), (0, x6)], _, _, _)
      refine ev_icmpge f79_126 (fun c20725 => ?_) (fun c20725 => ?_)
      · refine ev_aload_n rfl ?_
        refine ev_bipush ?_
        refine ev_call (jcall_v (A := [(0, 41)]) (S' := []) (r := 7) rfl (g1.lt ad7) (g1.tg ad7) (Nat.le_of_ble_eq_true rfl)) (jOk_le (by decide) (s71 g1 (by omega) (by omega) (ey0) (by omega) (by omega))) (by decide) (by decide) (fun w20726 h20726 q20726 => ?_)
        obtain ⟨v20727, rfl, g20726, kk20726, ev20727, p20726_0⟩ := q20726
        have bv20727 := g20726.rg ad7 (i := 1) (by decide) rf7_1
        rw [ev20727] at bv20727
        have k20726 := k1.tr kk20726 (by decide)
        show jEv _ _ _ _ _ _ _ (_, [(2, 7), (2, 1), (0, 6), (0, a3), (0, x4), (0, x5), (0, x6)], [], _, _, _)
        refine ev_aload_n rfl ?_
        refine g_getv (r := 7) (v := v20727) g20726 ad7 (by decide) ft5_1 (ev20727) ?_
        refine ev_ifge f79_144 (fun c20728 => ?_) (fun c20728 => ?_)
        · refine ev_iconst ?_
          exact ev_ret rfl (by decide) (by decide) ⟨_, _, rfl, by omega, by omega, g20726, k20726, (ev20727), by omega, by omega⟩
        · refine ev_iload rfl ?_
          refine ev_ifge f79_146 (fun c20729 => ?_) (fun c20729 => absurd c20729 (by omega))
          refine ev_aload_n rfl ?_
          refine g_getp (r := 7) (c := 11) g20726 ad7 (by decide) (by decide) rf7_8 ft5_8 ?_
          refine ev_iload rfl ?_
          refine ev_iload rfl ?_
          refine g_iast g20726 ad11 rt11 (fun _ => rfl) (by omega) (by omega) (by omega) (by omega) (fun h20730 e20730 g20730 => ?_)
          have k20730 := k20726.wr e20730 rfl
          refine ev_aload_n rfl ?_
          refine g_getp (r := 7) (c := 15) g20730 ad7 (by decide) (by decide) rf7_12 ft5_12 ?_
          refine ev_iload rfl ?_
          refine ev_dup2 (by decide) (by decide) ?_
          refine g_iald g20730 ad15 rt15 (by omega) (by omega) (fun v20731 ev20731 lv20731 uv20731 => ?_)
          refine ev_iconst ?_
          refine ev_iload rfl ?_
          refine g_ishlB (a' := 1) (a := 1) (b := 3) (hi := 8) (by omega) (by omega) (by omega) (by omega) (by decide) (by decide) (fun v20732 ev20732 lv20732 uv20732 => ?_)
          refine g_iorG (fun v20733 ev20733 lv20733 uv20733 => ?_)
          refine g_iast g20730 ad15 rt15 (fun _ => rfl) (by omega) (by omega) (by omega) (by omega) (fun h20734 e20734 g20734 => ?_)
          have k20734 := k20730.wr e20734 rfl
          refine ev_iload rfl ?_
          exact ev_ret rfl (by decide) (by decide) ⟨_, _, rfl, by omega, by omega, g20734, k20734, (((jw_ne e20734 (Or.inl (by decide))).trans ((jw_ne e20730 (Or.inl (by decide))).trans ev20727))), by omega, by omega⟩
      · refine ev_aload_n rfl ?_
        refine g_getv (r := 7) (v := y0) g1 ad7 (by decide) ft5_1 (ey0) ?_
        refine ev_ifge f79_126 (fun c20735 => ?_) (fun c20735 => ?_)
        · refine ev_aload_n rfl ?_
          refine ev_bipush ?_
          refine ev_call (jcall_v (A := [(0, 41)]) (S' := []) (r := 7) rfl (g1.lt ad7) (g1.tg ad7) (Nat.le_of_ble_eq_true rfl)) (jOk_le (by decide) (s71 g1 (by omega) (by omega) (ey0) (by omega) (by omega))) (by decide) (by decide) (fun w20736 h20736 q20736 => ?_)
          obtain ⟨v20737, rfl, g20736, kk20736, ev20737, p20736_0⟩ := q20736
          have bv20737 := g20736.rg ad7 (i := 1) (by decide) rf7_1
          rw [ev20737] at bv20737
          have k20736 := k1.tr kk20736 (by decide)
          show jEv _ _ _ _ _ _ _ (_, [(2, 7), (2, 1), (0, 6), (0, a3), (0, x4), (0, x5), (0, x6)], [], _, _, _)
          refine ev_aload_n rfl ?_
          refine g_getv (r := 7) (v := v20737) g20736 ad7 (by decide) ft5_1 (ev20737) ?_
          refine ev_ifge f79_144 (fun c20738 => ?_) (fun c20738 => absurd c20738 (by omega))
          refine ev_iconst ?_
          exact ev_ret rfl (by decide) (by decide) ⟨_, _, rfl, by omega, by omega, g20736, k20736, (ev20737), by omega, by omega⟩
        · refine ev_iload rfl ?_
          refine ev_ifle f79_97 (fun c20739 => ?_) (fun c20739 => ?_)
          · refine ev_aload_n rfl ?_
            refine ev_iload rfl ?_
            refine ev_iload rfl ?_
            refine ev_iconst ?_
            refine ev_aload_n rfl ?_
            refine ev_aload_n rfl ?_
            refine ev_iload_n rfl ?_
            refine ev_iconst ?_
            refine ev_iadd (r := 7) (by decide) ?_
            refine ev_iload_n rfl ?_
            refine ev_iconst ?_
            refine ev_iload rfl ?_
            refine g_ishlB (a' := 1) (a := 1) (b := 3) (hi := 8) (by omega) (by omega) (by omega) (by omega) (by decide) (by decide) (fun v20740 ev20740 lv20740 uv20740 => ?_)
            refine g_iorG (fun v20741 ev20741 lv20741 uv20741 => ?_)
            refine ev_call (jcall_v (A := [(0, v20741), (0, 7), (2, 1)]) (S' := [(0, 0), (0, x6), (0, x5), (2, 7)]) (r := 7) rfl (g1.lt ad7) (g1.tg ad7) (Nat.le_of_ble_eq_true rfl)) (jOk_le (by decide) (s74_7 g1 (by omega) (by omega) (ey0) (by omega) (by omega))) (by decide) (by decide) (fun w20742 h20742 q20742 => ?_)
            obtain ⟨v20744, v20743, rfl, lv20744, uv20744, g20742, kk20742, ev20743, p20742_0, p20742_1⟩ := q20742
            have bv20743 := g20742.rg ad7 (i := 1) (by decide) rf7_1
            rw [ev20743] at bv20743
            have k20742 := k1.tr kk20742 (by decide)
            show jEv _ _ _ _ _ _ _ (_, [(2, 7), (2, 1), (0, 6), (0, a3), (0, x4), (0, x5), (0, x6)], [(0, v20744), (0, 0), (0, x6), (0, x5), (2, 7)], _, _, _)
            refine ev_call (jcall_v (A := [(0, v20744), (0, 0), (0, x6), (0, x5)]) (S' := []) (r := 7) rfl (g20742.lt ad7) (g20742.tg ad7) (Nat.le_of_ble_eq_true rfl)) (jOk_le (by decide) (s80 g20742 (by omega) (by omega) (by omega) (by omega) (by omega) (by omega) (by omega) (by omega))) (by decide) (by decide) (fun w20745 h20745 q20745 => ?_)
            obtain ⟨rfl, g20745, kk20745⟩ := q20745
            have k20745 := k20742.tr kk20745 (by decide)
            show jEv _ _ _ _ _ _ _ (_, [(2, 7), (2, 1), (0, 6), (0, a3), (0, x4), (0, x5), (0, x6)], [], _, _, _)
            refine ev_iinc (w := (x6 + 1)) (L' := [(2, 7), (2, 1), (0, 6), (0, a3), (0, x4), (0, x5), (0, (x6 + 1))]) rfl (by unfold w32; omega) rfl ?_
            refine ev_goto f79_68 ?_
            exact ih _ _ _ _ _ g20745 k20745 (by omega) (by omega) (by omega) (by omega) (by omega) (by omega) (by omega) (by omega) (by omega) (by omega) (((kk20745.v (by decide)).trans ev20743)) (by omega) (by omega) (by omega)
          · refine ev_aload_n rfl ?_
            refine ev_bipush ?_
            refine ev_call (jcall_v (A := [(0, 44)]) (S' := []) (r := 7) rfl (g1.lt ad7) (g1.tg ad7) (Nat.le_of_ble_eq_true rfl)) (jOk_le (by decide) (s71 g1 (by omega) (by omega) (ey0) (by omega) (by omega))) (by decide) (by decide) (fun w20746 h20746 q20746 => ?_)
            obtain ⟨v20747, rfl, g20746, kk20746, ev20747, p20746_0⟩ := q20746
            have bv20747 := g20746.rg ad7 (i := 1) (by decide) rf7_1
            rw [ev20747] at bv20747
            have k20746 := k1.tr kk20746 (by decide)
            show jEv _ _ _ _ _ _ _ (_, [(2, 7), (2, 1), (0, 6), (0, a3), (0, x4), (0, x5), (0, x6)], [], _, _, _)
            refine ev_aload_n rfl ?_
            refine ev_iload rfl ?_
            refine ev_iload rfl ?_
            refine ev_iconst ?_
            refine ev_aload_n rfl ?_
            refine ev_aload_n rfl ?_
            refine ev_iload_n rfl ?_
            refine ev_iconst ?_
            refine ev_iadd (r := 7) (by decide) ?_
            refine ev_iload_n rfl ?_
            refine ev_iconst ?_
            refine ev_iload rfl ?_
            refine g_ishlB (a' := 1) (a := 1) (b := 3) (hi := 8) (by omega) (by omega) (by omega) (by omega) (by decide) (by decide) (fun v20748 ev20748 lv20748 uv20748 => ?_)
            refine g_iorG (fun v20749 ev20749 lv20749 uv20749 => ?_)
            refine ev_call (jcall_v (A := [(0, v20749), (0, 7), (2, 1)]) (S' := [(0, 0), (0, x6), (0, x5), (2, 7)]) (r := 7) rfl (g20746.lt ad7) (g20746.tg ad7) (Nat.le_of_ble_eq_true rfl)) (jOk_le (by decide) (s74_7 g20746 (by omega) (by omega) (ev20747) (by omega) (by omega))) (by decide) (by decide) (fun w20750 h20750 q20750 => ?_)
            obtain ⟨v20752, v20751, rfl, lv20752, uv20752, g20750, kk20750, ev20751, p20750_0, p20750_1⟩ := q20750
            have bv20751 := g20750.rg ad7 (i := 1) (by decide) rf7_1
            rw [ev20751] at bv20751
            have k20750 := k20746.tr kk20750 (by decide)
            show jEv _ _ _ _ _ _ _ (_, [(2, 7), (2, 1), (0, 6), (0, a3), (0, x4), (0, x5), (0, x6)], [(0, v20752), (0, 0), (0, x6), (0, x5), (2, 7)], _, _, _)
            refine ev_call (jcall_v (A := [(0, v20752), (0, 0), (0, x6), (0, x5)]) (S' := []) (r := 7) rfl (g20750.lt ad7) (g20750.tg ad7) (Nat.le_of_ble_eq_true rfl)) (jOk_le (by decide) (s80 g20750 (by omega) (by omega) (by omega) (by omega) (by omega) (by omega) (by omega) (by omega))) (by decide) (by decide) (fun w20753 h20753 q20753 => ?_)
            obtain ⟨rfl, g20753, kk20753⟩ := q20753
            have k20753 := k20750.tr kk20753 (by decide)
            show jEv _ _ _ _ _ _ _ (_, [(2, 7), (2, 1), (0, 6), (0, a3), (0, x4), (0, x5), (0, x6)], [], _, _, _)
            refine ev_iinc (w := (x6 + 1)) (L' := [(2, 7), (2, 1), (0, 6), (0, a3), (0, x4), (0, x5), (0, (x6 + 1))]) rfl (by unfold w32; omega) rfl ?_
            refine ev_goto f79_68 ?_
            exact ih _ _ _ _ _ g20753 k20753 (by omega) (by omega) (by omega) (by omega) (by omega) (by omega) (by omega) (by omega) (by omega) (by omega) (((kk20753.v (by decide)).trans ev20751)) (by omega) (by omega) (by omega)
set_option maxHeartbeats 4000000 in
theorem s79_6 {G : GH} {h : JH} (g : Gd G h) {a3 : Int} (la3 : (-2147483648) ≤ a3) (ua3 : a3 ≤ 2147483647) {w0 : Int} (ew0 : h.2.2 7 1 = w0) (lw0 : (-1) ≤ w0) (uw0 : w0 ≤ 200) {w1 : Int} (ew1 : h.2.2 7 2 = w1) (lw1 : 0 ≤ w1) (uw1 : w1 ≤ 199) : jOk 16 0 0 79 [(2, 7), (2, 1), (0, 6), (0, a3)] h (fun v h' => ∃ r F : Int, v = some (0, r) ∧ (-1) ≤ r ∧ r ≤ 199 ∧ Gd G h' ∧ Kp [(7, 2), (7, 3), (7, 4), (10, 0), (11, 0), (12, 0), (13, 0), (14, 0), (15, 0), (16, 0), (17, 0)] h h' ∧ h'.2.2 7 1 = F ∧ ((-F) + w0) ≤ 0 ∧ ((-F) + (-r)) ≤ 1) := by
  refine ⟨by decide, by rw [ml79]; exact Nat.le_of_ble_eq_true rfl, ?_⟩
  rw [ml79, pp79]
  show jEv _ none _ c79_0 0 0 _ (c79_0, [(2, 7), (2, 1), (0, 6), (0, a3), (9, 0), (9, 0), (9, 0)], [], h, 0, 0)
  have k0 := Kp.rf [(7, 2), (7, 3), (7, 4), (10, 0), (11, 0), (12, 0), (13, 0), (14, 0), (15, 0), (16, 0), (17, 0)] h
  refine ev_aload_n rfl ?_
  refine ev_dup (by decide) ?_
  refine g_getv (r := 7) (v := w1) g ad7 (by decide) ft5_2 (ew1) ?_
  refine ev_iconst ?_
  refine ev_iadd (r := (w1 + 1)) (by unfold w32; omega) ?_
  refine g_putf (r := 7) g ad7 (by decide) ft5_2 (by decide) (fun e => absurd e nz5_2) rf7_2 (by decide) (by omega) (by omega) (fun h20754 e20754 g20754 => ?_)
  have k20754 := k0.wr e20754 rfl
  refine ev_aload_n rfl ?_
  refine ev_in (d := 14) (a := 0) (b := 0) (cd' := c68_0) (m := 1) (L0 := [(2, 7)]) (jcall_v (A := []) (S' := []) (r := 7) rfl (g20754.lt ad7) (g20754.tg ad7) (Nat.le_of_ble_eq_true rfl)) (by decide) ml68 pp68 (Nat.le_of_ble_eq_true rfl) rfl (by decide) (by decide) ?_
  refine ev_aload_n rfl ?_
  refine g_getv (r := 7) (v := (w1 + 1)) g20754 ad7 (by decide) ft5_2 ((jw_eq e20754)) ?_
  refine ev_aload_n rfl ?_
  obtain ⟨v20755, ev20755, lv20755, uv20755⟩ := g20754.rd ad7 (show 0 < 15 by decide) rf7_0
  refine g_getv (r := 7) (v := v20755) g20754 ad7 (by decide) ft5_0 ev20755 ?_
  refine ev_icmpge f68_27 (fun c20756 => ?_) (fun c20756 => ?_)
  · refine ev_iconst ?_
    refine ev_ret rfl (by decide) (by decide) ?_
    show jEv _ _ _ _ _ _ _ (_, [(2, 7), (2, 1), (0, 6), (0, a3), (9, 0), (9, 0), (9, 0)], [(0, (-1))], _, _, _)
    refine ev_bipush ?_
    refine ev_isub (r := (-98)) (by decide) ?_
    refine ev_istore (L' := [(2, 7), (2, 1), (0, 6), (0, a3), (0, (-98)), (9, 0), (9, 0)]) (Nat.le_of_ble_eq_true rfl) rfl ?_
    refine ev_aload_n rfl ?_
    refine ev_iload rfl ?_
    refine ev_in (d := 14) (a := 0) (b := 0) (cd' := c140_0) (m := 2) (L0 := [(2, 1), (0, (-98))]) (jcall_v (A := [(0, (-98))]) (S' := []) (r := 1) rfl (g20754.lt ad1) (g20754.tg ad1) (Nat.le_of_ble_eq_true rfl)) (by decide) ml140 pp140 (Nat.le_of_ble_eq_true rfl) rfl (by decide) (by decide) ?_
    refine ev_iload_n rfl ?_
    refine ev_iflt f140_16 (fun c20757 => ?_) (fun c20757 => absurd c20757 (by omega))
    refine ev_iconst ?_
    refine ev_ret rfl (by decide) (by decide) ?_
    show jEv _ _ _ _ _ _ _ (_, [(2, 7), (2, 1), (0, 6), (0, a3), (0, (-98)), (9, 0), (9, 0)], [(0, 0)], _, _, _)
    refine ev_ifeq f79_37 (fun c20758 => ?_) (fun c20758 => absurd c20758 (by omega))
    refine ev_aload_n rfl ?_
    refine ev_in (d := 14) (a := 0) (b := 0) (cd' := c70_0) (m := 1) (L0 := [(2, 7)]) (jcall_v (A := []) (S' := []) (r := 7) rfl (g20754.lt ad7) (g20754.tg ad7) (Nat.le_of_ble_eq_true rfl)) (by decide) ml70 pp70 (Nat.le_of_ble_eq_true rfl) rfl (by decide) (by decide) ?_
    refine ev_aload_n rfl ?_
    refine g_getv (r := 7) (v := w0) g20754 ad7 (by decide) ft5_1 (((jw_ne e20754 (Or.inr (by decide))).trans ew0)) ?_
    refine ev_ifge f70_15 (fun c20759 => ?_) (fun c20759 => ?_)
    · refine ev_ret rfl (by decide) (by decide) ?_
      show jEv _ _ _ _ _ _ _ (_, [(2, 7), (2, 1), (0, 6), (0, a3), (0, (-98)), (9, 0), (9, 0)], [], _, _, _)
      refine ev_iconst ?_
      exact ev_ret rfl (by decide) (by decide) ⟨_, _, rfl, by omega, by omega, g20754, k20754, (((jw_ne e20754 (Or.inr (by decide))).trans ew0)), by omega, by omega⟩
    · refine ev_aload_n rfl ?_
      refine ev_aload_n rfl ?_
      refine g_getv (r := 7) (v := (w1 + 1)) g20754 ad7 (by decide) ft5_2 ((jw_eq e20754)) ?_
      refine g_putf (r := 7) g20754 ad7 (by decide) ft5_1 (by decide) (fun e => absurd e nz5_1) rf7_1 (by decide) (by omega) (by omega) (fun h20760 e20760 g20760 => ?_)
      have k20760 := k20754.wr e20760 rfl
      refine ev_ret rfl (by decide) (by decide) ?_
      show jEv _ _ _ _ _ _ _ (_, [(2, 7), (2, 1), (0, 6), (0, a3), (0, (-98)), (9, 0), (9, 0)], [], _, _, _)
      refine ev_iconst ?_
      exact ev_ret rfl (by decide) (by decide) ⟨_, _, rfl, by omega, by omega, g20760, k20760, ((jw_eq e20760)), by omega, by omega⟩
  · refine ev_aload_n rfl ?_
    refine g_getp (r := 7) (c := 8) g20754 ad7 (by decide) (by decide) rf7_5 ft5_5 ?_
    refine ev_aload_n rfl ?_
    refine g_getv (r := 7) (v := (w1 + 1)) g20754 ad7 (by decide) ft5_2 ((jw_eq e20754)) ?_
    refine g_bald g20754 ad8 rt8 (by omega) (by omega) (fun v20761 ev20761 lv20761 uv20761 => ?_)
    refine ev_sipush ?_
    refine g_iandB (b := 255) (by omega) (by omega) (by decide) (fun v20762 ev20762 lv20762 uv20762 => ?_)
    refine ev_goto f68_28 ?_
    refine ev_ret rfl (by decide) (by decide) ?_
    show jEv _ _ _ _ _ _ _ (_, [(2, 7), (2, 1), (0, 6), (0, a3), (9, 0), (9, 0), (9, 0)], [(0, v20762)], _, _, _)
    refine ev_bipush ?_
    refine ev_isub (r := (v20762 - 97)) (by unfold w32; omega) ?_
    refine ev_istore (L' := [(2, 7), (2, 1), (0, 6), (0, a3), (0, (v20762 - 97)), (9, 0), (9, 0)]) (Nat.le_of_ble_eq_true rfl) rfl ?_
    refine ev_aload_n rfl ?_
    refine ev_iload rfl ?_
    refine ev_in (d := 14) (a := 0) (b := 0) (cd' := c140_0) (m := 2) (L0 := [(2, 1), (0, (v20762 - 97))]) (jcall_v (A := [(0, (v20762 - 97))]) (S' := []) (r := 1) rfl (g20754.lt ad1) (g20754.tg ad1) (Nat.le_of_ble_eq_true rfl)) (by decide) ml140 pp140 (Nat.le_of_ble_eq_true rfl) rfl (by decide) (by decide) ?_
    refine ev_iload_n rfl ?_
    refine ev_iflt f140_16 (fun c20763 => ?_) (fun c20763 => ?_)
    · refine ev_iconst ?_
      refine ev_ret rfl (by decide) (by decide) ?_
      show jEv _ _ _ _ _ _ _ (_, [(2, 7), (2, 1), (0, 6), (0, a3), (0, (v20762 - 97)), (9, 0), (9, 0)], [(0, 0)], _, _, _)
      refine ev_ifeq f79_37 (fun c20764 => ?_) (fun c20764 => absurd c20764 (by omega))
      refine ev_aload_n rfl ?_
      refine ev_in (d := 14) (a := 0) (b := 0) (cd' := c70_0) (m := 1) (L0 := [(2, 7)]) (jcall_v (A := []) (S' := []) (r := 7) rfl (g20754.lt ad7) (g20754.tg ad7) (Nat.le_of_ble_eq_true rfl)) (by decide) ml70 pp70 (Nat.le_of_ble_eq_true rfl) rfl (by decide) (by decide) ?_
      refine ev_aload_n rfl ?_
      refine g_getv (r := 7) (v := w0) g20754 ad7 (by decide) ft5_1 (((jw_ne e20754 (Or.inr (by decide))).trans ew0)) ?_
      refine ev_ifge f70_15 (fun c20765 => ?_) (fun c20765 => ?_)
      · refine ev_ret rfl (by decide) (by decide) ?_
        show jEv _ _ _ _ _ _ _ (_, [(2, 7), (2, 1), (0, 6), (0, a3), (0, (v20762 - 97)), (9, 0), (9, 0)], [], _, _, _)
        refine ev_iconst ?_
        exact ev_ret rfl (by decide) (by decide) ⟨_, _, rfl, by omega, by omega, g20754, k20754, (((jw_ne e20754 (Or.inr (by decide))).trans ew0)), by omega, by omega⟩
      · refine ev_aload_n rfl ?_
        refine ev_aload_n rfl ?_
        refine g_getv (r := 7) (v := (w1 + 1)) g20754 ad7 (by decide) ft5_2 ((jw_eq e20754)) ?_
        refine g_putf (r := 7) g20754 ad7 (by decide) ft5_1 (by decide) (fun e => absurd e nz5_1) rf7_1 (by decide) (by omega) (by omega) (fun h20766 e20766 g20766 => ?_)
        have k20766 := k20754.wr e20766 rfl
        refine ev_ret rfl (by decide) (by decide) ?_
        show jEv _ _ _ _ _ _ _ (_, [(2, 7), (2, 1), (0, 6), (0, a3), (0, (v20762 - 97)), (9, 0), (9, 0)], [], _, _, _)
        refine ev_iconst ?_
        exact ev_ret rfl (by decide) (by decide) ⟨_, _, rfl, by omega, by omega, g20766, k20766, ((jw_eq e20766)), by omega, by omega⟩
    · refine ev_iload_n rfl ?_
      refine ev_aload_n rfl ?_
      obtain ⟨v20767, ev20767, lv20767, uv20767⟩ := g20754.rd ad1 (show 0 < 8 by decide) rf1_0
      refine g_getv (r := 1) (v := v20767) g20754 ad1 (by decide) ft10_0 ev20767 ?_
      refine ev_icmpge f140_16 (fun c20768 => ?_) (fun c20768 => ?_)
      · refine ev_iconst ?_
        refine ev_ret rfl (by decide) (by decide) ?_
        show jEv _ _ _ _ _ _ _ (_, [(2, 7), (2, 1), (0, 6), (0, a3), (0, (v20762 - 97)), (9, 0), (9, 0)], [(0, 0)], _, _, _)
        refine ev_ifeq f79_37 (fun c20769 => ?_) (fun c20769 => absurd c20769 (by omega))
        refine ev_aload_n rfl ?_
        refine ev_in (d := 14) (a := 0) (b := 0) (cd' := c70_0) (m := 1) (L0 := [(2, 7)]) (jcall_v (A := []) (S' := []) (r := 7) rfl (g20754.lt ad7) (g20754.tg ad7) (Nat.le_of_ble_eq_true rfl)) (by decide) ml70 pp70 (Nat.le_of_ble_eq_true rfl) rfl (by decide) (by decide) ?_
        refine ev_aload_n rfl ?_
        refine g_getv (r := 7) (v := w0) g20754 ad7 (by decide) ft5_1 (((jw_ne e20754 (Or.inr (by decide))).trans ew0)) ?_
        refine ev_ifge f70_15 (fun c20770 => ?_) (fun c20770 => ?_)
        · refine ev_ret rfl (by decide) (by decide) ?_
          show jEv _ _ _ _ _ _ _ (_, [(2, 7), (2, 1), (0, 6), (0, a3), (0, (v20762 - 97)), (9, 0), (9, 0)], [], _, _, _)
          refine ev_iconst ?_
          exact ev_ret rfl (by decide) (by decide) ⟨_, _, rfl, by omega, by omega, g20754, k20754, (((jw_ne e20754 (Or.inr (by decide))).trans ew0)), by omega, by omega⟩
        · refine ev_aload_n rfl ?_
          refine ev_aload_n rfl ?_
          refine g_getv (r := 7) (v := (w1 + 1)) g20754 ad7 (by decide) ft5_2 ((jw_eq e20754)) ?_
          refine g_putf (r := 7) g20754 ad7 (by decide) ft5_1 (by decide) (fun e => absurd e nz5_1) rf7_1 (by decide) (by omega) (by omega) (fun h20771 e20771 g20771 => ?_)
          have k20771 := k20754.wr e20771 rfl
          refine ev_ret rfl (by decide) (by decide) ?_
          show jEv _ _ _ _ _ _ _ (_, [(2, 7), (2, 1), (0, 6), (0, a3), (0, (v20762 - 97)), (9, 0), (9, 0)], [], _, _, _)
          refine ev_iconst ?_
          exact ev_ret rfl (by decide) (by decide) ⟨_, _, rfl, by omega, by omega, g20771, k20771, ((jw_eq e20771)), by omega, by omega⟩
      · refine ev_iconst ?_
        refine ev_goto f140_17 ?_
        refine ev_ret rfl (by decide) (by decide) ?_
        show jEv _ _ _ _ _ _ _ (_, [(2, 7), (2, 1), (0, 6), (0, a3), (0, (v20762 - 97)), (9, 0), (9, 0)], [(0, 1)], _, _, _)
        refine ev_ifeq f79_37 (fun c20772 => absurd c20772 (by omega)) (fun c20772 => ?_)
        refine ev_iload_n rfl ?_
        refine ev_iload rfl ?_
        refine g_ishrG (fun v20773 ev20773 lv20773 uv20773 => ?_)
        refine ev_iconst ?_
        refine g_iandB (b := 1) (by omega) (by omega) (by decide) (fun v20774 ev20774 lv20774 uv20774 => ?_)
        refine ev_ifeq f79_43 (fun c20775 => ?_) (fun c20775 => ?_)
        · refine ev_aload_n rfl ?_
          refine ev_dup (by decide) ?_
          refine g_getv (r := 7) (v := (w1 + 1)) g20754 ad7 (by decide) ft5_2 ((jw_eq e20754)) ?_
          refine ev_iconst ?_
          refine ev_iadd (r := (w1 + 2)) (by unfold w32; omega) ?_
          refine g_putf (r := 7) g20754 ad7 (by decide) ft5_2 (by decide) (fun e => absurd e nz5_2) rf7_2 (by decide) (by omega) (by omega) (fun h20776 e20776 g20776 => ?_)
          have k20776 := k20754.wr e20776 rfl
          refine ev_aload_n rfl ?_
          refine ev_iload_n rfl ?_
          refine ev_call (jcall_v (A := [(0, 6)]) (S' := []) (r := 7) rfl (g20776.lt ad7) (g20776.tg ad7) (Nat.le_of_ble_eq_true rfl)) (jOk_le (by decide) (s72 g20776 (by omega) (by omega) (((jw_ne e20776 (Or.inr (by decide))).trans ((jw_ne e20754 (Or.inr (by decide))).trans ew0))) (by omega) (by omega))) (by decide) (by decide) (fun w20777 h20777 q20777 => ?_)
          obtain ⟨v20778, rfl, g20777, kk20777, ev20778, p20777_0⟩ := q20777
          have bv20778 := g20777.rg ad7 (i := 1) (by decide) rf7_1
          rw [ev20778] at bv20778
          have k20777 := k20776.tr kk20777 (by decide)
          show jEv _ _ _ _ _ _ _ (_, [(2, 7), (2, 1), (0, 6), (0, a3), (0, (v20762 - 97)), (9, 0), (9, 0)], [], _, _, _)
          refine ev_aload_n rfl ?_
          refine ev_iconst ?_
          refine ev_call (jcall_v (A := [(0, 2)]) (S' := []) (r := 7) rfl (g20777.lt ad7) (g20777.tg ad7) (Nat.le_of_ble_eq_true rfl)) (jOk_le (by decide) (s73 g20777 (by omega) (by omega) (ev20778) (by omega) (by omega))) (by decide) (by decide) (fun w20779 h20779 q20779 => ?_)
          obtain ⟨v20781, v20780, rfl, lv20781, uv20781, g20779, kk20779, ev20780, p20779_0, p20779_1⟩ := q20779
          have bv20780 := g20779.rg ad7 (i := 1) (by decide) rf7_1
          rw [ev20780] at bv20780
          have k20779 := k20777.tr kk20779 (by decide)
          show jEv _ _ _ _ _ _ _ (_, [(2, 7), (2, 1), (0, 6), (0, a3), (0, (v20762 - 97)), (9, 0), (9, 0)], [(0, v20781)], _, _, _)
          refine ev_istore (L' := [(2, 7), (2, 1), (0, 6), (0, a3), (0, (v20762 - 97)), (0, v20781), (9, 0)]) (Nat.le_of_ble_eq_true rfl) rfl ?_
          refine ev_iconst ?_
          refine ev_istore (L' := [(2, 7), (2, 1), (0, 6), (0, a3), (0, (v20762 - 97)), (0, v20781), (0, 0)]) (Nat.le_of_ble_eq_true rfl) rfl ?_
          exact (s79_6_l la3 ua3 ew0 lw0 uw0 ew1 lw1 uw1 8) _ _ _ _ _ g20779 k20779 (by omega) (by omega) (by omega) (by omega) (by omega) (by omega) (by omega) (by omega) (by omega) (by omega) (ev20780) (by omega) (by omega) (by omega)
        · refine ev_aload_n rfl ?_
          refine ev_in (d := 14) (a := 0) (b := 0) (cd' := c70_0) (m := 1) (L0 := [(2, 7)]) (jcall_v (A := []) (S' := []) (r := 7) rfl (g20754.lt ad7) (g20754.tg ad7) (Nat.le_of_ble_eq_true rfl)) (by decide) ml70 pp70 (Nat.le_of_ble_eq_true rfl) rfl (by decide) (by decide) ?_
          refine ev_aload_n rfl ?_
          refine g_getv (r := 7) (v := w0) g20754 ad7 (by decide) ft5_1 (((jw_ne e20754 (Or.inr (by decide))).trans ew0)) ?_
          refine ev_ifge f70_15 (fun c20782 => ?_) (fun c20782 => ?_)
          · refine ev_ret rfl (by decide) (by decide) ?_
            show jEv _ _ _ _ _ _ _ (_, [(2, 7), (2, 1), (0, 6), (0, a3), (0, (v20762 - 97)), (9, 0), (9, 0)], [], _, _, _)
            refine ev_iconst ?_
            exact ev_ret rfl (by decide) (by decide) ⟨_, _, rfl, by omega, by omega, g20754, k20754, (((jw_ne e20754 (Or.inr (by decide))).trans ew0)), by omega, by omega⟩
          · refine ev_aload_n rfl ?_
            refine ev_aload_n rfl ?_
            refine g_getv (r := 7) (v := (w1 + 1)) g20754 ad7 (by decide) ft5_2 ((jw_eq e20754)) ?_
            refine g_putf (r := 7) g20754 ad7 (by decide) ft5_1 (by decide) (fun e => absurd e nz5_1) rf7_1 (by decide) (by omega) (by omega) (fun h20783 e20783 g20783 => ?_)
            have k20783 := k20754.wr e20783 rfl
            refine ev_ret rfl (by decide) (by decide) ?_
            show jEv _ _ _ _ _ _ _ (_, [(2, 7), (2, 1), (0, 6), (0, a3), (0, (v20762 - 97)), (9, 0), (9, 0)], [], _, _, _)
            refine ev_iconst ?_
            exact ev_ret rfl (by decide) (by decide) ⟨_, _, rfl, by omega, by omega, g20783, k20783, ((jw_eq e20783)), by omega, by omega⟩
/-! s74_6  -/
set_option maxHeartbeats 4000000 in
theorem s74_6 {G : GH} {h : JH} (g : Gd G h) {a3 : Int} (la3 : (-2147483648) ≤ a3) (ua3 : a3 ≤ 2147483647) {w0 : Int} (ew0 : h.2.2 7 1 = w0) (lw0 : (-1) ≤ w0) (uw0 : w0 ≤ 200) : jOk 17 0 0 74 [(2, 7), (2, 1), (0, 6), (0, a3)] h (fun v h' => ∃ r F : Int, v = some (0, r) ∧ (-1) ≤ r ∧ r ≤ 199 ∧ Gd G h' ∧ Kp [(7, 2), (7, 3), (7, 4), (10, 0), (11, 0), (12, 0), (13, 0), (14, 0), (15, 0), (16, 0), (17, 0)] h h' ∧ h'.2.2 7 1 = F ∧ ((-F) + w0) ≤ 0 ∧ ((-F) + (-r)) ≤ 1) := by
  refine ⟨by decide, by rw [ml74]; exact Nat.le_of_ble_eq_true rfl, ?_⟩
  rw [ml74, pp74]
  show jEv _ none _ c74_0 0 0 _ (c74_0, [(2, 7), (2, 1), (0, 6), (0, a3), (9, 0)], [], h, 0, 0)
  have k0 := Kp.rf [(7, 2), (7, 3), (7, 4), (10, 0), (11, 0), (12, 0), (13, 0), (14, 0), (15, 0), (16, 0), (17, 0)] h
  refine ev_aload_n rfl ?_
  refine g_getv (r := 7) (v := w0) g ad7 (by decide) ft5_1 (ew0) ?_
  refine ev_ifge f74_13 (fun c20850 => ?_) (fun c20850 => ?_)
  · refine ev_aload_n rfl ?_
    refine ev_in (d := 15) (a := 0) (b := 0) (cd' := c70_0) (m := 1) (L0 := [(2, 7)]) (jcall_v (A := []) (S' := []) (r := 7) rfl (g.lt ad7) (g.tg ad7) (Nat.le_of_ble_eq_true rfl)) (by decide) ml70 pp70 (Nat.le_of_ble_eq_true rfl) rfl (by decide) (by decide) ?_
    refine ev_aload_n rfl ?_
    refine g_getv (r := 7) (v := w0) g ad7 (by decide) ft5_1 (ew0) ?_
    refine ev_ifge f70_15 (fun c20851 => ?_) (fun c20851 => absurd c20851 (by omega))
    refine ev_ret rfl (by decide) (by decide) ?_
    show jEv _ _ _ _ _ _ _ (_, [(2, 7), (2, 1), (0, 6), (0, a3), (9, 0)], [], _, _, _)
    refine ev_iconst ?_
    exact ev_ret rfl (by decide) (by decide) ⟨_, _, rfl, by omega, by omega, g, k0, (ew0), by omega, by omega⟩
  · refine ev_iload_n rfl ?_
    refine ev_bipush ?_
    refine ev_icmple f74_19 (fun c20852 => ?_) (fun c20852 => absurd c20852 (by omega))
    refine ev_aload_n rfl ?_
    refine ev_in (d := 15) (a := 0) (b := 0) (cd' := c68_0) (m := 1) (L0 := [(2, 7)]) (jcall_v (A := []) (S' := []) (r := 7) rfl (g.lt ad7) (g.tg ad7) (Nat.le_of_ble_eq_true rfl)) (by decide) ml68 pp68 (Nat.le_of_ble_eq_true rfl) rfl (by decide) (by decide) ?_
    refine ev_aload_n rfl ?_
    obtain ⟨v20853, ev20853, lv20853, uv20853⟩ := g.rd ad7 (show 2 < 15 by decide) rf7_2
    refine g_getv (r := 7) (v := v20853) g ad7 (by decide) ft5_2 ev20853 ?_
    refine ev_aload_n rfl ?_
    obtain ⟨v20854, ev20854, lv20854, uv20854⟩ := g.rd ad7 (show 0 < 15 by decide) rf7_0
    refine g_getv (r := 7) (v := v20854) g ad7 (by decide) ft5_0 ev20854 ?_
    refine ev_icmpge f68_27 (fun c20855 => ?_) (fun c20855 => ?_)
    · refine ev_iconst ?_
      refine ev_ret rfl (by decide) (by decide) ?_
      show jEv _ _ _ _ _ _ _ (_, [(2, 7), (2, 1), (0, 6), (0, a3), (9, 0)], [(0, (-1))], _, _, _)
      refine ev_istore (L' := [(2, 7), (2, 1), (0, 6), (0, a3), (0, (-1))]) (Nat.le_of_ble_eq_true rfl) rfl ?_
      refine ev_iload rfl ?_
      refine ev_bipush ?_
      refine ev_icmpne f74_40 (fun c20856 => ?_) (fun c20856 => absurd c20856 (by omega))
      refine ev_iload rfl ?_
      refine ev_bipush ?_
      refine ev_icmpne f74_55 (fun c20857 => ?_) (fun c20857 => absurd c20857 (by omega))
      refine ev_iload rfl ?_
      refine ev_bipush ?_
      refine ev_icmplt f74_78 (fun c20858 => ?_) (fun c20858 => absurd c20858 (by omega))
      refine ev_aload_n rfl ?_
      refine ev_call (jcall_v (A := []) (S' := []) (r := 7) rfl (g.lt ad7) (g.tg ad7) (Nat.le_of_ble_eq_true rfl)) (jOk_le (by decide) (s75 g (ew0) (by omega) (by omega))) (by decide) (by decide) (fun w20859 h20859 q20859 => ?_)
      obtain ⟨v20861, v20860, rfl, lv20861, uv20861, g20859, kk20859, ev20860, p20859_0, p20859_1⟩ := q20859
      have bv20860 := g20859.rg ad7 (i := 1) (by decide) rf7_1
      rw [ev20860] at bv20860
      have k20859 := k0.tr kk20859 (by decide)
      show jEv _ _ _ _ _ _ _ (_, [(2, 7), (2, 1), (0, 6), (0, a3), (0, (-1))], [(0, v20861)], _, _, _)
      exact ev_ret rfl (by decide) (by decide) ⟨_, _, rfl, by omega, by omega, g20859, k20859, (ev20860), by omega, by omega⟩
    · refine ev_aload_n rfl ?_
      refine g_getp (r := 7) (c := 8) g ad7 (by decide) (by decide) rf7_5 ft5_5 ?_
      refine ev_aload_n rfl ?_
      refine g_getv (r := 7) (v := v20853) g ad7 (by decide) ft5_2 (ev20853) ?_
      refine g_bald g ad8 rt8 (by omega) (by omega) (fun v20862 ev20862 lv20862 uv20862 => ?_)
      refine ev_sipush ?_
      refine g_iandB (b := 255) (by omega) (by omega) (by decide) (fun v20863 ev20863 lv20863 uv20863 => ?_)
      refine ev_goto f68_28 ?_
      refine ev_ret rfl (by decide) (by decide) ?_
      show jEv _ _ _ _ _ _ _ (_, [(2, 7), (2, 1), (0, 6), (0, a3), (9, 0)], [(0, v20863)], _, _, _)
      refine ev_istore (L' := [(2, 7), (2, 1), (0, 6), (0, a3), (0, v20863)]) (Nat.le_of_ble_eq_true rfl) rfl ?_
      refine ev_iload rfl ?_
      refine ev_bipush ?_
      refine ev_icmpne f74_40 (fun c20864 => ?_) (fun c20864 => ?_)
      · refine ev_iload rfl ?_
        refine ev_bipush ?_
        refine ev_icmpne f74_55 (fun c20865 => ?_) (fun c20865 => ?_)
        · refine ev_iload rfl ?_
          refine ev_bipush ?_
          refine ev_icmplt f74_78 (fun c20866 => ?_) (fun c20866 => ?_)
          · refine ev_aload_n rfl ?_
            refine ev_call (jcall_v (A := []) (S' := []) (r := 7) rfl (g.lt ad7) (g.tg ad7) (Nat.le_of_ble_eq_true rfl)) (jOk_le (by decide) (s75 g (ew0) (by omega) (by omega))) (by decide) (by decide) (fun w20867 h20867 q20867 => ?_)
            obtain ⟨v20869, v20868, rfl, lv20869, uv20869, g20867, kk20867, ev20868, p20867_0, p20867_1⟩ := q20867
            have bv20868 := g20867.rg ad7 (i := 1) (by decide) rf7_1
            rw [ev20868] at bv20868
            have k20867 := k0.tr kk20867 (by decide)
            show jEv _ _ _ _ _ _ _ (_, [(2, 7), (2, 1), (0, 6), (0, a3), (0, v20863)], [(0, v20869)], _, _, _)
            exact ev_ret rfl (by decide) (by decide) ⟨_, _, rfl, by omega, by omega, g20867, k20867, (ev20868), by omega, by omega⟩
          · refine ev_iload rfl ?_
            refine ev_bipush ?_
            refine ev_icmpge f74_78 (fun c20870 => ?_) (fun c20870 => ?_)
            · refine ev_aload_n rfl ?_
              refine ev_call (jcall_v (A := []) (S' := []) (r := 7) rfl (g.lt ad7) (g.tg ad7) (Nat.le_of_ble_eq_true rfl)) (jOk_le (by decide) (s75 g (ew0) (by omega) (by omega))) (by decide) (by decide) (fun w20871 h20871 q20871 => ?_)
              obtain ⟨v20873, v20872, rfl, lv20873, uv20873, g20871, kk20871, ev20872, p20871_0, p20871_1⟩ := q20871
              have bv20872 := g20871.rg ad7 (i := 1) (by decide) rf7_1
              rw [ev20872] at bv20872
              have k20871 := k0.tr kk20871 (by decide)
              show jEv _ _ _ _ _ _ _ (_, [(2, 7), (2, 1), (0, 6), (0, a3), (0, v20863)], [(0, v20873)], _, _, _)
              exact ev_ret rfl (by decide) (by decide) ⟨_, _, rfl, by omega, by omega, g20871, k20871, (ev20872), by omega, by omega⟩
            · refine ev_aload_n rfl ?_
              refine ev_iload_n rfl ?_
              refine ev_iload_n rfl ?_
              refine ev_call (jcall_v (A := [(0, a3), (0, 6)]) (S' := []) (r := 7) rfl (g.lt ad7) (g.tg ad7) (Nat.le_of_ble_eq_true rfl)) (jOk_le (by decide) (s77 g (by omega) (by omega) (by omega) (by omega) (ew0) (by omega) (by omega))) (by decide) (by decide) (fun w20874 h20874 q20874 => ?_)
              obtain ⟨v20876, v20875, rfl, lv20876, uv20876, g20874, kk20874, ev20875, p20874_0, p20874_1⟩ := q20874
              have bv20875 := g20874.rg ad7 (i := 1) (by decide) rf7_1
              rw [ev20875] at bv20875
              have k20874 := k0.tr kk20874 (by decide)
              show jEv _ _ _ _ _ _ _ (_, [(2, 7), (2, 1), (0, 6), (0, a3), (0, v20863)], [(0, v20876)], _, _, _)
              refine ev_goto f74_82 ?_
              exact ev_ret rfl (by decide) (by decide) ⟨_, _, rfl, by omega, by omega, g20874, k20874, (ev20875), by omega, by omega⟩
        · refine ev_aload_n rfl ?_
          refine ev_aload_n rfl ?_
          refine ev_iload_n rfl ?_
          refine ev_iload_n rfl ?_
          refine ev_call (jcall_v (A := [(0, a3), (0, 6), (2, 1)]) (S' := []) (r := 7) rfl (g.lt ad7) (g.tg ad7) (Nat.le_of_ble_eq_true rfl)) (jOk_le (by decide) (s79_6 g (by omega) (by omega) (ew0) (by omega) (by omega) (ev20853) (by omega) (by omega))) (by decide) (by decide) (fun w20877 h20877 q20877 => ?_)
          obtain ⟨v20879, v20878, rfl, lv20879, uv20879, g20877, kk20877, ev20878, p20877_0, p20877_1⟩ := q20877
          have bv20878 := g20877.rg ad7 (i := 1) (by decide) rf7_1
          rw [ev20878] at bv20878
          have k20877 := k0.tr kk20877 (by decide)
          show jEv _ _ _ _ _ _ _ (_, [(2, 7), (2, 1), (0, 6), (0, a3), (0, v20863)], [(0, v20879)], _, _, _)
          exact ev_ret rfl (by decide) (by decide) ⟨_, _, rfl, by omega, by omega, g20877, k20877, (ev20878), by omega, by omega⟩
      · refine ev_aload_n rfl ?_
        refine ev_aload_n rfl ?_
        refine ev_iload_n rfl ?_
        refine ev_iload_n rfl ?_
        refine ev_call (jcall_v (A := [(0, a3), (0, 6), (2, 1)]) (S' := []) (r := 7) rfl (g.lt ad7) (g.tg ad7) (Nat.le_of_ble_eq_true rfl)) (jOk_le (by decide) (s78_6 g (by omega) (by omega) (ew0) (by omega) (by omega) (ev20853) (by omega) (by omega))) (by decide) (by decide) (fun w20880 h20880 q20880 => ?_)
        obtain ⟨v20882, v20881, rfl, lv20882, uv20882, g20880, kk20880, ev20881, p20880_0, p20880_1⟩ := q20880
        have bv20881 := g20880.rg ad7 (i := 1) (by decide) rf7_1
        rw [ev20881] at bv20881
        have k20880 := k0.tr kk20880 (by decide)
        show jEv _ _ _ _ _ _ _ (_, [(2, 7), (2, 1), (0, 6), (0, a3), (0, v20863)], [(0, v20882)], _, _, _)
        exact ev_ret rfl (by decide) (by decide) ⟨_, _, rfl, by omega, by omega, g20880, k20880, (ev20881), by omega, by omega⟩
/-! s78_5  -/
set_option maxHeartbeats 4000000 in
theorem s78_5_l {G : GH} {h : JH} {a3 : Int} (la3 : (-2147483648) ≤ a3) (ua3 : a3 ≤ 2147483647) {w0 : Int} (ew0 : h.2.2 7 1 = w0) (lw0 : (-1) ≤ w0) (uw0 : w0 ≤ 200) {w1 : Int} (ew1 : h.2.2 7 2 = w1) (lw1 : 0 ≤ w1) (uw1 : w1 ≤ 199) : ∀ N : Nat, (∀ (h1 : JH) (x4 x5 y0 : Int) (j6 : AV), Gd G h1 → Kp [(7, 2), (7, 3), (7, 4), (10, 0), (11, 0), (12, 0), (13, 0), (14, 0), (15, 0), (16, 0), (17, 0)] h h1 → (-2147483648) ≤ a3 → a3 ≤ 2147483647 → (-1) ≤ x4 → x4 ≤ 199 → 0 ≤ x5 → x5 ≤ 3 → (w0 + (-y0)) ≤ 0 → ((-x4) + (-y0)) ≤ 1 → h1.2.2 7 1 = y0 → (-1) ≤ y0 → y0 ≤ 200 → ((-x5) + 3) < N → jEv (jOk 17) none (fun _ => 0) c78_0 0 0 (fun v h' => ∃ r F : Int, v = some (0, r) ∧ (-1) ≤ r ∧ r ≤ 199 ∧ Gd G h' ∧ Kp [(7, 2), (7, 3), (7, 4), (10, 0), (11, 0), (12, 0), (13, 0), (14, 0), (15, 0), (16, 0), (17, 0)] h h' ∧ h'.2.2 7 1 = F ∧ ((-F) + w0) ≤ 0 ∧ ((-F) + (-r)) ≤ 1) (c78_25, [(2, 7), (2, 1), (0, 5), (0, a3), (0, x4), (0, x5), j6], [], h1, 0, 0)) := by
  intro N
  induction N with
  | zero => exact fun h1 x4 x5 y0 j6 g1 k1 b0 b1 b2 b3 b4 b5 b6 b7 b8 b9 b10 hm => absurd hm (by omega)
  | succ N ih =>
    show _
    intro h1 x4 x5 y0 j6 g1 k1 b0 b1 b2 b3 b4 b5 b6 b7 ey0 ly0 uy0 hm
    refine ev_iload rfl ?_
    refine ev_iconst ?_
    refine ev_icmpge f78_100 (fun c21051 => absurd c21051 (by omega)) (fun c21051 => ?_)
    refine ev_aload_n rfl ?_
    refine g_getv (r := 7) (v := y0) g1 ad7 (by decide) ft5_1 (ey0) ?_
    refine ev_ifge f78_100 (fun c21052 => ?_) (fun c21052 => ?_)
    · refine ev_aload_n rfl ?_
      refine ev_bipush ?_
      refine ev_call (jcall_v (A := [(0, 41)]) (S' := []) (r := 7) rfl (g1.lt ad7) (g1.tg ad7) (Nat.le_of_ble_eq_true rfl)) (jOk_le (by decide) (s71 g1 (by omega) (by omega) (ey0) (by omega) (by omega))) (by decide) (by decide) (fun w21053 h21053 q21053 => ?_)
      obtain ⟨v21054, rfl, g21053, kk21053, ev21054, p21053_0⟩ := q21053
      have bv21054 := g21053.rg ad7 (i := 1) (by decide) rf7_1
      rw [ev21054] at bv21054
      have k21053 := k1.tr kk21053 (by decide)
      show jEv _ _ _ _ _ _ _ (_, [(2, 7), (2, 1), (0, 5), (0, a3), (0, x4), (0, x5), j6], [], _, _, _)
      refine ev_aload_n rfl ?_
      refine g_getv (r := 7) (v := v21054) g21053 ad7 (by decide) ft5_1 (ev21054) ?_
      refine ev_iflt f78_117 (fun c21055 => absurd c21055 (by omega)) (fun c21055 => ?_)
      refine ev_iconst ?_
      refine ev_goto f78_119 ?_
      exact ev_ret rfl (by decide) (by decide) ⟨_, _, rfl, by omega, by omega, g21053, k21053, (ev21054), by omega, by omega⟩
    · refine ev_aload_n rfl ?_
      refine ev_iconst ?_
      refine ev_call (jcall_v (A := [(0, 2)]) (S' := []) (r := 7) rfl (g1.lt ad7) (g1.tg ad7) (Nat.le_of_ble_eq_true rfl)) (jOk_le (by decide) (s76 g1 (by omega) (by omega) (ey0) (by omega) (by omega))) (by decide) (by decide) (fun w21056 h21056 q21056 => ?_)
      obtain ⟨v21058, v21057, rfl, lv21058, uv21058, g21056, kk21056, ev21057, p21056_0⟩ := q21056
      have bv21057 := g21056.rg ad7 (i := 1) (by decide) rf7_1
      rw [ev21057] at bv21057
      have k21056 := k1.tr kk21056 (by decide)
      show jEv _ _ _ _ _ _ _ (_, [(2, 7), (2, 1), (0, 5), (0, a3), (0, x4), (0, x5), j6], [(0, v21058)], _, _, _)
      refine ev_istore (L' := [(2, 7), (2, 1), (0, 5), (0, a3), (0, x4), (0, x5), (0, v21058)]) (Nat.le_of_ble_eq_true rfl) rfl ?_
      refine ev_aload_n rfl ?_
      refine ev_bipush ?_
      refine ev_call (jcall_v (A := [(0, 58)]) (S' := []) (r := 7) rfl (g21056.lt ad7) (g21056.tg ad7) (Nat.le_of_ble_eq_true rfl)) (jOk_le (by decide) (s71 g21056 (by omega) (by omega) (ev21057) (by omega) (by omega))) (by decide) (by decide) (fun w21059 h21059 q21059 => ?_)
      obtain ⟨v21060, rfl, g21059, kk21059, ev21060, p21059_0⟩ := q21059
      have bv21060 := g21059.rg ad7 (i := 1) (by decide) rf7_1
      rw [ev21060] at bv21060
      have k21059 := k21056.tr kk21059 (by decide)
      show jEv _ _ _ _ _ _ _ (_, [(2, 7), (2, 1), (0, 5), (0, a3), (0, x4), (0, x5), (0, v21058)], [], _, _, _)
      refine ev_aload_n rfl ?_
      refine ev_iload rfl ?_
      refine ev_iload rfl ?_
      refine ev_iload rfl ?_
      refine ev_aload_n rfl ?_
      refine ev_aload_n rfl ?_
      refine ev_iload_n rfl ?_
      refine ev_iconst ?_
      refine ev_iadd (r := 6) (by decide) ?_
      refine ev_iload_n rfl ?_
      refine ev_call (jcall_v (A := [(0, a3), (0, 6), (2, 1)]) (S' := [(0, v21058), (0, x5), (0, x4), (2, 7)]) (r := 7) rfl (g21059.lt ad7) (g21059.tg ad7) (Nat.le_of_ble_eq_true rfl)) (jOk_le (by decide) (s74_6 g21059 (by omega) (by omega) (ev21060) (by omega) (by omega))) (by decide) (by decide) (fun w21061 h21061 q21061 => ?_)
      obtain ⟨v21063, v21062, rfl, lv21063, uv21063, g21061, kk21061, ev21062, p21061_0, p21061_1⟩ := q21061
      have bv21062 := g21061.rg ad7 (i := 1) (by decide) rf7_1
      rw [ev21062] at bv21062
      have k21061 := k21059.tr kk21061 (by decide)
      show jEv _ _ _ _ _ _ _ (_, [(2, 7), (2, 1), (0, 5), (0, a3), (0, x4), (0, x5), (0, v21058)], [(0, v21063), (0, v21058), (0, x5), (0, x4), (2, 7)], _, _, _)
      refine ev_call (jcall_v (A := [(0, v21063), (0, v21058), (0, x5), (0, x4)]) (S' := []) (r := 7) rfl (g21061.lt ad7) (g21061.tg ad7) (Nat.le_of_ble_eq_true rfl)) (jOk_le (by decide) (s80 g21061 (by omega) (by omega) (by omega) (by omega) (by omega) (by omega) (by omega) (by omega))) (by decide) (by decide) (fun w21064 h21064 q21064 => ?_)
      obtain ⟨rfl, g21064, kk21064⟩ := q21064
      have k21064 := k21061.tr kk21064 (by decide)
      show jEv _ _ _ _ _ _ _ (_, [(2, 7), (2, 1), (0, 5), (0, a3), (0, x4), (0, x5), (0, v21058)], [], _, _, _)
      refine ev_aload_n rfl ?_
      refine ev_in (d := 16) (a := 0) (b := 0) (cd' := c68_0) (m := 1) (L0 := [(2, 7)]) (jcall_v (A := []) (S' := []) (r := 7) rfl (g21064.lt ad7) (g21064.tg ad7) (Nat.le_of_ble_eq_true rfl)) (by decide) ml68 pp68 (Nat.le_of_ble_eq_true rfl) rfl (by decide) (by decide) ?_
      refine ev_aload_n rfl ?_
      obtain ⟨v21065, ev21065, lv21065, uv21065⟩ := g21064.rd ad7 (show 2 < 15 by decide) rf7_2
      refine g_getv (r := 7) (v := v21065) g21064 ad7 (by decide) ft5_2 ev21065 ?_
      refine ev_aload_n rfl ?_
      obtain ⟨v21066, ev21066, lv21066, uv21066⟩ := g21064.rd ad7 (show 0 < 15 by decide) rf7_0
      refine g_getv (r := 7) (v := v21066) g21064 ad7 (by decide) ft5_0 ev21066 ?_
      refine ev_icmpge f68_27 (fun c21067 => ?_) (fun c21067 => ?_)
      · refine ev_iconst ?_
        refine ev_ret rfl (by decide) (by decide) ?_
        show jEv _ _ _ _ _ _ _ (_, [(2, 7), (2, 1), (0, 5), (0, a3), (0, x4), (0, x5), (0, v21058)], [(0, (-1))], _, _, _)
        refine ev_bipush ?_
        refine ev_icmpne f78_100 (fun c21068 => ?_) (fun c21068 => absurd c21068 (by omega))
        refine ev_aload_n rfl ?_
        refine ev_bipush ?_
        refine ev_call (jcall_v (A := [(0, 41)]) (S' := []) (r := 7) rfl (g21064.lt ad7) (g21064.tg ad7) (Nat.le_of_ble_eq_true rfl)) (jOk_le (by decide) (s71 g21064 (by omega) (by omega) (((kk21064.v (by decide)).trans ev21062)) (by omega) (by omega))) (by decide) (by decide) (fun w21069 h21069 q21069 => ?_)
        obtain ⟨v21070, rfl, g21069, kk21069, ev21070, p21069_0⟩ := q21069
        have bv21070 := g21069.rg ad7 (i := 1) (by decide) rf7_1
        rw [ev21070] at bv21070
        have k21069 := k21064.tr kk21069 (by decide)
        show jEv _ _ _ _ _ _ _ (_, [(2, 7), (2, 1), (0, 5), (0, a3), (0, x4), (0, x5), (0, v21058)], [], _, _, _)
        refine ev_aload_n rfl ?_
        refine g_getv (r := 7) (v := v21070) g21069 ad7 (by decide) ft5_1 (ev21070) ?_
        refine ev_iflt f78_117 (fun c21071 => ?_) (fun c21071 => ?_)
        · refine ev_iload rfl ?_
          exact ev_ret rfl (by decide) (by decide) ⟨_, _, rfl, by omega, by omega, g21069, k21069, (ev21070), by omega, by omega⟩
        · refine ev_iconst ?_
          refine ev_goto f78_119 ?_
          exact ev_ret rfl (by decide) (by decide) ⟨_, _, rfl, by omega, by omega, g21069, k21069, (ev21070), by omega, by omega⟩
      · refine ev_aload_n rfl ?_
        refine g_getp (r := 7) (c := 8) g21064 ad7 (by decide) (by decide) rf7_5 ft5_5 ?_
        refine ev_aload_n rfl ?_
        refine g_getv (r := 7) (v := v21065) g21064 ad7 (by decide) ft5_2 (ev21065) ?_
        refine g_bald g21064 ad8 rt8 (by omega) (by omega) (fun v21072 ev21072 lv21072 uv21072 => ?_)
        refine ev_sipush ?_
        refine g_iandB (b := 255) (by omega) (by omega) (by decide) (fun v21073 ev21073 lv21073 uv21073 => ?_)
        refine ev_goto f68_28 ?_
        refine ev_ret rfl (by decide) (by decide) ?_
        show jEv _ _ _ _ _ _ _ (_, [(2, 7), (2, 1), (0, 5), (0, a3), (0, x4), (0, x5), (0, v21058)], [(0, v21073)], _, _, _)
        refine ev_bipush ?_
        refine ev_icmpne f78_100 (fun c21074 => ?_) (fun c21074 => ?_)
        · refine ev_aload_n rfl ?_
          refine ev_bipush ?_
          refine ev_call (jcall_v (A := [(0, 41)]) (S' := []) (r := 7) rfl (g21064.lt ad7) (g21064.tg ad7) (Nat.le_of_ble_eq_true rfl)) (jOk_le (by decide) (s71 g21064 (by omega) (by omega) (((kk21064.v (by decide)).trans ev21062)) (by omega) (by omega))) (by decide) (by decide) (fun w21075 h21075 q21075 => ?_)
          obtain ⟨v21076, rfl, g21075, kk21075, ev21076, p21075_0⟩ := q21075
          have bv21076 := g21075.rg ad7 (i := 1) (by decide) rf7_1
          rw [ev21076] at bv21076
          have k21075 := k21064.tr kk21075 (by decide)
          show jEv _ _ _ _ _ _ _ (_, [(2, 7), (2, 1), (0, 5), (0, a3), (0, x4), (0, x5), (0, v21058)], [], _, _, _)
          refine ev_aload_n rfl ?_
          refine g_getv (r := 7) (v := v21076) g21075 ad7 (by decide) ft5_1 (ev21076) ?_
          refine ev_iflt f78_117 (fun c21077 => ?_) (fun c21077 => ?_)
          · refine ev_iload rfl ?_
            exact ev_ret rfl (by decide) (by decide) ⟨_, _, rfl, by omega, by omega, g21075, k21075, (ev21076), by omega, by omega⟩
          · refine ev_iconst ?_
            refine ev_goto f78_119 ?_
            exact ev_ret rfl (by decide) (by decide) ⟨_, _, rfl, by omega, by omega, g21075, k21075, (ev21076), by omega, by omega⟩
        · refine ev_iload rfl ?_
          refine ev_iconst ?_
          refine ev_icmpne f78_88 (fun c21078 => ?_) (fun c21078 => ?_)
          · refine ev_aload_n rfl ?_
            refine ev_bipush ?_
            refine ev_call (jcall_v (A := [(0, 44)]) (S' := []) (r := 7) rfl (g21064.lt ad7) (g21064.tg ad7) (Nat.le_of_ble_eq_true rfl)) (jOk_le (by decide) (s71 g21064 (by omega) (by omega) (((kk21064.v (by decide)).trans ev21062)) (by omega) (by omega))) (by decide) (by decide) (fun w21079 h21079 q21079 => ?_)
            obtain ⟨v21080, rfl, g21079, kk21079, ev21080, p21079_0⟩ := q21079
            have bv21080 := g21079.rg ad7 (i := 1) (by decide) rf7_1
            rw [ev21080] at bv21080
            have k21079 := k21064.tr kk21079 (by decide)
            show jEv _ _ _ _ _ _ _ (_, [(2, 7), (2, 1), (0, 5), (0, a3), (0, x4), (0, x5), (0, v21058)], [], _, _, _)
            refine ev_iinc (w := (x5 + 1)) (L' := [(2, 7), (2, 1), (0, 5), (0, a3), (0, x4), (0, (x5 + 1)), (0, v21058)]) rfl (by unfold w32; omega) rfl ?_
            refine ev_goto f78_25 ?_
            exact ih _ _ _ _ _ g21079 k21079 (by omega) (by omega) (by omega) (by omega) (by omega) (by omega) (by omega) (by omega) (ev21080) (by omega) (by omega) (by omega)
          · refine ev_goto f78_100 ?_
            refine ev_aload_n rfl ?_
            refine ev_bipush ?_
            refine ev_call (jcall_v (A := [(0, 41)]) (S' := []) (r := 7) rfl (g21064.lt ad7) (g21064.tg ad7) (Nat.le_of_ble_eq_true rfl)) (jOk_le (by decide) (s71 g21064 (by omega) (by omega) (((kk21064.v (by decide)).trans ev21062)) (by omega) (by omega))) (by decide) (by decide) (fun w21081 h21081 q21081 => ?_)
            obtain ⟨v21082, rfl, g21081, kk21081, ev21082, p21081_0⟩ := q21081
            have bv21082 := g21081.rg ad7 (i := 1) (by decide) rf7_1
            rw [ev21082] at bv21082
            have k21081 := k21064.tr kk21081 (by decide)
            show jEv _ _ _ _ _ _ _ (_, [(2, 7), (2, 1), (0, 5), (0, a3), (0, x4), (0, x5), (0, v21058)], [], _, _, _)
            refine ev_aload_n rfl ?_
            refine g_getv (r := 7) (v := v21082) g21081 ad7 (by decide) ft5_1 (ev21082) ?_
            refine ev_iflt f78_117 (fun c21083 => ?_) (fun c21083 => ?_)
            · refine ev_iload rfl ?_
              exact ev_ret rfl (by decide) (by decide) ⟨_, _, rfl, by omega, by omega, g21081, k21081, (ev21082), by omega, by omega⟩
            · refine ev_iconst ?_
              refine ev_goto f78_119 ?_
              exact ev_ret rfl (by decide) (by decide) ⟨_, _, rfl, by omega, by omega, g21081, k21081, (ev21082), by omega, by omega⟩
set_option maxHeartbeats 4000000 in
theorem s78_5 {G : GH} {h : JH} (g : Gd G h) {a3 : Int} (la3 : (-2147483648) ≤ a3) (ua3 : a3 ≤ 2147483647) {w0 : Int} (ew0 : h.2.2 7 1 = w0) (lw0 : (-1) ≤ w0) (uw0 : w0 ≤ 200) {w1 : Int} (ew1 : h.2.2 7 2 = w1) (lw1 : 0 ≤ w1) (uw1 : w1 ≤ 199) : jOk 18 0 0 78 [(2, 7), (2, 1), (0, 5), (0, a3)] h (fun v h' => ∃ r F : Int, v = some (0, r) ∧ (-1) ≤ r ∧ r ≤ 199 ∧ Gd G h' ∧ Kp [(7, 2), (7, 3), (7, 4), (10, 0), (11, 0), (12, 0), (13, 0), (14, 0), (15, 0), (16, 0), (17, 0)] h h' ∧ h'.2.2 7 1 = F ∧ ((-F) + w0) ≤ 0 ∧ ((-F) + (-r)) ≤ 1) := by
  refine ⟨by decide, by rw [ml78]; exact Nat.le_of_ble_eq_true rfl, ?_⟩
  rw [ml78, pp78]
  show jEv _ none _ c78_0 0 0 _ (c78_0, [(2, 7), (2, 1), (0, 5), (0, a3), (9, 0), (9, 0), (9, 0)], [], h, 0, 0)
  have k0 := Kp.rf [(7, 2), (7, 3), (7, 4), (10, 0), (11, 0), (12, 0), (13, 0), (14, 0), (15, 0), (16, 0), (17, 0)] h
  refine ev_aload_n rfl ?_
  refine ev_dup (by decide) ?_
  refine g_getv (r := 7) (v := w1) g ad7 (by decide) ft5_2 (ew1) ?_
  refine ev_iconst ?_
  refine ev_iadd (r := (w1 + 1)) (by unfold w32; omega) ?_
  refine g_putf (r := 7) g ad7 (by decide) ft5_2 (by decide) (fun e => absurd e nz5_2) rf7_2 (by decide) (by omega) (by omega) (fun h21084 e21084 g21084 => ?_)
  have k21084 := k0.wr e21084 rfl
  refine ev_aload_n rfl ?_
  refine ev_iload_n rfl ?_
  refine ev_call (jcall_v (A := [(0, 5)]) (S' := []) (r := 7) rfl (g21084.lt ad7) (g21084.tg ad7) (Nat.le_of_ble_eq_true rfl)) (jOk_le (by decide) (s72 g21084 (by omega) (by omega) (((jw_ne e21084 (Or.inr (by decide))).trans ew0)) (by omega) (by omega))) (by decide) (by decide) (fun w21085 h21085 q21085 => ?_)
  obtain ⟨v21086, rfl, g21085, kk21085, ev21086, p21085_0⟩ := q21085
  have bv21086 := g21085.rg ad7 (i := 1) (by decide) rf7_1
  rw [ev21086] at bv21086
  have k21085 := k21084.tr kk21085 (by decide)
  show jEv _ _ _ _ _ _ _ (_, [(2, 7), (2, 1), (0, 5), (0, a3), (9, 0), (9, 0), (9, 0)], [], _, _, _)
  refine ev_aload_n rfl ?_
  refine ev_iconst ?_
  refine ev_call (jcall_v (A := [(0, 1)]) (S' := []) (r := 7) rfl (g21085.lt ad7) (g21085.tg ad7) (Nat.le_of_ble_eq_true rfl)) (jOk_le (by decide) (s73 g21085 (by omega) (by omega) (ev21086) (by omega) (by omega))) (by decide) (by decide) (fun w21087 h21087 q21087 => ?_)
  obtain ⟨v21089, v21088, rfl, lv21089, uv21089, g21087, kk21087, ev21088, p21087_0, p21087_1⟩ := q21087
  have bv21088 := g21087.rg ad7 (i := 1) (by decide) rf7_1
  rw [ev21088] at bv21088
  have k21087 := k21085.tr kk21087 (by decide)
  show jEv _ _ _ _ _ _ _ (_, [(2, 7), (2, 1), (0, 5), (0, a3), (9, 0), (9, 0), (9, 0)], [(0, v21089)], _, _, _)
  refine ev_istore (L' := [(2, 7), (2, 1), (0, 5), (0, a3), (0, v21089), (9, 0), (9, 0)]) (Nat.le_of_ble_eq_true rfl) rfl ?_
  refine ev_iconst ?_
  refine ev_istore (L' := [(2, 7), (2, 1), (0, 5), (0, a3), (0, v21089), (0, 0), (9, 0)]) (Nat.le_of_ble_eq_true rfl) rfl ?_
  exact (s78_5_l la3 ua3 ew0 lw0 uw0 ew1 lw1 uw1 8) _ _ _ _ _ g21087 k21087 (by omega) (by omega) (by omega) (by omega) (by omega) (by omega) (by omega) (by omega) (ev21088) (by omega) (by omega) (by omega)
/-! s79_5  -/
set_option maxHeartbeats 4000000 in
theorem s79_5_l {G : GH} {h : JH} {a3 : Int} (la3 : (-2147483648) ≤ a3) (ua3 : a3 ≤ 2147483647) {w0 : Int} (ew0 : h.2.2 7 1 = w0) (lw0 : (-1) ≤ w0) (uw0 : w0 ≤ 200) {w1 : Int} (ew1 : h.2.2 7 2 = w1) (lw1 : 0 ≤ w1) (uw1 : w1 ≤ 199) : ∀ N : Nat, (∀ (h1 : JH) (x4 x5 x6 y0 : Int), Gd G h1 → Kp [(7, 2), (7, 3), (7, 4), (10, 0), (11, 0), (12, 0), (13, 0), (14, 0), (15, 0), (16, 0), (17, 0)] h h1 → (-2147483648) ≤ a3 → a3 ≤ 2147483647 → 0 ≤ x4 → x4 ≤ 3 → (-1) ≤ x5 → x5 ≤ 199 → 0 ≤ x6 → x6 ≤ 3 → (w0 + (-y0)) ≤ 0 → ((-x5) + (-y0)) ≤ 1 → h1.2.2 7 1 = y0 → (-1) ≤ y0 → y0 ≤ 200 → ((-x6) + 3) < N → jEv (jOk 17) none (fun _ => 0) c79_0 0 0 (fun v h' => ∃ r F : Int, v = some (0, r) ∧ (-1) ≤ r ∧ r ≤ 199 ∧ Gd G h' ∧ Kp [(7, 2), (7, 3), (7, 4), (10, 0), (11, 0), (12, 0), (13, 0), (14, 0), (15, 0), (16, 0), (17, 0)] h h' ∧ h'.2.2 7 1 = F ∧ ((-F) + w0) ≤ 0 ∧ ((-F) + (-r)) ≤ 1) (c79_68, [(2, 7), (2, 1), (0, 5), (0, a3), (0, x4), (0, x5), (0, x6)], [], h1, 0, 0)) := by
  intro N
  induction N with
  | zero => exact fun h1 x4 x5 x6 y0 g1 k1 b0 b1 b2 b3 b4 b5 b6 b7 b8 b9 b10 b11 b12 hm => absurd hm (by omega)
  | succ N ih =>
    show _
    intro h1 x4 x5 x6 y0 g1 k1 b0 b1 b2 b3 b4 b5 b6 b7 b8 b9 ey0 ly0 uy0 hm
    refine ev_iload rfl ?_
    refine ev_aload_n rfl ?_
    refine ev_iload rfl ?_
    refine ev_in (d := 16) (a := 0) (b := 0) (cd' := c141_0) (m := 2) (L0 := [(2, 1), (0, x4)]) (jcall_v (A := [(0, x4)]) (S' := [(0, x6)]) (r := 1) rfl (g1.lt ad1) (g1.tg ad1) (Nat.le_of_ble_eq_true rfl)) (by decide) ml141 pp141 (Nat.le_of_ble_eq_true rfl) rfl (by decide) (by decide) ?_
    refine ev_aload_n rfl ?_
    refine ev_iload_n rfl ?_
    refine ev_in (d := 15) (a := 0) (b := 0) (cd' := c140_0) (m := 2) (L0 := [(2, 1), (0, x4)]) (jcall_v (A := [(0, x4)]) (S' := []) (r := 1) rfl (g1.lt ad1) (g1.tg ad1) (Nat.le_of_ble_eq_true rfl)) (by decide) ml140 pp140 (Nat.le_of_ble_eq_true rfl) rfl (by decide) (by decide) ?_
    refine ev_iload_n rfl ?_
    refine ev_iflt f140_16 (fun c21367 => absurd c21367 (by omega)) (fun c21367 => ?_)
    refine ev_iload_n rfl ?_
    refine ev_aload_n rfl ?_
    obtain ⟨v21368, ev21368, lv21368, uv21368⟩ := g1.rd ad1 (show 0 < 8 by decide) rf1_0
    refine g_getv (r := 1) (v := v21368) g1 ad1 (by decide) ft10_0 ev21368 ?_
    refine ev_icmpge f140_16 (fun c21369 => ?_) (fun c21369 => ?_)
    · refine ev_iconst ?_
      refine ev_ret rfl (by decide) (by decide) ?_
      show jEv _ _ _ _ _ _ _ (_, [(2, 1), (0, x4)], [(0, 0)], _, _, _)
      refine ev_ifeq f141_17 (fun c21370 => ?_) (fun c21370 => absurd c21370 (by omega))
      refine ev_iconst ?_
      refine ev_ret rfl (by decide) (by decide) ?_
      show jEv _ _ _ _ _ _ _ (_, [(2, 7), (2, 1), (0, 5), (0, a3), (0, x4), (0, x5), (0, x6)], [(0, 0), (0, x6)], _, _, _)
      refine ev_icmpge f79_126 (fun c21371 => ?_) (fun c21371 => absurd c21371 (by omega))
      refine ev_aload_n rfl ?_
      refine ev_bipush ?_
      refine ev_call (jcall_v (A := [(0, 41)]) (S' := []) (r := 7) rfl (g1.lt ad7) (g1.tg ad7) (Nat.le_of_ble_eq_true rfl)) (jOk_le (by decide) (s71 g1 (by omega) (by omega) (ey0) (by omega) (by omega))) (by decide) (by decide) (fun w21372 h21372 q21372 => ?_)
      obtain ⟨v21373, rfl, g21372, kk21372, ev21373, p21372_0⟩ := q21372
      have bv21373 := g21372.rg ad7 (i := 1) (by decide) rf7_1
      rw [ev21373] at bv21373
      have k21372 := k1.tr kk21372 (by decide)
      show jEv _ _ _ _ _ _ _ (_, [(2, 7), (2, 1), (0, 5), (0, a3), (0, x4), (0, x5), (0, x6)], [], _, _, _)
      refine ev_aload_n rfl ?_
      refine g_getv (r := 7) (v := v21373) g21372 ad7 (by decide) ft5_1 (ev21373) ?_
      refine ev_ifge f79_144 (fun c21374 => ?_) (fun c21374 => ?_)
      · refine ev_iconst ?_
        exact ev_ret rfl (by decide) (by decide) ⟨_, _, rfl, by omega, by omega, g21372, k21372, (ev21373), by omega, by omega⟩
      · refine ev_iload rfl ?_
        refine ev_ifge f79_146 (fun c21375 => ?_) (fun c21375 => absurd c21375 (by omega))
        refine ev_aload_n rfl ?_
        refine g_getp (r := 7) (c := 11) g21372 ad7 (by decide) (by decide) rf7_8 ft5_8 ?_
        refine ev_iload rfl ?_
        refine ev_iload rfl ?_
        refine g_iast g21372 ad11 rt11 (fun _ => rfl) (by omega) (by omega) (by omega) (by omega) (fun h21376 e21376 g21376 => ?_)
        have k21376 := k21372.wr e21376 rfl
        refine ev_aload_n rfl ?_
        refine g_getp (r := 7) (c := 15) g21376 ad7 (by decide) (by decide) rf7_12 ft5_12 ?_
        refine ev_iload rfl ?_
        refine ev_dup2 (by decide) (by decide) ?_
        refine g_iald g21376 ad15 rt15 (by omega) (by omega) (fun v21377 ev21377 lv21377 uv21377 => ?_)
        refine ev_iconst ?_
        refine ev_iload rfl ?_
        refine g_ishlB (a' := 1) (a := 1) (b := 3) (hi := 8) (by omega) (by omega) (by omega) (by omega) (by decide) (by decide) (fun v21378 ev21378 lv21378 uv21378 => ?_)
        refine g_iorG (fun v21379 ev21379 lv21379 uv21379 => ?_)
        refine g_iast g21376 ad15 rt15 (fun _ => rfl) (by omega) (by omega) (by omega) (by omega) (fun h21380 e21380 g21380 => ?_)
        have k21380 := k21376.wr e21380 rfl
        refine ev_iload rfl ?_
        exact ev_ret rfl (by decide) (by decide) ⟨_, _, rfl, by omega, by omega, g21380, k21380, (((jw_ne e21380 (Or.inl (by decide))).trans ((jw_ne e21376 (Or.inl (by decide))).trans ev21373))), by omega, by omega⟩
    · refine ev_iconst ?_
      refine ev_goto f140_17 ?_
      refine ev_ret rfl (by decide) (by decide) ?_
      show jEv _ _ _ _ _ _ _ (_, [(2, 1), (0, x4)], [(0, 1)], _, _, _)
      refine ev_ifeq f141_17 (fun c21381 => absurd c21381 (by omega)) (fun c21381 => ?_)
      refine ev_aload_n rfl ?_
      refine g_getp (r := 1) (c := 2) g1 ad1 (by decide) (by decide) rf1_3 ft10_3 ?_
      refine ev_iload_n rfl ?_
      refine g_iald g1 ad2 rt2 (by omega) (by omega) (fun v21382 ev21382 lv21382 uv21382 => ?_)
      refine ev_goto f141_18 ?_
      refine ev_ret rfl (by decide) (by decide) ?_
      show jEv _ _ _ _ _ _ _ (_, [(2, 7), (2, 1), (0, 5), (0, a3), (0, x4), (0, x5), (0, x6)], [(0, v21382), (0, x6)], _, _, _)
      refine ev_icmpge f79_126 (fun c21383 => ?_) (fun c21383 => ?_)
      · refine ev_aload_n rfl ?_
        refine ev_bipush ?_
        refine ev_call (jcall_v (A := [(0, 41)]) (S' := []) (r := 7) rfl (g1.lt ad7) (g1.tg ad7) (Nat.le_of_ble_eq_true rfl)) (jOk_le (by decide) (s71 g1 (by omega) (by omega) (ey0) (by omega) (by omega))) (by decide) (by decide) (fun w21384 h21384 q21384 => ?_)
        obtain ⟨v21385, rfl, g21384, kk21384, ev21385, p21384_0⟩ := q21384
        have bv21385 := g21384.rg ad7 (i := 1) (by decide) rf7_1
        rw [ev21385] at bv21385
        have k21384 := k1.tr kk21384 (by decide)
        show jEv _ _ _ _ _ _ _ (_, [(2, 7), (2, 1), (0, 5), (0, a3), (0, x4), (0, x5), (0, x6)], [], _, _, _)
        refine ev_aload_n rfl ?_
        refine g_getv (r := 7) (v := v21385) g21384 ad7 (by decide) ft5_1 (ev21385) ?_
        refine ev_ifge f79_144 (fun c21386 => ?_) (fun c21386 => ?_)
        · refine ev_iconst ?_
          exact ev_ret rfl (by decide) (by decide) ⟨_, _, rfl, by omega, by omega, g21384, k21384, (ev21385), by omega, by omega⟩
        · refine ev_iload rfl ?_
          refine ev_ifge f79_146 (fun c21387 => ?_) (fun c21387 => absurd c21387 (by omega))
          refine ev_aload_n rfl ?_
          refine g_getp (r := 7) (c := 11) g21384 ad7 (by decide) (by decide) rf7_8 ft5_8 ?_
          refine ev_iload rfl ?_
          refine ev_iload rfl ?_
          refine g_iast g21384 ad11 rt11 (fun _ => rfl) (by omega) (by omega) (by omega) (by omega) (fun h21388 e21388 g21388 => ?_)
          have k21388 := k21384.wr e21388 rfl
          refine ev_aload_n rfl ?_
          refine g_getp (r := 7) (c := 15) g21388 ad7 (by decide) (by decide) rf7_12 ft5_12 ?_
          refine ev_iload rfl ?_
          refine ev_dup2 (by decide) (by decide) ?_
          refine g_iald g21388 ad15 rt15 (by omega) (by omega) (fun v21389 ev21389 lv21389 uv21389 => ?_)
          refine ev_iconst ?_
          refine ev_iload rfl ?_
          refine g_ishlB (a' := 1) (a := 1) (b := 3) (hi := 8) (by omega) (by omega) (by omega) (by omega) (by decide) (by decide) (fun v21390 ev21390 lv21390 uv21390 => ?_)
          refine g_iorG (fun v21391 ev21391 lv21391 uv21391 => ?_)
          refine g_iast g21388 ad15 rt15 (fun _ => rfl) (by omega) (by omega) (by omega) (by omega) (fun h21392 e21392 g21392 => ?_)
          have k21392 := k21388.wr e21392 rfl
          refine ev_iload rfl ?_
          exact ev_ret rfl (by decide) (by decide) ⟨_, _, rfl, by omega, by omega, g21392, k21392, (((jw_ne e21392 (Or.inl (by decide))).trans ((jw_ne e21388 (Or.inl (by decide))).trans ev21385))), by omega, by omega⟩
      · refine ev_aload_n rfl ?_
        refine g_getv (r := 7) (v := y0) g1 ad7 (by decide) ft5_1 (ey0) ?_
        refine ev_ifge f79_126 (fun c21393 => ?_) (fun c21393 => ?_)
        · refine ev_aload_n rfl ?_
          refine ev_bipush ?_
          refine ev_call (jcall_v (A := [(0, 41)]) (S' := []) (r := 7) rfl (g1.lt ad7) (g1.tg ad7) (Nat.le_of_ble_eq_true rfl)) (jOk_le (by decide) (s71 g1 (by omega) (by omega) (ey0) (by omega) (by omega))) (by decide) (by decide) (fun w21394 h21394 q21394 => ?_)
          obtain ⟨v21395, rfl, g21394, kk21394, ev21395, p21394_0⟩ := q21394
          have bv21395 := g21394.rg ad7 (i := 1) (by decide) rf7_1
          rw [ev21395] at bv21395
          have k21394 := k1.tr kk21394 (by decide)
          show jEv _ _ _ _ _ _ _ (_, [(2, 7), (2, 1), (0, 5), (0, a3), (0, x4), (0, x5), (0, x6)], [], _, _, _)
          refine ev_aload_n rfl ?_
          refine g_getv (r := 7) (v := v21395) g21394 ad7 (by decide) ft5_1 (ev21395) ?_
          refine ev_ifge f79_144 (fun c21396 => ?_) (fun c21396 => absurd c21396 (by omega))
          refine ev_iconst ?_
          exact ev_ret rfl (by decide) (by decide) ⟨_, _, rfl, by omega, by omega, g21394, k21394, (ev21395), by omega, by omega⟩
        · refine ev_iload rfl ?_
          refine ev_ifle f79_97 (fun c21397 => ?_) (fun c21397 => ?_)
          · refine ev_aload_n rfl ?_
            refine ev_iload rfl ?_
            refine ev_iload rfl ?_
            refine ev_iconst ?_
            refine ev_aload_n rfl ?_
            refine ev_aload_n rfl ?_
            refine ev_iload_n rfl ?_
            refine ev_iconst ?_
            refine ev_iadd (r := 6) (by decide) ?_
            refine ev_iload_n rfl ?_
            refine ev_iconst ?_
            refine ev_iload rfl ?_
            refine g_ishlB (a' := 1) (a := 1) (b := 3) (hi := 8) (by omega) (by omega) (by omega) (by omega) (by decide) (by decide) (fun v21398 ev21398 lv21398 uv21398 => ?_)
            refine g_iorG (fun v21399 ev21399 lv21399 uv21399 => ?_)
            refine ev_call (jcall_v (A := [(0, v21399), (0, 6), (2, 1)]) (S' := [(0, 0), (0, x6), (0, x5), (2, 7)]) (r := 7) rfl (g1.lt ad7) (g1.tg ad7) (Nat.le_of_ble_eq_true rfl)) (jOk_le (by decide) (s74_6 g1 (by omega) (by omega) (ey0) (by omega) (by omega))) (by decide) (by decide) (fun w21400 h21400 q21400 => ?_)
            obtain ⟨v21402, v21401, rfl, lv21402, uv21402, g21400, kk21400, ev21401, p21400_0, p21400_1⟩ := q21400
            have bv21401 := g21400.rg ad7 (i := 1) (by decide) rf7_1
            rw [ev21401] at bv21401
            have k21400 := k1.tr kk21400 (by decide)
            show jEv _ _ _ _ _ _ _ (_, [(2, 7), (2, 1), (0, 5), (0, a3), (0, x4), (0, x5), (0, x6)], [(0, v21402), (0, 0), (0, x6), (0, x5), (2, 7)], _, _, _)
            refine ev_call (jcall_v (A := [(0, v21402), (0, 0), (0, x6), (0, x5)]) (S' := []) (r := 7) rfl (g21400.lt ad7) (g21400.tg ad7) (Nat.le_of_ble_eq_true rfl)) (jOk_le (by decide) (s80 g21400 (by omega) (by omega) (by omega) (by omega) (by omega) (by omega) (by omega) (by omega))) (by decide) (by decide) (fun w21403 h21403 q21403 => ?_)
            obtain ⟨rfl, g21403, kk21403⟩ := q21403
            have k21403 := k21400.tr kk21403 (by decide)
            show jEv _ _ _ _ _ _ _ (_, [(2, 7), (2, 1), (0, 5), (0, a3), (0, x4), (0, x5), (0, x6)], [], _, _, _)
            refine ev_iinc (w := (x6 + 1)) (L' := [(2, 7), (2, 1), (0, 5), (0, a3), (0, x4), (0, x5), (0, (x6 + 1))]) rfl (by unfold w32; omega) rfl ?_
            refine ev_goto f79_68 ?_
            exact ih _ _ _ _ _ g21403 k21403 (by omega) (by omega) (by omega) (by omega) (by omega) (by omega) (by omega) (by omega) (by omega) (by omega) (((kk21403.v (by decide)).trans ev21401)) (by omega) (by omega) (by omega)
          · refine ev_aload_n rfl ?_
            refine ev_bipush ?_
            refine ev_call (jcall_v (A := [(0, 44)]) (S' := []) (r := 7) rfl (g1.lt ad7) (g1.tg ad7) (Nat.le_of_ble_eq_true rfl)) (jOk_le (by decide) (s71 g1 (by omega) (by omega) (ey0) (by omega) (by omega))) (by decide) (by decide) (fun w21404 h21404 q21404 => ?_)
            obtain ⟨v21405, rfl, g21404, kk21404, ev21405, p21404_0⟩ := q21404
            have bv21405 := g21404.rg ad7 (i := 1) (by decide) rf7_1
            rw [ev21405] at bv21405
            have k21404 := k1.tr kk21404 (by decide)
            show jEv _ _ _ _ _ _ _ (_, [(2, 7), (2, 1), (0, 5), (0, a3), (0, x4), (0, x5), (0, x6)], [], _, _, _)
            refine ev_aload_n rfl ?_
            refine ev_iload rfl ?_
            refine ev_iload rfl ?_
            refine ev_iconst ?_
            refine ev_aload_n rfl ?_
            refine ev_aload_n rfl ?_
            refine ev_iload_n rfl ?_
            refine ev_iconst ?_
            refine ev_iadd (r := 6) (by decide) ?_
            refine ev_iload_n rfl ?_
            refine ev_iconst ?_
            refine ev_iload rfl ?_
            refine g_ishlB (a' := 1) (a := 1) (b := 3) (hi := 8) (by omega) (by omega) (by omega) (by omega) (by decide) (by decide) (fun v21406 ev21406 lv21406 uv21406 => ?_)
            refine g_iorG (fun v21407 ev21407 lv21407 uv21407 => ?_)
            refine ev_call (jcall_v (A := [(0, v21407), (0, 6), (2, 1)]) (S' := [(0, 0), (0, x6), (0, x5), (2, 7)]) (r := 7) rfl (g21404.lt ad7) (g21404.tg ad7) (Nat.le_of_ble_eq_true rfl)) (jOk_le (by decide) (s74_6 g21404 (by omega) (by omega) (ev21405) (by omega) (by omega))) (by decide) (by decide) (fun w21408 h21408 q21408 => ?_)
            obtain ⟨v21410, v21409, rfl, lv21410, uv21410, g21408, kk21408, ev21409, p21408_0, p21408_1⟩ := q21408
            have bv21409 := g21408.rg ad7 (i := 1) (by decide) rf7_1
            rw [ev21409] at bv21409
            have k21408 := k21404.tr kk21408 (by decide)
            show jEv _ _ _ _ _ _ _ (_, [(2, 7), (2, 1), (0, 5), (0, a3), (0, x4), (0, x5), (0, x6)], [(0, v21410), (0, 0), (0, x6), (0, x5), (2, 7)], _, _, _)
            refine ev_call (jcall_v (A := [(0, v21410), (0, 0), (0, x6), (0, x5)]) (S' := []) (r := 7) rfl (g21408.lt ad7) (g21408.tg ad7) (Nat.le_of_ble_eq_true rfl)) (jOk_le (by decide) (s80 g21408 (by omega) (by omega) (by omega) (by omega) (by omega) (by omega) (by omega) (by omega))) (by decide) (by decide) (fun w21411 h21411 q21411 => ?_)
            obtain ⟨rfl, g21411, kk21411⟩ := q21411
            have k21411 := k21408.tr kk21411 (by decide)
            show jEv _ _ _ _ _ _ _ (_, [(2, 7), (2, 1), (0, 5), (0, a3), (0, x4), (0, x5), (0, x6)], [], _, _, _)
            refine ev_iinc (w := (x6 + 1)) (L' := [(2, 7), (2, 1), (0, 5), (0, a3), (0, x4), (0, x5), (0, (x6 + 1))]) rfl (by unfold w32; omega) rfl ?_
            refine ev_goto f79_68 ?_
            exact ih _ _ _ _ _ g21411 k21411 (by omega) (by omega) (by omega) (by omega) (by omega) (by omega) (by omega) (by omega) (by omega) (by omega) (((kk21411.v (by decide)).trans ev21409)) (by omega) (by omega) (by omega)
set_option maxHeartbeats 4000000 in
theorem s79_5 {G : GH} {h : JH} (g : Gd G h) {a3 : Int} (la3 : (-2147483648) ≤ a3) (ua3 : a3 ≤ 2147483647) {w0 : Int} (ew0 : h.2.2 7 1 = w0) (lw0 : (-1) ≤ w0) (uw0 : w0 ≤ 200) {w1 : Int} (ew1 : h.2.2 7 2 = w1) (lw1 : 0 ≤ w1) (uw1 : w1 ≤ 199) : jOk 18 0 0 79 [(2, 7), (2, 1), (0, 5), (0, a3)] h (fun v h' => ∃ r F : Int, v = some (0, r) ∧ (-1) ≤ r ∧ r ≤ 199 ∧ Gd G h' ∧ Kp [(7, 2), (7, 3), (7, 4), (10, 0), (11, 0), (12, 0), (13, 0), (14, 0), (15, 0), (16, 0), (17, 0)] h h' ∧ h'.2.2 7 1 = F ∧ ((-F) + w0) ≤ 0 ∧ ((-F) + (-r)) ≤ 1) := by
  refine ⟨by decide, by rw [ml79]; exact Nat.le_of_ble_eq_true rfl, ?_⟩
  rw [ml79, pp79]
  show jEv _ none _ c79_0 0 0 _ (c79_0, [(2, 7), (2, 1), (0, 5), (0, a3), (9, 0), (9, 0), (9, 0)], [], h, 0, 0)
  have k0 := Kp.rf [(7, 2), (7, 3), (7, 4), (10, 0), (11, 0), (12, 0), (13, 0), (14, 0), (15, 0), (16, 0), (17, 0)] h
  refine ev_aload_n rfl ?_
  refine ev_dup (by decide) ?_
  refine g_getv (r := 7) (v := w1) g ad7 (by decide) ft5_2 (ew1) ?_
  refine ev_iconst ?_
  refine ev_iadd (r := (w1 + 1)) (by unfold w32; omega) ?_
  refine g_putf (r := 7) g ad7 (by decide) ft5_2 (by decide) (fun e => absurd e nz5_2) rf7_2 (by decide) (by omega) (by omega) (fun h21412 e21412 g21412 => ?_)
  have k21412 := k0.wr e21412 rfl
  refine ev_aload_n rfl ?_
  refine ev_in (d := 16) (a := 0) (b := 0) (cd' := c68_0) (m := 1) (L0 := [(2, 7)]) (jcall_v (A := []) (S' := []) (r := 7) rfl (g21412.lt ad7) (g21412.tg ad7) (Nat.le_of_ble_eq_true rfl)) (by decide) ml68 pp68 (Nat.le_of_ble_eq_true rfl) rfl (by decide) (by decide) ?_
  refine ev_aload_n rfl ?_
  refine g_getv (r := 7) (v := (w1 + 1)) g21412 ad7 (by decide) ft5_2 ((jw_eq e21412)) ?_
  refine ev_aload_n rfl ?_
  obtain ⟨v21413, ev21413, lv21413, uv21413⟩ := g21412.rd ad7 (show 0 < 15 by decide) rf7_0
  refine g_getv (r := 7) (v := v21413) g21412 ad7 (by decide) ft5_0 ev21413 ?_
  refine ev_icmpge f68_27 (fun c21414 => ?_) (fun c21414 => ?_)
  · refine ev_iconst ?_
    refine ev_ret rfl (by decide) (by decide) ?_
    show jEv _ _ _ _ _ _ _ (_, [(2, 7), (2, 1), (0, 5), (0, a3), (9, 0), (9, 0), (9, 0)], [(0, (-1))], _, _, _)
    refine ev_bipush ?_
    refine ev_isub (r := (-98)) (by decide) ?_
    refine ev_istore (L' := [(2, 7), (2, 1), (0, 5), (0, a3), (0, (-98)), (9, 0), (9, 0)]) (Nat.le_of_ble_eq_true rfl) rfl ?_
    refine ev_aload_n rfl ?_
    refine ev_iload rfl ?_
    refine ev_in (d := 16) (a := 0) (b := 0) (cd' := c140_0) (m := 2) (L0 := [(2, 1), (0, (-98))]) (jcall_v (A := [(0, (-98))]) (S' := []) (r := 1) rfl (g21412.lt ad1) (g21412.tg ad1) (Nat.le_of_ble_eq_true rfl)) (by decide) ml140 pp140 (Nat.le_of_ble_eq_true rfl) rfl (by decide) (by decide) ?_
    refine ev_iload_n rfl ?_
    refine ev_iflt f140_16 (fun c21415 => ?_) (fun c21415 => absurd c21415 (by omega))
    refine ev_iconst ?_
    refine ev_ret rfl (by decide) (by decide) ?_
    show jEv _ _ _ _ _ _ _ (_, [(2, 7), (2, 1), (0, 5), (0, a3), (0, (-98)), (9, 0), (9, 0)], [(0, 0)], _, _, _)
    refine ev_ifeq f79_37 (fun c21416 => ?_) (fun c21416 => absurd c21416 (by omega))
    refine ev_aload_n rfl ?_
    refine ev_in (d := 16) (a := 0) (b := 0) (cd' := c70_0) (m := 1) (L0 := [(2, 7)]) (jcall_v (A := []) (S' := []) (r := 7) rfl (g21412.lt ad7) (g21412.tg ad7) (Nat.le_of_ble_eq_true rfl)) (by decide) ml70 pp70 (Nat.le_of_ble_eq_true rfl) rfl (by decide) (by decide) ?_
    refine ev_aload_n rfl ?_
    refine g_getv (r := 7) (v := w0) g21412 ad7 (by decide) ft5_1 (((jw_ne e21412 (Or.inr (by decide))).trans ew0)) ?_
    refine ev_ifge f70_15 (fun c21417 => ?_) (fun c21417 => ?_)
    · refine ev_ret rfl (by decide) (by decide) ?_
      show jEv _ _ _ _ _ _ _ (_, [(2, 7), (2, 1), (0, 5), (0, a3), (0, (-98)), (9, 0), (9, 0)], [], _, _, _)
      refine ev_iconst ?_
      exact ev_ret rfl (by decide) (by decide) ⟨_, _, rfl, by omega, by omega, g21412, k21412, (((jw_ne e21412 (Or.inr (by decide))).trans ew0)), by omega, by omega⟩
    · refine ev_aload_n rfl ?_
      refine ev_aload_n rfl ?_
      refine g_getv (r := 7) (v := (w1 + 1)) g21412 ad7 (by decide) ft5_2 ((jw_eq e21412)) ?_
      refine g_putf (r := 7) g21412 ad7 (by decide) ft5_1 (by decide) (fun e => absurd e nz5_1) rf7_1 (by decide) (by omega) (by omega) (fun h21418 e21418 g21418 => ?_)
      have k21418 := k21412.wr e21418 rfl
      refine ev_ret rfl (by decide) (by decide) ?_
      show jEv _ _ _ _ _ _ _ (_, [(2, 7), (2, 1), (0, 5), (0, a3), (0, (-98)), (9, 0), (9, 0)], [], _, _, _)
      refine ev_iconst ?_
      exact ev_ret rfl (by decide) (by decide) ⟨_, _, rfl, by omega, by omega, g21418, k21418, ((jw_eq e21418)), by omega, by omega⟩
  · refine ev_aload_n rfl ?_
    refine g_getp (r := 7) (c := 8) g21412 ad7 (by decide) (by decide) rf7_5 ft5_5 ?_
    refine ev_aload_n rfl ?_
    refine g_getv (r := 7) (v := (w1 + 1)) g21412 ad7 (by decide) ft5_2 ((jw_eq e21412)) ?_
    refine g_bald g21412 ad8 rt8 (by omega) (by omega) (fun v21419 ev21419 lv21419 uv21419 => ?_)
    refine ev_sipush ?_
    refine g_iandB (b := 255) (by omega) (by omega) (by decide) (fun v21420 ev21420 lv21420 uv21420 => ?_)
    refine ev_goto f68_28 ?_
    refine ev_ret rfl (by decide) (by decide) ?_
    show jEv _ _ _ _ _ _ _ (_, [(2, 7), (2, 1), (0, 5), (0, a3), (9, 0), (9, 0), (9, 0)], [(0, v21420)], _, _, _)
    refine ev_bipush ?_
    refine ev_isub (r := (v21420 - 97)) (by unfold w32; omega) ?_
    refine ev_istore (L' := [(2, 7), (2, 1), (0, 5), (0, a3), (0, (v21420 - 97)), (9, 0), (9, 0)]) (Nat.le_of_ble_eq_true rfl) rfl ?_
    refine ev_aload_n rfl ?_
    refine ev_iload rfl ?_
    refine ev_in (d := 16) (a := 0) (b := 0) (cd' := c140_0) (m := 2) (L0 := [(2, 1), (0, (v21420 - 97))]) (jcall_v (A := [(0, (v21420 - 97))]) (S' := []) (r := 1) rfl (g21412.lt ad1) (g21412.tg ad1) (Nat.le_of_ble_eq_true rfl)) (by decide) ml140 pp140 (Nat.le_of_ble_eq_true rfl) rfl (by decide) (by decide) ?_
    refine ev_iload_n rfl ?_
    refine ev_iflt f140_16 (fun c21421 => ?_) (fun c21421 => ?_)
    · refine ev_iconst ?_
      refine ev_ret rfl (by decide) (by decide) ?_
      show jEv _ _ _ _ _ _ _ (_, [(2, 7), (2, 1), (0, 5), (0, a3), (0, (v21420 - 97)), (9, 0), (9, 0)], [(0, 0)], _, _, _)
      refine ev_ifeq f79_37 (fun c21422 => ?_) (fun c21422 => absurd c21422 (by omega))
      refine ev_aload_n rfl ?_
      refine ev_in (d := 16) (a := 0) (b := 0) (cd' := c70_0) (m := 1) (L0 := [(2, 7)]) (jcall_v (A := []) (S' := []) (r := 7) rfl (g21412.lt ad7) (g21412.tg ad7) (Nat.le_of_ble_eq_true rfl)) (by decide) ml70 pp70 (Nat.le_of_ble_eq_true rfl) rfl (by decide) (by decide) ?_
      refine ev_aload_n rfl ?_
      refine g_getv (r := 7) (v := w0) g21412 ad7 (by decide) ft5_1 (((jw_ne e21412 (Or.inr (by decide))).trans ew0)) ?_
      refine ev_ifge f70_15 (fun c21423 => ?_) (fun c21423 => ?_)
      · refine ev_ret rfl (by decide) (by decide) ?_
        show jEv _ _ _ _ _ _ _ (_, [(2, 7), (2, 1), (0, 5), (0, a3), (0, (v21420 - 97)), (9, 0), (9, 0)], [], _, _, _)
        refine ev_iconst ?_
        exact ev_ret rfl (by decide) (by decide) ⟨_, _, rfl, by omega, by omega, g21412, k21412, (((jw_ne e21412 (Or.inr (by decide))).trans ew0)), by omega, by omega⟩
      · refine ev_aload_n rfl ?_
        refine ev_aload_n rfl ?_
        refine g_getv (r := 7) (v := (w1 + 1)) g21412 ad7 (by decide) ft5_2 ((jw_eq e21412)) ?_
        refine g_putf (r := 7) g21412 ad7 (by decide) ft5_1 (by decide) (fun e => absurd e nz5_1) rf7_1 (by decide) (by omega) (by omega) (fun h21424 e21424 g21424 => ?_)
        have k21424 := k21412.wr e21424 rfl
        refine ev_ret rfl (by decide) (by decide) ?_
        show jEv _ _ _ _ _ _ _ (_, [(2, 7), (2, 1), (0, 5), (0, a3), (0, (v21420 - 97)), (9, 0), (9, 0)], [], _, _, _)
        refine ev_iconst ?_
        exact ev_ret rfl (by decide) (by decide) ⟨_, _, rfl, by omega, by omega, g21424, k21424, ((jw_eq e21424)), by omega, by omega⟩
    · refine ev_iload_n rfl ?_
      refine ev_aload_n rfl ?_
      obtain ⟨v21425, ev21425, lv21425, uv21425⟩ := g21412.rd ad1 (show 0 < 8 by decide) rf1_0
      refine g_getv (r := 1) (v := v21425) g21412 ad1 (by decide) ft10_0 ev21425 ?_
      refine ev_icmpge f140_16 (fun c21426 => ?_) (fun c21426 => ?_)
      · refine ev_iconst ?_
        refine ev_ret rfl (by decide) (by decide) ?_
        show jEv _ _ _ _ _ _ _ (_, [(2, 7), (2, 1), (0, 5), (0, a3), (0, (v21420 - 97)), (9, 0), (9, 0)], [(0, 0)], _, _, _)
        refine ev_ifeq f79_37 (fun c21427 => ?_) (fun c21427 => absurd c21427 (by omega))
        refine ev_aload_n rfl ?_
        refine ev_in (d := 16) (a := 0) (b := 0) (cd' := c70_0) (m := 1) (L0 := [(2, 7)]) (jcall_v (A := []) (S' := []) (r := 7) rfl (g21412.lt ad7) (g21412.tg ad7) (Nat.le_of_ble_eq_true rfl)) (by decide) ml70 pp70 (Nat.le_of_ble_eq_true rfl) rfl (by decide) (by decide) ?_
        refine ev_aload_n rfl ?_
        refine g_getv (r := 7) (v := w0) g21412 ad7 (by decide) ft5_1 (((jw_ne e21412 (Or.inr (by decide))).trans ew0)) ?_
        refine ev_ifge f70_15 (fun c21428 => ?_) (fun c21428 => ?_)
        · refine ev_ret rfl (by decide) (by decide) ?_
          show jEv _ _ _ _ _ _ _ (_, [(2, 7), (2, 1), (0, 5), (0, a3), (0, (v21420 - 97)), (9, 0), (9, 0)], [], _, _, _)
          refine ev_iconst ?_
          exact ev_ret rfl (by decide) (by decide) ⟨_, _, rfl, by omega, by omega, g21412, k21412, (((jw_ne e21412 (Or.inr (by decide))).trans ew0)), by omega, by omega⟩
        · refine ev_aload_n rfl ?_
          refine ev_aload_n rfl ?_
          refine g_getv (r := 7) (v := (w1 + 1)) g21412 ad7 (by decide) ft5_2 ((jw_eq e21412)) ?_
          refine g_putf (r := 7) g21412 ad7 (by decide) ft5_1 (by decide) (fun e => absurd e nz5_1) rf7_1 (by decide) (by omega) (by omega) (fun h21429 e21429 g21429 => ?_)
          have k21429 := k21412.wr e21429 rfl
          refine ev_ret rfl (by decide) (by decide) ?_
          show jEv _ _ _ _ _ _ _ (_, [(2, 7), (2, 1), (0, 5), (0, a3), (0, (v21420 - 97)), (9, 0), (9, 0)], [], _, _, _)
          refine ev_iconst ?_
          exact ev_ret rfl (by decide) (by decide) ⟨_, _, rfl, by omega, by omega, g21429, k21429, ((jw_eq e21429)), by omega, by omega⟩
      · refine ev_iconst ?_
        refine ev_goto f140_17 ?_
        refine ev_ret rfl (by decide) (by decide) ?_
        show jEv _ _ _ _ _ _ _ (_, [(2, 7), (2, 1), (0, 5), (0, a3), (0, (v21420 - 97)), (9, 0), (9, 0)], [(0, 1)], _, _, _)
        refine ev_ifeq f79_37 (fun c21430 => absurd c21430 (by omega)) (fun c21430 => ?_)
        refine ev_iload_n rfl ?_
        refine ev_iload rfl ?_
        refine g_ishrG (fun v21431 ev21431 lv21431 uv21431 => ?_)
        refine ev_iconst ?_
        refine g_iandB (b := 1) (by omega) (by omega) (by decide) (fun v21432 ev21432 lv21432 uv21432 => ?_)
        refine ev_ifeq f79_43 (fun c21433 => ?_) (fun c21433 => ?_)
        · refine ev_aload_n rfl ?_
          refine ev_dup (by decide) ?_
          refine g_getv (r := 7) (v := (w1 + 1)) g21412 ad7 (by decide) ft5_2 ((jw_eq e21412)) ?_
          refine ev_iconst ?_
          refine ev_iadd (r := (w1 + 2)) (by unfold w32; omega) ?_
          refine g_putf (r := 7) g21412 ad7 (by decide) ft5_2 (by decide) (fun e => absurd e nz5_2) rf7_2 (by decide) (by omega) (by omega) (fun h21434 e21434 g21434 => ?_)
          have k21434 := k21412.wr e21434 rfl
          refine ev_aload_n rfl ?_
          refine ev_iload_n rfl ?_
          refine ev_call (jcall_v (A := [(0, 5)]) (S' := []) (r := 7) rfl (g21434.lt ad7) (g21434.tg ad7) (Nat.le_of_ble_eq_true rfl)) (jOk_le (by decide) (s72 g21434 (by omega) (by omega) (((jw_ne e21434 (Or.inr (by decide))).trans ((jw_ne e21412 (Or.inr (by decide))).trans ew0))) (by omega) (by omega))) (by decide) (by decide) (fun w21435 h21435 q21435 => ?_)
          obtain ⟨v21436, rfl, g21435, kk21435, ev21436, p21435_0⟩ := q21435
          have bv21436 := g21435.rg ad7 (i := 1) (by decide) rf7_1
          rw [ev21436] at bv21436
          have k21435 := k21434.tr kk21435 (by decide)
          show jEv _ _ _ _ _ _ _ (_, [(2, 7), (2, 1), (0, 5), (0, a3), (0, (v21420 - 97)), (9, 0), (9, 0)], [], _, _, _)
          refine ev_aload_n rfl ?_
          refine ev_iconst ?_
          refine ev_call (jcall_v (A := [(0, 2)]) (S' := []) (r := 7) rfl (g21435.lt ad7) (g21435.tg ad7) (Nat.le_of_ble_eq_true rfl)) (jOk_le (by decide) (s73 g21435 (by omega) (by omega) (ev21436) (by omega) (by omega))) (by decide) (by decide) (fun w21437 h21437 q21437 => ?_)
          obtain ⟨v21439, v21438, rfl, lv21439, uv21439, g21437, kk21437, ev21438, p21437_0, p21437_1⟩ := q21437
          have bv21438 := g21437.rg ad7 (i := 1) (by decide) rf7_1
          rw [ev21438] at bv21438
          have k21437 := k21435.tr kk21437 (by decide)
          show jEv _ _ _ _ _ _ _ (_, [(2, 7), (2, 1), (0, 5), (0, a3), (0, (v21420 - 97)), (9, 0), (9, 0)], [(0, v21439)], _, _, _)
          refine ev_istore (L' := [(2, 7), (2, 1), (0, 5), (0, a3), (0, (v21420 - 97)), (0, v21439), (9, 0)]) (Nat.le_of_ble_eq_true rfl) rfl ?_
          refine ev_iconst ?_
          refine ev_istore (L' := [(2, 7), (2, 1), (0, 5), (0, a3), (0, (v21420 - 97)), (0, v21439), (0, 0)]) (Nat.le_of_ble_eq_true rfl) rfl ?_
          exact (s79_5_l la3 ua3 ew0 lw0 uw0 ew1 lw1 uw1 8) _ _ _ _ _ g21437 k21437 (by omega) (by omega) (by omega) (by omega) (by omega) (by omega) (by omega) (by omega) (by omega) (by omega) (ev21438) (by omega) (by omega) (by omega)
        · refine ev_aload_n rfl ?_
          refine ev_in (d := 16) (a := 0) (b := 0) (cd' := c70_0) (m := 1) (L0 := [(2, 7)]) (jcall_v (A := []) (S' := []) (r := 7) rfl (g21412.lt ad7) (g21412.tg ad7) (Nat.le_of_ble_eq_true rfl)) (by decide) ml70 pp70 (Nat.le_of_ble_eq_true rfl) rfl (by decide) (by decide) ?_
          refine ev_aload_n rfl ?_
          refine g_getv (r := 7) (v := w0) g21412 ad7 (by decide) ft5_1 (((jw_ne e21412 (Or.inr (by decide))).trans ew0)) ?_
          refine ev_ifge f70_15 (fun c21440 => ?_) (fun c21440 => ?_)
          · refine ev_ret rfl (by decide) (by decide) ?_
            show jEv _ _ _ _ _ _ _ (_, [(2, 7), (2, 1), (0, 5), (0, a3), (0, (v21420 - 97)), (9, 0), (9, 0)], [], _, _, _)
            refine ev_iconst ?_
            exact ev_ret rfl (by decide) (by decide) ⟨_, _, rfl, by omega, by omega, g21412, k21412, (((jw_ne e21412 (Or.inr (by decide))).trans ew0)), by omega, by omega⟩
          · refine ev_aload_n rfl ?_
            refine ev_aload_n rfl ?_
            refine g_getv (r := 7) (v := (w1 + 1)) g21412 ad7 (by decide) ft5_2 ((jw_eq e21412)) ?_
            refine g_putf (r := 7) g21412 ad7 (by decide) ft5_1 (by decide) (fun e => absurd e nz5_1) rf7_1 (by decide) (by omega) (by omega) (fun h21441 e21441 g21441 => ?_)
            have k21441 := k21412.wr e21441 rfl
            refine ev_ret rfl (by decide) (by decide) ?_
            show jEv _ _ _ _ _ _ _ (_, [(2, 7), (2, 1), (0, 5), (0, a3), (0, (v21420 - 97)), (9, 0), (9, 0)], [], _, _, _)
            refine ev_iconst ?_
            exact ev_ret rfl (by decide) (by decide) ⟨_, _, rfl, by omega, by omega, g21441, k21441, ((jw_eq e21441)), by omega, by omega⟩
/-! s74_5  -/
set_option maxHeartbeats 4000000 in
theorem s74_5 {G : GH} {h : JH} (g : Gd G h) {a3 : Int} (la3 : (-2147483648) ≤ a3) (ua3 : a3 ≤ 2147483647) {w0 : Int} (ew0 : h.2.2 7 1 = w0) (lw0 : (-1) ≤ w0) (uw0 : w0 ≤ 200) : jOk 19 0 0 74 [(2, 7), (2, 1), (0, 5), (0, a3)] h (fun v h' => ∃ r F : Int, v = some (0, r) ∧ (-1) ≤ r ∧ r ≤ 199 ∧ Gd G h' ∧ Kp [(7, 2), (7, 3), (7, 4), (10, 0), (11, 0), (12, 0), (13, 0), (14, 0), (15, 0), (16, 0), (17, 0)] h h' ∧ h'.2.2 7 1 = F ∧ ((-F) + w0) ≤ 0 ∧ ((-F) + (-r)) ≤ 1) := by
  refine ⟨by decide, by rw [ml74]; exact Nat.le_of_ble_eq_true rfl, ?_⟩
  rw [ml74, pp74]
  show jEv _ none _ c74_0 0 0 _ (c74_0, [(2, 7), (2, 1), (0, 5), (0, a3), (9, 0)], [], h, 0, 0)
  have k0 := Kp.rf [(7, 2), (7, 3), (7, 4), (10, 0), (11, 0), (12, 0), (13, 0), (14, 0), (15, 0), (16, 0), (17, 0)] h
  refine ev_aload_n rfl ?_
  refine g_getv (r := 7) (v := w0) g ad7 (by decide) ft5_1 (ew0) ?_
  refine ev_ifge f74_13 (fun c21508 => ?_) (fun c21508 => ?_)
  · refine ev_aload_n rfl ?_
    refine ev_in (d := 17) (a := 0) (b := 0) (cd' := c70_0) (m := 1) (L0 := [(2, 7)]) (jcall_v (A := []) (S' := []) (r := 7) rfl (g.lt ad7) (g.tg ad7) (Nat.le_of_ble_eq_true rfl)) (by decide) ml70 pp70 (Nat.le_of_ble_eq_true rfl) rfl (by decide) (by decide) ?_
    refine ev_aload_n rfl ?_
    refine g_getv (r := 7) (v := w0) g ad7 (by decide) ft5_1 (ew0) ?_
    refine ev_ifge f70_15 (fun c21509 => ?_) (fun c21509 => absurd c21509 (by omega))
    refine ev_ret rfl (by decide) (by decide) ?_
    show jEv _ _ _ _ _ _ _ (_, [(2, 7), (2, 1), (0, 5), (0, a3), (9, 0)], [], _, _, _)
    refine ev_iconst ?_
    exact ev_ret rfl (by decide) (by decide) ⟨_, _, rfl, by omega, by omega, g, k0, (ew0), by omega, by omega⟩
  · refine ev_iload_n rfl ?_
    refine ev_bipush ?_
    refine ev_icmple f74_19 (fun c21510 => ?_) (fun c21510 => absurd c21510 (by omega))
    refine ev_aload_n rfl ?_
    refine ev_in (d := 17) (a := 0) (b := 0) (cd' := c68_0) (m := 1) (L0 := [(2, 7)]) (jcall_v (A := []) (S' := []) (r := 7) rfl (g.lt ad7) (g.tg ad7) (Nat.le_of_ble_eq_true rfl)) (by decide) ml68 pp68 (Nat.le_of_ble_eq_true rfl) rfl (by decide) (by decide) ?_
    refine ev_aload_n rfl ?_
    obtain ⟨v21511, ev21511, lv21511, uv21511⟩ := g.rd ad7 (show 2 < 15 by decide) rf7_2
    refine g_getv (r := 7) (v := v21511) g ad7 (by decide) ft5_2 ev21511 ?_
    refine ev_aload_n rfl ?_
    obtain ⟨v21512, ev21512, lv21512, uv21512⟩ := g.rd ad7 (show 0 < 15 by decide) rf7_0
    refine g_getv (r := 7) (v := v21512) g ad7 (by decide) ft5_0 ev21512 ?_
    refine ev_icmpge f68_27 (fun c21513 => ?_) (fun c21513 => ?_)
    · refine ev_iconst ?_
      refine ev_ret rfl (by decide) (by decide) ?_
      show jEv _ _ _ _ _ _ _ (_, [(2, 7), (2, 1), (0, 5), (0, a3), (9, 0)], [(0, (-1))], _, _, _)
      refine ev_istore (L' := [(2, 7), (2, 1), (0, 5), (0, a3), (0, (-1))]) (Nat.le_of_ble_eq_true rfl) rfl ?_
      refine ev_iload rfl ?_
      refine ev_bipush ?_
      refine ev_icmpne f74_40 (fun c21514 => ?_) (fun c21514 => absurd c21514 (by omega))
      refine ev_iload rfl ?_
      refine ev_bipush ?_
      refine ev_icmpne f74_55 (fun c21515 => ?_) (fun c21515 => absurd c21515 (by omega))
      refine ev_iload rfl ?_
      refine ev_bipush ?_
      refine ev_icmplt f74_78 (fun c21516 => ?_) (fun c21516 => absurd c21516 (by omega))
      refine ev_aload_n rfl ?_
      refine ev_call (jcall_v (A := []) (S' := []) (r := 7) rfl (g.lt ad7) (g.tg ad7) (Nat.le_of_ble_eq_true rfl)) (jOk_le (by decide) (s75 g (ew0) (by omega) (by omega))) (by decide) (by decide) (fun w21517 h21517 q21517 => ?_)
      obtain ⟨v21519, v21518, rfl, lv21519, uv21519, g21517, kk21517, ev21518, p21517_0, p21517_1⟩ := q21517
      have bv21518 := g21517.rg ad7 (i := 1) (by decide) rf7_1
      rw [ev21518] at bv21518
      have k21517 := k0.tr kk21517 (by decide)
      show jEv _ _ _ _ _ _ _ (_, [(2, 7), (2, 1), (0, 5), (0, a3), (0, (-1))], [(0, v21519)], _, _, _)
      exact ev_ret rfl (by decide) (by decide) ⟨_, _, rfl, by omega, by omega, g21517, k21517, (ev21518), by omega, by omega⟩
    · refine ev_aload_n rfl ?_
      refine g_getp (r := 7) (c := 8) g ad7 (by decide) (by decide) rf7_5 ft5_5 ?_
      refine ev_aload_n rfl ?_
      refine g_getv (r := 7) (v := v21511) g ad7 (by decide) ft5_2 (ev21511) ?_
      refine g_bald g ad8 rt8 (by omega) (by omega) (fun v21520 ev21520 lv21520 uv21520 => ?_)
      refine ev_sipush ?_
      refine g_iandB (b := 255) (by omega) (by omega) (by decide) (fun v21521 ev21521 lv21521 uv21521 => ?_)
      refine ev_goto f68_28 ?_
      refine ev_ret rfl (by decide) (by decide) ?_
      show jEv _ _ _ _ _ _ _ (_, [(2, 7), (2, 1), (0, 5), (0, a3), (9, 0)], [(0, v21521)], _, _, _)
      refine ev_istore (L' := [(2, 7), (2, 1), (0, 5), (0, a3), (0, v21521)]) (Nat.le_of_ble_eq_true rfl) rfl ?_
      refine ev_iload rfl ?_
      refine ev_bipush ?_
      refine ev_icmpne f74_40 (fun c21522 => ?_) (fun c21522 => ?_)
      · refine ev_iload rfl ?_
        refine ev_bipush ?_
        refine ev_icmpne f74_55 (fun c21523 => ?_) (fun c21523 => ?_)
        · refine ev_iload rfl ?_
          refine ev_bipush ?_
          refine ev_icmplt f74_78 (fun c21524 => ?_) (fun c21524 => ?_)
          · refine ev_aload_n rfl ?_
            refine ev_call (jcall_v (A := []) (S' := []) (r := 7) rfl (g.lt ad7) (g.tg ad7) (Nat.le_of_ble_eq_true rfl)) (jOk_le (by decide) (s75 g (ew0) (by omega) (by omega))) (by decide) (by decide) (fun w21525 h21525 q21525 => ?_)
            obtain ⟨v21527, v21526, rfl, lv21527, uv21527, g21525, kk21525, ev21526, p21525_0, p21525_1⟩ := q21525
            have bv21526 := g21525.rg ad7 (i := 1) (by decide) rf7_1
            rw [ev21526] at bv21526
            have k21525 := k0.tr kk21525 (by decide)
            show jEv _ _ _ _ _ _ _ (_, [(2, 7), (2, 1), (0, 5), (0, a3), (0, v21521)], [(0, v21527)], _, _, _)
            exact ev_ret rfl (by decide) (by decide) ⟨_, _, rfl, by omega, by omega, g21525, k21525, (ev21526), by omega, by omega⟩
          · refine ev_iload rfl ?_
            refine ev_bipush ?_
            refine ev_icmpge f74_78 (fun c21528 => ?_) (fun c21528 => ?_)
            · refine ev_aload_n rfl ?_
              refine ev_call (jcall_v (A := []) (S' := []) (r := 7) rfl (g.lt ad7) (g.tg ad7) (Nat.le_of_ble_eq_true rfl)) (jOk_le (by decide) (s75 g (ew0) (by omega) (by omega))) (by decide) (by decide) (fun w21529 h21529 q21529 => ?_)
              obtain ⟨v21531, v21530, rfl, lv21531, uv21531, g21529, kk21529, ev21530, p21529_0, p21529_1⟩ := q21529
              have bv21530 := g21529.rg ad7 (i := 1) (by decide) rf7_1
              rw [ev21530] at bv21530
              have k21529 := k0.tr kk21529 (by decide)
              show jEv _ _ _ _ _ _ _ (_, [(2, 7), (2, 1), (0, 5), (0, a3), (0, v21521)], [(0, v21531)], _, _, _)
              exact ev_ret rfl (by decide) (by decide) ⟨_, _, rfl, by omega, by omega, g21529, k21529, (ev21530), by omega, by omega⟩
            · refine ev_aload_n rfl ?_
              refine ev_iload_n rfl ?_
              refine ev_iload_n rfl ?_
              refine ev_call (jcall_v (A := [(0, a3), (0, 5)]) (S' := []) (r := 7) rfl (g.lt ad7) (g.tg ad7) (Nat.le_of_ble_eq_true rfl)) (jOk_le (by decide) (s77 g (by omega) (by omega) (by omega) (by omega) (ew0) (by omega) (by omega))) (by decide) (by decide) (fun w21532 h21532 q21532 => ?_)
              obtain ⟨v21534, v21533, rfl, lv21534, uv21534, g21532, kk21532, ev21533, p21532_0, p21532_1⟩ := q21532
              have bv21533 := g21532.rg ad7 (i := 1) (by decide) rf7_1
              rw [ev21533] at bv21533
              have k21532 := k0.tr kk21532 (by decide)
              show jEv _ _ _ _ _ _ _ (_, [(2, 7), (2, 1), (0, 5), (0, a3), (0, v21521)], [(0, v21534)], _, _, _)
              refine ev_goto f74_82 ?_
              exact ev_ret rfl (by decide) (by decide) ⟨_, _, rfl, by omega, by omega, g21532, k21532, (ev21533), by omega, by omega⟩
        · refine ev_aload_n rfl ?_
          refine ev_aload_n rfl ?_
          refine ev_iload_n rfl ?_
          refine ev_iload_n rfl ?_
          refine ev_call (jcall_v (A := [(0, a3), (0, 5), (2, 1)]) (S' := []) (r := 7) rfl (g.lt ad7) (g.tg ad7) (Nat.le_of_ble_eq_true rfl)) (jOk_le (by decide) (s79_5 g (by omega) (by omega) (ew0) (by omega) (by omega) (ev21511) (by omega) (by omega))) (by decide) (by decide) (fun w21535 h21535 q21535 => ?_)
          obtain ⟨v21537, v21536, rfl, lv21537, uv21537, g21535, kk21535, ev21536, p21535_0, p21535_1⟩ := q21535
          have bv21536 := g21535.rg ad7 (i := 1) (by decide) rf7_1
          rw [ev21536] at bv21536
          have k21535 := k0.tr kk21535 (by decide)
          show jEv _ _ _ _ _ _ _ (_, [(2, 7), (2, 1), (0, 5), (0, a3), (0, v21521)], [(0, v21537)], _, _, _)
          exact ev_ret rfl (by decide) (by decide) ⟨_, _, rfl, by omega, by omega, g21535, k21535, (ev21536), by omega, by omega⟩
      · refine ev_aload_n rfl ?_
        refine ev_aload_n rfl ?_
        refine ev_iload_n rfl ?_
        refine ev_iload_n rfl ?_
        refine ev_call (jcall_v (A := [(0, a3), (0, 5), (2, 1)]) (S' := []) (r := 7) rfl (g.lt ad7) (g.tg ad7) (Nat.le_of_ble_eq_true rfl)) (jOk_le (by decide) (s78_5 g (by omega) (by omega) (ew0) (by omega) (by omega) (ev21511) (by omega) (by omega))) (by decide) (by decide) (fun w21538 h21538 q21538 => ?_)
        obtain ⟨v21540, v21539, rfl, lv21540, uv21540, g21538, kk21538, ev21539, p21538_0, p21538_1⟩ := q21538
        have bv21539 := g21538.rg ad7 (i := 1) (by decide) rf7_1
        rw [ev21539] at bv21539
        have k21538 := k0.tr kk21538 (by decide)
        show jEv _ _ _ _ _ _ _ (_, [(2, 7), (2, 1), (0, 5), (0, a3), (0, v21521)], [(0, v21540)], _, _, _)
        exact ev_ret rfl (by decide) (by decide) ⟨_, _, rfl, by omega, by omega, g21538, k21538, (ev21539), by omega, by omega⟩
/-! s78_4  -/
set_option maxHeartbeats 4000000 in
theorem s78_4_l {G : GH} {h : JH} {a3 : Int} (la3 : (-2147483648) ≤ a3) (ua3 : a3 ≤ 2147483647) {w0 : Int} (ew0 : h.2.2 7 1 = w0) (lw0 : (-1) ≤ w0) (uw0 : w0 ≤ 200) {w1 : Int} (ew1 : h.2.2 7 2 = w1) (lw1 : 0 ≤ w1) (uw1 : w1 ≤ 199) : ∀ N : Nat, (∀ (h1 : JH) (x4 x5 y0 : Int) (j6 : AV), Gd G h1 → Kp [(7, 2), (7, 3), (7, 4), (10, 0), (11, 0), (12, 0), (13, 0), (14, 0), (15, 0), (16, 0), (17, 0)] h h1 → (-2147483648) ≤ a3 → a3 ≤ 2147483647 → (-1) ≤ x4 → x4 ≤ 199 → 0 ≤ x5 → x5 ≤ 3 → (w0 + (-y0)) ≤ 0 → ((-x4) + (-y0)) ≤ 1 → h1.2.2 7 1 = y0 → (-1) ≤ y0 → y0 ≤ 200 → ((-x5) + 3) < N → jEv (jOk 19) none (fun _ => 0) c78_0 0 0 (fun v h' => ∃ r F : Int, v = some (0, r) ∧ (-1) ≤ r ∧ r ≤ 199 ∧ Gd G h' ∧ Kp [(7, 2), (7, 3), (7, 4), (10, 0), (11, 0), (12, 0), (13, 0), (14, 0), (15, 0), (16, 0), (17, 0)] h h' ∧ h'.2.2 7 1 = F ∧ ((-F) + w0) ≤ 0 ∧ ((-F) + (-r)) ≤ 1) (c78_25, [(2, 7), (2, 1), (0, 4), (0, a3), (0, x4), (0, x5), j6], [], h1, 0, 0)) := by
  intro N
  induction N with
  | zero => exact fun h1 x4 x5 y0 j6 g1 k1 b0 b1 b2 b3 b4 b5 b6 b7 b8 b9 b10 hm => absurd hm (by omega)
  | succ N ih =>
    show _
    intro h1 x4 x5 y0 j6 g1 k1 b0 b1 b2 b3 b4 b5 b6 b7 ey0 ly0 uy0 hm
    refine ev_iload rfl ?_
    refine ev_iconst ?_
    refine ev_icmpge f78_100 (fun c21709 => absurd c21709 (by omega)) (fun c21709 => ?_)
    refine ev_aload_n rfl ?_
    refine g_getv (r := 7) (v := y0) g1 ad7 (by decide) ft5_1 (ey0) ?_
    refine ev_ifge f78_100 (fun c21710 => ?_) (fun c21710 => ?_)
    · refine ev_aload_n rfl ?_
      refine ev_bipush ?_
      refine ev_call (jcall_v (A := [(0, 41)]) (S' := []) (r := 7) rfl (g1.lt ad7) (g1.tg ad7) (Nat.le_of_ble_eq_true rfl)) (jOk_le (by decide) (s71 g1 (by omega) (by omega) (ey0) (by omega) (by omega))) (by decide) (by decide) (fun w21711 h21711 q21711 => ?_)
      obtain ⟨v21712, rfl, g21711, kk21711, ev21712, p21711_0⟩ := q21711
      have bv21712 := g21711.rg ad7 (i := 1) (by decide) rf7_1
      rw [ev21712] at bv21712
      have k21711 := k1.tr kk21711 (by decide)
      show jEv _ _ _ _ _ _ _ (_, [(2, 7), (2, 1), (0, 4), (0, a3), (0, x4), (0, x5), j6], [], _, _, _)
      refine ev_aload_n rfl ?_
      refine g_getv (r := 7) (v := v21712) g21711 ad7 (by decide) ft5_1 (ev21712) ?_
      refine ev_iflt f78_117 (fun c21713 => absurd c21713 (by omega)) (fun c21713 => ?_)
      refine ev_iconst ?_
      refine ev_goto f78_119 ?_
      exact ev_ret rfl (by decide) (by decide) ⟨_, _, rfl, by omega, by omega, g21711, k21711, (ev21712), by omega, by omega⟩
    · refine ev_aload_n rfl ?_
      refine ev_iconst ?_
      refine ev_call (jcall_v (A := [(0, 2)]) (S' := []) (r := 7) rfl (g1.lt ad7) (g1.tg ad7) (Nat.le_of_ble_eq_true rfl)) (jOk_le (by decide) (s76 g1 (by omega) (by omega) (ey0) (by omega) (by omega))) (by decide) (by decide) (fun w21714 h21714 q21714 => ?_)
      obtain ⟨v21716, v21715, rfl, lv21716, uv21716, g21714, kk21714, ev21715, p21714_0⟩ := q21714
      have bv21715 := g21714.rg ad7 (i := 1) (by decide) rf7_1
      rw [ev21715] at bv21715
      have k21714 := k1.tr kk21714 (by decide)
      show jEv _ _ _ _ _ _ _ (_, [(2, 7), (2, 1), (0, 4), (0, a3), (0, x4), (0, x5), j6], [(0, v21716)], _, _, _)
      refine ev_istore (L' := [(2, 7), (2, 1), (0, 4), (0, a3), (0, x4), (0, x5), (0, v21716)]) (Nat.le_of_ble_eq_true rfl) rfl ?_
      refine ev_aload_n rfl ?_
      refine ev_bipush ?_
      refine ev_call (jcall_v (A := [(0, 58)]) (S' := []) (r := 7) rfl (g21714.lt ad7) (g21714.tg ad7) (Nat.le_of_ble_eq_true rfl)) (jOk_le (by decide) (s71 g21714 (by omega) (by omega) (ev21715) (by omega) (by omega))) (by decide) (by decide) (fun w21717 h21717 q21717 => ?_)
      obtain ⟨v21718, rfl, g21717, kk21717, ev21718, p21717_0⟩ := q21717
      have bv21718 := g21717.rg ad7 (i := 1) (by decide) rf7_1
      rw [ev21718] at bv21718
      have k21717 := k21714.tr kk21717 (by decide)
      show jEv _ _ _ _ _ _ _ (_, [(2, 7), (2, 1), (0, 4), (0, a3), (0, x4), (0, x5), (0, v21716)], [], _, _, _)
      refine ev_aload_n rfl ?_
      refine ev_iload rfl ?_
      refine ev_iload rfl ?_
      refine ev_iload rfl ?_
      refine ev_aload_n rfl ?_
      refine ev_aload_n rfl ?_
      refine ev_iload_n rfl ?_
      refine ev_iconst ?_
      refine ev_iadd (r := 5) (by decide) ?_
      refine ev_iload_n rfl ?_
      refine ev_call (jcall_v (A := [(0, a3), (0, 5), (2, 1)]) (S' := [(0, v21716), (0, x5), (0, x4), (2, 7)]) (r := 7) rfl (g21717.lt ad7) (g21717.tg ad7) (Nat.le_of_ble_eq_true rfl)) (jOk_le (by decide) (s74_5 g21717 (by omega) (by omega) (ev21718) (by omega) (by omega))) (by decide) (by decide) (fun w21719 h21719 q21719 => ?_)
      obtain ⟨v21721, v21720, rfl, lv21721, uv21721, g21719, kk21719, ev21720, p21719_0, p21719_1⟩ := q21719
      have bv21720 := g21719.rg ad7 (i := 1) (by decide) rf7_1
      rw [ev21720] at bv21720
      have k21719 := k21717.tr kk21719 (by decide)
      show jEv _ _ _ _ _ _ _ (_, [(2, 7), (2, 1), (0, 4), (0, a3), (0, x4), (0, x5), (0, v21716)], [(0, v21721), (0, v21716), (0, x5), (0, x4), (2, 7)], _, _, _)
      refine ev_call (jcall_v (A := [(0, v21721), (0, v21716), (0, x5), (0, x4)]) (S' := []) (r := 7) rfl (g21719.lt ad7) (g21719.tg ad7) (Nat.le_of_ble_eq_true rfl)) (jOk_le (by decide) (s80 g21719 (by omega) (by omega) (by omega) (by omega) (by omega) (by omega) (by omega) (by omega))) (by decide) (by decide) (fun w21722 h21722 q21722 => ?_)
      obtain ⟨rfl, g21722, kk21722⟩ := q21722
      have k21722 := k21719.tr kk21722 (by decide)
      show jEv _ _ _ _ _ _ _ (_, [(2, 7), (2, 1), (0, 4), (0, a3), (0, x4), (0, x5), (0, v21716)], [], _, _, _)
      refine ev_aload_n rfl ?_
      refine ev_in (d := 18) (a := 0) (b := 0) (cd' := c68_0) (m := 1) (L0 := [(2, 7)]) (jcall_v (A := []) (S' := []) (r := 7) rfl (g21722.lt ad7) (g21722.tg ad7) (Nat.le_of_ble_eq_true rfl)) (by decide) ml68 pp68 (Nat.le_of_ble_eq_true rfl) rfl (by decide) (by decide) ?_
      refine ev_aload_n rfl ?_
      obtain ⟨v21723, ev21723, lv21723, uv21723⟩ := g21722.rd ad7 (show 2 < 15 by decide) rf7_2
      refine g_getv (r := 7) (v := v21723) g21722 ad7 (by decide) ft5_2 ev21723 ?_
      refine ev_aload_n rfl ?_
      obtain ⟨v21724, ev21724, lv21724, uv21724⟩ := g21722.rd ad7 (show 0 < 15 by decide) rf7_0
      refine g_getv (r := 7) (v := v21724) g21722 ad7 (by decide) ft5_0 ev21724 ?_
      refine ev_icmpge f68_27 (fun c21725 => ?_) (fun c21725 => ?_)
      · refine ev_iconst ?_
        refine ev_ret rfl (by decide) (by decide) ?_
        show jEv _ _ _ _ _ _ _ (_, [(2, 7), (2, 1), (0, 4), (0, a3), (0, x4), (0, x5), (0, v21716)], [(0, (-1))], _, _, _)
        refine ev_bipush ?_
        refine ev_icmpne f78_100 (fun c21726 => ?_) (fun c21726 => absurd c21726 (by omega))
        refine ev_aload_n rfl ?_
        refine ev_bipush ?_
        refine ev_call (jcall_v (A := [(0, 41)]) (S' := []) (r := 7) rfl (g21722.lt ad7) (g21722.tg ad7) (Nat.le_of_ble_eq_true rfl)) (jOk_le (by decide) (s71 g21722 (by omega) (by omega) (((kk21722.v (by decide)).trans ev21720)) (by omega) (by omega))) (by decide) (by decide) (fun w21727 h21727 q21727 => ?_)
        obtain ⟨v21728, rfl, g21727, kk21727, ev21728, p21727_0⟩ := q21727
        have bv21728 := g21727.rg ad7 (i := 1) (by decide) rf7_1
        rw [ev21728] at bv21728
        have k21727 := k21722.tr kk21727 (by decide)
        show jEv _ _ _ _ _ _ _ (_, [(2, 7), (2, 1), (0, 4), (0, a3), (0, x4), (0, x5), (0, v21716)], [], _, _, _)
        refine ev_aload_n rfl ?_
        refine g_getv (r := 7) (v := v21728) g21727 ad7 (by decide) ft5_1 (ev21728) ?_
        refine ev_iflt f78_117 (fun c21729 => ?_) (fun c21729 => ?_)
        · refine ev_iload rfl ?_
          exact ev_ret rfl (by decide) (by decide) ⟨_, _, rfl, by omega, by omega, g21727, k21727, (ev21728), by omega, by omega⟩
        · refine ev_iconst ?_
          refine ev_goto f78_119 ?_
          exact ev_ret rfl (by decide) (by decide) ⟨_, _, rfl, by omega, by omega, g21727, k21727, (ev21728), by omega, by omega⟩
      · refine ev_aload_n rfl ?_
        refine g_getp (r := 7) (c := 8) g21722 ad7 (by decide) (by decide) rf7_5 ft5_5 ?_
        refine ev_aload_n rfl ?_
        refine g_getv (r := 7) (v := v21723) g21722 ad7 (by decide) ft5_2 (ev21723) ?_
        refine g_bald g21722 ad8 rt8 (by omega) (by omega) (fun v21730 ev21730 lv21730 uv21730 => ?_)
        refine ev_sipush ?_
        refine g_iandB (b := 255) (by omega) (by omega) (by decide) (fun v21731 ev21731 lv21731 uv21731 => ?_)
        refine ev_goto f68_28 ?_
        refine ev_ret rfl (by decide) (by decide) ?_
        show jEv _ _ _ _ _ _ _ (_, [(2, 7), (2, 1), (0, 4), (0, a3), (0, x4), (0, x5), (0, v21716)], [(0, v21731)], _, _, _)
        refine ev_bipush ?_
        refine ev_icmpne f78_100 (fun c21732 => ?_) (fun c21732 => ?_)
        · refine ev_aload_n rfl ?_
          refine ev_bipush ?_
          refine ev_call (jcall_v (A := [(0, 41)]) (S' := []) (r := 7) rfl (g21722.lt ad7) (g21722.tg ad7) (Nat.le_of_ble_eq_true rfl)) (jOk_le (by decide) (s71 g21722 (by omega) (by omega) (((kk21722.v (by decide)).trans ev21720)) (by omega) (by omega))) (by decide) (by decide) (fun w21733 h21733 q21733 => ?_)
          obtain ⟨v21734, rfl, g21733, kk21733, ev21734, p21733_0⟩ := q21733
          have bv21734 := g21733.rg ad7 (i := 1) (by decide) rf7_1
          rw [ev21734] at bv21734
          have k21733 := k21722.tr kk21733 (by decide)
          show jEv _ _ _ _ _ _ _ (_, [(2, 7), (2, 1), (0, 4), (0, a3), (0, x4), (0, x5), (0, v21716)], [], _, _, _)
          refine ev_aload_n rfl ?_
          refine g_getv (r := 7) (v := v21734) g21733 ad7 (by decide) ft5_1 (ev21734) ?_
          refine ev_iflt f78_117 (fun c21735 => ?_) (fun c21735 => ?_)
          · refine ev_iload rfl ?_
            exact ev_ret rfl (by decide) (by decide) ⟨_, _, rfl, by omega, by omega, g21733, k21733, (ev21734), by omega, by omega⟩
          · refine ev_iconst ?_
            refine ev_goto f78_119 ?_
            exact ev_ret rfl (by decide) (by decide) ⟨_, _, rfl, by omega, by omega, g21733, k21733, (ev21734), by omega, by omega⟩
        · refine ev_iload rfl ?_
          refine ev_iconst ?_
          refine ev_icmpne f78_88 (fun c21736 => ?_) (fun c21736 => ?_)
          · refine ev_aload_n rfl ?_
            refine ev_bipush ?_
            refine ev_call (jcall_v (A := [(0, 44)]) (S' := []) (r := 7) rfl (g21722.lt ad7) (g21722.tg ad7) (Nat.le_of_ble_eq_true rfl)) (jOk_le (by decide) (s71 g21722 (by omega) (by omega) (((kk21722.v (by decide)).trans ev21720)) (by omega) (by omega))) (by decide) (by decide) (fun w21737 h21737 q21737 => ?_)
            obtain ⟨v21738, rfl, g21737, kk21737, ev21738, p21737_0⟩ := q21737
            have bv21738 := g21737.rg ad7 (i := 1) (by decide) rf7_1
            rw [ev21738] at bv21738
            have k21737 := k21722.tr kk21737 (by decide)
            show jEv _ _ _ _ _ _ _ (_, [(2, 7), (2, 1), (0, 4), (0, a3), (0, x4), (0, x5), (0, v21716)], [], _, _, _)
            refine ev_iinc (w := (x5 + 1)) (L' := [(2, 7), (2, 1), (0, 4), (0, a3), (0, x4), (0, (x5 + 1)), (0, v21716)]) rfl (by unfold w32; omega) rfl ?_
            refine ev_goto f78_25 ?_
            exact ih _ _ _ _ _ g21737 k21737 (by omega) (by omega) (by omega) (by omega) (by omega) (by omega) (by omega) (by omega) (ev21738) (by omega) (by omega) (by omega)
          · refine ev_goto f78_100 ?_
            refine ev_aload_n rfl ?_
            refine ev_bipush ?_
            refine ev_call (jcall_v (A := [(0, 41)]) (S' := []) (r := 7) rfl (g21722.lt ad7) (g21722.tg ad7) (Nat.le_of_ble_eq_true rfl)) (jOk_le (by decide) (s71 g21722 (by omega) (by omega) (((kk21722.v (by decide)).trans ev21720)) (by omega) (by omega))) (by decide) (by decide) (fun w21739 h21739 q21739 => ?_)
            obtain ⟨v21740, rfl, g21739, kk21739, ev21740, p21739_0⟩ := q21739
            have bv21740 := g21739.rg ad7 (i := 1) (by decide) rf7_1
            rw [ev21740] at bv21740
            have k21739 := k21722.tr kk21739 (by decide)
            show jEv _ _ _ _ _ _ _ (_, [(2, 7), (2, 1), (0, 4), (0, a3), (0, x4), (0, x5), (0, v21716)], [], _, _, _)
            refine ev_aload_n rfl ?_
            refine g_getv (r := 7) (v := v21740) g21739 ad7 (by decide) ft5_1 (ev21740) ?_
            refine ev_iflt f78_117 (fun c21741 => ?_) (fun c21741 => ?_)
            · refine ev_iload rfl ?_
              exact ev_ret rfl (by decide) (by decide) ⟨_, _, rfl, by omega, by omega, g21739, k21739, (ev21740), by omega, by omega⟩
            · refine ev_iconst ?_
              refine ev_goto f78_119 ?_
              exact ev_ret rfl (by decide) (by decide) ⟨_, _, rfl, by omega, by omega, g21739, k21739, (ev21740), by omega, by omega⟩
set_option maxHeartbeats 4000000 in
theorem s78_4 {G : GH} {h : JH} (g : Gd G h) {a3 : Int} (la3 : (-2147483648) ≤ a3) (ua3 : a3 ≤ 2147483647) {w0 : Int} (ew0 : h.2.2 7 1 = w0) (lw0 : (-1) ≤ w0) (uw0 : w0 ≤ 200) {w1 : Int} (ew1 : h.2.2 7 2 = w1) (lw1 : 0 ≤ w1) (uw1 : w1 ≤ 199) : jOk 20 0 0 78 [(2, 7), (2, 1), (0, 4), (0, a3)] h (fun v h' => ∃ r F : Int, v = some (0, r) ∧ (-1) ≤ r ∧ r ≤ 199 ∧ Gd G h' ∧ Kp [(7, 2), (7, 3), (7, 4), (10, 0), (11, 0), (12, 0), (13, 0), (14, 0), (15, 0), (16, 0), (17, 0)] h h' ∧ h'.2.2 7 1 = F ∧ ((-F) + w0) ≤ 0 ∧ ((-F) + (-r)) ≤ 1) := by
  refine ⟨by decide, by rw [ml78]; exact Nat.le_of_ble_eq_true rfl, ?_⟩
  rw [ml78, pp78]
  show jEv _ none _ c78_0 0 0 _ (c78_0, [(2, 7), (2, 1), (0, 4), (0, a3), (9, 0), (9, 0), (9, 0)], [], h, 0, 0)
  have k0 := Kp.rf [(7, 2), (7, 3), (7, 4), (10, 0), (11, 0), (12, 0), (13, 0), (14, 0), (15, 0), (16, 0), (17, 0)] h
  refine ev_aload_n rfl ?_
  refine ev_dup (by decide) ?_
  refine g_getv (r := 7) (v := w1) g ad7 (by decide) ft5_2 (ew1) ?_
  refine ev_iconst ?_
  refine ev_iadd (r := (w1 + 1)) (by unfold w32; omega) ?_
  refine g_putf (r := 7) g ad7 (by decide) ft5_2 (by decide) (fun e => absurd e nz5_2) rf7_2 (by decide) (by omega) (by omega) (fun h21742 e21742 g21742 => ?_)
  have k21742 := k0.wr e21742 rfl
  refine ev_aload_n rfl ?_
  refine ev_iload_n rfl ?_
  refine ev_call (jcall_v (A := [(0, 4)]) (S' := []) (r := 7) rfl (g21742.lt ad7) (g21742.tg ad7) (Nat.le_of_ble_eq_true rfl)) (jOk_le (by decide) (s72 g21742 (by omega) (by omega) (((jw_ne e21742 (Or.inr (by decide))).trans ew0)) (by omega) (by omega))) (by decide) (by decide) (fun w21743 h21743 q21743 => ?_)
  obtain ⟨v21744, rfl, g21743, kk21743, ev21744, p21743_0⟩ := q21743
  have bv21744 := g21743.rg ad7 (i := 1) (by decide) rf7_1
  rw [ev21744] at bv21744
  have k21743 := k21742.tr kk21743 (by decide)
  show jEv _ _ _ _ _ _ _ (_, [(2, 7), (2, 1), (0, 4), (0, a3), (9, 0), (9, 0), (9, 0)], [], _, _, _)
  refine ev_aload_n rfl ?_
  refine ev_iconst ?_
  refine ev_call (jcall_v (A := [(0, 1)]) (S' := []) (r := 7) rfl (g21743.lt ad7) (g21743.tg ad7) (Nat.le_of_ble_eq_true rfl)) (jOk_le (by decide) (s73 g21743 (by omega) (by omega) (ev21744) (by omega) (by omega))) (by decide) (by decide) (fun w21745 h21745 q21745 => ?_)
  obtain ⟨v21747, v21746, rfl, lv21747, uv21747, g21745, kk21745, ev21746, p21745_0, p21745_1⟩ := q21745
  have bv21746 := g21745.rg ad7 (i := 1) (by decide) rf7_1
  rw [ev21746] at bv21746
  have k21745 := k21743.tr kk21745 (by decide)
  show jEv _ _ _ _ _ _ _ (_, [(2, 7), (2, 1), (0, 4), (0, a3), (9, 0), (9, 0), (9, 0)], [(0, v21747)], _, _, _)
  refine ev_istore (L' := [(2, 7), (2, 1), (0, 4), (0, a3), (0, v21747), (9, 0), (9, 0)]) (Nat.le_of_ble_eq_true rfl) rfl ?_
  refine ev_iconst ?_
  refine ev_istore (L' := [(2, 7), (2, 1), (0, 4), (0, a3), (0, v21747), (0, 0), (9, 0)]) (Nat.le_of_ble_eq_true rfl) rfl ?_
  exact (s78_4_l la3 ua3 ew0 lw0 uw0 ew1 lw1 uw1 8) _ _ _ _ _ g21745 k21745 (by omega) (by omega) (by omega) (by omega) (by omega) (by omega) (by omega) (by omega) (ev21746) (by omega) (by omega) (by omega)
/-! s79_4  -/
set_option maxHeartbeats 4000000 in
theorem s79_4_l {G : GH} {h : JH} {a3 : Int} (la3 : (-2147483648) ≤ a3) (ua3 : a3 ≤ 2147483647) {w0 : Int} (ew0 : h.2.2 7 1 = w0) (lw0 : (-1) ≤ w0) (uw0 : w0 ≤ 200) {w1 : Int} (ew1 : h.2.2 7 2 = w1) (lw1 : 0 ≤ w1) (uw1 : w1 ≤ 199) : ∀ N : Nat, (∀ (h1 : JH) (x4 x5 x6 y0 : Int), Gd G h1 → Kp [(7, 2), (7, 3), (7, 4), (10, 0), (11, 0), (12, 0), (13, 0), (14, 0), (15, 0), (16, 0), (17, 0)] h h1 → (-2147483648) ≤ a3 → a3 ≤ 2147483647 → 0 ≤ x4 → x4 ≤ 3 → (-1) ≤ x5 → x5 ≤ 199 → 0 ≤ x6 → x6 ≤ 3 → (w0 + (-y0)) ≤ 0 → ((-x5) + (-y0)) ≤ 1 → h1.2.2 7 1 = y0 → (-1) ≤ y0 → y0 ≤ 200 → ((-x6) + 3) < N → jEv (jOk 19) none (fun _ => 0) c79_0 0 0 (fun v h' => ∃ r F : Int, v = some (0, r) ∧ (-1) ≤ r ∧ r ≤ 199 ∧ Gd G h' ∧ Kp [(7, 2), (7, 3), (7, 4), (10, 0), (11, 0), (12, 0), (13, 0), (14, 0), (15, 0), (16, 0), (17, 0)] h h' ∧ h'.2.2 7 1 = F ∧ ((-F) + w0) ≤ 0 ∧ ((-F) + (-r)) ≤ 1) (c79_68, [(2, 7), (2, 1), (0, 4), (0, a3), (0, x4), (0, x5), (0, x6)], [], h1, 0, 0)) := by
  intro N
  induction N with
  | zero => exact fun h1 x4 x5 x6 y0 g1 k1 b0 b1 b2 b3 b4 b5 b6 b7 b8 b9 b10 b11 b12 hm => absurd hm (by omega)
  | succ N ih =>
    show _
    intro h1 x4 x5 x6 y0 g1 k1 b0 b1 b2 b3 b4 b5 b6 b7 b8 b9 ey0 ly0 uy0 hm
    refine ev_iload rfl ?_
    refine ev_aload_n rfl ?_
    refine ev_iload rfl ?_
    refine ev_in (d := 18) (a := 0) (b := 0) (cd' := c141_0) (m := 2) (L0 := [(2, 1), (0, x4)]) (jcall_v (A := [(0, x4)]) (S' := [(0, x6)]) (r := 1) rfl (g1.lt ad1) (g1.tg ad1) (Nat.le_of_ble_eq_true rfl)) (by decide) ml141 pp141 (Nat.le_of_ble_eq_true rfl) rfl (by decide) (by decide) ?_
    refine ev_aload_n rfl ?_
    refine ev_iload_n rfl ?_
    refine ev_in (d := 17) (a := 0) (b := 0) (cd' := c140_0) (m := 2) (L0 := [(2, 1), (0, x4)]) (jcall_v (A := [(0, x4)]) (S' := []) (r := 1) rfl (g1.lt ad1) (g1.tg ad1) (Nat.le_of_ble_eq_true rfl)) (by decide) ml140 pp140 (Nat.le_of_ble_eq_true rfl) rfl (by decide) (by decide) ?_
    refine ev_iload_n rfl ?_
    refine ev_iflt f140_16 (fun c22025 => absurd c22025 (by omega)) (fun c22025 => ?_)
    refine ev_iload_n rfl ?_
    refine ev_aload_n rfl ?_
    obtain ⟨v22026, ev22026, lv22026, uv22026⟩ := g1.rd ad1 (show 0 < 8 by decide) rf1_0
    refine g_getv (r := 1) (v := v22026) g1 ad1 (by decide) ft10_0 ev22026 ?_
    refine ev_icmpge f140_16 (fun c22027 => ?_) (fun c22027 => ?_)
    · refine ev_iconst ?_
      refine ev_ret rfl (by decide) (by decide) ?_
      show jEv _ _ _ _ _ _ _ (_, [(2, 1), (0, x4)], [(0, 0)], _, _, _)
      refine ev_ifeq f141_17 (fun c22028 => ?_) (fun c22028 => absurd c22028 (by omega))
      refine ev_iconst ?_
      refine ev_ret rfl (by decide) (by decide) ?_
      show jEv _ _ _ _ _ _ _ (_, [(2, 7), (2, 1), (0, 4), (0, a3), (0, x4), (0, x5), (0, x6)], [(0, 0), (0, x6)], _, _, _)
      refine ev_icmpge f79_126 (fun c22029 => ?_) (fun c22029 => absurd c22029 (by omega))
      refine ev_aload_n rfl ?_
      refine ev_bipush ?_
      refine ev_call (jcall_v (A := [(0, 41)]) (S' := []) (r := 7) rfl (g1.lt ad7) (g1.tg ad7) (Nat.le_of_ble_eq_true rfl)) (jOk_le (by decide) (s71 g1 (by omega) (by omega) (ey0) (by omega) (by omega))) (by decide) (by decide) (fun w22030 h22030 q22030 => ?_)
      obtain ⟨v22031, rfl, g22030, kk22030, ev22031, p22030_0⟩ := q22030
      have bv22031 := g22030.rg ad7 (i := 1) (by decide) rf7_1
      rw [ev22031] at bv22031
      have k22030 := k1.tr kk22030 (by decide)
      show jEv _ _ _ _ _ _ _ (_, [(2, 7), (2, 1), (0, 4), (0, a3), (0, x4), (0, x5), (0, x6)], [], _, _, _)
      refine ev_aload_n rfl ?_
      refine g_getv (r := 7) (v := v22031) g22030 ad7 (by decide) ft5_1 (ev22031) ?_
      refine ev_ifge f79_144 (fun c22032 => ?_) (fun c22032 => ?_)
      · refine ev_iconst ?_
        exact ev_ret rfl (by decide) (by decide) ⟨_, _, rfl, by omega, by omega, g22030, k22030, (ev22031), by omega, by omega⟩
      · refine ev_iload rfl ?_
        refine ev_ifge f79_146 (fun c22033 => ?_) (fun c22033 => absurd c22033 (by omega))
        refine ev_aload_n rfl ?_
        refine g_getp (r := 7) (c := 11) g22030 ad7 (by decide) (by decide) rf7_8 ft5_8 ?_
        refine ev_iload rfl ?_
        refine ev_iload rfl ?_
        refine g_iast g22030 ad11 rt11 (fun _ => rfl) (by omega) (by omega) (by omega) (by omega) (fun h22034 e22034 g22034 => ?_)
        have k22034 := k22030.wr e22034 rfl
        refine ev_aload_n rfl ?_
        refine g_getp (r := 7) (c := 15) g22034 ad7 (by decide) (by decide) rf7_12 ft5_12 ?_
        refine ev_iload rfl ?_
        refine ev_dup2 (by decide) (by decide) ?_
        refine g_iald g22034 ad15 rt15 (by omega) (by omega) (fun v22035 ev22035 lv22035 uv22035 => ?_)
        refine ev_iconst ?_
        refine ev_iload rfl ?_
        refine g_ishlB (a' := 1) (a := 1) (b := 3) (hi := 8) (by omega) (by omega) (by omega) (by omega) (by decide) (by decide) (fun v22036 ev22036 lv22036 uv22036 => ?_)
        refine g_iorG (fun v22037 ev22037 lv22037 uv22037 => ?_)
        refine g_iast g22034 ad15 rt15 (fun _ => rfl) (by omega) (by omega) (by omega) (by omega) (fun h22038 e22038 g22038 => ?_)
        have k22038 := k22034.wr e22038 rfl
        refine ev_iload rfl ?_
        exact ev_ret rfl (by decide) (by decide) ⟨_, _, rfl, by omega, by omega, g22038, k22038, (((jw_ne e22038 (Or.inl (by decide))).trans ((jw_ne e22034 (Or.inl (by decide))).trans ev22031))), by omega, by omega⟩
    · refine ev_iconst ?_
      refine ev_goto f140_17 ?_
      refine ev_ret rfl (by decide) (by decide) ?_
      show jEv _ _ _ _ _ _ _ (_, [(2, 1), (0, x4)], [(0, 1)], _, _, _)
      refine ev_ifeq f141_17 (fun c22039 => absurd c22039 (by omega)) (fun c22039 => ?_)
      refine ev_aload_n rfl ?_
      refine g_getp (r := 1) (c := 2) g1 ad1 (by decide) (by decide) rf1_3 ft10_3 ?_
      refine ev_iload_n rfl ?_
      refine g_iald g1 ad2 rt2 (by omega) (by omega) (fun v22040 ev22040 lv22040 uv22040 => ?_)
      refine ev_goto f141_18 ?_
      refine ev_ret rfl (by decide) (by decide) ?_
      show jEv _ _ _ _ _ _ _ (_, [(2, 7), (2, 1), (0, 4), (0, a3), (0, x4), (0, x5), (0, x6)], [(0, v22040), (0, x6)], _, _, _)
      refine ev_icmpge f79_126 (fun c22041 => ?_) (fun c22041 => ?_)
      · refine ev_aload_n rfl ?_
        refine ev_bipush ?_
        refine ev_call (jcall_v (A := [(0, 41)]) (S' := []) (r := 7) rfl (g1.lt ad7) (g1.tg ad7) (Nat.le_of_ble_eq_true rfl)) (jOk_le (by decide) (s71 g1 (by omega) (by omega) (ey0) (by omega) (by omega))) (by decide) (by decide) (fun w22042 h22042 q22042 => ?_)
        obtain ⟨v22043, rfl, g22042, kk22042, ev22043, p22042_0⟩ := q22042
        have bv22043 := g22042.rg ad7 (i := 1) (by decide) rf7_1
        rw [ev22043] at bv22043
        have k22042 := k1.tr kk22042 (by decide)
        show jEv _ _ _ _ _ _ _ (_, [(2, 7), (2, 1), (0, 4), (0, a3), (0, x4), (0, x5), (0, x6)], [], _, _, _)
        refine ev_aload_n rfl ?_
        refine g_getv (r := 7) (v := v22043) g22042 ad7 (by decide) ft5_1 (ev22043) ?_
        refine ev_ifge f79_144 (fun c22044 => ?_) (fun c22044 => ?_)
        · refine ev_iconst ?_
          exact ev_ret rfl (by decide) (by decide) ⟨_, _, rfl, by omega, by omega, g22042, k22042, (ev22043), by omega, by omega⟩
        · refine ev_iload rfl ?_
          refine ev_ifge f79_146 (fun c22045 => ?_) (fun c22045 => absurd c22045 (by omega))
          refine ev_aload_n rfl ?_
          refine g_getp (r := 7) (c := 11) g22042 ad7 (by decide) (by decide) rf7_8 ft5_8 ?_
          refine ev_iload rfl ?_
          refine ev_iload rfl ?_
          refine g_iast g22042 ad11 rt11 (fun _ => rfl) (by omega) (by omega) (by omega) (by omega) (fun h22046 e22046 g22046 => ?_)
          have k22046 := k22042.wr e22046 rfl
          refine ev_aload_n rfl ?_
          refine g_getp (r := 7) (c := 15) g22046 ad7 (by decide) (by decide) rf7_12 ft5_12 ?_
          refine ev_iload rfl ?_
          refine ev_dup2 (by decide) (by decide) ?_
          refine g_iald g22046 ad15 rt15 (by omega) (by omega) (fun v22047 ev22047 lv22047 uv22047 => ?_)
          refine ev_iconst ?_
          refine ev_iload rfl ?_
          refine g_ishlB (a' := 1) (a := 1) (b := 3) (hi := 8) (by omega) (by omega) (by omega) (by omega) (by decide) (by decide) (fun v22048 ev22048 lv22048 uv22048 => ?_)
          refine g_iorG (fun v22049 ev22049 lv22049 uv22049 => ?_)
          refine g_iast g22046 ad15 rt15 (fun _ => rfl) (by omega) (by omega) (by omega) (by omega) (fun h22050 e22050 g22050 => ?_)
          have k22050 := k22046.wr e22050 rfl
          refine ev_iload rfl ?_
          exact ev_ret rfl (by decide) (by decide) ⟨_, _, rfl, by omega, by omega, g22050, k22050, (((jw_ne e22050 (Or.inl (by decide))).trans ((jw_ne e22046 (Or.inl (by decide))).trans ev22043))), by omega, by omega⟩
      · refine ev_aload_n rfl ?_
        refine g_getv (r := 7) (v := y0) g1 ad7 (by decide) ft5_1 (ey0) ?_
        refine ev_ifge f79_126 (fun c22051 => ?_) (fun c22051 => ?_)
        · refine ev_aload_n rfl ?_
          refine ev_bipush ?_
          refine ev_call (jcall_v (A := [(0, 41)]) (S' := []) (r := 7) rfl (g1.lt ad7) (g1.tg ad7) (Nat.le_of_ble_eq_true rfl)) (jOk_le (by decide) (s71 g1 (by omega) (by omega) (ey0) (by omega) (by omega))) (by decide) (by decide) (fun w22052 h22052 q22052 => ?_)
          obtain ⟨v22053, rfl, g22052, kk22052, ev22053, p22052_0⟩ := q22052
          have bv22053 := g22052.rg ad7 (i := 1) (by decide) rf7_1
          rw [ev22053] at bv22053
          have k22052 := k1.tr kk22052 (by decide)
          show jEv _ _ _ _ _ _ _ (_, [(2, 7), (2, 1), (0, 4), (0, a3), (0, x4), (0, x5), (0, x6)], [], _, _, _)
          refine ev_aload_n rfl ?_
          refine g_getv (r := 7) (v := v22053) g22052 ad7 (by decide) ft5_1 (ev22053) ?_
          refine ev_ifge f79_144 (fun c22054 => ?_) (fun c22054 => absurd c22054 (by omega))
          refine ev_iconst ?_
          exact ev_ret rfl (by decide) (by decide) ⟨_, _, rfl, by omega, by omega, g22052, k22052, (ev22053), by omega, by omega⟩
        · refine ev_iload rfl ?_
          refine ev_ifle f79_97 (fun c22055 => ?_) (fun c22055 => ?_)
          · refine ev_aload_n rfl ?_
            refine ev_iload rfl ?_
            refine ev_iload rfl ?_
            refine ev_iconst ?_
            refine ev_aload_n rfl ?_
            refine ev_aload_n rfl ?_
            refine ev_iload_n rfl ?_
            refine ev_iconst ?_
            refine ev_iadd (r := 5) (by decide) ?_
            refine ev_iload_n rfl ?_
            refine ev_iconst ?_
            refine ev_iload rfl ?_
            refine g_ishlB (a' := 1) (a := 1) (b := 3) (hi := 8) (by omega) (by omega) (by omega) (by omega) (by decide) (by decide) (fun v22056 ev22056 lv22056 uv22056 => ?_)
            refine g_iorG (fun v22057 ev22057 lv22057 uv22057 => ?_)
            refine ev_call (jcall_v (A := [(0, v22057), (0, 5), (2, 1)]) (S' := [(0, 0), (0, x6), (0, x5), (2, 7)]) (r := 7) rfl (g1.lt ad7) (g1.tg ad7) (Nat.le_of_ble_eq_true rfl)) (jOk_le (by decide) (s74_5 g1 (by omega) (by omega) (ey0) (by omega) (by omega))) (by decide) (by decide) (fun w22058 h22058 q22058 => ?_)
            obtain ⟨v22060, v22059, rfl, lv22060, uv22060, g22058, kk22058, ev22059, p22058_0, p22058_1⟩ := q22058
            have bv22059 := g22058.rg ad7 (i := 1) (by decide) rf7_1
            rw [ev22059] at bv22059
            have k22058 := k1.tr kk22058 (by decide)
            show jEv _ _ _ _ _ _ _ (_, [(2, 7), (2, 1), (0, 4), (0, a3), (0, x4), (0, x5), (0, x6)], [(0, v22060), (0, 0), (0, x6), (0, x5), (2, 7)], _, _, _)
            refine ev_call (jcall_v (A := [(0, v22060), (0, 0), (0, x6), (0, x5)]) (S' := []) (r := 7) rfl (g22058.lt ad7) (g22058.tg ad7) (Nat.le_of_ble_eq_true rfl)) (jOk_le (by decide) (s80 g22058 (by omega) (by omega) (by omega) (by omega) (by omega) (by omega) (by omega) (by omega))) (by decide) (by decide) (fun w22061 h22061 q22061 => ?_)
            obtain ⟨rfl, g22061, kk22061⟩ := q22061
            have k22061 := k22058.tr kk22061 (by decide)
            show jEv _ _ _ _ _ _ _ (_, [(2, 7), (2, 1), (0, 4), (0, a3), (0, x4), (0, x5), (0, x6)], [], _, _, _)
            refine ev_iinc (w := (x6 + 1)) (L' := [(2, 7), (2, 1), (0, 4), (0, a3), (0, x4), (0, x5), (0, (x6 + 1))]) rfl (by unfold w32; omega) rfl ?_
            refine ev_goto f79_68 ?_
            exact ih _ _ _ _ _ g22061 k22061 (by omega) (by omega) (by omega) (by omega) (by omega) (by omega) (by omega) (by omega) (by omega) (by omega) (((kk22061.v (by decide)).trans ev22059)) (by omega) (by omega) (by omega)
          · refine ev_aload_n rfl ?_
            refine ev_bipush ?_
            refine ev_call (jcall_v (A := [(0, 44)]) (S' := []) (r := 7) rfl (g1.lt ad7) (g1.tg ad7) (Nat.le_of_ble_eq_true rfl)) (jOk_le (by decide) (s71 g1 (by omega) (by omega) (ey0) (by omega) (by omega))) (by decide) (by decide) (fun w22062 h22062 q22062 => ?_)
            obtain ⟨v22063, rfl, g22062, kk22062, ev22063, p22062_0⟩ := q22062
            have bv22063 := g22062.rg ad7 (i := 1) (by decide) rf7_1
            rw [ev22063] at bv22063
            have k22062 := k1.tr kk22062 (by decide)
            show jEv _ _ _ _ _ _ _ (_, [(2, 7), (2, 1), (0, 4), (0, a3), (0, x4), (0, x5), (0, x6)], [], _, _, _)
            refine ev_aload_n rfl ?_
            refine ev_iload rfl ?_
            refine ev_iload rfl ?_
            refine ev_iconst ?_
            refine ev_aload_n rfl ?_
            refine ev_aload_n rfl ?_
            refine ev_iload_n rfl ?_
            refine ev_iconst ?_
            refine ev_iadd (r := 5) (by decide) ?_
            refine ev_iload_n rfl ?_
            refine ev_iconst ?_
            refine ev_iload rfl ?_
            refine g_ishlB (a' := 1) (a := 1) (b := 3) (hi := 8) (by omega) (by omega) (by omega) (by omega) (by decide) (by decide) (fun v22064 ev22064 lv22064 uv22064 => ?_)
            refine g_iorG (fun v22065 ev22065 lv22065 uv22065 => ?_)
            refine ev_call (jcall_v (A := [(0, v22065), (0, 5), (2, 1)]) (S' := [(0, 0), (0, x6), (0, x5), (2, 7)]) (r := 7) rfl (g22062.lt ad7) (g22062.tg ad7) (Nat.le_of_ble_eq_true rfl)) (jOk_le (by decide) (s74_5 g22062 (by omega) (by omega) (ev22063) (by omega) (by omega))) (by decide) (by decide) (fun w22066 h22066 q22066 => ?_)
            obtain ⟨v22068, v22067, rfl, lv22068, uv22068, g22066, kk22066, ev22067, p22066_0, p22066_1⟩ := q22066
            have bv22067 := g22066.rg ad7 (i := 1) (by decide) rf7_1
            rw [ev22067] at bv22067
            have k22066 := k22062.tr kk22066 (by decide)
            show jEv _ _ _ _ _ _ _ (_, [(2, 7), (2, 1), (0, 4), (0, a3), (0, x4), (0, x5), (0, x6)], [(0, v22068), (0, 0), (0, x6), (0, x5), (2, 7)], _, _, _)
            refine ev_call (jcall_v (A := [(0, v22068), (0, 0), (0, x6), (0, x5)]) (S' := []) (r := 7) rfl (g22066.lt ad7) (g22066.tg ad7) (Nat.le_of_ble_eq_true rfl)) (jOk_le (by decide) (s80 g22066 (by omega) (by omega) (by omega) (by omega) (by omega) (by omega) (by omega) (by omega))) (by decide) (by decide) (fun w22069 h22069 q22069 => ?_)
            obtain ⟨rfl, g22069, kk22069⟩ := q22069
            have k22069 := k22066.tr kk22069 (by decide)
            show jEv _ _ _ _ _ _ _ (_, [(2, 7), (2, 1), (0, 4), (0, a3), (0, x4), (0, x5), (0, x6)], [], _, _, _)
            refine ev_iinc (w := (x6 + 1)) (L' := [(2, 7), (2, 1), (0, 4), (0, a3), (0, x4), (0, x5), (0, (x6 + 1))]) rfl (by unfold w32; omega) rfl ?_
            refine ev_goto f79_68 ?_
            exact ih _ _ _ _ _ g22069 k22069 (by omega) (by omega) (by omega) (by omega) (by omega) (by omega) (by omega) (by omega) (by omega) (by omega) (((kk22069.v (by decide)).trans ev22067)) (by omega) (by omega) (by omega)
set_option maxHeartbeats 4000000 in
theorem s79_4 {G : GH} {h : JH} (g : Gd G h) {a3 : Int} (la3 : (-2147483648) ≤ a3) (ua3 : a3 ≤ 2147483647) {w0 : Int} (ew0 : h.2.2 7 1 = w0) (lw0 : (-1) ≤ w0) (uw0 : w0 ≤ 200) {w1 : Int} (ew1 : h.2.2 7 2 = w1) (lw1 : 0 ≤ w1) (uw1 : w1 ≤ 199) : jOk 20 0 0 79 [(2, 7), (2, 1), (0, 4), (0, a3)] h (fun v h' => ∃ r F : Int, v = some (0, r) ∧ (-1) ≤ r ∧ r ≤ 199 ∧ Gd G h' ∧ Kp [(7, 2), (7, 3), (7, 4), (10, 0), (11, 0), (12, 0), (13, 0), (14, 0), (15, 0), (16, 0), (17, 0)] h h' ∧ h'.2.2 7 1 = F ∧ ((-F) + w0) ≤ 0 ∧ ((-F) + (-r)) ≤ 1) := by
  refine ⟨by decide, by rw [ml79]; exact Nat.le_of_ble_eq_true rfl, ?_⟩
  rw [ml79, pp79]
  show jEv _ none _ c79_0 0 0 _ (c79_0, [(2, 7), (2, 1), (0, 4), (0, a3), (9, 0), (9, 0), (9, 0)], [], h, 0, 0)
  have k0 := Kp.rf [(7, 2), (7, 3), (7, 4), (10, 0), (11, 0), (12, 0), (13, 0), (14, 0), (15, 0), (16, 0), (17, 0)] h
  refine ev_aload_n rfl ?_
  refine ev_dup (by decide) ?_
  refine g_getv (r := 7) (v := w1) g ad7 (by decide) ft5_2 (ew1) ?_
  refine ev_iconst ?_
  refine ev_iadd (r := (w1 + 1)) (by unfold w32; omega) ?_
  refine g_putf (r := 7) g ad7 (by decide) ft5_2 (by decide) (fun e => absurd e nz5_2) rf7_2 (by decide) (by omega) (by omega) (fun h22070 e22070 g22070 => ?_)
  have k22070 := k0.wr e22070 rfl
  refine ev_aload_n rfl ?_
  refine ev_in (d := 18) (a := 0) (b := 0) (cd' := c68_0) (m := 1) (L0 := [(2, 7)]) (jcall_v (A := []) (S' := []) (r := 7) rfl (g22070.lt ad7) (g22070.tg ad7) (Nat.le_of_ble_eq_true rfl)) (by decide) ml68 pp68 (Nat.le_of_ble_eq_true rfl) rfl (by decide) (by decide) ?_
  refine ev_aload_n rfl ?_
  refine g_getv (r := 7) (v := (w1 + 1)) g22070 ad7 (by decide) ft5_2 ((jw_eq e22070)) ?_
  refine ev_aload_n rfl ?_
  obtain ⟨v22071, ev22071, lv22071, uv22071⟩ := g22070.rd ad7 (show 0 < 15 by decide) rf7_0
  refine g_getv (r := 7) (v := v22071) g22070 ad7 (by decide) ft5_0 ev22071 ?_
  refine ev_icmpge f68_27 (fun c22072 => ?_) (fun c22072 => ?_)
  · refine ev_iconst ?_
    refine ev_ret rfl (by decide) (by decide) ?_
    show jEv _ _ _ _ _ _ _ (_, [(2, 7), (2, 1), (0, 4), (0, a3), (9, 0), (9, 0), (9, 0)], [(0, (-1))], _, _, _)
    refine ev_bipush ?_
    refine ev_isub (r := (-98)) (by decide) ?_
    refine ev_istore (L' := [(2, 7), (2, 1), (0, 4), (0, a3), (0, (-98)), (9, 0), (9, 0)]) (Nat.le_of_ble_eq_true rfl) rfl ?_
    refine ev_aload_n rfl ?_
    refine ev_iload rfl ?_
    refine ev_in (d := 18) (a := 0) (b := 0) (cd' := c140_0) (m := 2) (L0 := [(2, 1), (0, (-98))]) (jcall_v (A := [(0, (-98))]) (S' := []) (r := 1) rfl (g22070.lt ad1) (g22070.tg ad1) (Nat.le_of_ble_eq_true rfl)) (by decide) ml140 pp140 (Nat.le_of_ble_eq_true rfl) rfl (by decide) (by decide) ?_
    refine ev_iload_n rfl ?_
    refine ev_iflt f140_16 (fun c22073 => ?_) (fun c22073 => absurd c22073 (by omega))
    refine ev_iconst ?_
    refine ev_ret rfl (by decide) (by decide) ?_
    show jEv _ _ _ _ _ _ _ (_, [(2, 7), (2, 1), (0, 4), (0, a3), (0, (-98)), (9, 0), (9, 0)], [(0, 0)], _, _, _)
    refine ev_ifeq f79_37 (fun c22074 => ?_) (fun c22074 => absurd c22074 (by omega))
    refine ev_aload_n rfl ?_
    refine ev_in (d := 18) (a := 0) (b := 0) (cd' := c70_0) (m := 1) (L0 := [(2, 7)]) (jcall_v (A := []) (S' := []) (r := 7) rfl (g22070.lt ad7) (g22070.tg ad7) (Nat.le_of_ble_eq_true rfl)) (by decide) ml70 pp70 (Nat.le_of_ble_eq_true rfl) rfl (by decide) (by decide) ?_
    refine ev_aload_n rfl ?_
    refine g_getv (r := 7) (v := w0) g22070 ad7 (by decide) ft5_1 (((jw_ne e22070 (Or.inr (by decide))).trans ew0)) ?_
    refine ev_ifge f70_15 (fun c22075 => ?_) (fun c22075 => ?_)
    · refine ev_ret rfl (by decide) (by decide) ?_
      show jEv _ _ _ _ _ _ _ (_, [(2, 7), (2, 1), (0, 4), (0, a3), (0, (-98)), (9, 0), (9, 0)], [], _, _, _)
      refine ev_iconst ?_
      exact ev_ret rfl (by decide) (by decide) ⟨_, _, rfl, by omega, by omega, g22070, k22070, (((jw_ne e22070 (Or.inr (by decide))).trans ew0)), by omega, by omega⟩
    · refine ev_aload_n rfl ?_
      refine ev_aload_n rfl ?_
      refine g_getv (r := 7) (v := (w1 + 1)) g22070 ad7 (by decide) ft5_2 ((jw_eq e22070)) ?_
      refine g_putf (r := 7) g22070 ad7 (by decide) ft5_1 (by decide) (fun e => absurd e nz5_1) rf7_1 (by decide) (by omega) (by omega) (fun h22076 e22076 g22076 => ?_)
      have k22076 := k22070.wr e22076 rfl
      refine ev_ret rfl (by decide) (by decide) ?_
      show jEv _ _ _ _ _ _ _ (_, [(2, 7), (2, 1), (0, 4), (0, a3), (0, (-98)), (9, 0), (9, 0)], [], _, _, _)
      refine ev_iconst ?_
      exact ev_ret rfl (by decide) (by decide) ⟨_, _, rfl, by omega, by omega, g22076, k22076, ((jw_eq e22076)), by omega, by omega⟩
  · refine ev_aload_n rfl ?_
    refine g_getp (r := 7) (c := 8) g22070 ad7 (by decide) (by decide) rf7_5 ft5_5 ?_
    refine ev_aload_n rfl ?_
    refine g_getv (r := 7) (v := (w1 + 1)) g22070 ad7 (by decide) ft5_2 ((jw_eq e22070)) ?_
    refine g_bald g22070 ad8 rt8 (by omega) (by omega) (fun v22077 ev22077 lv22077 uv22077 => ?_)
    refine ev_sipush ?_
    refine g_iandB (b := 255) (by omega) (by omega) (by decide) (fun v22078 ev22078 lv22078 uv22078 => ?_)
    refine ev_goto f68_28 ?_
    refine ev_ret rfl (by decide) (by decide) ?_
    show jEv _ _ _ _ _ _ _ (_, [(2, 7), (2, 1), (0, 4), (0, a3), (9, 0), (9, 0), (9, 0)], [(0, v22078)], _, _, _)
    refine ev_bipush ?_
    refine ev_isub (r := (v22078 - 97)) (by unfold w32; omega) ?_
    refine ev_istore (L' := [(2, 7), (2, 1), (0, 4), (0, a3), (0, (v22078 - 97)), (9, 0), (9, 0)]) (Nat.le_of_ble_eq_true rfl) rfl ?_
    refine ev_aload_n rfl ?_
    refine ev_iload rfl ?_
    refine ev_in (d := 18) (a := 0) (b := 0) (cd' := c140_0) (m := 2) (L0 := [(2, 1), (0, (v22078 - 97))]) (jcall_v (A := [(0, (v22078 - 97))]) (S' := []) (r := 1) rfl (g22070.lt ad1) (g22070.tg ad1) (Nat.le_of_ble_eq_true rfl)) (by decide) ml140 pp140 (Nat.le_of_ble_eq_true rfl) rfl (by decide) (by decide) ?_
    refine ev_iload_n rfl ?_
    refine ev_iflt f140_16 (fun c22079 => ?_) (fun c22079 => ?_)
    · refine ev_iconst ?_
      refine ev_ret rfl (by decide) (by decide) ?_
      show jEv _ _ _ _ _ _ _ (_, [(2, 7), (2, 1), (0, 4), (0, a3), (0, (v22078 - 97)), (9, 0), (9, 0)], [(0, 0)], _, _, _)
      refine ev_ifeq f79_37 (fun c22080 => ?_) (fun c22080 => absurd c22080 (by omega))
      refine ev_aload_n rfl ?_
      refine ev_in (d := 18) (a := 0) (b := 0) (cd' := c70_0) (m := 1) (L0 := [(2, 7)]) (jcall_v (A := []) (S' := []) (r := 7) rfl (g22070.lt ad7) (g22070.tg ad7) (Nat.le_of_ble_eq_true rfl)) (by decide) ml70 pp70 (Nat.le_of_ble_eq_true rfl) rfl (by decide) (by decide) ?_
      refine ev_aload_n rfl ?_
      refine g_getv (r := 7) (v := w0) g22070 ad7 (by decide) ft5_1 (((jw_ne e22070 (Or.inr (by decide))).trans ew0)) ?_
      refine ev_ifge f70_15 (fun c22081 => ?_) (fun c22081 => ?_)
      · refine ev_ret rfl (by decide) (by decide) ?_
        show jEv _ _ _ _ _ _ _ (_, [(2, 7), (2, 1), (0, 4), (0, a3), (0, (v22078 - 97)), (9, 0), (9, 0)], [], _, _, _)
        refine ev_iconst ?_
        exact ev_ret rfl (by decide) (by decide) ⟨_, _, rfl, by omega, by omega, g22070, k22070, (((jw_ne e22070 (Or.inr (by decide))).trans ew0)), by omega, by omega⟩
      · refine ev_aload_n rfl ?_
        refine ev_aload_n rfl ?_
        refine g_getv (r := 7) (v := (w1 + 1)) g22070 ad7 (by decide) ft5_2 ((jw_eq e22070)) ?_
        refine g_putf (r := 7) g22070 ad7 (by decide) ft5_1 (by decide) (fun e => absurd e nz5_1) rf7_1 (by decide) (by omega) (by omega) (fun h22082 e22082 g22082 => ?_)
        have k22082 := k22070.wr e22082 rfl
        refine ev_ret rfl (by decide) (by decide) ?_
        show jEv _ _ _ _ _ _ _ (_, [(2, 7), (2, 1), (0, 4), (0, a3), (0, (v22078 - 97)), (9, 0), (9, 0)], [], _, _, _)
        refine ev_iconst ?_
        exact ev_ret rfl (by decide) (by decide) ⟨_, _, rfl, by omega, by omega, g22082, k22082, ((jw_eq e22082)), by omega, by omega⟩
    · refine ev_iload_n rfl ?_
      refine ev_aload_n rfl ?_
      obtain ⟨v22083, ev22083, lv22083, uv22083⟩ := g22070.rd ad1 (show 0 < 8 by decide) rf1_0
      refine g_getv (r := 1) (v := v22083) g22070 ad1 (by decide) ft10_0 ev22083 ?_
      refine ev_icmpge f140_16 (fun c22084 => ?_) (fun c22084 => ?_)
      · refine ev_iconst ?_
        refine ev_ret rfl (by decide) (by decide) ?_
        show jEv _ _ _ _ _ _ _ (_, [(2, 7), (2, 1), (0, 4), (0, a3), (0, (v22078 - 97)), (9, 0), (9, 0)], [(0, 0)], _, _, _)
        refine ev_ifeq f79_37 (fun c22085 => ?_) (fun c22085 => absurd c22085 (by omega))
        refine ev_aload_n rfl ?_
        refine ev_in (d := 18) (a := 0) (b := 0) (cd' := c70_0) (m := 1) (L0 := [(2, 7)]) (jcall_v (A := []) (S' := []) (r := 7) rfl (g22070.lt ad7) (g22070.tg ad7) (Nat.le_of_ble_eq_true rfl)) (by decide) ml70 pp70 (Nat.le_of_ble_eq_true rfl) rfl (by decide) (by decide) ?_
        refine ev_aload_n rfl ?_
        refine g_getv (r := 7) (v := w0) g22070 ad7 (by decide) ft5_1 (((jw_ne e22070 (Or.inr (by decide))).trans ew0)) ?_
        refine ev_ifge f70_15 (fun c22086 => ?_) (fun c22086 => ?_)
        · refine ev_ret rfl (by decide) (by decide) ?_
          show jEv _ _ _ _ _ _ _ (_, [(2, 7), (2, 1), (0, 4), (0, a3), (0, (v22078 - 97)), (9, 0), (9, 0)], [], _, _, _)
          refine ev_iconst ?_
          exact ev_ret rfl (by decide) (by decide) ⟨_, _, rfl, by omega, by omega, g22070, k22070, (((jw_ne e22070 (Or.inr (by decide))).trans ew0)), by omega, by omega⟩
        · refine ev_aload_n rfl ?_
          refine ev_aload_n rfl ?_
          refine g_getv (r := 7) (v := (w1 + 1)) g22070 ad7 (by decide) ft5_2 ((jw_eq e22070)) ?_
          refine g_putf (r := 7) g22070 ad7 (by decide) ft5_1 (by decide) (fun e => absurd e nz5_1) rf7_1 (by decide) (by omega) (by omega) (fun h22087 e22087 g22087 => ?_)
          have k22087 := k22070.wr e22087 rfl
          refine ev_ret rfl (by decide) (by decide) ?_
          show jEv _ _ _ _ _ _ _ (_, [(2, 7), (2, 1), (0, 4), (0, a3), (0, (v22078 - 97)), (9, 0), (9, 0)], [], _, _, _)
          refine ev_iconst ?_
          exact ev_ret rfl (by decide) (by decide) ⟨_, _, rfl, by omega, by omega, g22087, k22087, ((jw_eq e22087)), by omega, by omega⟩
      · refine ev_iconst ?_
        refine ev_goto f140_17 ?_
        refine ev_ret rfl (by decide) (by decide) ?_
        show jEv _ _ _ _ _ _ _ (_, [(2, 7), (2, 1), (0, 4), (0, a3), (0, (v22078 - 97)), (9, 0), (9, 0)], [(0, 1)], _, _, _)
        refine ev_ifeq f79_37 (fun c22088 => absurd c22088 (by omega)) (fun c22088 => ?_)
        refine ev_iload_n rfl ?_
        refine ev_iload rfl ?_
        refine g_ishrG (fun v22089 ev22089 lv22089 uv22089 => ?_)
        refine ev_iconst ?_
        refine g_iandB (b := 1) (by omega) (by omega) (by decide) (fun v22090 ev22090 lv22090 uv22090 => ?_)
        refine ev_ifeq f79_43 (fun c22091 => ?_) (fun c22091 => ?_)
        · refine ev_aload_n rfl ?_
          refine ev_dup (by decide) ?_
          refine g_getv (r := 7) (v := (w1 + 1)) g22070 ad7 (by decide) ft5_2 ((jw_eq e22070)) ?_
          refine ev_iconst ?_
          refine ev_iadd (r := (w1 + 2)) (by unfold w32; omega) ?_
          refine g_putf (r := 7) g22070 ad7 (by decide) ft5_2 (by decide) (fun e => absurd e nz5_2) rf7_2 (by decide) (by omega) (by omega) (fun h22092 e22092 g22092 => ?_)
          have k22092 := k22070.wr e22092 rfl
          refine ev_aload_n rfl ?_
          refine ev_iload_n rfl ?_
          refine ev_call (jcall_v (A := [(0, 4)]) (S' := []) (r := 7) rfl (g22092.lt ad7) (g22092.tg ad7) (Nat.le_of_ble_eq_true rfl)) (jOk_le (by decide) (s72 g22092 (by omega) (by omega) (((jw_ne e22092 (Or.inr (by decide))).trans ((jw_ne e22070 (Or.inr (by decide))).trans ew0))) (by omega) (by omega))) (by decide) (by decide) (fun w22093 h22093 q22093 => ?_)
          obtain ⟨v22094, rfl, g22093, kk22093, ev22094, p22093_0⟩ := q22093
          have bv22094 := g22093.rg ad7 (i := 1) (by decide) rf7_1
          rw [ev22094] at bv22094
          have k22093 := k22092.tr kk22093 (by decide)
          show jEv _ _ _ _ _ _ _ (_, [(2, 7), (2, 1), (0, 4), (0, a3), (0, (v22078 - 97)), (9, 0), (9, 0)], [], _, _, _)
          refine ev_aload_n rfl ?_
          refine ev_iconst ?_
          refine ev_call (jcall_v (A := [(0, 2)]) (S' := []) (r := 7) rfl (g22093.lt ad7) (g22093.tg ad7) (Nat.le_of_ble_eq_true rfl)) (jOk_le (by decide) (s73 g22093 (by omega) (by omega) (ev22094) (by omega) (by omega))) (by decide) (by decide) (fun w22095 h22095 q22095 => ?_)
          obtain ⟨v22097, v22096, rfl, lv22097, uv22097, g22095, kk22095, ev22096, p22095_0, p22095_1⟩ := q22095
          have bv22096 := g22095.rg ad7 (i := 1) (by decide) rf7_1
          rw [ev22096] at bv22096
          have k22095 := k22093.tr kk22095 (by decide)
          show jEv _ _ _ _ _ _ _ (_, [(2, 7), (2, 1), (0, 4), (0, a3), (0, (v22078 - 97)), (9, 0), (9, 0)], [(0, v22097)], _, _, _)
          refine ev_istore (L' := [(2, 7), (2, 1), (0, 4), (0, a3), (0, (v22078 - 97)), (0, v22097), (9, 0)]) (Nat.le_of_ble_eq_true rfl) rfl ?_
          refine ev_iconst ?_
          refine ev_istore (L' := [(2, 7), (2, 1), (0, 4), (0, a3), (0, (v22078 - 97)), (0, v22097), (0, 0)]) (Nat.le_of_ble_eq_true rfl) rfl ?_
          exact (s79_4_l la3 ua3 ew0 lw0 uw0 ew1 lw1 uw1 8) _ _ _ _ _ g22095 k22095 (by omega) (by omega) (by omega) (by omega) (by omega) (by omega) (by omega) (by omega) (by omega) (by omega) (ev22096) (by omega) (by omega) (by omega)
        · refine ev_aload_n rfl ?_
          refine ev_in (d := 18) (a := 0) (b := 0) (cd' := c70_0) (m := 1) (L0 := [(2, 7)]) (jcall_v (A := []) (S' := []) (r := 7) rfl (g22070.lt ad7) (g22070.tg ad7) (Nat.le_of_ble_eq_true rfl)) (by decide) ml70 pp70 (Nat.le_of_ble_eq_true rfl) rfl (by decide) (by decide) ?_
          refine ev_aload_n rfl ?_
          refine g_getv (r := 7) (v := w0) g22070 ad7 (by decide) ft5_1 (((jw_ne e22070 (Or.inr (by decide))).trans ew0)) ?_
          refine ev_ifge f70_15 (fun c22098 => ?_) (fun c22098 => ?_)
          · refine ev_ret rfl (by decide) (by decide) ?_
            show jEv _ _ _ _ _ _ _ (_, [(2, 7), (2, 1), (0, 4), (0, a3), (0, (v22078 - 97)), (9, 0), (9, 0)], [], _, _, _)
            refine ev_iconst ?_
            exact ev_ret rfl (by decide) (by decide) ⟨_, _, rfl, by omega, by omega, g22070, k22070, (((jw_ne e22070 (Or.inr (by decide))).trans ew0)), by omega, by omega⟩
          · refine ev_aload_n rfl ?_
            refine ev_aload_n rfl ?_
            refine g_getv (r := 7) (v := (w1 + 1)) g22070 ad7 (by decide) ft5_2 ((jw_eq e22070)) ?_
            refine g_putf (r := 7) g22070 ad7 (by decide) ft5_1 (by decide) (fun e => absurd e nz5_1) rf7_1 (by decide) (by omega) (by omega) (fun h22099 e22099 g22099 => ?_)
            have k22099 := k22070.wr e22099 rfl
            refine ev_ret rfl (by decide) (by decide) ?_
            show jEv _ _ _ _ _ _ _ (_, [(2, 7), (2, 1), (0, 4), (0, a3), (0, (v22078 - 97)), (9, 0), (9, 0)], [], _, _, _)
            refine ev_iconst ?_
            exact ev_ret rfl (by decide) (by decide) ⟨_, _, rfl, by omega, by omega, g22099, k22099, ((jw_eq e22099)), by omega, by omega⟩
/-! s74_4  -/
set_option maxHeartbeats 4000000 in
theorem s74_4 {G : GH} {h : JH} (g : Gd G h) {a3 : Int} (la3 : (-2147483648) ≤ a3) (ua3 : a3 ≤ 2147483647) {w0 : Int} (ew0 : h.2.2 7 1 = w0) (lw0 : (-1) ≤ w0) (uw0 : w0 ≤ 200) : jOk 21 0 0 74 [(2, 7), (2, 1), (0, 4), (0, a3)] h (fun v h' => ∃ r F : Int, v = some (0, r) ∧ (-1) ≤ r ∧ r ≤ 199 ∧ Gd G h' ∧ Kp [(7, 2), (7, 3), (7, 4), (10, 0), (11, 0), (12, 0), (13, 0), (14, 0), (15, 0), (16, 0), (17, 0)] h h' ∧ h'.2.2 7 1 = F ∧ ((-F) + w0) ≤ 0 ∧ ((-F) + (-r)) ≤ 1) := by
  refine ⟨by decide, by rw [ml74]; exact Nat.le_of_ble_eq_true rfl, ?_⟩
  rw [ml74, pp74]
  show jEv _ none _ c74_0 0 0 _ (c74_0, [(2, 7), (2, 1), (0, 4), (0, a3), (9, 0)], [], h, 0, 0)
  have k0 := Kp.rf [(7, 2), (7, 3), (7, 4), (10, 0), (11, 0), (12, 0), (13, 0), (14, 0), (15, 0), (16, 0), (17, 0)] h
  refine ev_aload_n rfl ?_
  refine g_getv (r := 7) (v := w0) g ad7 (by decide) ft5_1 (ew0) ?_
  refine ev_ifge f74_13 (fun c22166 => ?_) (fun c22166 => ?_)
  · refine ev_aload_n rfl ?_
    refine ev_in (d := 19) (a := 0) (b := 0) (cd' := c70_0) (m := 1) (L0 := [(2, 7)]) (jcall_v (A := []) (S' := []) (r := 7) rfl (g.lt ad7) (g.tg ad7) (Nat.le_of_ble_eq_true rfl)) (by decide) ml70 pp70 (Nat.le_of_ble_eq_true rfl) rfl (by decide) (by decide) ?_
    refine ev_aload_n rfl ?_
    refine g_getv (r := 7) (v := w0) g ad7 (by decide) ft5_1 (ew0) ?_
    refine ev_ifge f70_15 (fun c22167 => ?_) (fun c22167 => absurd c22167 (by omega))
    refine ev_ret rfl (by decide) (by decide) ?_
    show jEv _ _ _ _ _ _ _ (_, [(2, 7), (2, 1), (0, 4), (0, a3), (9, 0)], [], _, _, _)
    refine ev_iconst ?_
    exact ev_ret rfl (by decide) (by decide) ⟨_, _, rfl, by omega, by omega, g, k0, (ew0), by omega, by omega⟩
  · refine ev_iload_n rfl ?_
    refine ev_bipush ?_
    refine ev_icmple f74_19 (fun c22168 => ?_) (fun c22168 => absurd c22168 (by omega))
    refine ev_aload_n rfl ?_
    refine ev_in (d := 19) (a := 0) (b := 0) (cd' := c68_0) (m := 1) (L0 := [(2, 7)]) (jcall_v (A := []) (S' := []) (r := 7) rfl (g.lt ad7) (g.tg ad7) (Nat.le_of_ble_eq_true rfl)) (by decide) ml68 pp68 (Nat.le_of_ble_eq_true rfl) rfl (by decide) (by decide) ?_
    refine ev_aload_n rfl ?_
    obtain ⟨v22169, ev22169, lv22169, uv22169⟩ := g.rd ad7 (show 2 < 15 by decide) rf7_2
    refine g_getv (r := 7) (v := v22169) g ad7 (by decide) ft5_2 ev22169 ?_
    refine ev_aload_n rfl ?_
    obtain ⟨v22170, ev22170, lv22170, uv22170⟩ := g.rd ad7 (show 0 < 15 by decide) rf7_0
    refine g_getv (r := 7) (v := v22170) g ad7 (by decide) ft5_0 ev22170 ?_
    refine ev_icmpge f68_27 (fun c22171 => ?_) (fun c22171 => ?_)
    · refine ev_iconst ?_
      refine ev_ret rfl (by decide) (by decide) ?_
      show jEv _ _ _ _ _ _ _ (_, [(2, 7), (2, 1), (0, 4), (0, a3), (9, 0)], [(0, (-1))], _, _, _)
      refine ev_istore (L' := [(2, 7), (2, 1), (0, 4), (0, a3), (0, (-1))]) (Nat.le_of_ble_eq_true rfl) rfl ?_
      refine ev_iload rfl ?_
      refine ev_bipush ?_
      refine ev_icmpne f74_40 (fun c22172 => ?_) (fun c22172 => absurd c22172 (by omega))
      refine ev_iload rfl ?_
      refine ev_bipush ?_
      refine ev_icmpne f74_55 (fun c22173 => ?_) (fun c22173 => absurd c22173 (by omega))
      refine ev_iload rfl ?_
      refine ev_bipush ?_
      refine ev_icmplt f74_78 (fun c22174 => ?_) (fun c22174 => absurd c22174 (by omega))
      refine ev_aload_n rfl ?_
      refine ev_call (jcall_v (A := []) (S' := []) (r := 7) rfl (g.lt ad7) (g.tg ad7) (Nat.le_of_ble_eq_true rfl)) (jOk_le (by decide) (s75 g (ew0) (by omega) (by omega))) (by decide) (by decide) (fun w22175 h22175 q22175 => ?_)
      obtain ⟨v22177, v22176, rfl, lv22177, uv22177, g22175, kk22175, ev22176, p22175_0, p22175_1⟩ := q22175
      have bv22176 := g22175.rg ad7 (i := 1) (by decide) rf7_1
      rw [ev22176] at bv22176
      have k22175 := k0.tr kk22175 (by decide)
      show jEv _ _ _ _ _ _ _ (_, [(2, 7), (2, 1), (0, 4), (0, a3), (0, (-1))], [(0, v22177)], _, _, _)
      exact ev_ret rfl (by decide) (by decide) ⟨_, _, rfl, by omega, by omega, g22175, k22175, (ev22176), by omega, by omega⟩
    · refine ev_aload_n rfl ?_
      refine g_getp (r := 7) (c := 8) g ad7 (by decide) (by decide) rf7_5 ft5_5 ?_
      refine ev_aload_n rfl ?_
      refine g_getv (r := 7) (v := v22169) g ad7 (by decide) ft5_2 (ev22169) ?_
      refine g_bald g ad8 rt8 (by omega) (by omega) (fun v22178 ev22178 lv22178 uv22178 => ?_)
      refine ev_sipush ?_
      refine g_iandB (b := 255) (by omega) (by omega) (by decide) (fun v22179 ev22179 lv22179 uv22179 => ?_)
      refine ev_goto f68_28 ?_
      refine ev_ret rfl (by decide) (by decide) ?_
      show jEv _ _ _ _ _ _ _ (_, [(2, 7), (2, 1), (0, 4), (0, a3), (9, 0)], [(0, v22179)], _, _, _)
      refine ev_istore (L' := [(2, 7), (2, 1), (0, 4), (0, a3), (0, v22179)]) (Nat.le_of_ble_eq_true rfl) rfl ?_
      refine ev_iload rfl ?_
      refine ev_bipush ?_
      refine ev_icmpne f74_40 (fun c22180 => ?_) (fun c22180 => ?_)
      · refine ev_iload rfl ?_
        refine ev_bipush ?_
        refine ev_icmpne f74_55 (fun c22181 => ?_) (fun c22181 => ?_)
        · refine ev_iload rfl ?_
          refine ev_bipush ?_
          refine ev_icmplt f74_78 (fun c22182 => ?_) (fun c22182 => ?_)
          · refine ev_aload_n rfl ?_
            refine ev_call (jcall_v (A := []) (S' := []) (r := 7) rfl (g.lt ad7) (g.tg ad7) (Nat.le_of_ble_eq_true rfl)) (jOk_le (by decide) (s75 g (ew0) (by omega) (by omega))) (by decide) (by decide) (fun w22183 h22183 q22183 => ?_)
            obtain ⟨v22185, v22184, rfl, lv22185, uv22185, g22183, kk22183, ev22184, p22183_0, p22183_1⟩ := q22183
            have bv22184 := g22183.rg ad7 (i := 1) (by decide) rf7_1
            rw [ev22184] at bv22184
            have k22183 := k0.tr kk22183 (by decide)
            show jEv _ _ _ _ _ _ _ (_, [(2, 7), (2, 1), (0, 4), (0, a3), (0, v22179)], [(0, v22185)], _, _, _)
            exact ev_ret rfl (by decide) (by decide) ⟨_, _, rfl, by omega, by omega, g22183, k22183, (ev22184), by omega, by omega⟩
          · refine ev_iload rfl ?_
            refine ev_bipush ?_
            refine ev_icmpge f74_78 (fun c22186 => ?_) (fun c22186 => ?_)
            · refine ev_aload_n rfl ?_
              refine ev_call (jcall_v (A := []) (S' := []) (r := 7) rfl (g.lt ad7) (g.tg ad7) (Nat.le_of_ble_eq_true rfl)) (jOk_le (by decide) (s75 g (ew0) (by omega) (by omega))) (by decide) (by decide) (fun w22187 h22187 q22187 => ?_)
              obtain ⟨v22189, v22188, rfl, lv22189, uv22189, g22187, kk22187, ev22188, p22187_0, p22187_1⟩ := q22187
              have bv22188 := g22187.rg ad7 (i := 1) (by decide) rf7_1
              rw [ev22188] at bv22188
              have k22187 := k0.tr kk22187 (by decide)
              show jEv _ _ _ _ _ _ _ (_, [(2, 7), (2, 1), (0, 4), (0, a3), (0, v22179)], [(0, v22189)], _, _, _)
              exact ev_ret rfl (by decide) (by decide) ⟨_, _, rfl, by omega, by omega, g22187, k22187, (ev22188), by omega, by omega⟩
            · refine ev_aload_n rfl ?_
              refine ev_iload_n rfl ?_
              refine ev_iload_n rfl ?_
              refine ev_call (jcall_v (A := [(0, a3), (0, 4)]) (S' := []) (r := 7) rfl (g.lt ad7) (g.tg ad7) (Nat.le_of_ble_eq_true rfl)) (jOk_le (by decide) (s77 g (by omega) (by omega) (by omega) (by omega) (ew0) (by omega) (by omega))) (by decide) (by decide) (fun w22190 h22190 q22190 => ?_)
              obtain ⟨v22192, v22191, rfl, lv22192, uv22192, g22190, kk22190, ev22191, p22190_0, p22190_1⟩ := q22190
              have bv22191 := g22190.rg ad7 (i := 1) (by decide) rf7_1
              rw [ev22191] at bv22191
              have k22190 := k0.tr kk22190 (by decide)
              show jEv _ _ _ _ _ _ _ (_, [(2, 7), (2, 1), (0, 4), (0, a3), (0, v22179)], [(0, v22192)], _, _, _)
              refine ev_goto f74_82 ?_
              exact ev_ret rfl (by decide) (by decide) ⟨_, _, rfl, by omega, by omega, g22190, k22190, (ev22191), by omega, by omega⟩
        · refine ev_aload_n rfl ?_
          refine ev_aload_n rfl ?_
          refine ev_iload_n rfl ?_
          refine ev_iload_n rfl ?_
          refine ev_call (jcall_v (A := [(0, a3), (0, 4), (2, 1)]) (S' := []) (r := 7) rfl (g.lt ad7) (g.tg ad7) (Nat.le_of_ble_eq_true rfl)) (jOk_le (by decide) (s79_4 g (by omega) (by omega) (ew0) (by omega) (by omega) (ev22169) (by omega) (by omega))) (by decide) (by decide) (fun w22193 h22193 q22193 => ?_)
          obtain ⟨v22195, v22194, rfl, lv22195, uv22195, g22193, kk22193, ev22194, p22193_0, p22193_1⟩ := q22193
          have bv22194 := g22193.rg ad7 (i := 1) (by decide) rf7_1
          rw [ev22194] at bv22194
          have k22193 := k0.tr kk22193 (by decide)
          show jEv _ _ _ _ _ _ _ (_, [(2, 7), (2, 1), (0, 4), (0, a3), (0, v22179)], [(0, v22195)], _, _, _)
          exact ev_ret rfl (by decide) (by decide) ⟨_, _, rfl, by omega, by omega, g22193, k22193, (ev22194), by omega, by omega⟩
      · refine ev_aload_n rfl ?_
        refine ev_aload_n rfl ?_
        refine ev_iload_n rfl ?_
        refine ev_iload_n rfl ?_
        refine ev_call (jcall_v (A := [(0, a3), (0, 4), (2, 1)]) (S' := []) (r := 7) rfl (g.lt ad7) (g.tg ad7) (Nat.le_of_ble_eq_true rfl)) (jOk_le (by decide) (s78_4 g (by omega) (by omega) (ew0) (by omega) (by omega) (ev22169) (by omega) (by omega))) (by decide) (by decide) (fun w22196 h22196 q22196 => ?_)
        obtain ⟨v22198, v22197, rfl, lv22198, uv22198, g22196, kk22196, ev22197, p22196_0, p22196_1⟩ := q22196
        have bv22197 := g22196.rg ad7 (i := 1) (by decide) rf7_1
        rw [ev22197] at bv22197
        have k22196 := k0.tr kk22196 (by decide)
        show jEv _ _ _ _ _ _ _ (_, [(2, 7), (2, 1), (0, 4), (0, a3), (0, v22179)], [(0, v22198)], _, _, _)
        exact ev_ret rfl (by decide) (by decide) ⟨_, _, rfl, by omega, by omega, g22196, k22196, (ev22197), by omega, by omega⟩
/-! s78_3  -/
set_option maxHeartbeats 4000000 in
theorem s78_3_l {G : GH} {h : JH} {a3 : Int} (la3 : (-2147483648) ≤ a3) (ua3 : a3 ≤ 2147483647) {w0 : Int} (ew0 : h.2.2 7 1 = w0) (lw0 : (-1) ≤ w0) (uw0 : w0 ≤ 200) {w1 : Int} (ew1 : h.2.2 7 2 = w1) (lw1 : 0 ≤ w1) (uw1 : w1 ≤ 199) : ∀ N : Nat, (∀ (h1 : JH) (x4 x5 y0 : Int) (j6 : AV), Gd G h1 → Kp [(7, 2), (7, 3), (7, 4), (10, 0), (11, 0), (12, 0), (13, 0), (14, 0), (15, 0), (16, 0), (17, 0)] h h1 → (-2147483648) ≤ a3 → a3 ≤ 2147483647 → (-1) ≤ x4 → x4 ≤ 199 → 0 ≤ x5 → x5 ≤ 3 → (w0 + (-y0)) ≤ 0 → ((-x4) + (-y0)) ≤ 1 → h1.2.2 7 1 = y0 → (-1) ≤ y0 → y0 ≤ 200 → ((-x5) + 3) < N → jEv (jOk 21) none (fun _ => 0) c78_0 0 0 (fun v h' => ∃ r F : Int, v = some (0, r) ∧ (-1) ≤ r ∧ r ≤ 199 ∧ Gd G h' ∧ Kp [(7, 2), (7, 3), (7, 4), (10, 0), (11, 0), (12, 0), (13, 0), (14, 0), (15, 0), (16, 0), (17, 0)] h h' ∧ h'.2.2 7 1 = F ∧ ((-F) + w0) ≤ 0 ∧ ((-F) + (-r)) ≤ 1) (c78_25, [(2, 7), (2, 1), (0, 3), (0, a3), (0, x4), (0, x5), j6], [], h1, 0, 0)) := by
  intro N
  induction N with
  | zero => exact fun h1 x4 x5 y0 j6 g1 k1 b0 b1 b2 b3 b4 b5 b6 b7 b8 b9 b10 hm => absurd hm (by omega)
  | succ N ih =>
    show _
    intro h1 x4 x5 y0 j6 g1 k1 b0 b1 b2 b3 b4 b5 b6 b7 ey0 ly0 uy0 hm
    refine ev_iload rfl ?_
    refine ev_iconst ?_
    refine ev_icmpge f78_100 (fun c22367 => absurd c22367 (by omega)) (fun c22367 => ?_)
    refine ev_aload_n rfl ?_
    refine g_getv (r := 7) (v := y0) g1 ad7 (by decide) ft5_1 (ey0) ?_
    refine ev_ifge f78_100 (fun c22368 => ?_) (fun c22368 => ?_)
    · refine ev_aload_n rfl ?_
      refine ev_bipush ?_
      refine ev_call (jcall_v (A := [(0, 41)]) (S' := []) (r := 7) rfl (g1.lt ad7) (g1.tg ad7) (Nat.le_of_ble_eq_true rfl)) (jOk_le (by decide) (s71 g1 (by omega) (by omega) (ey0) (by omega) (by omega))) (by decide) (by decide) (fun w22369 h22369 q22369 => ?_)
      obtain ⟨v22370, rfl, g22369, kk22369, ev22370, p22369_0⟩ := q22369
      have bv22370 := g22369.rg ad7 (i := 1) (by decide) rf7_1
      rw [ev22370] at bv22370
      have k22369 := k1.tr kk22369 (by decide)
      show jEv _ _ _ _ _ _ _ (_, [(2, 7), (2, 1), (0, 3), (0, a3), (0, x4), (0, x5), j6], [], _, _, _)
      refine ev_aload_n rfl ?_
      refine g_getv (r := 7) (v := v22370) g22369 ad7 (by decide) ft5_1 (ev22370) ?_
      refine ev_iflt f78_117 (fun c22371 => absurd c22371 (by omega)) (fun c22371 => ?_)
      refine ev_iconst ?_
      refine ev_goto f78_119 ?_
      exact ev_ret rfl (by decide) (by decide) ⟨_, _, rfl, by omega, by omega, g22369, k22369, (ev22370), by omega, by omega⟩
    · refine ev_aload_n rfl ?_
      refine ev_iconst ?_
      refine ev_call (jcall_v (A := [(0, 2)]) (S' := []) (r := 7) rfl (g1.lt ad7) (g1.tg ad7) (Nat.le_of_ble_eq_true rfl)) (jOk_le (by decide) (s76 g1 (by omega) (by omega) (ey0) (by omega) (by omega))) (by decide) (by decide) (fun w22372 h22372 q22372 => ?_)
      obtain ⟨v22374, v22373, rfl, lv22374, uv22374, g22372, kk22372, ev22373, p22372_0⟩ := q22372
      have bv22373 := g22372.rg ad7 (i := 1) (by decide) rf7_1
      rw [ev22373] at bv22373
      have k22372 := k1.tr kk22372 (by decide)
      show jEv _ _ _ _ _ _ _ (_, [(2, 7), (2, 1), (0, 3), (0, a3), (0, x4), (0, x5), j6], [(0, v22374)], _, _, _)
      refine ev_istore (L' := [(2, 7), (2, 1), (0, 3), (0, a3), (0, x4), (0, x5), (0, v22374)]) (Nat.le_of_ble_eq_true rfl) rfl ?_
      refine ev_aload_n rfl ?_
      refine ev_bipush ?_
      refine ev_call (jcall_v (A := [(0, 58)]) (S' := []) (r := 7) rfl (g22372.lt ad7) (g22372.tg ad7) (Nat.le_of_ble_eq_true rfl)) (jOk_le (by decide) (s71 g22372 (by omega) (by omega) (ev22373) (by omega) (by omega))) (by decide) (by decide) (fun w22375 h22375 q22375 => ?_)
      obtain ⟨v22376, rfl, g22375, kk22375, ev22376, p22375_0⟩ := q22375
      have bv22376 := g22375.rg ad7 (i := 1) (by decide) rf7_1
      rw [ev22376] at bv22376
      have k22375 := k22372.tr kk22375 (by decide)
      show jEv _ _ _ _ _ _ _ (_, [(2, 7), (2, 1), (0, 3), (0, a3), (0, x4), (0, x5), (0, v22374)], [], _, _, _)
      refine ev_aload_n rfl ?_
      refine ev_iload rfl ?_
      refine ev_iload rfl ?_
      refine ev_iload rfl ?_
      refine ev_aload_n rfl ?_
      refine ev_aload_n rfl ?_
      refine ev_iload_n rfl ?_
      refine ev_iconst ?_
      refine ev_iadd (r := 4) (by decide) ?_
      refine ev_iload_n rfl ?_
      refine ev_call (jcall_v (A := [(0, a3), (0, 4), (2, 1)]) (S' := [(0, v22374), (0, x5), (0, x4), (2, 7)]) (r := 7) rfl (g22375.lt ad7) (g22375.tg ad7) (Nat.le_of_ble_eq_true rfl)) (jOk_le (by decide) (s74_4 g22375 (by omega) (by omega) (ev22376) (by omega) (by omega))) (by decide) (by decide) (fun w22377 h22377 q22377 => ?_)
      obtain ⟨v22379, v22378, rfl, lv22379, uv22379, g22377, kk22377, ev22378, p22377_0, p22377_1⟩ := q22377
      have bv22378 := g22377.rg ad7 (i := 1) (by decide) rf7_1
      rw [ev22378] at bv22378
      have k22377 := k22375.tr kk22377 (by decide)
      show jEv _ _ _ _ _ _ _ (_, [(2, 7), (2, 1), (0, 3), (0, a3), (0, x4), (0, x5), (0, v22374)], [(0, v22379), (0, v22374), (0, x5), (0, x4), (2, 7)], _, _, _)
      refine ev_call (jcall_v (A := [(0, v22379), (0, v22374), (0, x5), (0, x4)]) (S' := []) (r := 7) rfl (g22377.lt ad7) (g22377.tg ad7) (Nat.le_of_ble_eq_true rfl)) (jOk_le (by decide) (s80 g22377 (by omega) (by omega) (by omega) (by omega) (by omega) (by omega) (by omega) (by omega))) (by decide) (by decide) (fun w22380 h22380 q22380 => ?_)
      obtain ⟨rfl, g22380, kk22380⟩ := q22380
      have k22380 := k22377.tr kk22380 (by decide)
      show jEv _ _ _ _ _ _ _ (_, [(2, 7), (2, 1), (0, 3), (0, a3), (0, x4), (0, x5), (0, v22374)], [], _, _, _)
      refine ev_aload_n rfl ?_
      refine ev_in (d := 20) (a := 0) (b := 0) (cd' := c68_0) (m := 1) (L0 := [(2, 7)]) (jcall_v (A := []) (S' := []) (r := 7) rfl (g22380.lt ad7) (g22380.tg ad7) (Nat.le_of_ble_eq_true rfl)) (by decide) ml68 pp68 (Nat.le_of_ble_eq_true rfl) rfl (by decide) (by decide) ?_
      refine ev_aload_n rfl ?_
      obtain ⟨v22381, ev22381, lv22381, uv22381⟩ := g22380.rd ad7 (show 2 < 15 by decide) rf7_2
      refine g_getv (r := 7) (v := v22381) g22380 ad7 (by decide) ft5_2 ev22381 ?_
      refine ev_aload_n rfl ?_
      obtain ⟨v22382, ev22382, lv22382, uv22382⟩ := g22380.rd ad7 (show 0 < 15 by decide) rf7_0
      refine g_getv (r := 7) (v := v22382) g22380 ad7 (by decide) ft5_0 ev22382 ?_
      refine ev_icmpge f68_27 (fun c22383 => ?_) (fun c22383 => ?_)
      · refine ev_iconst ?_
        refine ev_ret rfl (by decide) (by decide) ?_
        show jEv _ _ _ _ _ _ _ (_, [(2, 7), (2, 1), (0, 3), (0, a3), (0, x4), (0, x5), (0, v22374)], [(0, (-1))], _, _, _)
        refine ev_bipush ?_
        refine ev_icmpne f78_100 (fun c22384 => ?_) (fun c22384 => absurd c22384 (by omega))
        refine ev_aload_n rfl ?_
        refine ev_bipush ?_
        refine ev_call (jcall_v (A := [(0, 41)]) (S' := []) (r := 7) rfl (g22380.lt ad7) (g22380.tg ad7) (Nat.le_of_ble_eq_true rfl)) (jOk_le (by decide) (s71 g22380 (by omega) (by omega) (((kk22380.v (by decide)).trans ev22378)) (by omega) (by omega))) (by decide) (by decide) (fun w22385 h22385 q22385 => ?_)
        obtain ⟨v22386, rfl, g22385, kk22385, ev22386, p22385_0⟩ := q22385
        have bv22386 := g22385.rg ad7 (i := 1) (by decide) rf7_1
        rw [ev22386] at bv22386
        have k22385 := k22380.tr kk22385 (by decide)
        show jEv _ _ _ _ _ _ _ (_, [(2, 7), (2, 1), (0, 3), (0, a3), (0, x4), (0, x5), (0, v22374)], [], _, _, _)
        refine ev_aload_n rfl ?_
        refine g_getv (r := 7) (v := v22386) g22385 ad7 (by decide) ft5_1 (ev22386) ?_
        refine ev_iflt f78_117 (fun c22387 => ?_) (fun c22387 => ?_)
        · refine ev_iload rfl ?_
          exact ev_ret rfl (by decide) (by decide) ⟨_, _, rfl, by omega, by omega, g22385, k22385, (ev22386), by omega, by omega⟩
        · refine ev_iconst ?_
          refine ev_goto f78_119 ?_
          exact ev_ret rfl (by decide) (by decide) ⟨_, _, rfl, by omega, by omega, g22385, k22385, (ev22386), by omega, by omega⟩
      · refine ev_aload_n rfl ?_
        refine g_getp (r := 7) (c := 8) g22380 ad7 (by decide) (by decide) rf7_5 ft5_5 ?_
        refine ev_aload_n rfl ?_
        refine g_getv (r := 7) (v := v22381) g22380 ad7 (by decide) ft5_2 (ev22381) ?_
        refine g_bald g22380 ad8 rt8 (by omega) (by omega) (fun v22388 ev22388 lv22388 uv22388 => ?_)
        refine ev_sipush ?_
        refine g_iandB (b := 255) (by omega) (by omega) (by decide) (fun v22389 ev22389 lv22389 uv22389 => ?_)
        refine ev_goto f68_28 ?_
        refine ev_ret rfl (by decide) (by decide) ?_
        show jEv _ _ _ _ _ _ _ (_, [(2, 7), (2, 1), (0, 3), (0, a3), (0, x4), (0, x5), (0, v22374)], [(0, v22389)], _, _, _)
        refine ev_bipush ?_
        refine ev_icmpne f78_100 (fun c22390 => ?_) (fun c22390 => ?_)
        · refine ev_aload_n rfl ?_
          refine ev_bipush ?_
          refine ev_call (jcall_v (A := [(0, 41)]) (S' := []) (r := 7) rfl (g22380.lt ad7) (g22380.tg ad7) (Nat.le_of_ble_eq_true rfl)) (jOk_le (by decide) (s71 g22380 (by omega) (by omega) (((kk22380.v (by decide)).trans ev22378)) (by omega) (by omega))) (by decide) (by decide) (fun w22391 h22391 q22391 => ?_)
          obtain ⟨v22392, rfl, g22391, kk22391, ev22392, p22391_0⟩ := q22391
          have bv22392 := g22391.rg ad7 (i := 1) (by decide) rf7_1
          rw [ev22392] at bv22392
          have k22391 := k22380.tr kk22391 (by decide)
          show jEv _ _ _ _ _ _ _ (_, [(2, 7), (2, 1), (0, 3), (0, a3), (0, x4), (0, x5), (0, v22374)], [], _, _, _)
          refine ev_aload_n rfl ?_
          refine g_getv (r := 7) (v := v22392) g22391 ad7 (by decide) ft5_1 (ev22392) ?_
          refine ev_iflt f78_117 (fun c22393 => ?_) (fun c22393 => ?_)
          · refine ev_iload rfl ?_
            exact ev_ret rfl (by decide) (by decide) ⟨_, _, rfl, by omega, by omega, g22391, k22391, (ev22392), by omega, by omega⟩
          · refine ev_iconst ?_
            refine ev_goto f78_119 ?_
            exact ev_ret rfl (by decide) (by decide) ⟨_, _, rfl, by omega, by omega, g22391, k22391, (ev22392), by omega, by omega⟩
        · refine ev_iload rfl ?_
          refine ev_iconst ?_
          refine ev_icmpne f78_88 (fun c22394 => ?_) (fun c22394 => ?_)
          · refine ev_aload_n rfl ?_
            refine ev_bipush ?_
            refine ev_call (jcall_v (A := [(0, 44)]) (S' := []) (r := 7) rfl (g22380.lt ad7) (g22380.tg ad7) (Nat.le_of_ble_eq_true rfl)) (jOk_le (by decide) (s71 g22380 (by omega) (by omega) (((kk22380.v (by decide)).trans ev22378)) (by omega) (by omega))) (by decide) (by decide) (fun w22395 h22395 q22395 => ?_)
            obtain ⟨v22396, rfl, g22395, kk22395, ev22396, p22395_0⟩ := q22395
            have bv22396 := g22395.rg ad7 (i := 1) (by decide) rf7_1
            rw [ev22396] at bv22396
            have k22395 := k22380.tr kk22395 (by decide)
            show jEv _ _ _ _ _ _ _ (_, [(2, 7), (2, 1), (0, 3), (0, a3), (0, x4), (0, x5), (0, v22374)], [], _, _, _)
            refine ev_iinc (w := (x5 + 1)) (L' := [(2, 7), (2, 1), (0, 3), (0, a3), (0, x4), (0, (x5 + 1)), (0, v22374)]) rfl (by unfold w32; omega) rfl ?_
            refine ev_goto f78_25 ?_
            exact ih _ _ _ _ _ g22395 k22395 (by omega) (by omega) (by omega) (by omega) (by omega) (by omega) (by omega) (by omega) (ev22396) (by omega) (by omega) (by omega)
          · refine ev_goto f78_100 ?_
            refine ev_aload_n rfl ?_
            refine ev_bipush ?_
            refine ev_call (jcall_v (A := [(0, 41)]) (S' := []) (r := 7) rfl (g22380.lt ad7) (g22380.tg ad7) (Nat.le_of_ble_eq_true rfl)) (jOk_le (by decide) (s71 g22380 (by omega) (by omega) (((kk22380.v (by decide)).trans ev22378)) (by omega) (by omega))) (by decide) (by decide) (fun w22397 h22397 q22397 => ?_)
            obtain ⟨v22398, rfl, g22397, kk22397, ev22398, p22397_0⟩ := q22397
            have bv22398 := g22397.rg ad7 (i := 1) (by decide) rf7_1
            rw [ev22398] at bv22398
            have k22397 := k22380.tr kk22397 (by decide)
            show jEv _ _ _ _ _ _ _ (_, [(2, 7), (2, 1), (0, 3), (0, a3), (0, x4), (0, x5), (0, v22374)], [], _, _, _)
            refine ev_aload_n rfl ?_
            refine g_getv (r := 7) (v := v22398) g22397 ad7 (by decide) ft5_1 (ev22398) ?_
            refine ev_iflt f78_117 (fun c22399 => ?_) (fun c22399 => ?_)
            · refine ev_iload rfl ?_
              exact ev_ret rfl (by decide) (by decide) ⟨_, _, rfl, by omega, by omega, g22397, k22397, (ev22398), by omega, by omega⟩
            · refine ev_iconst ?_
              refine ev_goto f78_119 ?_
              exact ev_ret rfl (by decide) (by decide) ⟨_, _, rfl, by omega, by omega, g22397, k22397, (ev22398), by omega, by omega⟩
set_option maxHeartbeats 4000000 in
theorem s78_3 {G : GH} {h : JH} (g : Gd G h) {a3 : Int} (la3 : (-2147483648) ≤ a3) (ua3 : a3 ≤ 2147483647) {w0 : Int} (ew0 : h.2.2 7 1 = w0) (lw0 : (-1) ≤ w0) (uw0 : w0 ≤ 200) {w1 : Int} (ew1 : h.2.2 7 2 = w1) (lw1 : 0 ≤ w1) (uw1 : w1 ≤ 199) : jOk 22 0 0 78 [(2, 7), (2, 1), (0, 3), (0, a3)] h (fun v h' => ∃ r F : Int, v = some (0, r) ∧ (-1) ≤ r ∧ r ≤ 199 ∧ Gd G h' ∧ Kp [(7, 2), (7, 3), (7, 4), (10, 0), (11, 0), (12, 0), (13, 0), (14, 0), (15, 0), (16, 0), (17, 0)] h h' ∧ h'.2.2 7 1 = F ∧ ((-F) + w0) ≤ 0 ∧ ((-F) + (-r)) ≤ 1) := by
  refine ⟨by decide, by rw [ml78]; exact Nat.le_of_ble_eq_true rfl, ?_⟩
  rw [ml78, pp78]
  show jEv _ none _ c78_0 0 0 _ (c78_0, [(2, 7), (2, 1), (0, 3), (0, a3), (9, 0), (9, 0), (9, 0)], [], h, 0, 0)
  have k0 := Kp.rf [(7, 2), (7, 3), (7, 4), (10, 0), (11, 0), (12, 0), (13, 0), (14, 0), (15, 0), (16, 0), (17, 0)] h
  refine ev_aload_n rfl ?_
  refine ev_dup (by decide) ?_
  refine g_getv (r := 7) (v := w1) g ad7 (by decide) ft5_2 (ew1) ?_
  refine ev_iconst ?_
  refine ev_iadd (r := (w1 + 1)) (by unfold w32; omega) ?_
  refine g_putf (r := 7) g ad7 (by decide) ft5_2 (by decide) (fun e => absurd e nz5_2) rf7_2 (by decide) (by omega) (by omega) (fun h22400 e22400 g22400 => ?_)
  have k22400 := k0.wr e22400 rfl
  refine ev_aload_n rfl ?_
  refine ev_iload_n rfl ?_
  refine ev_call (jcall_v (A := [(0, 3)]) (S' := []) (r := 7) rfl (g22400.lt ad7) (g22400.tg ad7) (Nat.le_of_ble_eq_true rfl)) (jOk_le (by decide) (s72 g22400 (by omega) (by omega) (((jw_ne e22400 (Or.inr (by decide))).trans ew0)) (by omega) (by omega))) (by decide) (by decide) (fun w22401 h22401 q22401 => ?_)
  obtain ⟨v22402, rfl, g22401, kk22401, ev22402, p22401_0⟩ := q22401
  have bv22402 := g22401.rg ad7 (i := 1) (by decide) rf7_1
  rw [ev22402] at bv22402
  have k22401 := k22400.tr kk22401 (by decide)
  show jEv _ _ _ _ _ _ _ (_, [(2, 7), (2, 1), (0, 3), (0, a3), (9, 0), (9, 0), (9, 0)], [], _, _, _)
  refine ev_aload_n rfl ?_
  refine ev_iconst ?_
  refine ev_call (jcall_v (A := [(0, 1)]) (S' := []) (r := 7) rfl (g22401.lt ad7) (g22401.tg ad7) (Nat.le_of_ble_eq_true rfl)) (jOk_le (by decide) (s73 g22401 (by omega) (by omega) (ev22402) (by omega) (by omega))) (by decide) (by decide) (fun w22403 h22403 q22403 => ?_)
  obtain ⟨v22405, v22404, rfl, lv22405, uv22405, g22403, kk22403, ev22404, p22403_0, p22403_1⟩ := q22403
  have bv22404 := g22403.rg ad7 (i := 1) (by decide) rf7_1
  rw [ev22404] at bv22404
  have k22403 := k22401.tr kk22403 (by decide)
  show jEv _ _ _ _ _ _ _ (_, [(2, 7), (2, 1), (0, 3), (0, a3), (9, 0), (9, 0), (9, 0)], [(0, v22405)], _, _, _)
  refine ev_istore (L' := [(2, 7), (2, 1), (0, 3), (0, a3), (0, v22405), (9, 0), (9, 0)]) (Nat.le_of_ble_eq_true rfl) rfl ?_
  refine ev_iconst ?_
  refine ev_istore (L' := [(2, 7), (2, 1), (0, 3), (0, a3), (0, v22405), (0, 0), (9, 0)]) (Nat.le_of_ble_eq_true rfl) rfl ?_
  exact (s78_3_l la3 ua3 ew0 lw0 uw0 ew1 lw1 uw1 8) _ _ _ _ _ g22403 k22403 (by omega) (by omega) (by omega) (by omega) (by omega) (by omega) (by omega) (by omega) (ev22404) (by omega) (by omega) (by omega)
/-! s79_3  -/
set_option maxHeartbeats 4000000 in
theorem s79_3_l {G : GH} {h : JH} {a3 : Int} (la3 : (-2147483648) ≤ a3) (ua3 : a3 ≤ 2147483647) {w0 : Int} (ew0 : h.2.2 7 1 = w0) (lw0 : (-1) ≤ w0) (uw0 : w0 ≤ 200) {w1 : Int} (ew1 : h.2.2 7 2 = w1) (lw1 : 0 ≤ w1) (uw1 : w1 ≤ 199) : ∀ N : Nat, (∀ (h1 : JH) (x4 x5 x6 y0 : Int), Gd G h1 → Kp [(7, 2), (7, 3), (7, 4), (10, 0), (11, 0), (12, 0), (13, 0), (14, 0), (15, 0), (16, 0), (17, 0)] h h1 → (-2147483648) ≤ a3 → a3 ≤ 2147483647 → 0 ≤ x4 → x4 ≤ 3 → (-1) ≤ x5 → x5 ≤ 199 → 0 ≤ x6 → x6 ≤ 3 → (w0 + (-y0)) ≤ 0 → ((-x5) + (-y0)) ≤ 1 → h1.2.2 7 1 = y0 → (-1) ≤ y0 → y0 ≤ 200 → ((-x6) + 3) < N → jEv (jOk 21) none (fun _ => 0) c79_0 0 0 (fun v h' => ∃ r F : Int, v = some (0, r) ∧ (-1) ≤ r ∧ r ≤ 199 ∧ Gd G h' ∧ Kp [(7, 2), (7, 3), (7, 4), (10, 0), (11, 0), (12, 0), (13, 0), (14, 0), (15, 0), (16, 0), (17, 0)] h h' ∧ h'.2.2 7 1 = F ∧ ((-F) + w0) ≤ 0 ∧ ((-F) + (-r)) ≤ 1) (c79_68, [(2, 7), (2, 1), (0, 3), (0, a3), (0, x4), (0, x5), (0, x6)], [], h1, 0, 0)) := by
  intro N
  induction N with
  | zero => exact fun h1 x4 x5 x6 y0 g1 k1 b0 b1 b2 b3 b4 b5 b6 b7 b8 b9 b10 b11 b12 hm => absurd hm (by omega)
  | succ N ih =>
    show _
    intro h1 x4 x5 x6 y0 g1 k1 b0 b1 b2 b3 b4 b5 b6 b7 b8 b9 ey0 ly0 uy0 hm
    refine ev_iload rfl ?_
    refine ev_aload_n rfl ?_
    refine ev_iload rfl ?_
    refine ev_in (d := 20) (a := 0) (b := 0) (cd' := c141_0) (m := 2) (L0 := [(2, 1), (0, x4)]) (jcall_v (A := [(0, x4)]) (S' := [(0, x6)]) (r := 1) rfl (g1.lt ad1) (g1.tg ad1) (Nat.le_of_ble_eq_true rfl)) (by decide) ml141 pp141 (Nat.le_of_ble_eq_true rfl) rfl (by decide) (by decide) ?_
    refine ev_aload_n rfl ?_
    refine ev_iload_n rfl ?_
    refine ev_in (d := 19) (a := 0) (b := 0) (cd' := c140_0) (m := 2) (L0 := [(2, 1), (0, x4)]) (jcall_v (A := [(0, x4)]) (S' := []) (r := 1) rfl (g1.lt ad1) (g1.tg ad1) (Nat.le_of_ble_eq_true rfl)) (by decide) ml140 pp140 (Nat.le_of_ble_eq_true rfl) rfl (by decide) (by decide) ?_
    refine ev_iload_n rfl ?_
    refine ev_iflt f140_16 (fun c22683 => absurd c22683 (by omega)) (fun c22683 => ?_)
    refine ev_iload_n rfl ?_
    refine ev_aload_n rfl ?_
    obtain ⟨v22684, ev22684, lv22684, uv22684⟩ := g1.rd ad1 (show 0 < 8 by decide) rf1_0
    refine g_getv (r := 1) (v := v22684) g1 ad1 (by decide) ft10_0 ev22684 ?_
    refine ev_icmpge f140_16 (fun c22685 => ?_) (fun c22685 => ?_)
    · refine ev_iconst ?_
      refine ev_ret rfl (by decide) (by decide) ?_
      show jEv _ _ _ _ _ _ _ (_, [(2, 1), (0, x4)], [(0, 0)], _, _, _)
      refine ev_ifeq f141_17 (fun c22686 => ?_) (fun c22686 => absurd c22686 (by omega))
      refine ev_iconst ?_
      refine ev_ret rfl (by decide) (by decide) ?_
      show jEv _ _ _ _ _ _ _ (_, [(2, 7), (2, 1), (0, 3), (0, a3), (0, x4), (0, x5), (0, x6)], [(0, 0), (0, x6)], _, _, _)
      refine ev_icmpge f79_126 (fun c22687 => ?_) (fun c22687 => absurd c22687 (by omega))
      refine ev_aload_n rfl ?_
      refine ev_bipush ?_
      refine ev_call (jcall_v (A := [(0, 41)]) (S' := []) (r := 7) rfl (g1.lt ad7) (g1.tg ad7) (Nat.le_of_ble_eq_true rfl)) (jOk_le (by decide) (s71 g1 (by omega) (by omega) (ey0) (by omega) (by omega))) (by decide) (by decide) (fun w22688 h22688 q22688 => ?_)
      obtain ⟨v22689, rfl, g22688, kk22688, ev22689, p22688_0⟩ := q22688
      have bv22689 := g22688.rg ad7 (i := 1) (by decide) rf7_1
      rw [ev22689] at bv22689
      have k22688 := k1.tr kk22688 (by decide)
      show jEv _ _ _ _ _ _ _ (_, [(2, 7), (2, 1), (0, 3), (0, a3), (0, x4), (0, x5), (0, x6)], [], _, _, _)
      refine ev_aload_n rfl ?_
      refine g_getv (r := 7) (v := v22689) g22688 ad7 (by decide) ft5_1 (ev22689) ?_
      refine ev_ifge f79_144 (fun c22690 => ?_) (fun c22690 => ?_)
      · refine ev_iconst ?_
        exact ev_ret rfl (by decide) (by decide) ⟨_, _, rfl, by omega, by omega, g22688, k22688, (ev22689), by omega, by omega⟩
      · refine ev_iload rfl ?_
        refine ev_ifge f79_146 (fun c22691 => ?_) (fun c22691 => absurd c22691 (by omega))
        refine ev_aload_n rfl ?_
        refine g_getp (r := 7) (c := 11) g22688 ad7 (by decide) (by decide) rf7_8 ft5_8 ?_
        refine ev_iload rfl ?_
        refine ev_iload rfl ?_
        refine g_iast g22688 ad11 rt11 (fun _ => rfl) (by omega) (by omega) (by omega) (by omega) (fun h22692 e22692 g22692 => ?_)
        have k22692 := k22688.wr e22692 rfl
        refine ev_aload_n rfl ?_
        refine g_getp (r := 7) (c := 15) g22692 ad7 (by decide) (by decide) rf7_12 ft5_12 ?_
        refine ev_iload rfl ?_
        refine ev_dup2 (by decide) (by decide) ?_
        refine g_iald g22692 ad15 rt15 (by omega) (by omega) (fun v22693 ev22693 lv22693 uv22693 => ?_)
        refine ev_iconst ?_
        refine ev_iload rfl ?_
        refine g_ishlB (a' := 1) (a := 1) (b := 3) (hi := 8) (by omega) (by omega) (by omega) (by omega) (by decide) (by decide) (fun v22694 ev22694 lv22694 uv22694 => ?_)
        refine g_iorG (fun v22695 ev22695 lv22695 uv22695 => ?_)
        refine g_iast g22692 ad15 rt15 (fun _ => rfl) (by omega) (by omega) (by omega) (by omega) (fun h22696 e22696 g22696 => ?_)
        have k22696 := k22692.wr e22696 rfl
        refine ev_iload rfl ?_
        exact ev_ret rfl (by decide) (by decide) ⟨_, _, rfl, by omega, by omega, g22696, k22696, (((jw_ne e22696 (Or.inl (by decide))).trans ((jw_ne e22692 (Or.inl (by decide))).trans ev22689))), by omega, by omega⟩
    · refine ev_iconst ?_
      refine ev_goto f140_17 ?_
      refine ev_ret rfl (by decide) (by decide) ?_
      show jEv _ _ _ _ _ _ _ (_, [(2, 1), (0, x4)], [(0, 1)], _, _, _)
      refine ev_ifeq f141_17 (fun c22697 => absurd c22697 (by omega)) (fun c22697 => ?_)
      refine ev_aload_n rfl ?_
      refine g_getp (r := 1) (c := 2) g1 ad1 (by decide) (by decide) rf1_3 ft10_3 ?_
      refine ev_iload_n rfl ?_
      refine g_iald g1 ad2 rt2 (by omega) (by omega) (fun v22698 ev22698 lv22698 uv22698 => ?_)
      refine ev_goto f141_18 ?_
      refine ev_ret rfl (by decide) (by decide) ?_
      show jEv _ _ _ _ _ _ _ (_, [(2, 7), (2, 1), (0, 3), (0, a3), (0, x4), (0, x5), (0, x6)], [(0, v22698), (0, x6)], _, _, _)
      refine ev_icmpge f79_126 (fun c22699 => ?_) (fun c22699 => ?_)
      · refine ev_aload_n rfl ?_
        refine ev_bipush ?_
        refine ev_call (jcall_v (A := [(0, 41)]) (S' := []) (r := 7) rfl (g1.lt ad7) (g1.tg ad7) (Nat.le_of_ble_eq_true rfl)) (jOk_le (by decide) (s71 g1 (by omega) (by omega) (ey0) (by omega) (by omega))) (by decide) (by decide) (fun w22700 h22700 q22700 => ?_)
        obtain ⟨v22701, rfl, g22700, kk22700, ev22701, p22700_0⟩ := q22700
        have bv22701 := g22700.rg ad7 (i := 1) (by decide) rf7_1
        rw [ev22701] at bv22701
        have k22700 := k1.tr kk22700 (by decide)
        show jEv _ _ _ _ _ _ _ (_, [(2, 7), (2, 1), (0, 3), (0, a3), (0, x4), (0, x5), (0, x6)], [], _, _, _)
        refine ev_aload_n rfl ?_
        refine g_getv (r := 7) (v := v22701) g22700 ad7 (by decide) ft5_1 (ev22701) ?_
        refine ev_ifge f79_144 (fun c22702 => ?_) (fun c22702 => ?_)
        · refine ev_iconst ?_
          exact ev_ret rfl (by decide) (by decide) ⟨_, _, rfl, by omega, by omega, g22700, k22700, (ev22701), by omega, by omega⟩
        · refine ev_iload rfl ?_
          refine ev_ifge f79_146 (fun c22703 => ?_) (fun c22703 => absurd c22703 (by omega))
          refine ev_aload_n rfl ?_
          refine g_getp (r := 7) (c := 11) g22700 ad7 (by decide) (by decide) rf7_8 ft5_8 ?_
          refine ev_iload rfl ?_
          refine ev_iload rfl ?_
          refine g_iast g22700 ad11 rt11 (fun _ => rfl) (by omega) (by omega) (by omega) (by omega) (fun h22704 e22704 g22704 => ?_)
          have k22704 := k22700.wr e22704 rfl
          refine ev_aload_n rfl ?_
          refine g_getp (r := 7) (c := 15) g22704 ad7 (by decide) (by decide) rf7_12 ft5_12 ?_
          refine ev_iload rfl ?_
          refine ev_dup2 (by decide) (by decide) ?_
          refine g_iald g22704 ad15 rt15 (by omega) (by omega) (fun v22705 ev22705 lv22705 uv22705 => ?_)
          refine ev_iconst ?_
          refine ev_iload rfl ?_
          refine g_ishlB (a' := 1) (a := 1) (b := 3) (hi := 8) (by omega) (by omega) (by omega) (by omega) (by decide) (by decide) (fun v22706 ev22706 lv22706 uv22706 => ?_)
          refine g_iorG (fun v22707 ev22707 lv22707 uv22707 => ?_)
          refine g_iast g22704 ad15 rt15 (fun _ => rfl) (by omega) (by omega) (by omega) (by omega) (fun h22708 e22708 g22708 => ?_)
          have k22708 := k22704.wr e22708 rfl
          refine ev_iload rfl ?_
          exact ev_ret rfl (by decide) (by decide) ⟨_, _, rfl, by omega, by omega, g22708, k22708, (((jw_ne e22708 (Or.inl (by decide))).trans ((jw_ne e22704 (Or.inl (by decide))).trans ev22701))), by omega, by omega⟩
      · refine ev_aload_n rfl ?_
        refine g_getv (r := 7) (v := y0) g1 ad7 (by decide) ft5_1 (ey0) ?_
        refine ev_ifge f79_126 (fun c22709 => ?_) (fun c22709 => ?_)
        · refine ev_aload_n rfl ?_
          refine ev_bipush ?_
          refine ev_call (jcall_v (A := [(0, 41)]) (S' := []) (r := 7) rfl (g1.lt ad7) (g1.tg ad7) (Nat.le_of_ble_eq_true rfl)) (jOk_le (by decide) (s71 g1 (by omega) (by omega) (ey0) (by omega) (by omega))) (by decide) (by decide) (fun w22710 h22710 q22710 => ?_)
          obtain ⟨v22711, rfl, g22710, kk22710, ev22711, p22710_0⟩ := q22710
          have bv22711 := g22710.rg ad7 (i := 1) (by decide) rf7_1
          rw [ev22711] at bv22711
          have k22710 := k1.tr kk22710 (by decide)
          show jEv _ _ _ _ _ _ _ (_, [(2, 7), (2, 1), (0, 3), (0, a3), (0, x4), (0, x5), (0, x6)], [], _, _, _)
          refine ev_aload_n rfl ?_
          refine g_getv (r := 7) (v := v22711) g22710 ad7 (by decide) ft5_1 (ev22711) ?_
          refine ev_ifge f79_144 (fun c22712 => ?_) (fun c22712 => absurd c22712 (by omega))
          refine ev_iconst ?_
          exact ev_ret rfl (by decide) (by decide) ⟨_, _, rfl, by omega, by omega, g22710, k22710, (ev22711), by omega, by omega⟩
        · refine ev_iload rfl ?_
          refine ev_ifle f79_97 (fun c22713 => ?_) (fun c22713 => ?_)
          · refine ev_aload_n rfl ?_
            refine ev_iload rfl ?_
            refine ev_iload rfl ?_
            refine ev_iconst ?_
            refine ev_aload_n rfl ?_
            refine ev_aload_n rfl ?_
            refine ev_iload_n rfl ?_
            refine ev_iconst ?_
            refine ev_iadd (r := 4) (by decide) ?_
            refine ev_iload_n rfl ?_
            refine ev_iconst ?_
            refine ev_iload rfl ?_
            refine g_ishlB (a' := 1) (a := 1) (b := 3) (hi := 8) (by omega) (by omega) (by omega) (by omega) (by decide) (by decide) (fun v22714 ev22714 lv22714 uv22714 => ?_)
            refine g_iorG (fun v22715 ev22715 lv22715 uv22715 => ?_)
            refine ev_call (jcall_v (A := [(0, v22715), (0, 4), (2, 1)]) (S' := [(0, 0), (0, x6), (0, x5), (2, 7)]) (r := 7) rfl (g1.lt ad7) (g1.tg ad7) (Nat.le_of_ble_eq_true rfl)) (jOk_le (by decide) (s74_4 g1 (by omega) (by omega) (ey0) (by omega) (by omega))) (by decide) (by decide) (fun w22716 h22716 q22716 => ?_)
            obtain ⟨v22718, v22717, rfl, lv22718, uv22718, g22716, kk22716, ev22717, p22716_0, p22716_1⟩ := q22716
            have bv22717 := g22716.rg ad7 (i := 1) (by decide) rf7_1
            rw [ev22717] at bv22717
            have k22716 := k1.tr kk22716 (by decide)
            show jEv _ _ _ _ _ _ _ (_, [(2, 7), (2, 1), (0, 3), (0, a3), (0, x4), (0, x5), (0, x6)], [(0, v22718), (0, 0), (0, x6), (0, x5), (2, 7)], _, _, _)
            refine ev_call (jcall_v (A := [(0, v22718), (0, 0), (0, x6), (0, x5)]) (S' := []) (r := 7) rfl (g22716.lt ad7) (g22716.tg ad7) (Nat.le_of_ble_eq_true rfl)) (jOk_le (by decide) (s80 g22716 (by omega) (by omega) (by omega) (by omega) (by omega) (by omega) (by omega) (by omega))) (by decide) (by decide) (fun w22719 h22719 q22719 => ?_)
            obtain ⟨rfl, g22719, kk22719⟩ := q22719
            have k22719 := k22716.tr kk22719 (by decide)
            show jEv _ _ _ _ _ _ _ (_, [(2, 7), (2, 1), (0, 3), (0, a3), (0, x4), (0, x5), (0, x6)], [], _, _, _)
            refine ev_iinc (w := (x6 + 1)) (L' := [(2, 7), (2, 1), (0, 3), (0, a3), (0, x4), (0, x5), (0, (x6 + 1))]) rfl (by unfold w32; omega) rfl ?_
            refine ev_goto f79_68 ?_
            exact ih _ _ _ _ _ g22719 k22719 (by omega) (by omega) (by omega) (by omega) (by omega) (by omega) (by omega) (by omega) (by omega) (by omega) (((kk22719.v (by decide)).trans ev22717)) (by omega) (by omega) (by omega)
          · refine ev_aload_n rfl ?_
            refine ev_bipush ?_
            refine ev_call (jcall_v (A := [(0, 44)]) (S' := []) (r := 7) rfl (g1.lt ad7) (g1.tg ad7) (Nat.le_of_ble_eq_true rfl)) (jOk_le (by decide) (s71 g1 (by omega) (by omega) (ey0) (by omega) (by omega))) (by decide) (by decide) (fun w22720 h22720 q22720 => ?_)
            obtain ⟨v22721, rfl, g22720, kk22720, ev22721, p22720_0⟩ := q22720
            have bv22721 := g22720.rg ad7 (i := 1) (by decide) rf7_1
            rw [ev22721] at bv22721
            have k22720 := k1.tr kk22720 (by decide)
            show jEv _ _ _ _ _ _ _ (_, [(2, 7), (2, 1), (0, 3), (0, a3), (0, x4), (0, x5), (0, x6)], [], _, _, _)
            refine ev_aload_n rfl ?_
            refine ev_iload rfl ?_
            refine ev_iload rfl ?_
            refine ev_iconst ?_
            refine ev_aload_n rfl ?_
            refine ev_aload_n rfl ?_
            refine ev_iload_n rfl ?_
            refine ev_iconst ?_
            refine ev_iadd (r := 4) (by decide) ?_
            refine ev_iload_n rfl ?_
            refine ev_iconst ?_
            refine ev_iload rfl ?_
            refine g_ishlB (a' := 1) (a := 1) (b := 3) (hi := 8) (by omega) (by omega) (by omega) (by omega) (by decide) (by decide) (fun v22722 ev22722 lv22722 uv22722 => ?_)
            refine g_iorG (fun v22723 ev22723 lv22723 uv22723 => ?_)
            refine ev_call (jcall_v (A := [(0, v22723), (0, 4), (2, 1)]) (S' := [(0, 0), (0, x6), (0, x5), (2, 7)]) (r := 7) rfl (g22720.lt ad7) (g22720.tg ad7) (Nat.le_of_ble_eq_true rfl)) (jOk_le (by decide) (s74_4 g22720 (by omega) (by omega) (ev22721) (by omega) (by omega))) (by decide) (by decide) (fun w22724 h22724 q22724 => ?_)
            obtain ⟨v22726, v22725, rfl, lv22726, uv22726, g22724, kk22724, ev22725, p22724_0, p22724_1⟩ := q22724
            have bv22725 := g22724.rg ad7 (i := 1) (by decide) rf7_1
            rw [ev22725] at bv22725
            have k22724 := k22720.tr kk22724 (by decide)
            show jEv _ _ _ _ _ _ _ (_, [(2, 7), (2, 1), (0, 3), (0, a3), (0, x4), (0, x5), (0, x6)], [(0, v22726), (0, 0), (0, x6), (0, x5), (2, 7)], _, _, _)
            refine ev_call (jcall_v (A := [(0, v22726), (0, 0), (0, x6), (0, x5)]) (S' := []) (r := 7) rfl (g22724.lt ad7) (g22724.tg ad7) (Nat.le_of_ble_eq_true rfl)) (jOk_le (by decide) (s80 g22724 (by omega) (by omega) (by omega) (by omega) (by omega) (by omega) (by omega) (by omega))) (by decide) (by decide) (fun w22727 h22727 q22727 => ?_)
            obtain ⟨rfl, g22727, kk22727⟩ := q22727
            have k22727 := k22724.tr kk22727 (by decide)
            show jEv _ _ _ _ _ _ _ (_, [(2, 7), (2, 1), (0, 3), (0, a3), (0, x4), (0, x5), (0, x6)], [], _, _, _)
            refine ev_iinc (w := (x6 + 1)) (L' := [(2, 7), (2, 1), (0, 3), (0, a3), (0, x4), (0, x5), (0, (x6 + 1))]) rfl (by unfold w32; omega) rfl ?_
            refine ev_goto f79_68 ?_
            exact ih _ _ _ _ _ g22727 k22727 (by omega) (by omega) (by omega) (by omega) (by omega) (by omega) (by omega) (by omega) (by omega) (by omega) (((kk22727.v (by decide)).trans ev22725)) (by omega) (by omega) (by omega)
set_option maxHeartbeats 4000000 in
theorem s79_3 {G : GH} {h : JH} (g : Gd G h) {a3 : Int} (la3 : (-2147483648) ≤ a3) (ua3 : a3 ≤ 2147483647) {w0 : Int} (ew0 : h.2.2 7 1 = w0) (lw0 : (-1) ≤ w0) (uw0 : w0 ≤ 200) {w1 : Int} (ew1 : h.2.2 7 2 = w1) (lw1 : 0 ≤ w1) (uw1 : w1 ≤ 199) : jOk 22 0 0 79 [(2, 7), (2, 1), (0, 3), (0, a3)] h (fun v h' => ∃ r F : Int, v = some (0, r) ∧ (-1) ≤ r ∧ r ≤ 199 ∧ Gd G h' ∧ Kp [(7, 2), (7, 3), (7, 4), (10, 0), (11, 0), (12, 0), (13, 0), (14, 0), (15, 0), (16, 0), (17, 0)] h h' ∧ h'.2.2 7 1 = F ∧ ((-F) + w0) ≤ 0 ∧ ((-F) + (-r)) ≤ 1) := by
  refine ⟨by decide, by rw [ml79]; exact Nat.le_of_ble_eq_true rfl, ?_⟩
  rw [ml79, pp79]
  show jEv _ none _ c79_0 0 0 _ (c79_0, [(2, 7), (2, 1), (0, 3), (0, a3), (9, 0), (9, 0), (9, 0)], [], h, 0, 0)
  have k0 := Kp.rf [(7, 2), (7, 3), (7, 4), (10, 0), (11, 0), (12, 0), (13, 0), (14, 0), (15, 0), (16, 0), (17, 0)] h
  refine ev_aload_n rfl ?_
  refine ev_dup (by decide) ?_
  refine g_getv (r := 7) (v := w1) g ad7 (by decide) ft5_2 (ew1) ?_
  refine ev_iconst ?_
  refine ev_iadd (r := (w1 + 1)) (by unfold w32; omega) ?_
  refine g_putf (r := 7) g ad7 (by decide) ft5_2 (by decide) (fun e => absurd e nz5_2) rf7_2 (by decide) (by omega) (by omega) (fun h22728 e22728 g22728 => ?_)
  have k22728 := k0.wr e22728 rfl
  refine ev_aload_n rfl ?_
  refine ev_in (d := 20) (a := 0) (b := 0) (cd' := c68_0) (m := 1) (L0 := [(2, 7)]) (jcall_v (A := []) (S' := []) (r := 7) rfl (g22728.lt ad7) (g22728.tg ad7) (Nat.le_of_ble_eq_true rfl)) (by decide) ml68 pp68 (Nat.le_of_ble_eq_true rfl) rfl (by decide) (by decide) ?_
  refine ev_aload_n rfl ?_
  refine g_getv (r := 7) (v := (w1 + 1)) g22728 ad7 (by decide) ft5_2 ((jw_eq e22728)) ?_
  refine ev_aload_n rfl ?_
  obtain ⟨v22729, ev22729, lv22729, uv22729⟩ := g22728.rd ad7 (show 0 < 15 by decide) rf7_0
  refine g_getv (r := 7) (v := v22729) g22728 ad7 (by decide) ft5_0 ev22729 ?_
  refine ev_icmpge f68_27 (fun c22730 => ?_) (fun c22730 => ?_)
  · refine ev_iconst ?_
    refine ev_ret rfl (by decide) (by decide) ?_
    show jEv _ _ _ _ _ _ _ (_, [(2, 7), (2, 1), (0, 3), (0, a3), (9, 0), (9, 0), (9, 0)], [(0, (-1))], _, _, _)
    refine ev_bipush ?_
    refine ev_isub (r := (-98)) (by decide) ?_
    refine ev_istore (L' := [(2, 7), (2, 1), (0, 3), (0, a3), (0, (-98)), (9, 0), (9, 0)]) (Nat.le_of_ble_eq_true rfl) rfl ?_
    refine ev_aload_n rfl ?_
    refine ev_iload rfl ?_
    refine ev_in (d := 20) (a := 0) (b := 0) (cd' := c140_0) (m := 2) (L0 := [(2, 1), (0, (-98))]) (jcall_v (A := [(0, (-98))]) (S' := []) (r := 1) rfl (g22728.lt ad1) (g22728.tg ad1) (Nat.le_of_ble_eq_true rfl)) (by decide) ml140 pp140 (Nat.le_of_ble_eq_true rfl) rfl (by decide) (by decide) ?_
    refine ev_iload_n rfl ?_
    refine ev_iflt f140_16 (fun c22731 => ?_) (fun c22731 => absurd c22731 (by omega))
    refine ev_iconst ?_
    refine ev_ret rfl (by decide) (by decide) ?_
    show jEv _ _ _ _ _ _ _ (_, [(2, 7), (2, 1), (0, 3), (0, a3), (0, (-98)), (9, 0), (9, 0)], [(0, 0)], _, _, _)
    refine ev_ifeq f79_37 (fun c22732 => ?_) (fun c22732 => absurd c22732 (by omega))
    refine ev_aload_n rfl ?_
    refine ev_in (d := 20) (a := 0) (b := 0) (cd' := c70_0) (m := 1) (L0 := [(2, 7)]) (jcall_v (A := []) (S' := []) (r := 7) rfl (g22728.lt ad7) (g22728.tg ad7) (Nat.le_of_ble_eq_true rfl)) (by decide) ml70 pp70 (Nat.le_of_ble_eq_true rfl) rfl (by decide) (by decide) ?_
    refine ev_aload_n rfl ?_
    refine g_getv (r := 7) (v := w0) g22728 ad7 (by decide) ft5_1 (((jw_ne e22728 (Or.inr (by decide))).trans ew0)) ?_
    refine ev_ifge f70_15 (fun c22733 => ?_) (fun c22733 => ?_)
    · refine ev_ret rfl (by decide) (by decide) ?_
      show jEv _ _ _ _ _ _ _ (_, [(2, 7), (2, 1), (0, 3), (0, a3), (0, (-98)), (9, 0), (9, 0)], [], _, _, _)
      refine ev_iconst ?_
      exact ev_ret rfl (by decide) (by decide) ⟨_, _, rfl, by omega, by omega, g22728, k22728, (((jw_ne e22728 (Or.inr (by decide))).trans ew0)), by omega, by omega⟩
    · refine ev_aload_n rfl ?_
      refine ev_aload_n rfl ?_
      refine g_getv (r := 7) (v := (w1 + 1)) g22728 ad7 (by decide) ft5_2 ((jw_eq e22728)) ?_
      refine g_putf (r := 7) g22728 ad7 (by decide) ft5_1 (by decide) (fun e => absurd e nz5_1) rf7_1 (by decide) (by omega) (by omega) (fun h22734 e22734 g22734 => ?_)
      have k22734 := k22728.wr e22734 rfl
      refine ev_ret rfl (by decide) (by decide) ?_
      show jEv _ _ _ _ _ _ _ (_, [(2, 7), (2, 1), (0, 3), (0, a3), (0, (-98)), (9, 0), (9, 0)], [], _, _, _)
      refine ev_iconst ?_
      exact ev_ret rfl (by decide) (by decide) ⟨_, _, rfl, by omega, by omega, g22734, k22734, ((jw_eq e22734)), by omega, by omega⟩
  · refine ev_aload_n rfl ?_
    refine g_getp (r := 7) (c := 8) g22728 ad7 (by decide) (by decide) rf7_5 ft5_5 ?_
    refine ev_aload_n rfl ?_
    refine g_getv (r := 7) (v := (w1 + 1)) g22728 ad7 (by decide) ft5_2 ((jw_eq e22728)) ?_
    refine g_bald g22728 ad8 rt8 (by omega) (by omega) (fun v22735 ev22735 lv22735 uv22735 => ?_)
    refine ev_sipush ?_
    refine g_iandB (b := 255) (by omega) (by omega) (by decide) (fun v22736 ev22736 lv22736 uv22736 => ?_)
    refine ev_goto f68_28 ?_
    refine ev_ret rfl (by decide) (by decide) ?_
    show jEv _ _ _ _ _ _ _ (_, [(2, 7), (2, 1), (0, 3), (0, a3), (9, 0), (9, 0), (9, 0)], [(0, v22736)], _, _, _)
    refine ev_bipush ?_
    refine ev_isub (r := (v22736 - 97)) (by unfold w32; omega) ?_
    refine ev_istore (L' := [(2, 7), (2, 1), (0, 3), (0, a3), (0, (v22736 - 97)), (9, 0), (9, 0)]) (Nat.le_of_ble_eq_true rfl) rfl ?_
    refine ev_aload_n rfl ?_
    refine ev_iload rfl ?_
    refine ev_in (d := 20) (a := 0) (b := 0) (cd' := c140_0) (m := 2) (L0 := [(2, 1), (0, (v22736 - 97))]) (jcall_v (A := [(0, (v22736 - 97))]) (S' := []) (r := 1) rfl (g22728.lt ad1) (g22728.tg ad1) (Nat.le_of_ble_eq_true rfl)) (by decide) ml140 pp140 (Nat.le_of_ble_eq_true rfl) rfl (by decide) (by decide) ?_
    refine ev_iload_n rfl ?_
    refine ev_iflt f140_16 (fun c22737 => ?_) (fun c22737 => ?_)
    · refine ev_iconst ?_
      refine ev_ret rfl (by decide) (by decide) ?_
      show jEv _ _ _ _ _ _ _ (_, [(2, 7), (2, 1), (0, 3), (0, a3), (0, (v22736 - 97)), (9, 0), (9, 0)], [(0, 0)], _, _, _)
      refine ev_ifeq f79_37 (fun c22738 => ?_) (fun c22738 => absurd c22738 (by omega))
      refine ev_aload_n rfl ?_
      refine ev_in (d := 20) (a := 0) (b := 0) (cd' := c70_0) (m := 1) (L0 := [(2, 7)]) (jcall_v (A := []) (S' := []) (r := 7) rfl (g22728.lt ad7) (g22728.tg ad7) (Nat.le_of_ble_eq_true rfl)) (by decide) ml70 pp70 (Nat.le_of_ble_eq_true rfl) rfl (by decide) (by decide) ?_
      refine ev_aload_n rfl ?_
      refine g_getv (r := 7) (v := w0) g22728 ad7 (by decide) ft5_1 (((jw_ne e22728 (Or.inr (by decide))).trans ew0)) ?_
      refine ev_ifge f70_15 (fun c22739 => ?_) (fun c22739 => ?_)
      · refine ev_ret rfl (by decide) (by decide) ?_
        show jEv _ _ _ _ _ _ _ (_, [(2, 7), (2, 1), (0, 3), (0, a3), (0, (v22736 - 97)), (9, 0), (9, 0)], [], _, _, _)
        refine ev_iconst ?_
        exact ev_ret rfl (by decide) (by decide) ⟨_, _, rfl, by omega, by omega, g22728, k22728, (((jw_ne e22728 (Or.inr (by decide))).trans ew0)), by omega, by omega⟩
      · refine ev_aload_n rfl ?_
        refine ev_aload_n rfl ?_
        refine g_getv (r := 7) (v := (w1 + 1)) g22728 ad7 (by decide) ft5_2 ((jw_eq e22728)) ?_
        refine g_putf (r := 7) g22728 ad7 (by decide) ft5_1 (by decide) (fun e => absurd e nz5_1) rf7_1 (by decide) (by omega) (by omega) (fun h22740 e22740 g22740 => ?_)
        have k22740 := k22728.wr e22740 rfl
        refine ev_ret rfl (by decide) (by decide) ?_
        show jEv _ _ _ _ _ _ _ (_, [(2, 7), (2, 1), (0, 3), (0, a3), (0, (v22736 - 97)), (9, 0), (9, 0)], [], _, _, _)
        refine ev_iconst ?_
        exact ev_ret rfl (by decide) (by decide) ⟨_, _, rfl, by omega, by omega, g22740, k22740, ((jw_eq e22740)), by omega, by omega⟩
    · refine ev_iload_n rfl ?_
      refine ev_aload_n rfl ?_
      obtain ⟨v22741, ev22741, lv22741, uv22741⟩ := g22728.rd ad1 (show 0 < 8 by decide) rf1_0
      refine g_getv (r := 1) (v := v22741) g22728 ad1 (by decide) ft10_0 ev22741 ?_
      refine ev_icmpge f140_16 (fun c22742 => ?_) (fun c22742 => ?_)
      · refine ev_iconst ?_
        refine ev_ret rfl (by decide) (by decide) ?_
        show jEv _ _ _ _ _ _ _ (_, [(2, 7), (2, 1), (0, 3), (0, a3), (0, (v22736 - 97)), (9, 0), (9, 0)], [(0, 0)], _, _, _)
        refine ev_ifeq f79_37 (fun c22743 => ?_) (fun c22743 => absurd c22743 (by omega))
        refine ev_aload_n rfl ?_
        refine ev_in (d := 20) (a := 0) (b := 0) (cd' := c70_0) (m := 1) (L0 := [(2, 7)]) (jcall_v (A := []) (S' := []) (r := 7) rfl (g22728.lt ad7) (g22728.tg ad7) (Nat.le_of_ble_eq_true rfl)) (by decide) ml70 pp70 (Nat.le_of_ble_eq_true rfl) rfl (by decide) (by decide) ?_
        refine ev_aload_n rfl ?_
        refine g_getv (r := 7) (v := w0) g22728 ad7 (by decide) ft5_1 (((jw_ne e22728 (Or.inr (by decide))).trans ew0)) ?_
        refine ev_ifge f70_15 (fun c22744 => ?_) (fun c22744 => ?_)
        · refine ev_ret rfl (by decide) (by decide) ?_
          show jEv _ _ _ _ _ _ _ (_, [(2, 7), (2, 1), (0, 3), (0, a3), (0, (v22736 - 97)), (9, 0), (9, 0)], [], _, _, _)
          refine ev_iconst ?_
          exact ev_ret rfl (by decide) (by decide) ⟨_, _, rfl, by omega, by omega, g22728, k22728, (((jw_ne e22728 (Or.inr (by decide))).trans ew0)), by omega, by omega⟩
        · refine ev_aload_n rfl ?_
          refine ev_aload_n rfl ?_
          refine g_getv (r := 7) (v := (w1 + 1)) g22728 ad7 (by decide) ft5_2 ((jw_eq e22728)) ?_
          refine g_putf (r := 7) g22728 ad7 (by decide) ft5_1 (by decide) (fun e => absurd e nz5_1) rf7_1 (by decide) (by omega) (by omega) (fun h22745 e22745 g22745 => ?_)
          have k22745 := k22728.wr e22745 rfl
          refine ev_ret rfl (by decide) (by decide) ?_
          show jEv _ _ _ _ _ _ _ (_, [(2, 7), (2, 1), (0, 3), (0, a3), (0, (v22736 - 97)), (9, 0), (9, 0)], [], _, _, _)
          refine ev_iconst ?_
          exact ev_ret rfl (by decide) (by decide) ⟨_, _, rfl, by omega, by omega, g22745, k22745, ((jw_eq e22745)), by omega, by omega⟩
      · refine ev_iconst ?_
        refine ev_goto f140_17 ?_
        refine ev_ret rfl (by decide) (by decide) ?_
        show jEv _ _ _ _ _ _ _ (_, [(2, 7), (2, 1), (0, 3), (0, a3), (0, (v22736 - 97)), (9, 0), (9, 0)], [(0, 1)], _, _, _)
        refine ev_ifeq f79_37 (fun c22746 => absurd c22746 (by omega)) (fun c22746 => ?_)
        refine ev_iload_n rfl ?_
        refine ev_iload rfl ?_
        refine g_ishrG (fun v22747 ev22747 lv22747 uv22747 => ?_)
        refine ev_iconst ?_
        refine g_iandB (b := 1) (by omega) (by omega) (by decide) (fun v22748 ev22748 lv22748 uv22748 => ?_)
        refine ev_ifeq f79_43 (fun c22749 => ?_) (fun c22749 => ?_)
        · refine ev_aload_n rfl ?_
          refine ev_dup (by decide) ?_
          refine g_getv (r := 7) (v := (w1 + 1)) g22728 ad7 (by decide) ft5_2 ((jw_eq e22728)) ?_
          refine ev_iconst ?_
          refine ev_iadd (r := (w1 + 2)) (by unfold w32; omega) ?_
          refine g_putf (r := 7) g22728 ad7 (by decide) ft5_2 (by decide) (fun e => absurd e nz5_2) rf7_2 (by decide) (by omega) (by omega) (fun h22750 e22750 g22750 => ?_)
          have k22750 := k22728.wr e22750 rfl
          refine ev_aload_n rfl ?_
          refine ev_iload_n rfl ?_
          refine ev_call (jcall_v (A := [(0, 3)]) (S' := []) (r := 7) rfl (g22750.lt ad7) (g22750.tg ad7) (Nat.le_of_ble_eq_true rfl)) (jOk_le (by decide) (s72 g22750 (by omega) (by omega) (((jw_ne e22750 (Or.inr (by decide))).trans ((jw_ne e22728 (Or.inr (by decide))).trans ew0))) (by omega) (by omega))) (by decide) (by decide) (fun w22751 h22751 q22751 => ?_)
          obtain ⟨v22752, rfl, g22751, kk22751, ev22752, p22751_0⟩ := q22751
          have bv22752 := g22751.rg ad7 (i := 1) (by decide) rf7_1
          rw [ev22752] at bv22752
          have k22751 := k22750.tr kk22751 (by decide)
          show jEv _ _ _ _ _ _ _ (_, [(2, 7), (2, 1), (0, 3), (0, a3), (0, (v22736 - 97)), (9, 0), (9, 0)], [], _, _, _)
          refine ev_aload_n rfl ?_
          refine ev_iconst ?_
          refine ev_call (jcall_v (A := [(0, 2)]) (S' := []) (r := 7) rfl (g22751.lt ad7) (g22751.tg ad7) (Nat.le_of_ble_eq_true rfl)) (jOk_le (by decide) (s73 g22751 (by omega) (by omega) (ev22752) (by omega) (by omega))) (by decide) (by decide) (fun w22753 h22753 q22753 => ?_)
          obtain ⟨v22755, v22754, rfl, lv22755, uv22755, g22753, kk22753, ev22754, p22753_0, p22753_1⟩ := q22753
          have bv22754 := g22753.rg ad7 (i := 1) (by decide) rf7_1
          rw [ev22754] at bv22754
          have k22753 := k22751.tr kk22753 (by decide)
          show jEv _ _ _ _ _ _ _ (_, [(2, 7), (2, 1), (0, 3), (0, a3), (0, (v22736 - 97)), (9, 0), (9, 0)], [(0, v22755)], _, _, _)
          refine ev_istore (L' := [(2, 7), (2, 1), (0, 3), (0, a3), (0, (v22736 - 97)), (0, v22755), (9, 0)]) (Nat.le_of_ble_eq_true rfl) rfl ?_
          refine ev_iconst ?_
          refine ev_istore (L' := [(2, 7), (2, 1), (0, 3), (0, a3), (0, (v22736 - 97)), (0, v22755), (0, 0)]) (Nat.le_of_ble_eq_true rfl) rfl ?_
          exact (s79_3_l la3 ua3 ew0 lw0 uw0 ew1 lw1 uw1 8) _ _ _ _ _ g22753 k22753 (by omega) (by omega) (by omega) (by omega) (by omega) (by omega) (by omega) (by omega) (by omega) (by omega) (ev22754) (by omega) (by omega) (by omega)
        · refine ev_aload_n rfl ?_
          refine ev_in (d := 20) (a := 0) (b := 0) (cd' := c70_0) (m := 1) (L0 := [(2, 7)]) (jcall_v (A := []) (S' := []) (r := 7) rfl (g22728.lt ad7) (g22728.tg ad7) (Nat.le_of_ble_eq_true rfl)) (by decide) ml70 pp70 (Nat.le_of_ble_eq_true rfl) rfl (by decide) (by decide) ?_
          refine ev_aload_n rfl ?_
          refine g_getv (r := 7) (v := w0) g22728 ad7 (by decide) ft5_1 (((jw_ne e22728 (Or.inr (by decide))).trans ew0)) ?_
          refine ev_ifge f70_15 (fun c22756 => ?_) (fun c22756 => ?_)
          · refine ev_ret rfl (by decide) (by decide) ?_
            show jEv _ _ _ _ _ _ _ (_, [(2, 7), (2, 1), (0, 3), (0, a3), (0, (v22736 - 97)), (9, 0), (9, 0)], [], _, _, _)
            refine ev_iconst ?_
            exact ev_ret rfl (by decide) (by decide) ⟨_, _, rfl, by omega, by omega, g22728, k22728, (((jw_ne e22728 (Or.inr (by decide))).trans ew0)), by omega, by omega⟩
          · refine ev_aload_n rfl ?_
            refine ev_aload_n rfl ?_
            refine g_getv (r := 7) (v := (w1 + 1)) g22728 ad7 (by decide) ft5_2 ((jw_eq e22728)) ?_
            refine g_putf (r := 7) g22728 ad7 (by decide) ft5_1 (by decide) (fun e => absurd e nz5_1) rf7_1 (by decide) (by omega) (by omega) (fun h22757 e22757 g22757 => ?_)
            have k22757 := k22728.wr e22757 rfl
            refine ev_ret rfl (by decide) (by decide) ?_
            show jEv _ _ _ _ _ _ _ (_, [(2, 7), (2, 1), (0, 3), (0, a3), (0, (v22736 - 97)), (9, 0), (9, 0)], [], _, _, _)
            refine ev_iconst ?_
            exact ev_ret rfl (by decide) (by decide) ⟨_, _, rfl, by omega, by omega, g22757, k22757, ((jw_eq e22757)), by omega, by omega⟩
/-! s74_3  -/
set_option maxHeartbeats 4000000 in
theorem s74_3 {G : GH} {h : JH} (g : Gd G h) {a3 : Int} (la3 : (-2147483648) ≤ a3) (ua3 : a3 ≤ 2147483647) {w0 : Int} (ew0 : h.2.2 7 1 = w0) (lw0 : (-1) ≤ w0) (uw0 : w0 ≤ 200) : jOk 23 0 0 74 [(2, 7), (2, 1), (0, 3), (0, a3)] h (fun v h' => ∃ r F : Int, v = some (0, r) ∧ (-1) ≤ r ∧ r ≤ 199 ∧ Gd G h' ∧ Kp [(7, 2), (7, 3), (7, 4), (10, 0), (11, 0), (12, 0), (13, 0), (14, 0), (15, 0), (16, 0), (17, 0)] h h' ∧ h'.2.2 7 1 = F ∧ ((-F) + w0) ≤ 0 ∧ ((-F) + (-r)) ≤ 1) := by
  refine ⟨by decide, by rw [ml74]; exact Nat.le_of_ble_eq_true rfl, ?_⟩
  rw [ml74, pp74]
  show jEv _ none _ c74_0 0 0 _ (c74_0, [(2, 7), (2, 1), (0, 3), (0, a3), (9, 0)], [], h, 0, 0)
  have k0 := Kp.rf [(7, 2), (7, 3), (7, 4), (10, 0), (11, 0), (12, 0), (13, 0), (14, 0), (15, 0), (16, 0), (17, 0)] h
  refine ev_aload_n rfl ?_
  refine g_getv (r := 7) (v := w0) g ad7 (by decide) ft5_1 (ew0) ?_
  refine ev_ifge f74_13 (fun c22824 => ?_) (fun c22824 => ?_)
  · refine ev_aload_n rfl ?_
    refine ev_in (d := 21) (a := 0) (b := 0) (cd' := c70_0) (m := 1) (L0 := [(2, 7)]) (jcall_v (A := []) (S' := []) (r := 7) rfl (g.lt ad7) (g.tg ad7) (Nat.le_of_ble_eq_true rfl)) (by decide) ml70 pp70 (Nat.le_of_ble_eq_true rfl) rfl (by decide) (by decide) ?_
    refine ev_aload_n rfl ?_
    refine g_getv (r := 7) (v := w0) g ad7 (by decide) ft5_1 (ew0) ?_
    refine ev_ifge f70_15 (fun c22825 => ?_) (fun c22825 => absurd c22825 (by omega))
    refine ev_ret rfl (by decide) (by decide) ?_
    show jEv _ _ _ _ _ _ _ (_, [(2, 7), (2, 1), (0, 3), (0, a3), (9, 0)], [], _, _, _)
    refine ev_iconst ?_
    exact ev_ret rfl (by decide) (by decide) ⟨_, _, rfl, by omega, by omega, g, k0, (ew0), by omega, by omega⟩
  · refine ev_iload_n rfl ?_
    refine ev_bipush ?_
    refine ev_icmple f74_19 (fun c22826 => ?_) (fun c22826 => absurd c22826 (by omega))
    refine ev_aload_n rfl ?_
    refine ev_in (d := 21) (a := 0) (b := 0) (cd' := c68_0) (m := 1) (L0 := [(2, 7)]) (jcall_v (A := []) (S' := []) (r := 7) rfl (g.lt ad7) (g.tg ad7) (Nat.le_of_ble_eq_true rfl)) (by decide) ml68 pp68 (Nat.le_of_ble_eq_true rfl) rfl (by decide) (by decide) ?_
    refine ev_aload_n rfl ?_
    obtain ⟨v22827, ev22827, lv22827, uv22827⟩ := g.rd ad7 (show 2 < 15 by decide) rf7_2
    refine g_getv (r := 7) (v := v22827) g ad7 (by decide) ft5_2 ev22827 ?_
    refine ev_aload_n rfl ?_
    obtain ⟨v22828, ev22828, lv22828, uv22828⟩ := g.rd ad7 (show 0 < 15 by decide) rf7_0
    refine g_getv (r := 7) (v := v22828) g ad7 (by decide) ft5_0 ev22828 ?_
    refine ev_icmpge f68_27 (fun c22829 => ?_) (fun c22829 => ?_)
    · refine ev_iconst ?_
      refine ev_ret rfl (by decide) (by decide) ?_
      show jEv _ _ _ _ _ _ _ (_, [(2, 7), (2, 1), (0, 3), (0, a3), (9, 0)], [(0, (-1))], _, _, _)
      refine ev_istore (L' := [(2, 7), (2, 1), (0, 3), (0, a3), (0, (-1))]) (Nat.le_of_ble_eq_true rfl) rfl ?_
      refine ev_iload rfl ?_
      refine ev_bipush ?_
      refine ev_icmpne f74_40 (fun c22830 => ?_) (fun c22830 => absurd c22830 (by omega))
      refine ev_iload rfl ?_
      refine ev_bipush ?_
      refine ev_icmpne f74_55 (fun c22831 => ?_) (fun c22831 => absurd c22831 (by omega))
      refine ev_iload rfl ?_
      refine ev_bipush ?_
      refine ev_icmplt f74_78 (fun c22832 => ?_) (fun c22832 => absurd c22832 (by omega))
      refine ev_aload_n rfl ?_
      refine ev_call (jcall_v (A := []) (S' := []) (r := 7) rfl (g.lt ad7) (g.tg ad7) (Nat.le_of_ble_eq_true rfl)) (jOk_le (by decide) (s75 g (ew0) (by omega) (by omega))) (by decide) (by decide) (fun w22833 h22833 q22833 => ?_)
      obtain ⟨v22835, v22834, rfl, lv22835, uv22835, g22833, kk22833, ev22834, p22833_0, p22833_1⟩ := q22833
      have bv22834 := g22833.rg ad7 (i := 1) (by decide) rf7_1
      rw [ev22834] at bv22834
      have k22833 := k0.tr kk22833 (by decide)
      show jEv _ _ _ _ _ _ _ (_, [(2, 7), (2, 1), (0, 3), (0, a3), (0, (-1))], [(0, v22835)], _, _, _)
      exact ev_ret rfl (by decide) (by decide) ⟨_, _, rfl, by omega, by omega, g22833, k22833, (ev22834), by omega, by omega⟩
    · refine ev_aload_n rfl ?_
      refine g_getp (r := 7) (c := 8) g ad7 (by decide) (by decide) rf7_5 ft5_5 ?_
      refine ev_aload_n rfl ?_
      refine g_getv (r := 7) (v := v22827) g ad7 (by decide) ft5_2 (ev22827) ?_
      refine g_bald g ad8 rt8 (by omega) (by omega) (fun v22836 ev22836 lv22836 uv22836 => ?_)
      refine ev_sipush ?_
      refine g_iandB (b := 255) (by omega) (by omega) (by decide) (fun v22837 ev22837 lv22837 uv22837 => ?_)
      refine ev_goto f68_28 ?_
      refine ev_ret rfl (by decide) (by decide) ?_
      show jEv _ _ _ _ _ _ _ (_, [(2, 7), (2, 1), (0, 3), (0, a3), (9, 0)], [(0, v22837)], _, _, _)
      refine ev_istore (L' := [(2, 7), (2, 1), (0, 3), (0, a3), (0, v22837)]) (Nat.le_of_ble_eq_true rfl) rfl ?_
      refine ev_iload rfl ?_
      refine ev_bipush ?_
      refine ev_icmpne f74_40 (fun c22838 => ?_) (fun c22838 => ?_)
      · refine ev_iload rfl ?_
        refine ev_bipush ?_
        refine ev_icmpne f74_55 (fun c22839 => ?_) (fun c22839 => ?_)
        · refine ev_iload rfl ?_
          refine ev_bipush ?_
          refine ev_icmplt f74_78 (fun c22840 => ?_) (fun c22840 => ?_)
          · refine ev_aload_n rfl ?_
            refine ev_call (jcall_v (A := []) (S' := []) (r := 7) rfl (g.lt ad7) (g.tg ad7) (Nat.le_of_ble_eq_true rfl)) (jOk_le (by decide) (s75 g (ew0) (by omega) (by omega))) (by decide) (by decide) (fun w22841 h22841 q22841 => ?_)
            obtain ⟨v22843, v22842, rfl, lv22843, uv22843, g22841, kk22841, ev22842, p22841_0, p22841_1⟩ := q22841
            have bv22842 := g22841.rg ad7 (i := 1) (by decide) rf7_1
            rw [ev22842] at bv22842
            have k22841 := k0.tr kk22841 (by decide)
            show jEv _ _ _ _ _ _ _ (_, [(2, 7), (2, 1), (0, 3), (0, a3), (0, v22837)], [(0, v22843)], _, _, _)
            exact ev_ret rfl (by decide) (by decide) ⟨_, _, rfl, by omega, by omega, g22841, k22841, (ev22842), by omega, by omega⟩
          · refine ev_iload rfl ?_
            refine ev_bipush ?_
            refine ev_icmpge f74_78 (fun c22844 => ?_) (fun c22844 => ?_)
            · refine ev_aload_n rfl ?_
              refine ev_call (jcall_v (A := []) (S' := []) (r := 7) rfl (g.lt ad7) (g.tg ad7) (Nat.le_of_ble_eq_true rfl)) (jOk_le (by decide) (s75 g (ew0) (by omega) (by omega))) (by decide) (by decide) (fun w22845 h22845 q22845 => ?_)
              obtain ⟨v22847, v22846, rfl, lv22847, uv22847, g22845, kk22845, ev22846, p22845_0, p22845_1⟩ := q22845
              have bv22846 := g22845.rg ad7 (i := 1) (by decide) rf7_1
              rw [ev22846] at bv22846
              have k22845 := k0.tr kk22845 (by decide)
              show jEv _ _ _ _ _ _ _ (_, [(2, 7), (2, 1), (0, 3), (0, a3), (0, v22837)], [(0, v22847)], _, _, _)
              exact ev_ret rfl (by decide) (by decide) ⟨_, _, rfl, by omega, by omega, g22845, k22845, (ev22846), by omega, by omega⟩
            · refine ev_aload_n rfl ?_
              refine ev_iload_n rfl ?_
              refine ev_iload_n rfl ?_
              refine ev_call (jcall_v (A := [(0, a3), (0, 3)]) (S' := []) (r := 7) rfl (g.lt ad7) (g.tg ad7) (Nat.le_of_ble_eq_true rfl)) (jOk_le (by decide) (s77 g (by omega) (by omega) (by omega) (by omega) (ew0) (by omega) (by omega))) (by decide) (by decide) (fun w22848 h22848 q22848 => ?_)
              obtain ⟨v22850, v22849, rfl, lv22850, uv22850, g22848, kk22848, ev22849, p22848_0, p22848_1⟩ := q22848
              have bv22849 := g22848.rg ad7 (i := 1) (by decide) rf7_1
              rw [ev22849] at bv22849
              have k22848 := k0.tr kk22848 (by decide)
              show jEv _ _ _ _ _ _ _ (_, [(2, 7), (2, 1), (0, 3), (0, a3), (0, v22837)], [(0, v22850)], _, _, _)
              refine ev_goto f74_82 ?_
              exact ev_ret rfl (by decide) (by decide) ⟨_, _, rfl, by omega, by omega, g22848, k22848, (ev22849), by omega, by omega⟩
        · refine ev_aload_n rfl ?_
          refine ev_aload_n rfl ?_
          refine ev_iload_n rfl ?_
          refine ev_iload_n rfl ?_
          refine ev_call (jcall_v (A := [(0, a3), (0, 3), (2, 1)]) (S' := []) (r := 7) rfl (g.lt ad7) (g.tg ad7) (Nat.le_of_ble_eq_true rfl)) (jOk_le (by decide) (s79_3 g (by omega) (by omega) (ew0) (by omega) (by omega) (ev22827) (by omega) (by omega))) (by decide) (by decide) (fun w22851 h22851 q22851 => ?_)
          obtain ⟨v22853, v22852, rfl, lv22853, uv22853, g22851, kk22851, ev22852, p22851_0, p22851_1⟩ := q22851
          have bv22852 := g22851.rg ad7 (i := 1) (by decide) rf7_1
          rw [ev22852] at bv22852
          have k22851 := k0.tr kk22851 (by decide)
          show jEv _ _ _ _ _ _ _ (_, [(2, 7), (2, 1), (0, 3), (0, a3), (0, v22837)], [(0, v22853)], _, _, _)
          exact ev_ret rfl (by decide) (by decide) ⟨_, _, rfl, by omega, by omega, g22851, k22851, (ev22852), by omega, by omega⟩
      · refine ev_aload_n rfl ?_
        refine ev_aload_n rfl ?_
        refine ev_iload_n rfl ?_
        refine ev_iload_n rfl ?_
        refine ev_call (jcall_v (A := [(0, a3), (0, 3), (2, 1)]) (S' := []) (r := 7) rfl (g.lt ad7) (g.tg ad7) (Nat.le_of_ble_eq_true rfl)) (jOk_le (by decide) (s78_3 g (by omega) (by omega) (ew0) (by omega) (by omega) (ev22827) (by omega) (by omega))) (by decide) (by decide) (fun w22854 h22854 q22854 => ?_)
        obtain ⟨v22856, v22855, rfl, lv22856, uv22856, g22854, kk22854, ev22855, p22854_0, p22854_1⟩ := q22854
        have bv22855 := g22854.rg ad7 (i := 1) (by decide) rf7_1
        rw [ev22855] at bv22855
        have k22854 := k0.tr kk22854 (by decide)
        show jEv _ _ _ _ _ _ _ (_, [(2, 7), (2, 1), (0, 3), (0, a3), (0, v22837)], [(0, v22856)], _, _, _)
        exact ev_ret rfl (by decide) (by decide) ⟨_, _, rfl, by omega, by omega, g22854, k22854, (ev22855), by omega, by omega⟩
/-! s78_2  -/
set_option maxHeartbeats 4000000 in
theorem s78_2_l {G : GH} {h : JH} {a3 : Int} (la3 : (-2147483648) ≤ a3) (ua3 : a3 ≤ 2147483647) {w0 : Int} (ew0 : h.2.2 7 1 = w0) (lw0 : (-1) ≤ w0) (uw0 : w0 ≤ 200) {w1 : Int} (ew1 : h.2.2 7 2 = w1) (lw1 : 0 ≤ w1) (uw1 : w1 ≤ 199) : ∀ N : Nat, (∀ (h1 : JH) (x4 x5 y0 : Int) (j6 : AV), Gd G h1 → Kp [(7, 2), (7, 3), (7, 4), (10, 0), (11, 0), (12, 0), (13, 0), (14, 0), (15, 0), (16, 0), (17, 0)] h h1 → (-2147483648) ≤ a3 → a3 ≤ 2147483647 → (-1) ≤ x4 → x4 ≤ 199 → 0 ≤ x5 → x5 ≤ 3 → (w0 + (-y0)) ≤ 0 → ((-x4) + (-y0)) ≤ 1 → h1.2.2 7 1 = y0 → (-1) ≤ y0 → y0 ≤ 200 → ((-x5) + 3) < N → jEv (jOk 23) none (fun _ => 0) c78_0 0 0 (fun v h' => ∃ r F : Int, v = some (0, r) ∧ (-1) ≤ r ∧ r ≤ 199 ∧ Gd G h' ∧ Kp [(7, 2), (7, 3), (7, 4), (10, 0), (11, 0), (12, 0), (13, 0), (14, 0), (15, 0), (16, 0), (17, 0)] h h' ∧ h'.2.2 7 1 = F ∧ ((-F) + w0) ≤ 0 ∧ ((-F) + (-r)) ≤ 1) (c78_25, [(2, 7), (2, 1), (0, 2), (0, a3), (0, x4), (0, x5), j6], [], h1, 0, 0)) := by
  intro N
  induction N with
  | zero => exact fun h1 x4 x5 y0 j6 g1 k1 b0 b1 b2 b3 b4 b5 b6 b7 b8 b9 b10 hm => absurd hm (by omega)
  | succ N ih =>
    show _
    intro h1 x4 x5 y0 j6 g1 k1 b0 b1 b2 b3 b4 b5 b6 b7 ey0 ly0 uy0 hm
    refine ev_iload rfl ?_
    refine ev_iconst ?_
    refine ev_icmpge f78_100 (fun c23025 => absurd c23025 (by omega)) (fun c23025 => ?_)
    refine ev_aload_n rfl ?_
    refine g_getv (r := 7) (v := y0) g1 ad7 (by decide) ft5_1 (ey0) ?_
    refine ev_ifge f78_100 (fun c23026 => ?_) (fun c23026 => ?_)
    · refine ev_aload_n rfl ?_
      refine ev_bipush ?_
      refine ev_call (jcall_v (A := [(0, 41)]) (S' := []) (r := 7) rfl (g1.lt ad7) (g1.tg ad7) (Nat.le_of_ble_eq_true rfl)) (jOk_le (by decide) (s71 g1 (by omega) (by omega) (ey0) (by omega) (by omega))) (by decide) (by decide) (fun w23027 h23027 q23027 => ?_)
      obtain ⟨v23028, rfl, g23027, kk23027, ev23028, p23027_0⟩ := q23027
      have bv23028 := g23027.rg ad7 (i := 1) (by decide) rf7_1
      rw [ev23028] at bv23028
      have k23027 := k1.tr kk23027 (by decide)
      show jEv _ _ _ _ _ _ _ (_, [(2, 7), (2, 1), (0, 2), (0, a3), (0, x4), (0, x5), j6], [], _, _, _)
      refine ev_aload_n rfl ?_
      refine g_getv (r := 7) (v := v23028) g23027 ad7 (by decide) ft5_1 (ev23028) ?_
      refine ev_iflt f78_117 (fun c23029 => absurd c23029 (by omega)) (fun c23029 => ?_)
      refine ev_iconst ?_
      refine ev_goto f78_119 ?_
      exact ev_ret rfl (by decide) (by decide) ⟨_, _, rfl, by omega, by omega, g23027, k23027, (ev23028), by omega, by omega⟩
    · refine ev_aload_n rfl ?_
      refine ev_iconst ?_
      refine ev_call (jcall_v (A := [(0, 2)]) (S' := []) (r := 7) rfl (g1.lt ad7) (g1.tg ad7) (Nat.le_of_ble_eq_true rfl)) (jOk_le (by decide) (s76 g1 (by omega) (by omega) (ey0) (by omega) (by omega))) (by decide) (by decide) (fun w23030 h23030 q23030 => ?_)
      obtain ⟨v23032, v23031, rfl, lv23032, uv23032, g23030, kk23030, ev23031, p23030_0⟩ := q23030
      have bv23031 := g23030.rg ad7 (i := 1) (by decide) rf7_1
      rw [ev23031] at bv23031
      have k23030 := k1.tr kk23030 (by decide)
      show jEv _ _ _ _ _ _ _ (_, [(2, 7), (2, 1), (0, 2), (0, a3), (0, x4), (0, x5), j6], [(0, v23032)], _, _, _)
      refine ev_istore (L' := [(2, 7), (2, 1), (0, 2), (0, a3), (0, x4), (0, x5), (0, v23032)]) (Nat.le_of_ble_eq_true rfl) rfl ?_
      refine ev_aload_n rfl ?_
      refine ev_bipush ?_
      refine ev_call (jcall_v (A := [(0, 58)]) (S' := []) (r := 7) rfl (g23030.lt ad7) (g23030.tg ad7) (Nat.le_of_ble_eq_true rfl)) (jOk_le (by decide) (s71 g23030 (by omega) (by omega) (ev23031) (by omega) (by omega))) (by decide) (by decide) (fun w23033 h23033 q23033 => ?_)
      obtain ⟨v23034, rfl, g23033, kk23033, ev23034, p23033_0⟩ := q23033
      have bv23034 := g23033.rg ad7 (i := 1) (by decide) rf7_1
      rw [ev23034] at bv23034
      have k23033 := k23030.tr kk23033 (by decide)
      show jEv _ _ _ _ _ _ _ (_, [(2, 7), (2, 1), (0, 2), (0, a3), (0, x4), (0, x5), (0, v23032)], [], _, _, _)
      refine ev_aload_n rfl ?_
      refine ev_iload rfl ?_
      refine ev_iload rfl ?_
      refine ev_iload rfl ?_
      refine ev_aload_n rfl ?_
      refine ev_aload_n rfl ?_
      refine ev_iload_n rfl ?_
      refine ev_iconst ?_
      refine ev_iadd (r := 3) (by decide) ?_
      refine ev_iload_n rfl ?_
      refine ev_call (jcall_v (A := [(0, a3), (0, 3), (2, 1)]) (S' := [(0, v23032), (0, x5), (0, x4), (2, 7)]) (r := 7) rfl (g23033.lt ad7) (g23033.tg ad7) (Nat.le_of_ble_eq_true rfl)) (jOk_le (by decide) (s74_3 g23033 (by omega) (by omega) (ev23034) (by omega) (by omega))) (by decide) (by decide) (fun w23035 h23035 q23035 => ?_)
      obtain ⟨v23037, v23036, rfl, lv23037, uv23037, g23035, kk23035, ev23036, p23035_0, p23035_1⟩ := q23035
      have bv23036 := g23035.rg ad7 (i := 1) (by decide) rf7_1
      rw [ev23036] at bv23036
      have k23035 := k23033.tr kk23035 (by decide)
      show jEv _ _ _ _ _ _ _ (_, [(2, 7), (2, 1), (0, 2), (0, a3), (0, x4), (0, x5), (0, v23032)], [(0, v23037), (0, v23032), (0, x5), (0, x4), (2, 7)], _, _, _)
      refine ev_call (jcall_v (A := [(0, v23037), (0, v23032), (0, x5), (0, x4)]) (S' := []) (r := 7) rfl (g23035.lt ad7) (g23035.tg ad7) (Nat.le_of_ble_eq_true rfl)) (jOk_le (by decide) (s80 g23035 (by omega) (by omega) (by omega) (by omega) (by omega) (by omega) (by omega) (by omega))) (by decide) (by decide) (fun w23038 h23038 q23038 => ?_)
      obtain ⟨rfl, g23038, kk23038⟩ := q23038
      have k23038 := k23035.tr kk23038 (by decide)
      show jEv _ _ _ _ _ _ _ (_, [(2, 7), (2, 1), (0, 2), (0, a3), (0, x4), (0, x5), (0, v23032)], [], _, _, _)
      refine ev_aload_n rfl ?_
      refine ev_in (d := 22) (a := 0) (b := 0) (cd' := c68_0) (m := 1) (L0 := [(2, 7)]) (jcall_v (A := []) (S' := []) (r := 7) rfl (g23038.lt ad7) (g23038.tg ad7) (Nat.le_of_ble_eq_true rfl)) (by decide) ml68 pp68 (Nat.le_of_ble_eq_true rfl) rfl (by decide) (by decide) ?_
      refine ev_aload_n rfl ?_
      obtain ⟨v23039, ev23039, lv23039, uv23039⟩ := g23038.rd ad7 (show 2 < 15 by decide) rf7_2
      refine g_getv (r := 7) (v := v23039) g23038 ad7 (by decide) ft5_2 ev23039 ?_
      refine ev_aload_n rfl ?_
      obtain ⟨v23040, ev23040, lv23040, uv23040⟩ := g23038.rd ad7 (show 0 < 15 by decide) rf7_0
      refine g_getv (r := 7) (v := v23040) g23038 ad7 (by decide) ft5_0 ev23040 ?_
      refine ev_icmpge f68_27 (fun c23041 => ?_) (fun c23041 => ?_)
      · refine ev_iconst ?_
        refine ev_ret rfl (by decide) (by decide) ?_
        show jEv _ _ _ _ _ _ _ (_, [(2, 7), (2, 1), (0, 2), (0, a3), (0, x4), (0, x5), (0, v23032)], [(0, (-1))], _, _, _)
        refine ev_bipush ?_
        refine ev_icmpne f78_100 (fun c23042 => ?_) (fun c23042 => absurd c23042 (by omega))
        refine ev_aload_n rfl ?_
        refine ev_bipush ?_
        refine ev_call (jcall_v (A := [(0, 41)]) (S' := []) (r := 7) rfl (g23038.lt ad7) (g23038.tg ad7) (Nat.le_of_ble_eq_true rfl)) (jOk_le (by decide) (s71 g23038 (by omega) (by omega) (((kk23038.v (by decide)).trans ev23036)) (by omega) (by omega))) (by decide) (by decide) (fun w23043 h23043 q23043 => ?_)
        obtain ⟨v23044, rfl, g23043, kk23043, ev23044, p23043_0⟩ := q23043
        have bv23044 := g23043.rg ad7 (i := 1) (by decide) rf7_1
        rw [ev23044] at bv23044
        have k23043 := k23038.tr kk23043 (by decide)
        show jEv _ _ _ _ _ _ _ (_, [(2, 7), (2, 1), (0, 2), (0, a3), (0, x4), (0, x5), (0, v23032)], [], _, _, _)
        refine ev_aload_n rfl ?_
        refine g_getv (r := 7) (v := v23044) g23043 ad7 (by decide) ft5_1 (ev23044) ?_
        refine ev_iflt f78_117 (fun c23045 => ?_) (fun c23045 => ?_)
        · refine ev_iload rfl ?_
          exact ev_ret rfl (by decide) (by decide) ⟨_, _, rfl, by omega, by omega, g23043, k23043, (ev23044), by omega, by omega⟩
        · refine ev_iconst ?_
          refine ev_goto f78_119 ?_
          exact ev_ret rfl (by decide) (by decide) ⟨_, _, rfl, by omega, by omega, g23043, k23043, (ev23044), by omega, by omega⟩
      · refine ev_aload_n rfl ?_
        refine g_getp (r := 7) (c := 8) g23038 ad7 (by decide) (by decide) rf7_5 ft5_5 ?_
        refine ev_aload_n rfl ?_
        refine g_getv (r := 7) (v := v23039) g23038 ad7 (by decide) ft5_2 (ev23039) ?_
        refine g_bald g23038 ad8 rt8 (by omega) (by omega) (fun v23046 ev23046 lv23046 uv23046 => ?_)
        refine ev_sipush ?_
        refine g_iandB (b := 255) (by omega) (by omega) (by decide) (fun v23047 ev23047 lv23047 uv23047 => ?_)
        refine ev_goto f68_28 ?_
        refine ev_ret rfl (by decide) (by decide) ?_
        show jEv _ _ _ _ _ _ _ (_, [(2, 7), (2, 1), (0, 2), (0, a3), (0, x4), (0, x5), (0, v23032)], [(0, v23047)], _, _, _)
        refine ev_bipush ?_
        refine ev_icmpne f78_100 (fun c23048 => ?_) (fun c23048 => ?_)
        · refine ev_aload_n rfl ?_
          refine ev_bipush ?_
          refine ev_call (jcall_v (A := [(0, 41)]) (S' := []) (r := 7) rfl (g23038.lt ad7) (g23038.tg ad7) (Nat.le_of_ble_eq_true rfl)) (jOk_le (by decide) (s71 g23038 (by omega) (by omega) (((kk23038.v (by decide)).trans ev23036)) (by omega) (by omega))) (by decide) (by decide) (fun w23049 h23049 q23049 => ?_)
          obtain ⟨v23050, rfl, g23049, kk23049, ev23050, p23049_0⟩ := q23049
          have bv23050 := g23049.rg ad7 (i := 1) (by decide) rf7_1
          rw [ev23050] at bv23050
          have k23049 := k23038.tr kk23049 (by decide)
          show jEv _ _ _ _ _ _ _ (_, [(2, 7), (2, 1), (0, 2), (0, a3), (0, x4), (0, x5), (0, v23032)], [], _, _, _)
          refine ev_aload_n rfl ?_
          refine g_getv (r := 7) (v := v23050) g23049 ad7 (by decide) ft5_1 (ev23050) ?_
          refine ev_iflt f78_117 (fun c23051 => ?_) (fun c23051 => ?_)
          · refine ev_iload rfl ?_
            exact ev_ret rfl (by decide) (by decide) ⟨_, _, rfl, by omega, by omega, g23049, k23049, (ev23050), by omega, by omega⟩
          · refine ev_iconst ?_
            refine ev_goto f78_119 ?_
            exact ev_ret rfl (by decide) (by decide) ⟨_, _, rfl, by omega, by omega, g23049, k23049, (ev23050), by omega, by omega⟩
        · refine ev_iload rfl ?_
          refine ev_iconst ?_
          refine ev_icmpne f78_88 (fun c23052 => ?_) (fun c23052 => ?_)
          · refine ev_aload_n rfl ?_
            refine ev_bipush ?_
            refine ev_call (jcall_v (A := [(0, 44)]) (S' := []) (r := 7) rfl (g23038.lt ad7) (g23038.tg ad7) (Nat.le_of_ble_eq_true rfl)) (jOk_le (by decide) (s71 g23038 (by omega) (by omega) (((kk23038.v (by decide)).trans ev23036)) (by omega) (by omega))) (by decide) (by decide) (fun w23053 h23053 q23053 => ?_)
            obtain ⟨v23054, rfl, g23053, kk23053, ev23054, p23053_0⟩ := q23053
            have bv23054 := g23053.rg ad7 (i := 1) (by decide) rf7_1
            rw [ev23054] at bv23054
            have k23053 := k23038.tr kk23053 (by decide)
            show jEv _ _ _ _ _ _ _ (_, [(2, 7), (2, 1), (0, 2), (0, a3), (0, x4), (0, x5), (0, v23032)], [], _, _, _)
            refine ev_iinc (w := (x5 + 1)) (L' := [(2, 7), (2, 1), (0, 2), (0, a3), (0, x4), (0, (x5 + 1)), (0, v23032)]) rfl (by unfold w32; omega) rfl ?_
            refine ev_goto f78_25 ?_
            exact ih _ _ _ _ _ g23053 k23053 (by omega) (by omega) (by omega) (by omega) (by omega) (by omega) (by omega) (by omega) (ev23054) (by omega) (by omega) (by omega)
          · refine ev_goto f78_100 ?_
            refine ev_aload_n rfl ?_
            refine ev_bipush ?_
            refine ev_call (jcall_v (A := [(0, 41)]) (S' := []) (r := 7) rfl (g23038.lt ad7) (g23038.tg ad7) (Nat.le_of_ble_eq_true rfl)) (jOk_le (by decide) (s71 g23038 (by omega) (by omega) (((kk23038.v (by decide)).trans ev23036)) (by omega) (by omega))) (by decide) (by decide) (fun w23055 h23055 q23055 => ?_)
            obtain ⟨v23056, rfl, g23055, kk23055, ev23056, p23055_0⟩ := q23055
            have bv23056 := g23055.rg ad7 (i := 1) (by decide) rf7_1
            rw [ev23056] at bv23056
            have k23055 := k23038.tr kk23055 (by decide)
            show jEv _ _ _ _ _ _ _ (_, [(2, 7), (2, 1), (0, 2), (0, a3), (0, x4), (0, x5), (0, v23032)], [], _, _, _)
            refine ev_aload_n rfl ?_
            refine g_getv (r := 7) (v := v23056) g23055 ad7 (by decide) ft5_1 (ev23056) ?_
            refine ev_iflt f78_117 (fun c23057 => ?_) (fun c23057 => ?_)
            · refine ev_iload rfl ?_
              exact ev_ret rfl (by decide) (by decide) ⟨_, _, rfl, by omega, by omega, g23055, k23055, (ev23056), by omega, by omega⟩
            · refine ev_iconst ?_
              refine ev_goto f78_119 ?_
              exact ev_ret rfl (by decide) (by decide) ⟨_, _, rfl, by omega, by omega, g23055, k23055, (ev23056), by omega, by omega⟩
set_option maxHeartbeats 4000000 in
theorem s78_2 {G : GH} {h : JH} (g : Gd G h) {a3 : Int} (la3 : (-2147483648) ≤ a3) (ua3 : a3 ≤ 2147483647) {w0 : Int} (ew0 : h.2.2 7 1 = w0) (lw0 : (-1) ≤ w0) (uw0 : w0 ≤ 200) {w1 : Int} (ew1 : h.2.2 7 2 = w1) (lw1 : 0 ≤ w1) (uw1 : w1 ≤ 199) : jOk 24 0 0 78 [(2, 7), (2, 1), (0, 2), (0, a3)] h (fun v h' => ∃ r F : Int, v = some (0, r) ∧ (-1) ≤ r ∧ r ≤ 199 ∧ Gd G h' ∧ Kp [(7, 2), (7, 3), (7, 4), (10, 0), (11, 0), (12, 0), (13, 0), (14, 0), (15, 0), (16, 0), (17, 0)] h h' ∧ h'.2.2 7 1 = F ∧ ((-F) + w0) ≤ 0 ∧ ((-F) + (-r)) ≤ 1) := by
  refine ⟨by decide, by rw [ml78]; exact Nat.le_of_ble_eq_true rfl, ?_⟩
  rw [ml78, pp78]
  show jEv _ none _ c78_0 0 0 _ (c78_0, [(2, 7), (2, 1), (0, 2), (0, a3), (9, 0), (9, 0), (9, 0)], [], h, 0, 0)
  have k0 := Kp.rf [(7, 2), (7, 3), (7, 4), (10, 0), (11, 0), (12, 0), (13, 0), (14, 0), (15, 0), (16, 0), (17, 0)] h
  refine ev_aload_n rfl ?_
  refine ev_dup (by decide) ?_
  refine g_getv (r := 7) (v := w1) g ad7 (by decide) ft5_2 (ew1) ?_
  refine ev_iconst ?_
  refine ev_iadd (r := (w1 + 1)) (by unfold w32; omega) ?_
  refine g_putf (r := 7) g ad7 (by decide) ft5_2 (by decide) (fun e => absurd e nz5_2) rf7_2 (by decide) (by omega) (by omega) (fun h23058 e23058 g23058 => ?_)
  have k23058 := k0.wr e23058 rfl
  refine ev_aload_n rfl ?_
  refine ev_iload_n rfl ?_
  refine ev_call (jcall_v (A := [(0, 2)]) (S' := []) (r := 7) rfl (g23058.lt ad7) (g23058.tg ad7) (Nat.le_of_ble_eq_true rfl)) (jOk_le (by decide) (s72 g23058 (by omega) (by omega) (((jw_ne e23058 (Or.inr (by decide))).trans ew0)) (by omega) (by omega))) (by decide) (by decide) (fun w23059 h23059 q23059 => ?_)
  obtain ⟨v23060, rfl, g23059, kk23059, ev23060, p23059_0⟩ := q23059
  have bv23060 := g23059.rg ad7 (i := 1) (by decide) rf7_1
  rw [ev23060] at bv23060
  have k23059 := k23058.tr kk23059 (by decide)
  show jEv _ _ _ _ _ _ _ (_, [(2, 7), (2, 1), (0, 2), (0, a3), (9, 0), (9, 0), (9, 0)], [], _, _, _)
  refine ev_aload_n rfl ?_
  refine ev_iconst ?_
  refine ev_call (jcall_v (A := [(0, 1)]) (S' := []) (r := 7) rfl (g23059.lt ad7) (g23059.tg ad7) (Nat.le_of_ble_eq_true rfl)) (jOk_le (by decide) (s73 g23059 (by omega) (by omega) (ev23060) (by omega) (by omega))) (by decide) (by decide) (fun w23061 h23061 q23061 => ?_)
  obtain ⟨v23063, v23062, rfl, lv23063, uv23063, g23061, kk23061, ev23062, p23061_0, p23061_1⟩ := q23061
  have bv23062 := g23061.rg ad7 (i := 1) (by decide) rf7_1
  rw [ev23062] at bv23062
  have k23061 := k23059.tr kk23061 (by decide)
  show jEv _ _ _ _ _ _ _ (_, [(2, 7), (2, 1), (0, 2), (0, a3), (9, 0), (9, 0), (9, 0)], [(0, v23063)], _, _, _)
  refine ev_istore (L' := [(2, 7), (2, 1), (0, 2), (0, a3), (0, v23063), (9, 0), (9, 0)]) (Nat.le_of_ble_eq_true rfl) rfl ?_
  refine ev_iconst ?_
  refine ev_istore (L' := [(2, 7), (2, 1), (0, 2), (0, a3), (0, v23063), (0, 0), (9, 0)]) (Nat.le_of_ble_eq_true rfl) rfl ?_
  exact (s78_2_l la3 ua3 ew0 lw0 uw0 ew1 lw1 uw1 8) _ _ _ _ _ g23061 k23061 (by omega) (by omega) (by omega) (by omega) (by omega) (by omega) (by omega) (by omega) (ev23062) (by omega) (by omega) (by omega)
/-! s79_2  -/
set_option maxHeartbeats 4000000 in
theorem s79_2_l {G : GH} {h : JH} {a3 : Int} (la3 : (-2147483648) ≤ a3) (ua3 : a3 ≤ 2147483647) {w0 : Int} (ew0 : h.2.2 7 1 = w0) (lw0 : (-1) ≤ w0) (uw0 : w0 ≤ 200) {w1 : Int} (ew1 : h.2.2 7 2 = w1) (lw1 : 0 ≤ w1) (uw1 : w1 ≤ 199) : ∀ N : Nat, (∀ (h1 : JH) (x4 x5 x6 y0 : Int), Gd G h1 → Kp [(7, 2), (7, 3), (7, 4), (10, 0), (11, 0), (12, 0), (13, 0), (14, 0), (15, 0), (16, 0), (17, 0)] h h1 → (-2147483648) ≤ a3 → a3 ≤ 2147483647 → 0 ≤ x4 → x4 ≤ 3 → (-1) ≤ x5 → x5 ≤ 199 → 0 ≤ x6 → x6 ≤ 3 → (w0 + (-y0)) ≤ 0 → ((-x5) + (-y0)) ≤ 1 → h1.2.2 7 1 = y0 → (-1) ≤ y0 → y0 ≤ 200 → ((-x6) + 3) < N → jEv (jOk 23) none (fun _ => 0) c79_0 0 0 (fun v h' => ∃ r F : Int, v = some (0, r) ∧ (-1) ≤ r ∧ r ≤ 199 ∧ Gd G h' ∧ Kp [(7, 2), (7, 3), (7, 4), (10, 0), (11, 0), (12, 0), (13, 0), (14, 0), (15, 0), (16, 0), (17, 0)] h h' ∧ h'.2.2 7 1 = F ∧ ((-F) + w0) ≤ 0 ∧ ((-F) + (-r)) ≤ 1) (c79_68, [(2, 7), (2, 1), (0, 2), (0, a3), (0, x4), (0, x5), (0, x6)], [], h1, 0, 0)) := by
  intro N
  induction N with
  | zero => exact fun h1 x4 x5 x6 y0 g1 k1 b0 b1 b2 b3 b4 b5 b6 b7 b8 b9 b10 b11 b12 hm => absurd hm (by omega)
  | succ N ih =>
    show _
    intro h1 x4 x5 x6 y0 g1 k1 b0 b1 b2 b3 b4 b5 b6 b7 b8 b9 ey0 ly0 uy0 hm
    refine ev_iload rfl ?_
    refine ev_aload_n rfl ?_
    refine ev_iload rfl ?_
    refine ev_in (d := 22) (a := 0) (b := 0) (cd' := c141_0) (m := 2) (L0 := [(2, 1), (0, x4)]) (jcall_v (A := [(0, x4)]) (S' := [(0, x6)]) (r := 1) rfl (g1.lt ad1) (g1.tg ad1) (Nat.le_of_ble_eq_true rfl)) (by decide) ml141 pp141 (Nat.le_of_ble_eq_true rfl) rfl (by decide) (by decide) ?_
    refine ev_aload_n rfl ?_
    refine ev_iload_n rfl ?_
    refine ev_in (d := 21) (a := 0) (b := 0) (cd' := c140_0) (m := 2) (L0 := [(2, 1), (0, x4)]) (jcall_v (A := [(0, x4)]) (S' := []) (r := 1) rfl (g1.lt ad1) (g1.tg ad1) (Nat.le_of_ble_eq_true rfl)) (by decide) ml140 pp140 (Nat.le_of_ble_eq_true rfl) rfl (by decide) (by decide) ?_
    refine ev_iload_n rfl ?_
    refine ev_iflt f140_16 (fun c23341 => absurd c23341 (by omega)) (fun c23341 => ?_)
    refine ev_iload_n rfl ?_
    refine ev_aload_n rfl ?_
    obtain ⟨v23342, ev23342, lv23342, uv23342⟩ := g1.rd ad1 (show 0 < 8 by decide) rf1_0
    refine g_getv (r := 1) (v := v23342) g1 ad1 (by decide) ft10_0 ev23342 ?_
    refine ev_icmpge f140_16 (fun c23343 => ?_) (fun c23343 => ?_)
    · refine ev_iconst ?_
      refine ev_ret rfl (by decide) (by decide) ?_
      show jEv _ _ _ _ _ _ _ (_, [(2, 1), (0, x4)], [(0, 0)], _, _, _)
      refine ev_ifeq f141_17 (fun c23344 => ?_) (fun c23344 => absurd c23344 (by omega))
      refine ev_iconst ?_
      refine ev_ret rfl (by decide) (by decide) ?_
      show jEv _ _ _ _ _ _ _ (_, [(2, 7), (2, 1), (0, 2), (0, a3), (0, x4), (0, x5), (0, x6)], [(0, 0), (0, x6)], _, _, _)
      refine ev_icmpge f79_126 (fun c23345 => ?_) (fun c23345 => absurd c23345 (by omega))
      refine ev_aload_n rfl ?_
      refine ev_bipush ?_
      refine ev_call (jcall_v (A := [(0, 41)]) (S' := []) (r := 7) rfl (g1.lt ad7) (g1.tg ad7) (Nat.le_of_ble_eq_true rfl)) (jOk_le (by decide) (s71 g1 (by omega) (by omega) (ey0) (by omega) (by omega))) (by decide) (by decide) (fun w23346 h23346 q23346 => ?_)
      obtain ⟨v23347, rfl, g23346, kk23346, ev23347, p23346_0⟩ := q23346
      have bv23347 := g23346.rg ad7 (i := 1) (by decide) rf7_1
      rw [ev23347] at bv23347
      have k23346 := k1.tr kk23346 (by decide)
      show jEv _ _ _ _ _ _ _ (_, [(2, 7), (2, 1), (0, 2), (0, a3), (0, x4), (0, x5), (0, x6)], [], _, _, _)
      refine ev_aload_n rfl ?_
      refine g_getv (r := 7) (v := v23347) g23346 ad7 (by decide) ft5_1 (ev23347) ?_
      refine ev_ifge f79_144 (fun c23348 => ?_) (fun c23348 => ?_)
      · refine ev_iconst ?_
        exact ev_ret rfl (by decide) (by decide) ⟨_, _, rfl, by omega, by omega, g23346, k23346, (ev23347), by omega, by omega⟩
      · refine ev_iload rfl ?_
        refine ev_ifge f79_146 (fun c23349 => ?_) (fun c23349 => absurd c23349 (by omega))
        refine ev_aload_n rfl ?_
        refine g_getp (r := 7) (c := 11) g23346 ad7 (by decide) (by decide) rf7_8 ft5_8 ?_
        refine ev_iload rfl ?_
        refine ev_iload rfl ?_
        refine g_iast g23346 ad11 rt11 (fun _ => rfl) (by omega) (by omega) (by omega) (by omega) (fun h23350 e23350 g23350 => ?_)
        have k23350 := k23346.wr e23350 rfl
        refine ev_aload_n rfl ?_
        refine g_getp (r := 7) (c := 15) g23350 ad7 (by decide) (by decide) rf7_12 ft5_12 ?_
        refine ev_iload rfl ?_
        refine ev_dup2 (by decide) (by decide) ?_
        refine g_iald g23350 ad15 rt15 (by omega) (by omega) (fun v23351 ev23351 lv23351 uv23351 => ?_)
        refine ev_iconst ?_
        refine ev_iload rfl ?_
        refine g_ishlB (a' := 1) (a := 1) (b := 3) (hi := 8) (by omega) (by omega) (by omega) (by omega) (by decide) (by decide) (fun v23352 ev23352 lv23352 uv23352 => ?_)
        refine g_iorG (fun v23353 ev23353 lv23353 uv23353 => ?_)
        refine g_iast g23350 ad15 rt15 (fun _ => rfl) (by omega) (by omega) (by omega) (by omega) (fun h23354 e23354 g23354 => ?_)
        have k23354 := k23350.wr e23354 rfl
        refine ev_iload rfl ?_
        exact ev_ret rfl (by decide) (by decide) ⟨_, _, rfl, by omega, by omega, g23354, k23354, (((jw_ne e23354 (Or.inl (by decide))).trans ((jw_ne e23350 (Or.inl (by decide))).trans ev23347))), by omega, by omega⟩
    · refine ev_iconst ?_
      refine ev_goto f140_17 ?_
      refine ev_ret rfl (by decide) (by decide) ?_
      show jEv _ _ _ _ _ _ _ (_, [(2, 1), (0, x4)], [(0, 1)], _, _, _)
      refine ev_ifeq f141_17 (fun c23355 => absurd c23355 (by omega)) (fun c23355 => ?_)
      refine ev_aload_n rfl ?_
      refine g_getp (r := 1) (c := 2) g1 ad1 (by decide) (by decide) rf1_3 ft10_3 ?_
      refine ev_iload_n rfl ?_
      refine g_iald g1 ad2 rt2 (by omega) (by omega) (fun v23356 ev23356 lv23356 uv23356 => ?_)
      refine ev_goto f141_18 ?_
      refine ev_ret rfl (by decide) (by decide) ?_
      show jEv _ _ _ _ _ _ _ (_, [(2, 7), (2, 1), (0, 2), (0, a3), (0, x4), (0, x5), (0, x6)], [(0, v23356), (0, x6)], _, _, _)
      refine ev_icmpge f79_126 (fun c23357 => ?_) (fun c23357 => ?_)
      · refine ev_aload_n rfl ?_
        refine ev_bipush ?_
        refine ev_call (jcall_v (A := [(0, 41)]) (S' := []) (r := 7) rfl (g1.lt ad7) (g1.tg ad7) (Nat.le_of_ble_eq_true rfl)) (jOk_le (by decide) (s71 g1 (by omega) (by omega) (ey0) (by omega) (by omega))) (by decide) (by decide) (fun w23358 h23358 q23358 => ?_)
        obtain ⟨v23359, rfl, g23358, kk23358, ev23359, p23358_0⟩ := q23358
        have bv23359 := g23358.rg ad7 (i := 1) (by decide) rf7_1
        rw [ev23359] at bv23359
        have k23358 := k1.tr kk23358 (by decide)
        show jEv _ _ _ _ _ _ _ (_, [(2, 7), (2, 1), (0, 2), (0, a3), (0, x4), (0, x5), (0, x6)], [], _, _, _)
        refine ev_aload_n rfl ?_
        refine g_getv (r := 7) (v := v23359) g23358 ad7 (by decide) ft5_1 (ev23359) ?_
        refine ev_ifge f79_144 (fun c23360 => ?_) (fun c23360 => ?_)
        · refine ev_iconst ?_
          exact ev_ret rfl (by decide) (by decide) ⟨_, _, rfl, by omega, by omega, g23358, k23358, (ev23359), by omega, by omega⟩
        · refine ev_iload rfl ?_
          refine ev_ifge f79_146 (fun c23361 => ?_) (fun c23361 => absurd c23361 (by omega))
          refine ev_aload_n rfl ?_
          refine g_getp (r := 7) (c := 11) g23358 ad7 (by decide) (by decide) rf7_8 ft5_8 ?_
          refine ev_iload rfl ?_
          refine ev_iload rfl ?_
          refine g_iast g23358 ad11 rt11 (fun _ => rfl) (by omega) (by omega) (by omega) (by omega) (fun h23362 e23362 g23362 => ?_)
          have k23362 := k23358.wr e23362 rfl
          refine ev_aload_n rfl ?_
          refine g_getp (r := 7) (c := 15) g23362 ad7 (by decide) (by decide) rf7_12 ft5_12 ?_
          refine ev_iload rfl ?_
          refine ev_dup2 (by decide) (by decide) ?_
          refine g_iald g23362 ad15 rt15 (by omega) (by omega) (fun v23363 ev23363 lv23363 uv23363 => ?_)
          refine ev_iconst ?_
          refine ev_iload rfl ?_
          refine g_ishlB (a' := 1) (a := 1) (b := 3) (hi := 8) (by omega) (by omega) (by omega) (by omega) (by decide) (by decide) (fun v23364 ev23364 lv23364 uv23364 => ?_)
          refine g_iorG (fun v23365 ev23365 lv23365 uv23365 => ?_)
          refine g_iast g23362 ad15 rt15 (fun _ => rfl) (by omega) (by omega) (by omega) (by omega) (fun h23366 e23366 g23366 => ?_)
          have k23366 := k23362.wr e23366 rfl
          refine ev_iload rfl ?_
          exact ev_ret rfl (by decide) (by decide) ⟨_, _, rfl, by omega, by omega, g23366, k23366, (((jw_ne e23366 (Or.inl (by decide))).trans ((jw_ne e23362 (Or.inl (by decide))).trans ev23359))), by omega, by omega⟩
      · refine ev_aload_n rfl ?_
        refine g_getv (r := 7) (v := y0) g1 ad7 (by decide) ft5_1 (ey0) ?_
        refine ev_ifge f79_126 (fun c23367 => ?_) (fun c23367 => ?_)
        · refine ev_aload_n rfl ?_
          refine ev_bipush ?_
          refine ev_call (jcall_v (A := [(0, 41)]) (S' := []) (r := 7) rfl (g1.lt ad7) (g1.tg ad7) (Nat.le_of_ble_eq_true rfl)) (jOk_le (by decide) (s71 g1 (by omega) (by omega) (ey0) (by omega) (by omega))) (by decide) (by decide) (fun w23368 h23368 q23368 => ?_)
          obtain ⟨v23369, rfl, g23368, kk23368, ev23369, p23368_0⟩ := q23368
          have bv23369 := g23368.rg ad7 (i := 1) (by decide) rf7_1
          rw [ev23369] at bv23369
          have k23368 := k1.tr kk23368 (by decide)
          show jEv _ _ _ _ _ _ _ (_, [(2, 7), (2, 1), (0, 2), (0, a3), (0, x4), (0, x5), (0, x6)], [], _, _, _)
          refine ev_aload_n rfl ?_
          refine g_getv (r := 7) (v := v23369) g23368 ad7 (by decide) ft5_1 (ev23369) ?_
          refine ev_ifge f79_144 (fun c23370 => ?_) (fun c23370 => absurd c23370 (by omega))
          refine ev_iconst ?_
          exact ev_ret rfl (by decide) (by decide) ⟨_, _, rfl, by omega, by omega, g23368, k23368, (ev23369), by omega, by omega⟩
        · refine ev_iload rfl ?_
          refine ev_ifle f79_97 (fun c23371 => ?_) (fun c23371 => ?_)
          · refine ev_aload_n rfl ?_
            refine ev_iload rfl ?_
            refine ev_iload rfl ?_
            refine ev_iconst ?_
            refine ev_aload_n rfl ?_
            refine ev_aload_n rfl ?_
            refine ev_iload_n rfl ?_
            refine ev_iconst ?_
            refine ev_iadd (r := 3) (by decide) ?_
            refine ev_iload_n rfl ?_
            refine ev_iconst ?_
            refine ev_iload rfl ?_
            refine g_ishlB (a' := 1) (a := 1) (b := 3) (hi := 8) (by omega) (by omega) (by omega) (by omega) (by decide) (by decide) (fun v23372 ev23372 lv23372 uv23372 => ?_)
            refine g_iorG (fun v23373 ev23373 lv23373 uv23373 => ?_)
            refine ev_call (jcall_v (A := [(0, v23373), (0, 3), (2, 1)]) (S' := [(0, 0), (0, x6), (0, x5), (2, 7)]) (r := 7) rfl (g1.lt ad7) (g1.tg ad7) (Nat.le_of_ble_eq_true rfl)) (jOk_le (by decide) (s74_3 g1 (by omega) (by omega) (ey0) (by omega) (by omega))) (by decide) (by decide) (fun w23374 h23374 q23374 => ?_)
            obtain ⟨v23376, v23375, rfl, lv23376, uv23376, g23374, kk23374, ev23375, p23374_0, p23374_1⟩ := q23374
            have bv23375 := g23374.rg ad7 (i := 1) (by decide) rf7_1
            rw [ev23375] at bv23375
            have k23374 := k1.tr kk23374 (by decide)
            show jEv _ _ _ _ _ _ _ (_, [(2, 7), (2, 1), (0, 2), (0, a3), (0, x4), (0, x5), (0, x6)], [(0, v23376), (0, 0), (0, x6), (0, x5), (2, 7)], _, _, _)
            refine ev_call (jcall_v (A := [(0, v23376), (0, 0), (0, x6), (0, x5)]) (S' := []) (r := 7) rfl (g23374.lt ad7) (g23374.tg ad7) (Nat.le_of_ble_eq_true rfl)) (jOk_le (by decide) (s80 g23374 (by omega) (by omega) (by omega) (by omega) (by omega) (by omega) (by omega) (by omega))) (by decide) (by decide) (fun w23377 h23377 q23377 => ?_)
            obtain ⟨rfl, g23377, kk23377⟩ := q23377
            have k23377 := k23374.tr kk23377 (by decide)
            show jEv _ _ _ _ _ _ _ (_, [(2, 7), (2, 1), (0, 2), (0, a3), (0, x4), (0, x5), (0, x6)], [], _, _, _)
            refine ev_iinc (w := (x6 + 1)) (L' := [(2, 7), (2, 1), (0, 2), (0, a3), (0, x4), (0, x5), (0, (x6 + 1))]) rfl (by unfold w32; omega) rfl ?_
            refine ev_goto f79_68 ?_
            exact ih _ _ _ _ _ g23377 k23377 (by omega) (by omega) (by omega) (by omega) (by omega) (by omega) (by omega) (by omega) (by omega) (by omega) (((kk23377.v (by decide)).trans ev23375)) (by omega) (by omega) (by omega)
          · refine ev_aload_n rfl ?_
            refine ev_bipush ?_
            refine ev_call (jcall_v (A := [(0, 44)]) (S' := []) (r := 7) rfl (g1.lt ad7) (g1.tg ad7) (Nat.le_of_ble_eq_true rfl)) (jOk_le (by decide) (s71 g1 (by omega) (by omega) (ey0) (by omega) (by omega))) (by decide) (by decide) (fun w23378 h23378 q23378 => ?_)
            obtain ⟨v23379, rfl, g23378, kk23378, ev23379, p23378_0⟩ := q23378
            have bv23379 := g23378.rg ad7 (i := 1) (by decide) rf7_1
            rw [ev23379] at bv23379
            have k23378 := k1.tr kk23378 (by decide)
            show jEv _ _ _ _ _ _ _ (_, [(2, 7), (2, 1), (0, 2), (0, a3), (0, x4), (0, x5), (0, x6)], [], _, _, _)
            refine ev_aload_n rfl ?_
            refine ev_iload rfl ?_
            refine ev_iload rfl ?_
            refine ev_iconst ?_
            refine ev_aload_n rfl ?_
            refine ev_aload_n rfl ?_
            refine ev_iload_n rfl ?_
            refine ev_iconst ?_
            refine ev_iadd (r := 3) (by decide) ?_
            refine ev_iload_n rfl ?_
            refine ev_iconst ?_
            refine ev_iload rfl ?_
            refine g_ishlB (a' := 1) (a := 1) (b := 3) (hi := 8) (by omega) (by omega) (by omega) (by omega) (by decide) (by decide) (fun v23380 ev23380 lv23380 uv23380 => ?_)
            refine g_iorG (fun v23381 ev23381 lv23381 uv23381 => ?_)
            refine ev_call (jcall_v (A := [(0, v23381), (0, 3), (2, 1)]) (S' := [(0, 0), (0, x6), (0, x5), (2, 7)]) (r := 7) rfl (g23378.lt ad7) (g23378.tg ad7) (Nat.le_of_ble_eq_true rfl)) (jOk_le (by decide) (s74_3 g23378 (by omega) (by omega) (ev23379) (by omega) (by omega))) (by decide) (by decide) (fun w23382 h23382 q23382 => ?_)
            obtain ⟨v23384, v23383, rfl, lv23384, uv23384, g23382, kk23382, ev23383, p23382_0, p23382_1⟩ := q23382
            have bv23383 := g23382.rg ad7 (i := 1) (by decide) rf7_1
            rw [ev23383] at bv23383
            have k23382 := k23378.tr kk23382 (by decide)
            show jEv _ _ _ _ _ _ _ (_, [(2, 7), (2, 1), (0, 2), (0, a3), (0, x4), (0, x5), (0, x6)], [(0, v23384), (0, 0), (0, x6), (0, x5), (2, 7)], _, _, _)
            refine ev_call (jcall_v (A := [(0, v23384), (0, 0), (0, x6), (0, x5)]) (S' := []) (r := 7) rfl (g23382.lt ad7) (g23382.tg ad7) (Nat.le_of_ble_eq_true rfl)) (jOk_le (by decide) (s80 g23382 (by omega) (by omega) (by omega) (by omega) (by omega) (by omega) (by omega) (by omega))) (by decide) (by decide) (fun w23385 h23385 q23385 => ?_)
            obtain ⟨rfl, g23385, kk23385⟩ := q23385
            have k23385 := k23382.tr kk23385 (by decide)
            show jEv _ _ _ _ _ _ _ (_, [(2, 7), (2, 1), (0, 2), (0, a3), (0, x4), (0, x5), (0, x6)], [], _, _, _)
            refine ev_iinc (w := (x6 + 1)) (L' := [(2, 7), (2, 1), (0, 2), (0, a3), (0, x4), (0, x5), (0, (x6 + 1))]) rfl (by unfold w32; omega) rfl ?_
            refine ev_goto f79_68 ?_
            exact ih _ _ _ _ _ g23385 k23385 (by omega) (by omega) (by omega) (by omega) (by omega) (by omega) (by omega) (by omega) (by omega) (by omega) (((kk23385.v (by decide)).trans ev23383)) (by omega) (by omega) (by omega)
set_option maxHeartbeats 4000000 in
theorem s79_2 {G : GH} {h : JH} (g : Gd G h) {a3 : Int} (la3 : (-2147483648) ≤ a3) (ua3 : a3 ≤ 2147483647) {w0 : Int} (ew0 : h.2.2 7 1 = w0) (lw0 : (-1) ≤ w0) (uw0 : w0 ≤ 200) {w1 : Int} (ew1 : h.2.2 7 2 = w1) (lw1 : 0 ≤ w1) (uw1 : w1 ≤ 199) : jOk 24 0 0 79 [(2, 7), (2, 1), (0, 2), (0, a3)] h (fun v h' => ∃ r F : Int, v = some (0, r) ∧ (-1) ≤ r ∧ r ≤ 199 ∧ Gd G h' ∧ Kp [(7, 2), (7, 3), (7, 4), (10, 0), (11, 0), (12, 0), (13, 0), (14, 0), (15, 0), (16, 0), (17, 0)] h h' ∧ h'.2.2 7 1 = F ∧ ((-F) + w0) ≤ 0 ∧ ((-F) + (-r)) ≤ 1) := by
  refine ⟨by decide, by rw [ml79]; exact Nat.le_of_ble_eq_true rfl, ?_⟩
  rw [ml79, pp79]
  show jEv _ none _ c79_0 0 0 _ (c79_0, [(2, 7), (2, 1), (0, 2), (0, a3), (9, 0), (9, 0), (9, 0)], [], h, 0, 0)
  have k0 := Kp.rf [(7, 2), (7, 3), (7, 4), (10, 0), (11, 0), (12, 0), (13, 0), (14, 0), (15, 0), (16, 0), (17, 0)] h
  refine ev_aload_n rfl ?_
  refine ev_dup (by decide) ?_
  refine g_getv (r := 7) (v := w1) g ad7 (by decide) ft5_2 (ew1) ?_
  refine ev_iconst ?_
  refine ev_iadd (r := (w1 + 1)) (by unfold w32; omega) ?_
  refine g_putf (r := 7) g ad7 (by decide) ft5_2 (by decide) (fun e => absurd e nz5_2) rf7_2 (by decide) (by omega) (by omega) (fun h23386 e23386 g23386 => ?_)
  have k23386 := k0.wr e23386 rfl
  refine ev_aload_n rfl ?_
  refine ev_in (d := 22) (a := 0) (b := 0) (cd' := c68_0) (m := 1) (L0 := [(2, 7)]) (jcall_v (A := []) (S' := []) (r := 7) rfl (g23386.lt ad7) (g23386.tg ad7) (Nat.le_of_ble_eq_true rfl)) (by decide) ml68 pp68 (Nat.le_of_ble_eq_true rfl) rfl (by decide) (by decide) ?_
  refine ev_aload_n rfl ?_
  refine g_getv (r := 7) (v := (w1 + 1)) g23386 ad7 (by decide) ft5_2 ((jw_eq e23386)) ?_
  refine ev_aload_n rfl ?_
  obtain ⟨v23387, ev23387, lv23387, uv23387⟩ := g23386.rd ad7 (show 0 < 15 by decide) rf7_0
  refine g_getv (r := 7) (v := v23387) g23386 ad7 (by decide) ft5_0 ev23387 ?_
  refine ev_icmpge f68_27 (fun c23388 => ?_) (fun c23388 => ?_)
  · refine ev_iconst ?_
    refine ev_ret rfl (by decide) (by decide) ?_
    show jEv _ _ _ _ _ _ _ (_, [(2, 7), (2, 1), (0, 2), (0, a3), (9, 0), (9, 0), (9, 0)], [(0, (-1))], _, _, _)
    refine ev_bipush ?_
    refine ev_isub (r := (-98)) (by decide) ?_
    refine ev_istore (L' := [(2, 7), (2, 1), (0, 2), (0, a3), (0, (-98)), (9, 0), (9, 0)]) (Nat.le_of_ble_eq_true rfl) rfl ?_
    refine ev_aload_n rfl ?_
    refine ev_iload rfl ?_
    refine ev_in (d := 22) (a := 0) (b := 0) (cd' := c140_0) (m := 2) (L0 := [(2, 1), (0, (-98))]) (jcall_v (A := [(0, (-98))]) (S' := []) (r := 1) rfl (g23386.lt ad1) (g23386.tg ad1) (Nat.le_of_ble_eq_true rfl)) (by decide) ml140 pp140 (Nat.le_of_ble_eq_true rfl) rfl (by decide) (by decide) ?_
    refine ev_iload_n rfl ?_
    refine ev_iflt f140_16 (fun c23389 => ?_) (fun c23389 => absurd c23389 (by omega))
    refine ev_iconst ?_
    refine ev_ret rfl (by decide) (by decide) ?_
    show jEv _ _ _ _ _ _ _ (_, [(2, 7), (2, 1), (0, 2), (0, a3), (0, (-98)), (9, 0), (9, 0)], [(0, 0)], _, _, _)
    refine ev_ifeq f79_37 (fun c23390 => ?_) (fun c23390 => absurd c23390 (by omega))
    refine ev_aload_n rfl ?_
    refine ev_in (d := 22) (a := 0) (b := 0) (cd' := c70_0) (m := 1) (L0 := [(2, 7)]) (jcall_v (A := []) (S' := []) (r := 7) rfl (g23386.lt ad7) (g23386.tg ad7) (Nat.le_of_ble_eq_true rfl)) (by decide) ml70 pp70 (Nat.le_of_ble_eq_true rfl) rfl (by decide) (by decide) ?_
    refine ev_aload_n rfl ?_
    refine g_getv (r := 7) (v := w0) g23386 ad7 (by decide) ft5_1 (((jw_ne e23386 (Or.inr (by decide))).trans ew0)) ?_
    refine ev_ifge f70_15 (fun c23391 => ?_) (fun c23391 => ?_)
    · refine ev_ret rfl (by decide) (by decide) ?_
      show jEv _ _ _ _ _ _ _ (_, [(2, 7), (2, 1), (0, 2), (0, a3), (0, (-98)), (9, 0), (9, 0)], [], _, _, _)
      refine ev_iconst ?_
      exact ev_ret rfl (by decide) (by decide) ⟨_, _, rfl, by omega, by omega, g23386, k23386, (((jw_ne e23386 (Or.inr (by decide))).trans ew0)), by omega, by omega⟩
    · refine ev_aload_n rfl ?_
      refine ev_aload_n rfl ?_
      refine g_getv (r := 7) (v := (w1 + 1)) g23386 ad7 (by decide) ft5_2 ((jw_eq e23386)) ?_
      refine g_putf (r := 7) g23386 ad7 (by decide) ft5_1 (by decide) (fun e => absurd e nz5_1) rf7_1 (by decide) (by omega) (by omega) (fun h23392 e23392 g23392 => ?_)
      have k23392 := k23386.wr e23392 rfl
      refine ev_ret rfl (by decide) (by decide) ?_
      show jEv _ _ _ _ _ _ _ (_, [(2, 7), (2, 1), (0, 2), (0, a3), (0, (-98)), (9, 0), (9, 0)], [], _, _, _)
      refine ev_iconst ?_
      exact ev_ret rfl (by decide) (by decide) ⟨_, _, rfl, by omega, by omega, g23392, k23392, ((jw_eq e23392)), by omega, by omega⟩
  · refine ev_aload_n rfl ?_
    refine g_getp (r := 7) (c := 8) g23386 ad7 (by decide) (by decide) rf7_5 ft5_5 ?_
    refine ev_aload_n rfl ?_
    refine g_getv (r := 7) (v := (w1 + 1)) g23386 ad7 (by decide) ft5_2 ((jw_eq e23386)) ?_
    refine g_bald g23386 ad8 rt8 (by omega) (by omega) (fun v23393 ev23393 lv23393 uv23393 => ?_)
    refine ev_sipush ?_
    refine g_iandB (b := 255) (by omega) (by omega) (by decide) (fun v23394 ev23394 lv23394 uv23394 => ?_)
    refine ev_goto f68_28 ?_
    refine ev_ret rfl (by decide) (by decide) ?_
    show jEv _ _ _ _ _ _ _ (_, [(2, 7), (2, 1), (0, 2), (0, a3), (9, 0), (9, 0), (9, 0)], [(0, v23394)], _, _, _)
    refine ev_bipush ?_
    refine ev_isub (r := (v23394 - 97)) (by unfold w32; omega) ?_
    refine ev_istore (L' := [(2, 7), (2, 1), (0, 2), (0, a3), (0, (v23394 - 97)), (9, 0), (9, 0)]) (Nat.le_of_ble_eq_true rfl) rfl ?_
    refine ev_aload_n rfl ?_
    refine ev_iload rfl ?_
    refine ev_in (d := 22) (a := 0) (b := 0) (cd' := c140_0) (m := 2) (L0 := [(2, 1), (0, (v23394 - 97))]) (jcall_v (A := [(0, (v23394 - 97))]) (S' := []) (r := 1) rfl (g23386.lt ad1) (g23386.tg ad1) (Nat.le_of_ble_eq_true rfl)) (by decide) ml140 pp140 (Nat.le_of_ble_eq_true rfl) rfl (by decide) (by decide) ?_
    refine ev_iload_n rfl ?_
    refine ev_iflt f140_16 (fun c23395 => ?_) (fun c23395 => ?_)
    · refine ev_iconst ?_
      refine ev_ret rfl (by decide) (by decide) ?_
      show jEv _ _ _ _ _ _ _ (_, [(2, 7), (2, 1), (0, 2), (0, a3), (0, (v23394 - 97)), (9, 0), (9, 0)], [(0, 0)], _, _, _)
      refine ev_ifeq f79_37 (fun c23396 => ?_) (fun c23396 => absurd c23396 (by omega))
      refine ev_aload_n rfl ?_
      refine ev_in (d := 22) (a := 0) (b := 0) (cd' := c70_0) (m := 1) (L0 := [(2, 7)]) (jcall_v (A := []) (S' := []) (r := 7) rfl (g23386.lt ad7) (g23386.tg ad7) (Nat.le_of_ble_eq_true rfl)) (by decide) ml70 pp70 (Nat.le_of_ble_eq_true rfl) rfl (by decide) (by decide) ?_
      refine ev_aload_n rfl ?_
      refine g_getv (r := 7) (v := w0) g23386 ad7 (by decide) ft5_1 (((jw_ne e23386 (Or.inr (by decide))).trans ew0)) ?_
      refine ev_ifge f70_15 (fun c23397 => ?_) (fun c23397 => ?_)
      · refine ev_ret rfl (by decide) (by decide) ?_
        show jEv _ _ _ _ _ _ _ (_, [(2, 7), (2, 1), (0, 2), (0, a3), (0, (v23394 - 97)), (9, 0), (9, 0)], [], _, _, _)
        refine ev_iconst ?_
        exact ev_ret rfl (by decide) (by decide) ⟨_, _, rfl, by omega, by omega, g23386, k23386, (((jw_ne e23386 (Or.inr (by decide))).trans ew0)), by omega, by omega⟩
      · refine ev_aload_n rfl ?_
        refine ev_aload_n rfl ?_
        refine g_getv (r := 7) (v := (w1 + 1)) g23386 ad7 (by decide) ft5_2 ((jw_eq e23386)) ?_
        refine g_putf (r := 7) g23386 ad7 (by decide) ft5_1 (by decide) (fun e => absurd e nz5_1) rf7_1 (by decide) (by omega) (by omega) (fun h23398 e23398 g23398 => ?_)
        have k23398 := k23386.wr e23398 rfl
        refine ev_ret rfl (by decide) (by decide) ?_
        show jEv _ _ _ _ _ _ _ (_, [(2, 7), (2, 1), (0, 2), (0, a3), (0, (v23394 - 97)), (9, 0), (9, 0)], [], _, _, _)
        refine ev_iconst ?_
        exact ev_ret rfl (by decide) (by decide) ⟨_, _, rfl, by omega, by omega, g23398, k23398, ((jw_eq e23398)), by omega, by omega⟩
    · refine ev_iload_n rfl ?_
      refine ev_aload_n rfl ?_
      obtain ⟨v23399, ev23399, lv23399, uv23399⟩ := g23386.rd ad1 (show 0 < 8 by decide) rf1_0
      refine g_getv (r := 1) (v := v23399) g23386 ad1 (by decide) ft10_0 ev23399 ?_
      refine ev_icmpge f140_16 (fun c23400 => ?_) (fun c23400 => ?_)
      · refine ev_iconst ?_
        refine ev_ret rfl (by decide) (by decide) ?_
        show jEv _ _ _ _ _ _ _ (_, [(2, 7), (2, 1), (0, 2), (0, a3), (0, (v23394 - 97)), (9, 0), (9, 0)], [(0, 0)], _, _, _)
        refine ev_ifeq f79_37 (fun c23401 => ?_) (fun c23401 => absurd c23401 (by omega))
        refine ev_aload_n rfl ?_
        refine ev_in (d := 22) (a := 0) (b := 0) (cd' := c70_0) (m := 1) (L0 := [(2, 7)]) (jcall_v (A := []) (S' := []) (r := 7) rfl (g23386.lt ad7) (g23386.tg ad7) (Nat.le_of_ble_eq_true rfl)) (by decide) ml70 pp70 (Nat.le_of_ble_eq_true rfl) rfl (by decide) (by decide) ?_
        refine ev_aload_n rfl ?_
        refine g_getv (r := 7) (v := w0) g23386 ad7 (by decide) ft5_1 (((jw_ne e23386 (Or.inr (by decide))).trans ew0)) ?_
        refine ev_ifge f70_15 (fun c23402 => ?_) (fun c23402 => ?_)
        · refine ev_ret rfl (by decide) (by decide) ?_
          show jEv _ _ _ _ _ _ _ (_, [(2, 7), (2, 1), (0, 2), (0, a3), (0, (v23394 - 97)), (9, 0), (9, 0)], [], _, _, _)
          refine ev_iconst ?_
          exact ev_ret rfl (by decide) (by decide) ⟨_, _, rfl, by omega, by omega, g23386, k23386, (((jw_ne e23386 (Or.inr (by decide))).trans ew0)), by omega, by omega⟩
        · refine ev_aload_n rfl ?_
          refine ev_aload_n rfl ?_
          refine g_getv (r := 7) (v := (w1 + 1)) g23386 ad7 (by decide) ft5_2 ((jw_eq e23386)) ?_
          refine g_putf (r := 7) g23386 ad7 (by decide) ft5_1 (by decide) (fun e => absurd e nz5_1) rf7_1 (by decide) (by omega) (by omega) (fun h23403 e23403 g23403 => ?_)
          have k23403 := k23386.wr e23403 rfl
          refine ev_ret rfl (by decide) (by decide) ?_
          show jEv _ _ _ _ _ _ _ (_, [(2, 7), (2, 1), (0, 2), (0, a3), (0, (v23394 - 97)), (9, 0), (9, 0)], [], _, _, _)
          refine ev_iconst ?_
          exact ev_ret rfl (by decide) (by decide) ⟨_, _, rfl, by omega, by omega, g23403, k23403, ((jw_eq e23403)), by omega, by omega⟩
      · refine ev_iconst ?_
        refine ev_goto f140_17 ?_
        refine ev_ret rfl (by decide) (by decide) ?_
        show jEv _ _ _ _ _ _ _ (_, [(2, 7), (2, 1), (0, 2), (0, a3), (0, (v23394 - 97)), (9, 0), (9, 0)], [(0, 1)], _, _, _)
        refine ev_ifeq f79_37 (fun c23404 => absurd c23404 (by omega)) (fun c23404 => ?_)
        refine ev_iload_n rfl ?_
        refine ev_iload rfl ?_
        refine g_ishrG (fun v23405 ev23405 lv23405 uv23405 => ?_)
        refine ev_iconst ?_
        refine g_iandB (b := 1) (by omega) (by omega) (by decide) (fun v23406 ev23406 lv23406 uv23406 => ?_)
        refine ev_ifeq f79_43 (fun c23407 => ?_) (fun c23407 => ?_)
        · refine ev_aload_n rfl ?_
          refine ev_dup (by decide) ?_
          refine g_getv (r := 7) (v := (w1 + 1)) g23386 ad7 (by decide) ft5_2 ((jw_eq e23386)) ?_
          refine ev_iconst ?_
          refine ev_iadd (r := (w1 + 2)) (by unfold w32; omega) ?_
          refine g_putf (r := 7) g23386 ad7 (by decide) ft5_2 (by decide) (fun e => absurd e nz5_2) rf7_2 (by decide) (by omega) (by omega) (fun h23408 e23408 g23408 => ?_)
          have k23408 := k23386.wr e23408 rfl
          refine ev_aload_n rfl ?_
          refine ev_iload_n rfl ?_
          refine ev_call (jcall_v (A := [(0, 2)]) (S' := []) (r := 7) rfl (g23408.lt ad7) (g23408.tg ad7) (Nat.le_of_ble_eq_true rfl)) (jOk_le (by decide) (s72 g23408 (by omega) (by omega) (((jw_ne e23408 (Or.inr (by decide))).trans ((jw_ne e23386 (Or.inr (by decide))).trans ew0))) (by omega) (by omega))) (by decide) (by decide) (fun w23409 h23409 q23409 => ?_)
          obtain ⟨v23410, rfl, g23409, kk23409, ev23410, p23409_0⟩ := q23409
          have bv23410 := g23409.rg ad7 (i := 1) (by decide) rf7_1
          rw [ev23410] at bv23410
          have k23409 := k23408.tr kk23409 (by decide)
          show jEv _ _ _ _ _ _ _ (_, [(2, 7), (2, 1), (0, 2), (0, a3), (0, (v23394 - 97)), (9, 0), (9, 0)], [], _, _, _)
          refine ev_aload_n rfl ?_
          refine ev_iconst ?_
          refine ev_call (jcall_v (A := [(0, 2)]) (S' := []) (r := 7) rfl (g23409.lt ad7) (g23409.tg ad7) (Nat.le_of_ble_eq_true rfl)) (jOk_le (by decide) (s73 g23409 (by omega) (by omega) (ev23410) (by omega) (by omega))) (by decide) (by decide) (fun w23411 h23411 q23411 => ?_)
          obtain ⟨v23413, v23412, rfl, lv23413, uv23413, g23411, kk23411, ev23412, p23411_0, p23411_1⟩ := q23411
          have bv23412 := g23411.rg ad7 (i := 1) (by decide) rf7_1
          rw [ev23412] at bv23412
          have k23411 := k23409.tr kk23411 (by decide)
          show jEv _ _ _ _ _ _ _ (_, [(2, 7), (2, 1), (0, 2), (0, a3), (0, (v23394 - 97)), (9, 0), (9, 0)], [(0, v23413)], _, _, _)
          refine ev_istore (L' := [(2, 7), (2, 1), (0, 2), (0, a3), (0, (v23394 - 97)), (0, v23413), (9, 0)]) (Nat.le_of_ble_eq_true rfl) rfl ?_
          refine ev_iconst ?_
          refine ev_istore (L' := [(2, 7), (2, 1), (0, 2), (0, a3), (0, (v23394 - 97)), (0, v23413), (0, 0)]) (Nat.le_of_ble_eq_true rfl) rfl ?_
          exact (s79_2_l la3 ua3 ew0 lw0 uw0 ew1 lw1 uw1 8) _ _ _ _ _ g23411 k23411 (by omega) (by omega) (by omega) (by omega) (by omega) (by omega) (by omega) (by omega) (by omega) (by omega) (ev23412) (by omega) (by omega) (by omega)
        · refine ev_aload_n rfl ?_
          refine ev_in (d := 22) (a := 0) (b := 0) (cd' := c70_0) (m := 1) (L0 := [(2, 7)]) (jcall_v (A := []) (S' := []) (r := 7) rfl (g23386.lt ad7) (g23386.tg ad7) (Nat.le_of_ble_eq_true rfl)) (by decide) ml70 pp70 (Nat.le_of_ble_eq_true rfl) rfl (by decide) (by decide) ?_
          refine ev_aload_n rfl ?_
          refine g_getv (r := 7) (v := w0) g23386 ad7 (by decide) ft5_1 (((jw_ne e23386 (Or.inr (by decide))).trans ew0)) ?_
          refine ev_ifge f70_15 (fun c23414 => ?_) (fun c23414 => ?_)
          · refine ev_ret rfl (by decide) (by decide) ?_
            show jEv _ _ _ _ _ _ _ (_, [(2, 7), (2, 1), (0, 2), (0, a3), (0, (v23394 - 97)), (9, 0), (9, 0)], [], _, _, _)
            refine ev_iconst ?_
            exact ev_ret rfl (by decide) (by decide) ⟨_, _, rfl, by omega, by omega, g23386, k23386, (((jw_ne e23386 (Or.inr (by decide))).trans ew0)), by omega, by omega⟩
          · refine ev_aload_n rfl ?_
            refine ev_aload_n rfl ?_
            refine g_getv (r := 7) (v := (w1 + 1)) g23386 ad7 (by decide) ft5_2 ((jw_eq e23386)) ?_
            refine g_putf (r := 7) g23386 ad7 (by decide) ft5_1 (by decide) (fun e => absurd e nz5_1) rf7_1 (by decide) (by omega) (by omega) (fun h23415 e23415 g23415 => ?_)
            have k23415 := k23386.wr e23415 rfl
            refine ev_ret rfl (by decide) (by decide) ?_
            show jEv _ _ _ _ _ _ _ (_, [(2, 7), (2, 1), (0, 2), (0, a3), (0, (v23394 - 97)), (9, 0), (9, 0)], [], _, _, _)
            refine ev_iconst ?_
            exact ev_ret rfl (by decide) (by decide) ⟨_, _, rfl, by omega, by omega, g23415, k23415, ((jw_eq e23415)), by omega, by omega⟩
/-! s74_2  -/
set_option maxHeartbeats 4000000 in
theorem s74_2 {G : GH} {h : JH} (g : Gd G h) {a3 : Int} (la3 : (-2147483648) ≤ a3) (ua3 : a3 ≤ 2147483647) {w0 : Int} (ew0 : h.2.2 7 1 = w0) (lw0 : (-1) ≤ w0) (uw0 : w0 ≤ 200) : jOk 25 0 0 74 [(2, 7), (2, 1), (0, 2), (0, a3)] h (fun v h' => ∃ r F : Int, v = some (0, r) ∧ (-1) ≤ r ∧ r ≤ 199 ∧ Gd G h' ∧ Kp [(7, 2), (7, 3), (7, 4), (10, 0), (11, 0), (12, 0), (13, 0), (14, 0), (15, 0), (16, 0), (17, 0)] h h' ∧ h'.2.2 7 1 = F ∧ ((-F) + w0) ≤ 0 ∧ ((-F) + (-r)) ≤ 1) := by
  refine ⟨by decide, by rw [ml74]; exact Nat.le_of_ble_eq_true rfl, ?_⟩
  rw [ml74, pp74]
  show jEv _ none _ c74_0 0 0 _ (c74_0, [(2, 7), (2, 1), (0, 2), (0, a3), (9, 0)], [], h, 0, 0)
  have k0 := Kp.rf [(7, 2), (7, 3), (7, 4), (10, 0), (11, 0), (12, 0), (13, 0), (14, 0), (15, 0), (16, 0), (17, 0)] h
  refine ev_aload_n rfl ?_
  refine g_getv (r := 7) (v := w0) g ad7 (by decide) ft5_1 (ew0) ?_
  refine ev_ifge f74_13 (fun c23482 => ?_) (fun c23482 => ?_)
  · refine ev_aload_n rfl ?_
    refine ev_in (d := 23) (a := 0) (b := 0) (cd' := c70_0) (m := 1) (L0 := [(2, 7)]) (jcall_v (A := []) (S' := []) (r := 7) rfl (g.lt ad7) (g.tg ad7) (Nat.le_of_ble_eq_true rfl)) (by decide) ml70 pp70 (Nat.le_of_ble_eq_true rfl) rfl (by decide) (by decide) ?_
    refine ev_aload_n rfl ?_
    refine g_getv (r := 7) (v := w0) g ad7 (by decide) ft5_1 (ew0) ?_
    refine ev_ifge f70_15 (fun c23483 => ?_) (fun c23483 => absurd c23483 (by omega))
    refine ev_ret rfl (by decide) (by decide) ?_
    show jEv _ _ _ _ _ _ _ (_, [(2, 7), (2, 1), (0, 2), (0, a3), (9, 0)], [], _, _, _)
    refine ev_iconst ?_
    exact ev_ret rfl (by decide) (by decide) ⟨_, _, rfl, by omega, by omega, g, k0, (ew0), by omega, by omega⟩
  · refine ev_iload_n rfl ?_
    refine ev_bipush ?_
    refine ev_icmple f74_19 (fun c23484 => ?_) (fun c23484 => absurd c23484 (by omega))
    refine ev_aload_n rfl ?_
    refine ev_in (d := 23) (a := 0) (b := 0) (cd' := c68_0) (m := 1) (L0 := [(2, 7)]) (jcall_v (A := []) (S' := []) (r := 7) rfl (g.lt ad7) (g.tg ad7) (Nat.le_of_ble_eq_true rfl)) (by decide) ml68 pp68 (Nat.le_of_ble_eq_true rfl) rfl (by decide) (by decide) ?_
    refine ev_aload_n rfl ?_
    obtain ⟨v23485, ev23485, lv23485, uv23485⟩ := g.rd ad7 (show 2 < 15 by decide) rf7_2
    refine g_getv (r := 7) (v := v23485) g ad7 (by decide) ft5_2 ev23485 ?_
    refine ev_aload_n rfl ?_
    obtain ⟨v23486, ev23486, lv23486, uv23486⟩ := g.rd ad7 (show 0 < 15 by decide) rf7_0
    refine g_getv (r := 7) (v := v23486) g ad7 (by decide) ft5_0 ev23486 ?_
    refine ev_icmpge f68_27 (fun c23487 => ?_) (fun c23487 => ?_)
    · refine ev_iconst ?_
      refine ev_ret rfl (by decide) (by decide) ?_
      show jEv _ _ _ _ _ _ _ (_, [(2, 7), (2, 1), (0, 2), (0, a3), (9, 0)], [(0, (-1))], _, _, _)
      refine ev_istore (L' := [(2, 7), (2, 1), (0, 2), (0, a3), (0, (-1))]) (Nat.le_of_ble_eq_true rfl) rfl ?_
      refine ev_iload rfl ?_
      refine ev_bipush ?_
      refine ev_icmpne f74_40 (fun c23488 => ?_) (fun c23488 => absurd c23488 (by omega))
      refine ev_iload rfl ?_
      refine ev_bipush ?_
      refine ev_icmpne f74_55 (fun c23489 => ?_) (fun c23489 => absurd c23489 (by omega))
      refine ev_iload rfl ?_
      refine ev_bipush ?_
      refine ev_icmplt f74_78 (fun c23490 => ?_) (fun c23490 => absurd c23490 (by omega))
      refine ev_aload_n rfl ?_
      refine ev_call (jcall_v (A := []) (S' := []) (r := 7) rfl (g.lt ad7) (g.tg ad7) (Nat.le_of_ble_eq_true rfl)) (jOk_le (by decide) (s75 g (ew0) (by omega) (by omega))) (by decide) (by decide) (fun w23491 h23491 q23491 => ?_)
      obtain ⟨v23493, v23492, rfl, lv23493, uv23493, g23491, kk23491, ev23492, p23491_0, p23491_1⟩ := q23491
      have bv23492 := g23491.rg ad7 (i := 1) (by decide) rf7_1
      rw [ev23492] at bv23492
      have k23491 := k0.tr kk23491 (by decide)
      show jEv _ _ _ _ _ _ _ (_, [(2, 7), (2, 1), (0, 2), (0, a3), (0, (-1))], [(0, v23493)], _, _, _)
      exact ev_ret rfl (by decide) (by decide) ⟨_, _, rfl, by omega, by omega, g23491, k23491, (ev23492), by omega, by omega⟩
    · refine ev_aload_n rfl ?_
      refine g_getp (r := 7) (c := 8) g ad7 (by decide) (by decide) rf7_5 ft5_5 ?_
      refine ev_aload_n rfl ?_
      refine g_getv (r := 7) (v := v23485) g ad7 (by decide) ft5_2 (ev23485) ?_
      refine g_bald g ad8 rt8 (by omega) (by omega) (fun v23494 ev23494 lv23494 uv23494 => ?_)
      refine ev_sipush ?_
      refine g_iandB (b := 255) (by omega) (by omega) (by decide) (fun v23495 ev23495 lv23495 uv23495 => ?_)
      refine ev_goto f68_28 ?_
      refine ev_ret rfl (by decide) (by decide) ?_
      show jEv _ _ _ _ _ _ _ (_, [(2, 7), (2, 1), (0, 2), (0, a3), (9, 0)], [(0, v23495)], _, _, _)
      refine ev_istore (L' := [(2, 7), (2, 1), (0, 2), (0, a3), (0, v23495)]) (Nat.le_of_ble_eq_true rfl) rfl ?_
      refine ev_iload rfl ?_
      refine ev_bipush ?_
      refine ev_icmpne f74_40 (fun c23496 => ?_) (fun c23496 => ?_)
      · refine ev_iload rfl ?_
        refine ev_bipush ?_
        refine ev_icmpne f74_55 (fun c23497 => ?_) (fun c23497 => ?_)
        · refine ev_iload rfl ?_
          refine ev_bipush ?_
          refine ev_icmplt f74_78 (fun c23498 => ?_) (fun c23498 => ?_)
          · refine ev_aload_n rfl ?_
            refine ev_call (jcall_v (A := []) (S' := []) (r := 7) rfl (g.lt ad7) (g.tg ad7) (Nat.le_of_ble_eq_true rfl)) (jOk_le (by decide) (s75 g (ew0) (by omega) (by omega))) (by decide) (by decide) (fun w23499 h23499 q23499 => ?_)
            obtain ⟨v23501, v23500, rfl, lv23501, uv23501, g23499, kk23499, ev23500, p23499_0, p23499_1⟩ := q23499
            have bv23500 := g23499.rg ad7 (i := 1) (by decide) rf7_1
            rw [ev23500] at bv23500
            have k23499 := k0.tr kk23499 (by decide)
            show jEv _ _ _ _ _ _ _ (_, [(2, 7), (2, 1), (0, 2), (0, a3), (0, v23495)], [(0, v23501)], _, _, _)
            exact ev_ret rfl (by decide) (by decide) ⟨_, _, rfl, by omega, by omega, g23499, k23499, (ev23500), by omega, by omega⟩
          · refine ev_iload rfl ?_
            refine ev_bipush ?_
            refine ev_icmpge f74_78 (fun c23502 => ?_) (fun c23502 => ?_)
            · refine ev_aload_n rfl ?_
              refine ev_call (jcall_v (A := []) (S' := []) (r := 7) rfl (g.lt ad7) (g.tg ad7) (Nat.le_of_ble_eq_true rfl)) (jOk_le (by decide) (s75 g (ew0) (by omega) (by omega))) (by decide) (by decide) (fun w23503 h23503 q23503 => ?_)
              obtain ⟨v23505, v23504, rfl, lv23505, uv23505, g23503, kk23503, ev23504, p23503_0, p23503_1⟩ := q23503
              have bv23504 := g23503.rg ad7 (i := 1) (by decide) rf7_1
              rw [ev23504] at bv23504
              have k23503 := k0.tr kk23503 (by decide)
              show jEv _ _ _ _ _ _ _ (_, [(2, 7), (2, 1), (0, 2), (0, a3), (0, v23495)], [(0, v23505)], _, _, _)
              exact ev_ret rfl (by decide) (by decide) ⟨_, _, rfl, by omega, by omega, g23503, k23503, (ev23504), by omega, by omega⟩
            · refine ev_aload_n rfl ?_
              refine ev_iload_n rfl ?_
              refine ev_iload_n rfl ?_
              refine ev_call (jcall_v (A := [(0, a3), (0, 2)]) (S' := []) (r := 7) rfl (g.lt ad7) (g.tg ad7) (Nat.le_of_ble_eq_true rfl)) (jOk_le (by decide) (s77 g (by omega) (by omega) (by omega) (by omega) (ew0) (by omega) (by omega))) (by decide) (by decide) (fun w23506 h23506 q23506 => ?_)
              obtain ⟨v23508, v23507, rfl, lv23508, uv23508, g23506, kk23506, ev23507, p23506_0, p23506_1⟩ := q23506
              have bv23507 := g23506.rg ad7 (i := 1) (by decide) rf7_1
              rw [ev23507] at bv23507
              have k23506 := k0.tr kk23506 (by decide)
              show jEv _ _ _ _ _ _ _ (_, [(2, 7), (2, 1), (0, 2), (0, a3), (0, v23495)], [(0, v23508)], _, _, _)
              refine ev_goto f74_82 ?_
              exact ev_ret rfl (by decide) (by decide) ⟨_, _, rfl, by omega, by omega, g23506, k23506, (ev23507), by omega, by omega⟩
        · refine ev_aload_n rfl ?_
          refine ev_aload_n rfl ?_
          refine ev_iload_n rfl ?_
          refine ev_iload_n rfl ?_
          refine ev_call (jcall_v (A := [(0, a3), (0, 2), (2, 1)]) (S' := []) (r := 7) rfl (g.lt ad7) (g.tg ad7) (Nat.le_of_ble_eq_true rfl)) (jOk_le (by decide) (s79_2 g (by omega) (by omega) (ew0) (by omega) (by omega) (ev23485) (by omega) (by omega))) (by decide) (by decide) (fun w23509 h23509 q23509 => ?_)
          obtain ⟨v23511, v23510, rfl, lv23511, uv23511, g23509, kk23509, ev23510, p23509_0, p23509_1⟩ := q23509
          have bv23510 := g23509.rg ad7 (i := 1) (by decide) rf7_1
          rw [ev23510] at bv23510
          have k23509 := k0.tr kk23509 (by decide)
          show jEv _ _ _ _ _ _ _ (_, [(2, 7), (2, 1), (0, 2), (0, a3), (0, v23495)], [(0, v23511)], _, _, _)
          exact ev_ret rfl (by decide) (by decide) ⟨_, _, rfl, by omega, by omega, g23509, k23509, (ev23510), by omega, by omega⟩
      · refine ev_aload_n rfl ?_
        refine ev_aload_n rfl ?_
        refine ev_iload_n rfl ?_
        refine ev_iload_n rfl ?_
        refine ev_call (jcall_v (A := [(0, a3), (0, 2), (2, 1)]) (S' := []) (r := 7) rfl (g.lt ad7) (g.tg ad7) (Nat.le_of_ble_eq_true rfl)) (jOk_le (by decide) (s78_2 g (by omega) (by omega) (ew0) (by omega) (by omega) (ev23485) (by omega) (by omega))) (by decide) (by decide) (fun w23512 h23512 q23512 => ?_)
        obtain ⟨v23514, v23513, rfl, lv23514, uv23514, g23512, kk23512, ev23513, p23512_0, p23512_1⟩ := q23512
        have bv23513 := g23512.rg ad7 (i := 1) (by decide) rf7_1
        rw [ev23513] at bv23513
        have k23512 := k0.tr kk23512 (by decide)
        show jEv _ _ _ _ _ _ _ (_, [(2, 7), (2, 1), (0, 2), (0, a3), (0, v23495)], [(0, v23514)], _, _, _)
        exact ev_ret rfl (by decide) (by decide) ⟨_, _, rfl, by omega, by omega, g23512, k23512, (ev23513), by omega, by omega⟩
/-! s78_1  -/
set_option maxHeartbeats 4000000 in
theorem s78_1_l {G : GH} {h : JH} {a3 : Int} (la3 : (-2147483648) ≤ a3) (ua3 : a3 ≤ 2147483647) {w0 : Int} (ew0 : h.2.2 7 1 = w0) (lw0 : (-1) ≤ w0) (uw0 : w0 ≤ 200) {w1 : Int} (ew1 : h.2.2 7 2 = w1) (lw1 : 0 ≤ w1) (uw1 : w1 ≤ 199) : ∀ N : Nat, (∀ (h1 : JH) (x4 x5 y0 : Int) (j6 : AV), Gd G h1 → Kp [(7, 2), (7, 3), (7, 4), (10, 0), (11, 0), (12, 0), (13, 0), (14, 0), (15, 0), (16, 0), (17, 0)] h h1 → (-2147483648) ≤ a3 → a3 ≤ 2147483647 → (-1) ≤ x4 → x4 ≤ 199 → 0 ≤ x5 → x5 ≤ 3 → (w0 + (-y0)) ≤ 0 → ((-x4) + (-y0)) ≤ 1 → h1.2.2 7 1 = y0 → (-1) ≤ y0 → y0 ≤ 200 → ((-x5) + 3) < N → jEv (jOk 25) none (fun _ => 0) c78_0 0 0 (fun v h' => ∃ r F : Int, v = some (0, r) ∧ (-1) ≤ r ∧ r ≤ 199 ∧ Gd G h' ∧ Kp [(7, 2), (7, 3), (7, 4), (10, 0), (11, 0), (12, 0), (13, 0), (14, 0), (15, 0), (16, 0), (17, 0)] h h' ∧ h'.2.2 7 1 = F ∧ ((-F) + w0) ≤ 0 ∧ ((-F) + (-r)) ≤ 1) (c78_25, [(2, 7), (2, 1), (0, 1), (0, a3), (0, x4), (0, x5), j6], [], h1, 0, 0)) := by
  intro N
  induction N with
  | zero => exact fun h1 x4 x5 y0 j6 g1 k1 b0 b1 b2 b3 b4 b5 b6 b7 b8 b9 b10 hm => absurd hm (by omega)
  | succ N ih =>
    show _
    intro h1 x4 x5 y0 j6 g1 k1 b0 b1 b2 b3 b4 b5 b6 b7 ey0 ly0 uy0 hm
    refine ev_iload rfl ?_
    refine ev_iconst ?_
    refine ev_icmpge f78_100 (fun c23683 => absurd c23683 (by omega)) (fun c23683 => ?_)
    refine ev_aload_n rfl ?_
    refine g_getv (r := 7) (v := y0) g1 ad7 (by decide) ft5_1 (ey0) ?_
    refine ev_ifge f78_100 (fun c23684 => ?_) (fun c23684 => ?_)
    · refine ev_aload_n rfl ?_
      refine ev_bipush ?_
      refine ev_call (jcall_v (A := [(0, 41)]) (S' := []) (r := 7) rfl (g1.lt ad7) (g1.tg ad7) (Nat.le_of_ble_eq_true rfl)) (jOk_le (by decide) (s71 g1 (by omega) (by omega) (ey0) (by omega) (by omega))) (by decide) (by decide) (fun w23685 h23685 q23685 => ?_)
      obtain ⟨v23686, rfl, g23685, kk23685, ev23686, p23685_0⟩ := q23685
      have bv23686 := g23685.rg ad7 (i := 1) (by decide) rf7_1
      rw [ev23686] at bv23686
      have k23685 := k1.tr kk23685 (by decide)
      show jEv _ _ _ _ _ _ _ (_, [(2, 7), (2, 1), (0, 1), (0, a3), (0, x4), (0, x5), j6], [], _, _, _)
      refine ev_aload_n rfl ?_
      refine g_getv (r := 7) (v := v23686) g23685 ad7 (by decide) ft5_1 (ev23686) ?_
      refine ev_iflt f78_117 (fun c23687 => absurd c23687 (by omega)) (fun c23687 => ?_)
      refine ev_iconst ?_
      refine ev_goto f78_119 ?_
      exact ev_ret rfl (by decide) (by decide) ⟨_, _, rfl, by omega, by omega, g23685, k23685, (ev23686), by omega, by omega⟩
    · refine ev_aload_n rfl ?_
      refine ev_iconst ?_
      refine ev_call (jcall_v (A := [(0, 2)]) (S' := []) (r := 7) rfl (g1.lt ad7) (g1.tg ad7) (Nat.le_of_ble_eq_true rfl)) (jOk_le (by decide) (s76 g1 (by omega) (by omega) (ey0) (by omega) (by omega))) (by decide) (by decide) (fun w23688 h23688 q23688 => ?_)
      obtain ⟨v23690, v23689, rfl, lv23690, uv23690, g23688, kk23688, ev23689, p23688_0⟩ := q23688
      have bv23689 := g23688.rg ad7 (i := 1) (by decide) rf7_1
      rw [ev23689] at bv23689
      have k23688 := k1.tr kk23688 (by decide)
      show jEv _ _ _ _ _ _ _ (_, [(2, 7), (2, 1), (0, 1), (0, a3), (0, x4), (0, x5), j6], [(0, v23690)], _, _, _)
      refine ev_istore (L' := [(2, 7), (2, 1), (0, 1), (0, a3), (0, x4), (0, x5), (0, v23690)]) (Nat.le_of_ble_eq_true rfl) rfl ?_
      refine ev_aload_n rfl ?_
      refine ev_bipush ?_
      refine ev_call (jcall_v (A := [(0, 58)]) (S' := []) (r := 7) rfl (g23688.lt ad7) (g23688.tg ad7) (Nat.le_of_ble_eq_true rfl)) (jOk_le (by decide) (s71 g23688 (by omega) (by omega) (ev23689) (by omega) (by omega))) (by decide) (by decide) (fun w23691 h23691 q23691 => ?_)
      obtain ⟨v23692, rfl, g23691, kk23691, ev23692, p23691_0⟩ := q23691
      have bv23692 := g23691.rg ad7 (i := 1) (by decide) rf7_1
      rw [ev23692] at bv23692
      have k23691 := k23688.tr kk23691 (by decide)
      show jEv _ _ _ _ _ _ _ (_, [(2, 7), (2, 1), (0, 1), (0, a3), (0, x4), (0, x5), (0, v23690)], [], _, _, _)
      refine ev_aload_n rfl ?_
      refine ev_iload rfl ?_
      refine ev_iload rfl ?_
      refine ev_iload rfl ?_
      refine ev_aload_n rfl ?_
      refine ev_aload_n rfl ?_
      refine ev_iload_n rfl ?_
      refine ev_iconst ?_
      refine ev_iadd (r := 2) (by decide) ?_
      refine ev_iload_n rfl ?_
      refine ev_call (jcall_v (A := [(0, a3), (0, 2), (2, 1)]) (S' := [(0, v23690), (0, x5), (0, x4), (2, 7)]) (r := 7) rfl (g23691.lt ad7) (g23691.tg ad7) (Nat.le_of_ble_eq_true rfl)) (jOk_le (by decide) (s74_2 g23691 (by omega) (by omega) (ev23692) (by omega) (by omega))) (by decide) (by decide) (fun w23693 h23693 q23693 => ?_)
      obtain ⟨v23695, v23694, rfl, lv23695, uv23695, g23693, kk23693, ev23694, p23693_0, p23693_1⟩ := q23693
      have bv23694 := g23693.rg ad7 (i := 1) (by decide) rf7_1
      rw [ev23694] at bv23694
      have k23693 := k23691.tr kk23693 (by decide)
      show jEv _ _ _ _ _ _ _ (_, [(2, 7), (2, 1), (0, 1), (0, a3), (0, x4), (0, x5), (0, v23690)], [(0, v23695), (0, v23690), (0, x5), (0, x4), (2, 7)], _, _, _)
      refine ev_call (jcall_v (A := [(0, v23695), (0, v23690), (0, x5), (0, x4)]) (S' := []) (r := 7) rfl (g23693.lt ad7) (g23693.tg ad7) (Nat.le_of_ble_eq_true rfl)) (jOk_le (by decide) (s80 g23693 (by omega) (by omega) (by omega) (by omega) (by omega) (by omega) (by omega) (by omega))) (by decide) (by decide) (fun w23696 h23696 q23696 => ?_)
      obtain ⟨rfl, g23696, kk23696⟩ := q23696
      have k23696 := k23693.tr kk23696 (by decide)
      show jEv _ _ _ _ _ _ _ (_, [(2, 7), (2, 1), (0, 1), (0, a3), (0, x4), (0, x5), (0, v23690)], [], _, _, _)
      refine ev_aload_n rfl ?_
      refine ev_in (d := 24) (a := 0) (b := 0) (cd' := c68_0) (m := 1) (L0 := [(2, 7)]) (jcall_v (A := []) (S' := []) (r := 7) rfl (g23696.lt ad7) (g23696.tg ad7) (Nat.le_of_ble_eq_true rfl)) (by decide) ml68 pp68 (Nat.le_of_ble_eq_true rfl) rfl (by decide) (by decide) ?_
      refine ev_aload_n rfl ?_
      obtain ⟨v23697, ev23697, lv23697, uv23697⟩ := g23696.rd ad7 (show 2 < 15 by decide) rf7_2
      refine g_getv (r := 7) (v := v23697) g23696 ad7 (by decide) ft5_2 ev23697 ?_
      refine ev_aload_n rfl ?_
      obtain ⟨v23698, ev23698, lv23698, uv23698⟩ := g23696.rd ad7 (show 0 < 15 by decide) rf7_0
      refine g_getv (r := 7) (v := v23698) g23696 ad7 (by decide) ft5_0 ev23698 ?_
      refine ev_icmpge f68_27 (fun c23699 => ?_) (fun c23699 => ?_)
      · refine ev_iconst ?_
        refine ev_ret rfl (by decide) (by decide) ?_
        show jEv _ _ _ _ _ _ _ (_, [(2, 7), (2, 1), (0, 1), (0, a3), (0, x4), (0, x5), (0, v23690)], [(0, (-1))], _, _, _)
        refine ev_bipush ?_
        refine ev_icmpne f78_100 (fun c23700 => ?_) (fun c23700 => absurd c23700 (by omega))
        refine ev_aload_n rfl ?_
        refine ev_bipush ?_
        refine ev_call (jcall_v (A := [(0, 41)]) (S' := []) (r := 7) rfl (g23696.lt ad7) (g23696.tg ad7) (Nat.le_of_ble_eq_true rfl)) (jOk_le (by decide) (s71 g23696 (by omega) (by omega) (((kk23696.v (by decide)).trans ev23694)) (by omega) (by omega))) (by decide) (by decide) (fun w23701 h23701 q23701 => ?_)
        obtain ⟨v23702, rfl, g23701, kk23701, ev23702, p23701_0⟩ := q23701
        have bv23702 := g23701.rg ad7 (i := 1) (by decide) rf7_1
        rw [ev23702] at bv23702
        have k23701 := k23696.tr kk23701 (by decide)
        show jEv _ _ _ _ _ _ _ (_, [(2, 7), (2, 1), (0, 1), (0, a3), (0, x4), (0, x5), (0, v23690)], [], _, _, _)
        refine ev_aload_n rfl ?_
        refine g_getv (r := 7) (v := v23702) g23701 ad7 (by decide) ft5_1 (ev23702) ?_
        refine ev_iflt f78_117 (fun c23703 => ?_) (fun c23703 => ?_)
        · refine ev_iload rfl ?_
          exact ev_ret rfl (by decide) (by decide) ⟨_, _, rfl, by omega, by omega, g23701, k23701, (ev23702), by omega, by omega⟩
        · refine ev_iconst ?_
          refine ev_goto f78_119 ?_
          exact ev_ret rfl (by decide) (by decide) ⟨_, _, rfl, by omega, by omega, g23701, k23701, (ev23702), by omega, by omega⟩
      · refine ev_aload_n rfl ?_
        refine g_getp (r := 7) (c := 8) g23696 ad7 (by decide) (by decide) rf7_5 ft5_5 ?_
        refine ev_aload_n rfl ?_
        refine g_getv (r := 7) (v := v23697) g23696 ad7 (by decide) ft5_2 (ev23697) ?_
        refine g_bald g23696 ad8 rt8 (by omega) (by omega) (fun v23704 ev23704 lv23704 uv23704 => ?_)
        refine ev_sipush ?_
        refine g_iandB (b := 255) (by omega) (by omega) (by decide) (fun v23705 ev23705 lv23705 uv23705 => ?_)
        refine ev_goto f68_28 ?_
        refine ev_ret rfl (by decide) (by decide) ?_
        show jEv _ _ _ _ _ _ _ (_, [(2, 7), (2, 1), (0, 1), (0, a3), (0, x4), (0, x5), (0, v23690)], [(0, v23705)], _, _, _)
        refine ev_bipush ?_
        refine ev_icmpne f78_100 (fun c23706 => ?_) (fun c23706 => ?_)
        · refine ev_aload_n rfl ?_
          refine ev_bipush ?_
          refine ev_call (jcall_v (A := [(0, 41)]) (S' := []) (r := 7) rfl (g23696.lt ad7) (g23696.tg ad7) (Nat.le_of_ble_eq_true rfl)) (jOk_le (by decide) (s71 g23696 (by omega) (by omega) (((kk23696.v (by decide)).trans ev23694)) (by omega) (by omega))) (by decide) (by decide) (fun w23707 h23707 q23707 => ?_)
          obtain ⟨v23708, rfl, g23707, kk23707, ev23708, p23707_0⟩ := q23707
          have bv23708 := g23707.rg ad7 (i := 1) (by decide) rf7_1
          rw [ev23708] at bv23708
          have k23707 := k23696.tr kk23707 (by decide)
          show jEv _ _ _ _ _ _ _ (_, [(2, 7), (2, 1), (0, 1), (0, a3), (0, x4), (0, x5), (0, v23690)], [], _, _, _)
          refine ev_aload_n rfl ?_
          refine g_getv (r := 7) (v := v23708) g23707 ad7 (by decide) ft5_1 (ev23708) ?_
          refine ev_iflt f78_117 (fun c23709 => ?_) (fun c23709 => ?_)
          · refine ev_iload rfl ?_
            exact ev_ret rfl (by decide) (by decide) ⟨_, _, rfl, by omega, by omega, g23707, k23707, (ev23708), by omega, by omega⟩
          · refine ev_iconst ?_
            refine ev_goto f78_119 ?_
            exact ev_ret rfl (by decide) (by decide) ⟨_, _, rfl, by omega, by omega, g23707, k23707, (ev23708), by omega, by omega⟩
        · refine ev_iload rfl ?_
          refine ev_iconst ?_
          refine ev_icmpne f78_88 (fun c23710 => ?_) (fun c23710 => ?_)
          · refine ev_aload_n rfl ?_
            refine ev_bipush ?_
            refine ev_call (jcall_v (A := [(0, 44)]) (S' := []) (r := 7) rfl (g23696.lt ad7) (g23696.tg ad7) (Nat.le_of_ble_eq_true rfl)) (jOk_le (by decide) (s71 g23696 (by omega) (by omega) (((kk23696.v (by decide)).trans ev23694)) (by omega) (by omega))) (by decide) (by decide) (fun w23711 h23711 q23711 => ?_)
            obtain ⟨v23712, rfl, g23711, kk23711, ev23712, p23711_0⟩ := q23711
            have bv23712 := g23711.rg ad7 (i := 1) (by decide) rf7_1
            rw [ev23712] at bv23712
            have k23711 := k23696.tr kk23711 (by decide)
            show jEv _ _ _ _ _ _ _ (_, [(2, 7), (2, 1), (0, 1), (0, a3), (0, x4), (0, x5), (0, v23690)], [], _, _, _)
            refine ev_iinc (w := (x5 + 1)) (L' := [(2, 7), (2, 1), (0, 1), (0, a3), (0, x4), (0, (x5 + 1)), (0, v23690)]) rfl (by unfold w32; omega) rfl ?_
            refine ev_goto f78_25 ?_
            exact ih _ _ _ _ _ g23711 k23711 (by omega) (by omega) (by omega) (by omega) (by omega) (by omega) (by omega) (by omega) (ev23712) (by omega) (by omega) (by omega)
          · refine ev_goto f78_100 ?_
            refine ev_aload_n rfl ?_
            refine ev_bipush ?_
            refine ev_call (jcall_v (A := [(0, 41)]) (S' := []) (r := 7) rfl (g23696.lt ad7) (g23696.tg ad7) (Nat.le_of_ble_eq_true rfl)) (jOk_le (by decide) (s71 g23696 (by omega) (by omega) (((kk23696.v (by decide)).trans ev23694)) (by omega) (by omega))) (by decide) (by decide) (fun w23713 h23713 q23713 => ?_)
            obtain ⟨v23714, rfl, g23713, kk23713, ev23714, p23713_0⟩ := q23713
            have bv23714 := g23713.rg ad7 (i := 1) (by decide) rf7_1
            rw [ev23714] at bv23714
            have k23713 := k23696.tr kk23713 (by decide)
            show jEv _ _ _ _ _ _ _ (_, [(2, 7), (2, 1), (0, 1), (0, a3), (0, x4), (0, x5), (0, v23690)], [], _, _, _)
            refine ev_aload_n rfl ?_
            refine g_getv (r := 7) (v := v23714) g23713 ad7 (by decide) ft5_1 (ev23714) ?_
            refine ev_iflt f78_117 (fun c23715 => ?_) (fun c23715 => ?_)
            · refine ev_iload rfl ?_
              exact ev_ret rfl (by decide) (by decide) ⟨_, _, rfl, by omega, by omega, g23713, k23713, (ev23714), by omega, by omega⟩
            · refine ev_iconst ?_
              refine ev_goto f78_119 ?_
              exact ev_ret rfl (by decide) (by decide) ⟨_, _, rfl, by omega, by omega, g23713, k23713, (ev23714), by omega, by omega⟩
set_option maxHeartbeats 4000000 in
theorem s78_1 {G : GH} {h : JH} (g : Gd G h) {a3 : Int} (la3 : (-2147483648) ≤ a3) (ua3 : a3 ≤ 2147483647) {w0 : Int} (ew0 : h.2.2 7 1 = w0) (lw0 : (-1) ≤ w0) (uw0 : w0 ≤ 200) {w1 : Int} (ew1 : h.2.2 7 2 = w1) (lw1 : 0 ≤ w1) (uw1 : w1 ≤ 199) : jOk 26 0 0 78 [(2, 7), (2, 1), (0, 1), (0, a3)] h (fun v h' => ∃ r F : Int, v = some (0, r) ∧ (-1) ≤ r ∧ r ≤ 199 ∧ Gd G h' ∧ Kp [(7, 2), (7, 3), (7, 4), (10, 0), (11, 0), (12, 0), (13, 0), (14, 0), (15, 0), (16, 0), (17, 0)] h h' ∧ h'.2.2 7 1 = F ∧ ((-F) + w0) ≤ 0 ∧ ((-F) + (-r)) ≤ 1) := by
  refine ⟨by decide, by rw [ml78]; exact Nat.le_of_ble_eq_true rfl, ?_⟩
  rw [ml78, pp78]
  show jEv _ none _ c78_0 0 0 _ (c78_0, [(2, 7), (2, 1), (0, 1), (0, a3), (9, 0), (9, 0), (9, 0)], [], h, 0, 0)
  have k0 := Kp.rf [(7, 2), (7, 3), (7, 4), (10, 0), (11, 0), (12, 0), (13, 0), (14, 0), (15, 0), (16, 0), (17, 0)] h
  refine ev_aload_n rfl ?_
  refine ev_dup (by decide) ?_
  refine g_getv (r := 7) (v := w1) g ad7 (by decide) ft5_2 (ew1) ?_
  refine ev_iconst ?_
  refine ev_iadd (r := (w1 + 1)) (by unfold w32; omega) ?_
  refine g_putf (r := 7) g ad7 (by decide) ft5_2 (by decide) (fun e => absurd e nz5_2) rf7_2 (by decide) (by omega) (by omega) (fun h23716 e23716 g23716 => ?_)
  have k23716 := k0.wr e23716 rfl
  refine ev_aload_n rfl ?_
  refine ev_iload_n rfl ?_
  refine ev_call (jcall_v (A := [(0, 1)]) (S' := []) (r := 7) rfl (g23716.lt ad7) (g23716.tg ad7) (Nat.le_of_ble_eq_true rfl)) (jOk_le (by decide) (s72 g23716 (by omega) (by omega) (((jw_ne e23716 (Or.inr (by decide))).trans ew0)) (by omega) (by omega))) (by decide) (by decide) (fun w23717 h23717 q23717 => ?_)
  obtain ⟨v23718, rfl, g23717, kk23717, ev23718, p23717_0⟩ := q23717
  have bv23718 := g23717.rg ad7 (i := 1) (by decide) rf7_1
  rw [ev23718] at bv23718
  have k23717 := k23716.tr kk23717 (by decide)
  show jEv _ _ _ _ _ _ _ (_, [(2, 7), (2, 1), (0, 1), (0, a3), (9, 0), (9, 0), (9, 0)], [], _, _, _)
  refine ev_aload_n rfl ?_
  refine ev_iconst ?_
  refine ev_call (jcall_v (A := [(0, 1)]) (S' := []) (r := 7) rfl (g23717.lt ad7) (g23717.tg ad7) (Nat.le_of_ble_eq_true rfl)) (jOk_le (by decide) (s73 g23717 (by omega) (by omega) (ev23718) (by omega) (by omega))) (by decide) (by decide) (fun w23719 h23719 q23719 => ?_)
  obtain ⟨v23721, v23720, rfl, lv23721, uv23721, g23719, kk23719, ev23720, p23719_0, p23719_1⟩ := q23719
  have bv23720 := g23719.rg ad7 (i := 1) (by decide) rf7_1
  rw [ev23720] at bv23720
  have k23719 := k23717.tr kk23719 (by decide)
  show jEv _ _ _ _ _ _ _ (_, [(2, 7), (2, 1), (0, 1), (0, a3), (9, 0), (9, 0), (9, 0)], [(0, v23721)], _, _, _)
  refine ev_istore (L' := [(2, 7), (2, 1), (0, 1), (0, a3), (0, v23721), (9, 0), (9, 0)]) (Nat.le_of_ble_eq_true rfl) rfl ?_
  refine ev_iconst ?_
  refine ev_istore (L' := [(2, 7), (2, 1), (0, 1), (0, a3), (0, v23721), (0, 0), (9, 0)]) (Nat.le_of_ble_eq_true rfl) rfl ?_
  exact (s78_1_l la3 ua3 ew0 lw0 uw0 ew1 lw1 uw1 8) _ _ _ _ _ g23719 k23719 (by omega) (by omega) (by omega) (by omega) (by omega) (by omega) (by omega) (by omega) (ev23720) (by omega) (by omega) (by omega)
/-! s79_1  -/
set_option maxHeartbeats 4000000 in
theorem s79_1_l {G : GH} {h : JH} {a3 : Int} (la3 : (-2147483648) ≤ a3) (ua3 : a3 ≤ 2147483647) {w0 : Int} (ew0 : h.2.2 7 1 = w0) (lw0 : (-1) ≤ w0) (uw0 : w0 ≤ 200) {w1 : Int} (ew1 : h.2.2 7 2 = w1) (lw1 : 0 ≤ w1) (uw1 : w1 ≤ 199) : ∀ N : Nat, (∀ (h1 : JH) (x4 x5 x6 y0 : Int), Gd G h1 → Kp [(7, 2), (7, 3), (7, 4), (10, 0), (11, 0), (12, 0), (13, 0), (14, 0), (15, 0), (16, 0), (17, 0)] h h1 → (-2147483648) ≤ a3 → a3 ≤ 2147483647 → 0 ≤ x4 → x4 ≤ 3 → (-1) ≤ x5 → x5 ≤ 199 → 0 ≤ x6 → x6 ≤ 3 → (w0 + (-y0)) ≤ 0 → ((-x5) + (-y0)) ≤ 1 → h1.2.2 7 1 = y0 → (-1) ≤ y0 → y0 ≤ 200 → ((-x6) + 3) < N → jEv (jOk 25) none (fun _ => 0) c79_0 0 0 (fun v h' => ∃ r F : Int, v = some (0, r) ∧ (-1) ≤ r ∧ r ≤ 199 ∧ Gd G h' ∧ Kp [(7, 2), (7, 3), (7, 4), (10, 0), (11, 0), (12, 0), (13, 0), (14, 0), (15, 0), (16, 0), (17, 0)] h h' ∧ h'.2.2 7 1 = F ∧ ((-F) + w0) ≤ 0 ∧ ((-F) + (-r)) ≤ 1) (c79_68, [(2, 7), (2, 1), (0, 1), (0, a3), (0, x4), (0, x5), (0, x6)], [], h1, 0, 0)) := by
  intro N
  induction N with
  | zero => exact fun h1 x4 x5 x6 y0 g1 k1 b0 b1 b2 b3 b4 b5 b6 b7 b8 b9 b10 b11 b12 hm => absurd hm (by omega)
  | succ N ih =>
    show _
    intro h1 x4 x5 x6 y0 g1 k1 b0 b1 b2 b3 b4 b5 b6 b7 b8 b9 ey0 ly0 uy0 hm
    refine ev_iload rfl ?_
    refine ev_aload_n rfl ?_
    refine ev_iload rfl ?_
    refine ev_in (d := 24) (a := 0) (b := 0) (cd' := c141_0) (m := 2) (L0 := [(2, 1), (0, x4)]) (jcall_v (A := [(0, x4)]) (S' := [(0, x6)]) (r := 1) rfl (g1.lt ad1) (g1.tg ad1) (Nat.le_of_ble_eq_true rfl)) (by decide) ml141 pp141 (Nat.le_of_ble_eq_true rfl) rfl (by decide) (by decide) ?_
    refine ev_aload_n rfl ?_
    refine ev_iload_n rfl ?_
    refine ev_in (d := 23) (a := 0) (b := 0) (cd' := c140_0) (m := 2) (L0 := [(2, 1), (0, x4)]) (jcall_v (A := [(0, x4)]) (S' := []) (r := 1) rfl (g1.lt ad1) (g1.tg ad1) (Nat.le_of_ble_eq_true rfl)) (by decide) ml140 pp140 (Nat.le_of_ble_eq_true rfl) rfl (by decide) (by decide) ?_
    refine ev_iload_n rfl ?_
    refine ev_iflt f140_16 (fun c23999 => absurd c23999 (by omega)) (fun c23999 => ?_)
    refine ev_iload_n rfl ?_
    refine ev_aload_n rfl ?_
    obtain ⟨v24000, ev24000, lv24000, uv24000⟩ := g1.rd ad1 (show 0 < 8 by decide) rf1_0
    refine g_getv (r := 1) (v := v24000) g1 ad1 (by decide) ft10_0 ev24000 ?_
    refine ev_icmpge f140_16 (fun c24001 => ?_) (fun c24001 => ?_)
    · refine ev_iconst ?_
      refine ev_ret rfl (by decide) (by decide) ?_
      show jEv _ _ _ _ _ _ _ (_, [(2, 1), (0, x4)], [(0, 0)], _, _, _)
      refine ev_ifeq f141_17 (fun c24002 => ?_) (fun c24002 => absurd c24002 (by omega))
      refine ev_iconst ?_
      refine ev_ret rfl (by decide) (by decide) ?_
      show jEv _ _ _ _ _ _ _ (_, [(2, 7), (2, 1), (0, 1), (0, a3), (0, x4), (0, x5), (0, x6)], [(0, 0), (0, x6)], _, _, _)
      refine ev_icmpge f79_126 (fun c24003 => ?_) (fun c24003 => absurd c24003 (by omega))
      refine ev_aload_n rfl ?_
      refine ev_bipush ?_
      refine ev_call (jcall_v (A := [(0, 41)]) (S' := []) (r := 7) rfl (g1.lt ad7) (g1.tg ad7) (Nat.le_of_ble_eq_true rfl)) (jOk_le (by decide) (s71 g1 (by omega) (by omega) (ey0) (by omega) (by omega))) (by decide) (by decide) (fun w24004 h24004 q24004 => ?_)
      obtain ⟨v24005, rfl, g24004, kk24004, ev24005, p24004_0⟩ := q24004
      have bv24005 := g24004.rg ad7 (i := 1) (by decide) rf7_1
      rw [ev24005] at bv24005
      have k24004 := k1.tr kk24004 (by decide)
      show jEv _ _ _ _ _ _ _ (_, [(2, 7), (2, 1), (0, 1), (0, a3), (0, x4), (0, x5), (0, x6)], [], _, _, _)
      refine ev_aload_n rfl ?_
      refine g_getv (r := 7) (v := v24005) g24004 ad7 (by decide) ft5_1 (ev24005) ?_
      refine ev_ifge f79_144 (fun c24006 => ?_) (fun c24006 => ?_)
      · refine ev_iconst ?_
        exact ev_ret rfl (by decide) (by decide) ⟨_, _, rfl, by omega, by omega, g24004, k24004, (ev24005), by omega, by omega⟩
      · refine ev_iload rfl ?_
        refine ev_ifge f79_146 (fun c24007 => ?_) (fun c24007 => absurd c24007 (by omega))
        refine ev_aload_n rfl ?_
        refine g_getp (r := 7) (c := 11) g24004 ad7 (by decide) (by decide) rf7_8 ft5_8 ?_
        refine ev_iload rfl ?_
        refine ev_iload rfl ?_
        refine g_iast g24004 ad11 rt11 (fun _ => rfl) (by omega) (by omega) (by omega) (by omega) (fun h24008 e24008 g24008 => ?_)
        have k24008 := k24004.wr e24008 rfl
        refine ev_aload_n rfl ?_
        refine g_getp (r := 7) (c := 15) g24008 ad7 (by decide) (by decide) rf7_12 ft5_12 ?_
        refine ev_iload rfl ?_
        refine ev_dup2 (by decide) (by decide) ?_
        refine g_iald g24008 ad15 rt15 (by omega) (by omega) (fun v24009 ev24009 lv24009 uv24009 => ?_)
        refine ev_iconst ?_
        refine ev_iload rfl ?_
        refine g_ishlB (a' := 1) (a := 1) (b := 3) (hi := 8) (by omega) (by omega) (by omega) (by omega) (by decide) (by decide) (fun v24010 ev24010 lv24010 uv24010 => ?_)
        refine g_iorG (fun v24011 ev24011 lv24011 uv24011 => ?_)
        refine g_iast g24008 ad15 rt15 (fun _ => rfl) (by omega) (by omega) (by omega) (by omega) (fun h24012 e24012 g24012 => ?_)
        have k24012 := k24008.wr e24012 rfl
        refine ev_iload rfl ?_
        exact ev_ret rfl (by decide) (by decide) ⟨_, _, rfl, by omega, by omega, g24012, k24012, (((jw_ne e24012 (Or.inl (by decide))).trans ((jw_ne e24008 (Or.inl (by decide))).trans ev24005))), by omega, by omega⟩
    · refine ev_iconst ?_
      refine ev_goto f140_17 ?_
      refine ev_ret rfl (by decide) (by decide) ?_
      show jEv _ _ _ _ _ _ _ (_, [(2, 1), (0, x4)], [(0, 1)], _, _, _)
      refine ev_ifeq f141_17 (fun c24013 => absurd c24013 (by omega)) (fun c24013 => ?_)
      refine ev_aload_n rfl ?_
      refine g_getp (r := 1) (c := 2) g1 ad1 (by decide) (by decide) rf1_3 ft10_3 ?_
      refine ev_iload_n rfl ?_
      refine g_iald g1 ad2 rt2 (by omega) (by omega) (fun v24014 ev24014 lv24014 uv24014 => ?_)
      refine ev_goto f141_18 ?_
      refine ev_ret rfl (by decide) (by decide) ?_
      show jEv _ _ _ _ _ _ _ (_, [(2, 7), (2, 1), (0, 1), (0, a3), (0, x4), (0, x5), (0, x6)], [(0, v24014), (0, x6)], _, _, _)
      refine ev_icmpge f79_126 (fun c24015 => ?_) (fun c24015 => ?_)
      · refine ev_aload_n rfl ?_
        refine ev_bipush ?_
        refine ev_call (jcall_v (A := [(0, 41)]) (S' := []) (r := 7) rfl (g1.lt ad7) (g1.tg ad7) (Nat.le_of_ble_eq_true rfl)) (jOk_le (by decide) (s71 g1 (by omega) (by omega) (ey0) (by omega) (by omega))) (by decide) (by decide) (fun w24016 h24016 q24016 => ?_)
        obtain ⟨v24017, rfl, g24016, kk24016, ev24017, p24016_0⟩ := q24016
        have bv24017 := g24016.rg ad7 (i := 1) (by decide) rf7_1
        rw [ev24017] at bv24017
        have k24016 := k1.tr kk24016 (by decide)
        show jEv _ _ _ _ _ _ _ (_, [(2, 7), (2, 1), (0, 1), (0, a3), (0, x4), (0, x5), (0, x6)], [], _, _, _)
        refine ev_aload_n rfl ?_
        refine g_getv (r := 7) (v := v24017) g24016 ad7 (by decide) ft5_1 (ev24017) ?_
        refine ev_ifge f79_144 (fun c24018 => ?_) (fun c24018 => ?_)
        · refine ev_iconst ?_
          exact ev_ret rfl (by decide) (by decide) ⟨_, _, rfl, by omega, by omega, g24016, k24016, (ev24017), by omega, by omega⟩
        · refine ev_iload rfl ?_
          refine ev_ifge f79_146 (fun c24019 => ?_) (fun c24019 => absurd c24019 (by omega))
          refine ev_aload_n rfl ?_
          refine g_getp (r := 7) (c := 11) g24016 ad7 (by decide) (by decide) rf7_8 ft5_8 ?_
          refine ev_iload rfl ?_
          refine ev_iload rfl ?_
          refine g_iast g24016 ad11 rt11 (fun _ => rfl) (by omega) (by omega) (by omega) (by omega) (fun h24020 e24020 g24020 => ?_)
          have k24020 := k24016.wr e24020 rfl
          refine ev_aload_n rfl ?_
          refine g_getp (r := 7) (c := 15) g24020 ad7 (by decide) (by decide) rf7_12 ft5_12 ?_
          refine ev_iload rfl ?_
          refine ev_dup2 (by decide) (by decide) ?_
          refine g_iald g24020 ad15 rt15 (by omega) (by omega) (fun v24021 ev24021 lv24021 uv24021 => ?_)
          refine ev_iconst ?_
          refine ev_iload rfl ?_
          refine g_ishlB (a' := 1) (a := 1) (b := 3) (hi := 8) (by omega) (by omega) (by omega) (by omega) (by decide) (by decide) (fun v24022 ev24022 lv24022 uv24022 => ?_)
          refine g_iorG (fun v24023 ev24023 lv24023 uv24023 => ?_)
          refine g_iast g24020 ad15 rt15 (fun _ => rfl) (by omega) (by omega) (by omega) (by omega) (fun h24024 e24024 g24024 => ?_)
          have k24024 := k24020.wr e24024 rfl
          refine ev_iload rfl ?_
          exact ev_ret rfl (by decide) (by decide) ⟨_, _, rfl, by omega, by omega, g24024, k24024, (((jw_ne e24024 (Or.inl (by decide))).trans ((jw_ne e24020 (Or.inl (by decide))).trans ev24017))), by omega, by omega⟩
      · refine ev_aload_n rfl ?_
        refine g_getv (r := 7) (v := y0) g1 ad7 (by decide) ft5_1 (ey0) ?_
        refine ev_ifge f79_126 (fun c24025 => ?_) (fun c24025 => ?_)
        · refine ev_aload_n rfl ?_
          refine ev_bipush ?_
          refine ev_call (jcall_v (A := [(0, 41)]) (S' := []) (r := 7) rfl (g1.lt ad7) (g1.tg ad7) (Nat.le_of_ble_eq_true rfl)) (jOk_le (by decide) (s71 g1 (by omega) (by omega) (ey0) (by omega) (by omega))) (by decide) (by decide) (fun w24026 h24026 q24026 => ?_)
          obtain ⟨v24027, rfl, g24026, kk24026, ev24027, p24026_0⟩ := q24026
          have bv24027 := g24026.rg ad7 (i := 1) (by decide) rf7_1
          rw [ev24027] at bv24027
          have k24026 := k1.tr kk24026 (by decide)
          show jEv _ _ _ _ _ _ _ (_, [(2, 7), (2, 1), (0, 1), (0, a3), (0, x4), (0, x5), (0, x6)], [], _, _, _)
          refine ev_aload_n rfl ?_
          refine g_getv (r := 7) (v := v24027) g24026 ad7 (by decide) ft5_1 (ev24027) ?_
          refine ev_ifge f79_144 (fun c24028 => ?_) (fun c24028 => absurd c24028 (by omega))
          refine ev_iconst ?_
          exact ev_ret rfl (by decide) (by decide) ⟨_, _, rfl, by omega, by omega, g24026, k24026, (ev24027), by omega, by omega⟩
        · refine ev_iload rfl ?_
          refine ev_ifle f79_97 (fun c24029 => ?_) (fun c24029 => ?_)
          · refine ev_aload_n rfl ?_
            refine ev_iload rfl ?_
            refine ev_iload rfl ?_
            refine ev_iconst ?_
            refine ev_aload_n rfl ?_
            refine ev_aload_n rfl ?_
            refine ev_iload_n rfl ?_
            refine ev_iconst ?_
            refine ev_iadd (r := 2) (by decide) ?_
            refine ev_iload_n rfl ?_
            refine ev_iconst ?_
            refine ev_iload rfl ?_
            refine g_ishlB (a' := 1) (a := 1) (b := 3) (hi := 8) (by omega) (by omega) (by omega) (by omega) (by decide) (by decide) (fun v24030 ev24030 lv24030 uv24030 => ?_)
            refine g_iorG (fun v24031 ev24031 lv24031 uv24031 => ?_)
            refine ev_call (jcall_v (A := [(0, v24031), (0, 2), (2, 1)]) (S' := [(0, 0), (0, x6), (0, x5), (2, 7)]) (r := 7) rfl (g1.lt ad7) (g1.tg ad7) (Nat.le_of_ble_eq_true rfl)) (jOk_le (by decide) (s74_2 g1 (by omega) (by omega) (ey0) (by omega) (by omega))) (by decide) (by decide) (fun w24032 h24032 q24032 => ?_)
            obtain ⟨v24034, v24033, rfl, lv24034, uv24034, g24032, kk24032, ev24033, p24032_0, p24032_1⟩ := q24032
            have bv24033 := g24032.rg ad7 (i := 1) (by decide) rf7_1
            rw [ev24033] at bv24033
            have k24032 := k1.tr kk24032 (by decide)
            show jEv _ _ _ _ _ _ _ (_, [(2, 7), (2, 1), (0, 1), (0, a3), (0, x4), (0, x5), (0, x6)], [(0, v24034), (0, 0), (0, x6), (0, x5), (2, 7)], _, _, _)
            refine ev_call (jcall_v (A := [(0, v24034), (0, 0), (0, x6), (0, x5)]) (S' := []) (r := 7) rfl (g24032.lt ad7) (g24032.tg ad7) (Nat.le_of_ble_eq_true rfl)) (jOk_le (by decide) (s80 g24032 (by omega) (by omega) (by omega) (by omega) (by omega) (by omega) (by omega) (by omega))) (by decide) (by decide) (fun w24035 h24035 q24035 => ?_)
            obtain ⟨rfl, g24035, kk24035⟩ := q24035
            have k24035 := k24032.tr kk24035 (by decide)
            show jEv _ _ _ _ _ _ _ (_, [(2, 7), (2, 1), (0, 1), (0, a3), (0, x4), (0, x5), (0, x6)], [], _, _, _)
            refine ev_iinc (w := (x6 + 1)) (L' := [(2, 7), (2, 1), (0, 1), (0, a3), (0, x4), (0, x5), (0, (x6 + 1))]) rfl (by unfold w32; omega) rfl ?_
            refine ev_goto f79_68 ?_
            exact ih _ _ _ _ _ g24035 k24035 (by omega) (by omega) (by omega) (by omega) (by omega) (by omega) (by omega) (by omega) (by omega) (by omega) (((kk24035.v (by decide)).trans ev24033)) (by omega) (by omega) (by omega)
          · refine ev_aload_n rfl ?_
            refine ev_bipush ?_
            refine ev_call (jcall_v (A := [(0, 44)]) (S' := []) (r := 7) rfl (g1.lt ad7) (g1.tg ad7) (Nat.le_of_ble_eq_true rfl)) (jOk_le (by decide) (s71 g1 (by omega) (by omega) (ey0) (by omega) (by omega))) (by decide) (by decide) (fun w24036 h24036 q24036 => ?_)
            obtain ⟨v24037, rfl, g24036, kk24036, ev24037, p24036_0⟩ := q24036
            have bv24037 := g24036.rg ad7 (i := 1) (by decide) rf7_1
            rw [ev24037] at bv24037
            have k24036 := k1.tr kk24036 (by decide)
            show jEv _ _ _ _ _ _ _ (_, [(2, 7), (2, 1), (0, 1), (0, a3), (0, x4), (0, x5), (0, x6)], [], _, _, _)
            refine ev_aload_n rfl ?_
            refine ev_iload rfl ?_
            refine ev_iload rfl ?_
            refine ev_iconst ?_
            refine ev_aload_n rfl ?_
            refine ev_aload_n rfl ?_
            refine ev_iload_n rfl ?_
            refine ev_iconst ?_
            refine ev_iadd (r := 2) (by decide) ?_
            refine ev_iload_n rfl ?_
            refine ev_iconst ?_
            refine ev_iload rfl ?_
            refine g_ishlB (a' := 1) (a := 1) (b := 3) (hi := 8) (by omega) (by omega) (by omega) (by omega) (by decide) (by decide) (fun v24038 ev24038 lv24038 uv24038 => ?_)
            refine g_iorG (fun v24039 ev24039 lv24039 uv24039 => ?_)
            refine ev_call (jcall_v (A := [(0, v24039), (0, 2), (2, 1)]) (S' := [(0, 0), (0, x6), (0, x5), (2, 7)]) (r := 7) rfl (g24036.lt ad7) (g24036.tg ad7) (Nat.le_of_ble_eq_true rfl)) (jOk_le (by decide) (s74_2 g24036 (by omega) (by omega) (ev24037) (by omega) (by omega))) (by decide) (by decide) (fun w24040 h24040 q24040 => ?_)
            obtain ⟨v24042, v24041, rfl, lv24042, uv24042, g24040, kk24040, ev24041, p24040_0, p24040_1⟩ := q24040
            have bv24041 := g24040.rg ad7 (i := 1) (by decide) rf7_1
            rw [ev24041] at bv24041
            have k24040 := k24036.tr kk24040 (by decide)
            show jEv _ _ _ _ _ _ _ (_, [(2, 7), (2, 1), (0, 1), (0, a3), (0, x4), (0, x5), (0, x6)], [(0, v24042), (0, 0), (0, x6), (0, x5), (2, 7)], _, _, _)
            refine ev_call (jcall_v (A := [(0, v24042), (0, 0), (0, x6), (0, x5)]) (S' := []) (r := 7) rfl (g24040.lt ad7) (g24040.tg ad7) (Nat.le_of_ble_eq_true rfl)) (jOk_le (by decide) (s80 g24040 (by omega) (by omega) (by omega) (by omega) (by omega) (by omega) (by omega) (by omega))) (by decide) (by decide) (fun w24043 h24043 q24043 => ?_)
            obtain ⟨rfl, g24043, kk24043⟩ := q24043
            have k24043 := k24040.tr kk24043 (by decide)
            show jEv _ _ _ _ _ _ _ (_, [(2, 7), (2, 1), (0, 1), (0, a3), (0, x4), (0, x5), (0, x6)], [], _, _, _)
            refine ev_iinc (w := (x6 + 1)) (L' := [(2, 7), (2, 1), (0, 1), (0, a3), (0, x4), (0, x5), (0, (x6 + 1))]) rfl (by unfold w32; omega) rfl ?_
            refine ev_goto f79_68 ?_
            exact ih _ _ _ _ _ g24043 k24043 (by omega) (by omega) (by omega) (by omega) (by omega) (by omega) (by omega) (by omega) (by omega) (by omega) (((kk24043.v (by decide)).trans ev24041)) (by omega) (by omega) (by omega)
set_option maxHeartbeats 4000000 in
theorem s79_1 {G : GH} {h : JH} (g : Gd G h) {a3 : Int} (la3 : (-2147483648) ≤ a3) (ua3 : a3 ≤ 2147483647) {w0 : Int} (ew0 : h.2.2 7 1 = w0) (lw0 : (-1) ≤ w0) (uw0 : w0 ≤ 200) {w1 : Int} (ew1 : h.2.2 7 2 = w1) (lw1 : 0 ≤ w1) (uw1 : w1 ≤ 199) : jOk 26 0 0 79 [(2, 7), (2, 1), (0, 1), (0, a3)] h (fun v h' => ∃ r F : Int, v = some (0, r) ∧ (-1) ≤ r ∧ r ≤ 199 ∧ Gd G h' ∧ Kp [(7, 2), (7, 3), (7, 4), (10, 0), (11, 0), (12, 0), (13, 0), (14, 0), (15, 0), (16, 0), (17, 0)] h h' ∧ h'.2.2 7 1 = F ∧ ((-F) + w0) ≤ 0 ∧ ((-F) + (-r)) ≤ 1) := by
  refine ⟨by decide, by rw [ml79]; exact Nat.le_of_ble_eq_true rfl, ?_⟩
  rw [ml79, pp79]
  show jEv _ none _ c79_0 0 0 _ (c79_0, [(2, 7), (2, 1), (0, 1), (0, a3), (9, 0), (9, 0), (9, 0)], [], h, 0, 0)
  have k0 := Kp.rf [(7, 2), (7, 3), (7, 4), (10, 0), (11, 0), (12, 0), (13, 0), (14, 0), (15, 0), (16, 0), (17, 0)] h
  refine ev_aload_n rfl ?_
  refine ev_dup (by decide) ?_
  refine g_getv (r := 7) (v := w1) g ad7 (by decide) ft5_2 (ew1) ?_
  refine ev_iconst ?_
  refine ev_iadd (r := (w1 + 1)) (by unfold w32; omega) ?_
  refine g_putf (r := 7) g ad7 (by decide) ft5_2 (by decide) (fun e => absurd e nz5_2) rf7_2 (by decide) (by omega) (by omega) (fun h24044 e24044 g24044 => ?_)
  have k24044 := k0.wr e24044 rfl
  refine ev_aload_n rfl ?_
  refine ev_in (d := 24) (a := 0) (b := 0) (cd' := c68_0) (m := 1) (L0 := [(2, 7)]) (jcall_v (A := []) (S' := []) (r := 7) rfl (g24044.lt ad7) (g24044.tg ad7) (Nat.le_of_ble_eq_true rfl)) (by decide) ml68 pp68 (Nat.le_of_ble_eq_true rfl) rfl (by decide) (by decide) ?_
  refine ev_aload_n rfl ?_
  refine g_getv (r := 7) (v := (w1 + 1)) g24044 ad7 (by decide) ft5_2 ((jw_eq e24044)) ?_
  refine ev_aload_n rfl ?_
  obtain ⟨v24045, ev24045, lv24045, uv24045⟩ := g24044.rd ad7 (show 0 < 15 by decide) rf7_0
  refine g_getv (r := 7) (v := v24045) g24044 ad7 (by decide) ft5_0 ev24045 ?_
  refine ev_icmpge f68_27 (fun c24046 => ?_) (fun c24046 => ?_)
  · refine ev_iconst ?_
    refine ev_ret rfl (by decide) (by decide) ?_
    show jEv _ _ _ _ _ _ _ (_, [(2, 7), (2, 1), (0, 1), (0, a3), (9, 0), (9, 0), (9, 0)], [(0, (-1))], _, _, _)
    refine ev_bipush ?_
    refine ev_isub (r := (-98)) (by decide) ?_
    refine ev_istore (L' := [(2, 7), (2, 1), (0, 1), (0, a3), (0, (-98)), (9, 0), (9, 0)]) (Nat.le_of_ble_eq_true rfl) rfl ?_
    refine ev_aload_n rfl ?_
    refine ev_iload rfl ?_
    refine ev_in (d := 24) (a := 0) (b := 0) (cd' := c140_0) (m := 2) (L0 := [(2, 1), (0, (-98))]) (jcall_v (A := [(0, (-98))]) (S' := []) (r := 1) rfl (g24044.lt ad1) (g24044.tg ad1) (Nat.le_of_ble_eq_true rfl)) (by decide) ml140 pp140 (Nat.le_of_ble_eq_true rfl) rfl (by decide) (by decide) ?_
    refine ev_iload_n rfl ?_
    refine ev_iflt f140_16 (fun c24047 => ?_) (fun c24047 => absurd c24047 (by omega))
    refine ev_iconst ?_
    refine ev_ret rfl (by decide) (by decide) ?_
    show jEv _ _ _ _ _ _ _ (_, [(2, 7), (2, 1), (0, 1), (0, a3), (0, (-98)), (9, 0), (9, 0)], [(0, 0)], _, _, _)
    refine ev_ifeq f79_37 (fun c24048 => ?_) (fun c24048 => absurd c24048 (by omega))
    refine ev_aload_n rfl ?_
    refine ev_in (d := 24) (a := 0) (b := 0) (cd' := c70_0) (m := 1) (L0 := [(2, 7)]) (jcall_v (A := []) (S' := []) (r := 7) rfl (g24044.lt ad7) (g24044.tg ad7) (Nat.le_of_ble_eq_true rfl)) (by decide) ml70 pp70 (Nat.le_of_ble_eq_true rfl) rfl (by decide) (by decide) ?_
    refine ev_aload_n rfl ?_
    refine g_getv (r := 7) (v := w0) g24044 ad7 (by decide) ft5_1 (((jw_ne e24044 (Or.inr (by decide))).trans ew0)) ?_
    refine ev_ifge f70_15 (fun c24049 => ?_) (fun c24049 => ?_)
    · refine ev_ret rfl (by decide) (by decide) ?_
      show jEv _ _ _ _ _ _ _ (_, [(2, 7), (2, 1), (0, 1), (0, a3), (0, (-98)), (9, 0), (9, 0)], [], _, _, _)
      refine ev_iconst ?_
      exact ev_ret rfl (by decide) (by decide) ⟨_, _, rfl, by omega, by omega, g24044, k24044, (((jw_ne e24044 (Or.inr (by decide))).trans ew0)), by omega, by omega⟩
    · refine ev_aload_n rfl ?_
      refine ev_aload_n rfl ?_
      refine g_getv (r := 7) (v := (w1 + 1)) g24044 ad7 (by decide) ft5_2 ((jw_eq e24044)) ?_
      refine g_putf (r := 7) g24044 ad7 (by decide) ft5_1 (by decide) (fun e => absurd e nz5_1) rf7_1 (by decide) (by omega) (by omega) (fun h24050 e24050 g24050 => ?_)
      have k24050 := k24044.wr e24050 rfl
      refine ev_ret rfl (by decide) (by decide) ?_
      show jEv _ _ _ _ _ _ _ (_, [(2, 7), (2, 1), (0, 1), (0, a3), (0, (-98)), (9, 0), (9, 0)], [], _, _, _)
      refine ev_iconst ?_
      exact ev_ret rfl (by decide) (by decide) ⟨_, _, rfl, by omega, by omega, g24050, k24050, ((jw_eq e24050)), by omega, by omega⟩
  · refine ev_aload_n rfl ?_
    refine g_getp (r := 7) (c := 8) g24044 ad7 (by decide) (by decide) rf7_5 ft5_5 ?_
    refine ev_aload_n rfl ?_
    refine g_getv (r := 7) (v := (w1 + 1)) g24044 ad7 (by decide) ft5_2 ((jw_eq e24044)) ?_
    refine g_bald g24044 ad8 rt8 (by omega) (by omega) (fun v24051 ev24051 lv24051 uv24051 => ?_)
    refine ev_sipush ?_
    refine g_iandB (b := 255) (by omega) (by omega) (by decide) (fun v24052 ev24052 lv24052 uv24052 => ?_)
    refine ev_goto f68_28 ?_
    refine ev_ret rfl (by decide) (by decide) ?_
    show jEv _ _ _ _ _ _ _ (_, [(2, 7), (2, 1), (0, 1), (0, a3), (9, 0), (9, 0), (9, 0)], [(0, v24052)], _, _, _)
    refine ev_bipush ?_
    refine ev_isub (r := (v24052 - 97)) (by unfold w32; omega) ?_
    refine ev_istore (L' := [(2, 7), (2, 1), (0, 1), (0, a3), (0, (v24052 - 97)), (9, 0), (9, 0)]) (Nat.le_of_ble_eq_true rfl) rfl ?_
    refine ev_aload_n rfl ?_
    refine ev_iload rfl ?_
    refine ev_in (d := 24) (a := 0) (b := 0) (cd' := c140_0) (m := 2) (L0 := [(2, 1), (0, (v24052 - 97))]) (jcall_v (A := [(0, (v24052 - 97))]) (S' := []) (r := 1) rfl (g24044.lt ad1) (g24044.tg ad1) (Nat.le_of_ble_eq_true rfl)) (by decide) ml140 pp140 (Nat.le_of_ble_eq_true rfl) rfl (by decide) (by decide) ?_
    refine ev_iload_n rfl ?_
    refine ev_iflt f140_16 (fun c24053 => ?_) (fun c24053 => ?_)
    · refine ev_iconst ?_
      refine ev_ret rfl (by decide) (by decide) ?_
      show jEv _ _ _ _ _ _ _ (_, [(2, 7), (2, 1), (0, 1), (0, a3), (0, (v24052 - 97)), (9, 0), (9, 0)], [(0, 0)], _, _, _)
      refine ev_ifeq f79_37 (fun c24054 => ?_) (fun c24054 => absurd c24054 (by omega))
      refine ev_aload_n rfl ?_
      refine ev_in (d := 24) (a := 0) (b := 0) (cd' := c70_0) (m := 1) (L0 := [(2, 7)]) (jcall_v (A := []) (S' := []) (r := 7) rfl (g24044.lt ad7) (g24044.tg ad7) (Nat.le_of_ble_eq_true rfl)) (by decide) ml70 pp70 (Nat.le_of_ble_eq_true rfl) rfl (by decide) (by decide) ?_
      refine ev_aload_n rfl ?_
      refine g_getv (r := 7) (v := w0) g24044 ad7 (by decide) ft5_1 (((jw_ne e24044 (Or.inr (by decide))).trans ew0)) ?_
      refine ev_ifge f70_15 (fun c24055 => ?_) (fun c24055 => ?_)
      · refine ev_ret rfl (by decide) (by decide) ?_
        show jEv _ _ _ _ _ _ _ (_, [(2, 7), (2, 1), (0, 1), (0, a3), (0, (v24052 - 97)), (9, 0), (9, 0)], [], _, _, _)
        refine ev_iconst ?_
        exact ev_ret rfl (by decide) (by decide) ⟨_, _, rfl, by omega, by omega, g24044, k24044, (((jw_ne e24044 (Or.inr (by decide))).trans ew0)), by omega, by omega⟩
      · refine ev_aload_n rfl ?_
        refine ev_aload_n rfl ?_
        refine g_getv (r := 7) (v := (w1 + 1)) g24044 ad7 (by decide) ft5_2 ((jw_eq e24044)) ?_
        refine g_putf (r := 7) g24044 ad7 (by decide) ft5_1 (by decide) (fun e => absurd e nz5_1) rf7_1 (by decide) (by omega) (by omega) (fun h24056 e24056 g24056 => ?_)
        have k24056 := k24044.wr e24056 rfl
        refine ev_ret rfl (by decide) (by decide) ?_
        show jEv _ _ _ _ _ _ _ (_, [(2, 7), (2, 1), (0, 1), (0, a3), (0, (v24052 - 97)), (9, 0), (9, 0)], [], _, _, _)
        refine ev_iconst ?_
        exact ev_ret rfl (by decide) (by decide) ⟨_, _, rfl, by omega, by omega, g24056, k24056, ((jw_eq e24056)), by omega, by omega⟩
    · refine ev_iload_n rfl ?_
      refine ev_aload_n rfl ?_
      obtain ⟨v24057, ev24057, lv24057, uv24057⟩ := g24044.rd ad1 (show 0 < 8 by decide) rf1_0
      refine g_getv (r := 1) (v := v24057) g24044 ad1 (by decide) ft10_0 ev24057 ?_
      refine ev_icmpge f140_16 (fun c24058 => ?_) (fun c24058 => ?_)
      · refine ev_iconst ?_
        refine ev_ret rfl (by decide) (by decide) ?_
        show jEv _ _ _ _ _ _ _ (_, [(2, 7), (2, 1), (0, 1), (0, a3), (0, (v24052 - 97)), (9, 0), (9, 0)], [(0, 0)], _, _, _)
        refine ev_ifeq f79_37 (fun c24059 => ?_) (fun c24059 => absurd c24059 (by omega))
        refine ev_aload_n rfl ?_
        refine ev_in (d := 24) (a := 0) (b := 0) (cd' := c70_0) (m := 1) (L0 := [(2, 7)]) (jcall_v (A := []) (S' := []) (r := 7) rfl (g24044.lt ad7) (g24044.tg ad7) (Nat.le_of_ble_eq_true rfl)) (by decide) ml70 pp70 (Nat.le_of_ble_eq_true rfl) rfl (by decide) (by decide) ?_
        refine ev_aload_n rfl ?_
        refine g_getv (r := 7) (v := w0) g24044 ad7 (by decide) ft5_1 (((jw_ne e24044 (Or.inr (by decide))).trans ew0)) ?_
        refine ev_ifge f70_15 (fun c24060 => ?_) (fun c24060 => ?_)
        · refine ev_ret rfl (by decide) (by decide) ?_
          show jEv _ _ _ _ _ _ _ (_, [(2, 7), (2, 1), (0, 1), (0, a3), (0, (v24052 - 97)), (9, 0), (9, 0)], [], _, _, _)
          refine ev_iconst ?_
          exact ev_ret rfl (by decide) (by decide) ⟨_, _, rfl, by omega, by omega, g24044, k24044, (((jw_ne e24044 (Or.inr (by decide))).trans ew0)), by omega, by omega⟩
        · refine ev_aload_n rfl ?_
          refine ev_aload_n rfl ?_
          refine g_getv (r := 7) (v := (w1 + 1)) g24044 ad7 (by decide) ft5_2 ((jw_eq e24044)) ?_
          refine g_putf (r := 7) g24044 ad7 (by decide) ft5_1 (by decide) (fun e => absurd e nz5_1) rf7_1 (by decide) (by omega) (by omega) (fun h24061 e24061 g24061 => ?_)
          have k24061 := k24044.wr e24061 rfl
          refine ev_ret rfl (by decide) (by decide) ?_
          show jEv _ _ _ _ _ _ _ (_, [(2, 7), (2, 1), (0, 1), (0, a3), (0, (v24052 - 97)), (9, 0), (9, 0)], [], _, _, _)
          refine ev_iconst ?_
          exact ev_ret rfl (by decide) (by decide) ⟨_, _, rfl, by omega, by omega, g24061, k24061, ((jw_eq e24061)), by omega, by omega⟩
      · refine ev_iconst ?_
        refine ev_goto f140_17 ?_
        refine ev_ret rfl (by decide) (by decide) ?_
        show jEv _ _ _ _ _ _ _ (_, [(2, 7), (2, 1), (0, 1), (0, a3), (0, (v24052 - 97)), (9, 0), (9, 0)], [(0, 1)], _, _, _)
        refine ev_ifeq f79_37 (fun c24062 => absurd c24062 (by omega)) (fun c24062 => ?_)
        refine ev_iload_n rfl ?_
        refine ev_iload rfl ?_
        refine g_ishrG (fun v24063 ev24063 lv24063 uv24063 => ?_)
        refine ev_iconst ?_
        refine g_iandB (b := 1) (by omega) (by omega) (by decide) (fun v24064 ev24064 lv24064 uv24064 => ?_)
        refine ev_ifeq f79_43 (fun c24065 => ?_) (fun c24065 => ?_)
        · refine ev_aload_n rfl ?_
          refine ev_dup (by decide) ?_
          refine g_getv (r := 7) (v := (w1 + 1)) g24044 ad7 (by decide) ft5_2 ((jw_eq e24044)) ?_
          refine ev_iconst ?_
          refine ev_iadd (r := (w1 + 2)) (by unfold w32; omega) ?_
          refine g_putf (r := 7) g24044 ad7 (by decide) ft5_2 (by decide) (fun e => absurd e nz5_2) rf7_2 (by decide) (by omega) (by omega) (fun h24066 e24066 g24066 => ?_)
          have k24066 := k24044.wr e24066 rfl
          refine ev_aload_n rfl ?_
          refine ev_iload_n rfl ?_
          refine ev_call (jcall_v (A := [(0, 1)]) (S' := []) (r := 7) rfl (g24066.lt ad7) (g24066.tg ad7) (Nat.le_of_ble_eq_true rfl)) (jOk_le (by decide) (s72 g24066 (by omega) (by omega) (((jw_ne e24066 (Or.inr (by decide))).trans ((jw_ne e24044 (Or.inr (by decide))).trans ew0))) (by omega) (by omega))) (by decide) (by decide) (fun w24067 h24067 q24067 => ?_)
          obtain ⟨v24068, rfl, g24067, kk24067, ev24068, p24067_0⟩ := q24067
          have bv24068 := g24067.rg ad7 (i := 1) (by decide) rf7_1
          rw [ev24068] at bv24068
          have k24067 := k24066.tr kk24067 (by decide)
          show jEv _ _ _ _ _ _ _ (_, [(2, 7), (2, 1), (0, 1), (0, a3), (0, (v24052 - 97)), (9, 0), (9, 0)], [], _, _, _)
          refine ev_aload_n rfl ?_
          refine ev_iconst ?_
          refine ev_call (jcall_v (A := [(0, 2)]) (S' := []) (r := 7) rfl (g24067.lt ad7) (g24067.tg ad7) (Nat.le_of_ble_eq_true rfl)) (jOk_le (by decide) (s73 g24067 (by omega) (by omega) (ev24068) (by omega) (by omega))) (by decide) (by decide) (fun w24069 h24069 q24069 => ?_)
          obtain ⟨v24071, v24070, rfl, lv24071, uv24071, g24069, kk24069, ev24070, p24069_0, p24069_1⟩ := q24069
          have bv24070 := g24069.rg ad7 (i := 1) (by decide) rf7_1
          rw [ev24070] at bv24070
          have k24069 := k24067.tr kk24069 (by decide)
          show jEv _ _ _ _ _ _ _ (_, [(2, 7), (2, 1), (0, 1), (0, a3), (0, (v24052 - 97)), (9, 0), (9, 0)], [(0, v24071)], _, _, _)
          refine ev_istore (L' := [(2, 7), (2, 1), (0, 1), (0, a3), (0, (v24052 - 97)), (0, v24071), (9, 0)]) (Nat.le_of_ble_eq_true rfl) rfl ?_
          refine ev_iconst ?_
          refine ev_istore (L' := [(2, 7), (2, 1), (0, 1), (0, a3), (0, (v24052 - 97)), (0, v24071), (0, 0)]) (Nat.le_of_ble_eq_true rfl) rfl ?_
          exact (s79_1_l la3 ua3 ew0 lw0 uw0 ew1 lw1 uw1 8) _ _ _ _ _ g24069 k24069 (by omega) (by omega) (by omega) (by omega) (by omega) (by omega) (by omega) (by omega) (by omega) (by omega) (ev24070) (by omega) (by omega) (by omega)
        · refine ev_aload_n rfl ?_
          refine ev_in (d := 24) (a := 0) (b := 0) (cd' := c70_0) (m := 1) (L0 := [(2, 7)]) (jcall_v (A := []) (S' := []) (r := 7) rfl (g24044.lt ad7) (g24044.tg ad7) (Nat.le_of_ble_eq_true rfl)) (by decide) ml70 pp70 (Nat.le_of_ble_eq_true rfl) rfl (by decide) (by decide) ?_
          refine ev_aload_n rfl ?_
          refine g_getv (r := 7) (v := w0) g24044 ad7 (by decide) ft5_1 (((jw_ne e24044 (Or.inr (by decide))).trans ew0)) ?_
          refine ev_ifge f70_15 (fun c24072 => ?_) (fun c24072 => ?_)
          · refine ev_ret rfl (by decide) (by decide) ?_
            show jEv _ _ _ _ _ _ _ (_, [(2, 7), (2, 1), (0, 1), (0, a3), (0, (v24052 - 97)), (9, 0), (9, 0)], [], _, _, _)
            refine ev_iconst ?_
            exact ev_ret rfl (by decide) (by decide) ⟨_, _, rfl, by omega, by omega, g24044, k24044, (((jw_ne e24044 (Or.inr (by decide))).trans ew0)), by omega, by omega⟩
          · refine ev_aload_n rfl ?_
            refine ev_aload_n rfl ?_
            refine g_getv (r := 7) (v := (w1 + 1)) g24044 ad7 (by decide) ft5_2 ((jw_eq e24044)) ?_
            refine g_putf (r := 7) g24044 ad7 (by decide) ft5_1 (by decide) (fun e => absurd e nz5_1) rf7_1 (by decide) (by omega) (by omega) (fun h24073 e24073 g24073 => ?_)
            have k24073 := k24044.wr e24073 rfl
            refine ev_ret rfl (by decide) (by decide) ?_
            show jEv _ _ _ _ _ _ _ (_, [(2, 7), (2, 1), (0, 1), (0, a3), (0, (v24052 - 97)), (9, 0), (9, 0)], [], _, _, _)
            refine ev_iconst ?_
            exact ev_ret rfl (by decide) (by decide) ⟨_, _, rfl, by omega, by omega, g24073, k24073, ((jw_eq e24073)), by omega, by omega⟩
/-! s74_1  -/
set_option maxHeartbeats 4000000 in
theorem s74_1 {G : GH} {h : JH} (g : Gd G h) {a3 : Int} (la3 : (-2147483648) ≤ a3) (ua3 : a3 ≤ 2147483647) {w0 : Int} (ew0 : h.2.2 7 1 = w0) (lw0 : (-1) ≤ w0) (uw0 : w0 ≤ 200) : jOk 27 0 0 74 [(2, 7), (2, 1), (0, 1), (0, a3)] h (fun v h' => ∃ r F : Int, v = some (0, r) ∧ (-1) ≤ r ∧ r ≤ 199 ∧ Gd G h' ∧ Kp [(7, 2), (7, 3), (7, 4), (10, 0), (11, 0), (12, 0), (13, 0), (14, 0), (15, 0), (16, 0), (17, 0)] h h' ∧ h'.2.2 7 1 = F ∧ ((-F) + w0) ≤ 0 ∧ ((-F) + (-r)) ≤ 1) := by
  refine ⟨by decide, by rw [ml74]; exact Nat.le_of_ble_eq_true rfl, ?_⟩
  rw [ml74, pp74]
  show jEv _ none _ c74_0 0 0 _ (c74_0, [(2, 7), (2, 1), (0, 1), (0, a3), (9, 0)], [], h, 0, 0)
  have k0 := Kp.rf [(7, 2), (7, 3), (7, 4), (10, 0), (11, 0), (12, 0), (13, 0), (14, 0), (15, 0), (16, 0), (17, 0)] h
  refine ev_aload_n rfl ?_
  refine g_getv (r := 7) (v := w0) g ad7 (by decide) ft5_1 (ew0) ?_
  refine ev_ifge f74_13 (fun c24140 => ?_) (fun c24140 => ?_)
  · refine ev_aload_n rfl ?_
    refine ev_in (d := 25) (a := 0) (b := 0) (cd' := c70_0) (m := 1) (L0 := [(2, 7)]) (jcall_v (A := []) (S' := []) (r := 7) rfl (g.lt ad7) (g.tg ad7) (Nat.le_of_ble_eq_true rfl)) (by decide) ml70 pp70 (Nat.le_of_ble_eq_true rfl) rfl (by decide) (by decide) ?_
    refine ev_aload_n rfl ?_
    refine g_getv (r := 7) (v := w0) g ad7 (by decide) ft5_1 (ew0) ?_
    refine ev_ifge f70_15 (fun c24141 => ?_) (fun c24141 => absurd c24141 (by omega))
    refine ev_ret rfl (by decide) (by decide) ?_
    show jEv _ _ _ _ _ _ _ (_, [(2, 7), (2, 1), (0, 1), (0, a3), (9, 0)], [], _, _, _)
    refine ev_iconst ?_
    exact ev_ret rfl (by decide) (by decide) ⟨_, _, rfl, by omega, by omega, g, k0, (ew0), by omega, by omega⟩
  · refine ev_iload_n rfl ?_
    refine ev_bipush ?_
    refine ev_icmple f74_19 (fun c24142 => ?_) (fun c24142 => absurd c24142 (by omega))
    refine ev_aload_n rfl ?_
    refine ev_in (d := 25) (a := 0) (b := 0) (cd' := c68_0) (m := 1) (L0 := [(2, 7)]) (jcall_v (A := []) (S' := []) (r := 7) rfl (g.lt ad7) (g.tg ad7) (Nat.le_of_ble_eq_true rfl)) (by decide) ml68 pp68 (Nat.le_of_ble_eq_true rfl) rfl (by decide) (by decide) ?_
    refine ev_aload_n rfl ?_
    obtain ⟨v24143, ev24143, lv24143, uv24143⟩ := g.rd ad7 (show 2 < 15 by decide) rf7_2
    refine g_getv (r := 7) (v := v24143) g ad7 (by decide) ft5_2 ev24143 ?_
    refine ev_aload_n rfl ?_
    obtain ⟨v24144, ev24144, lv24144, uv24144⟩ := g.rd ad7 (show 0 < 15 by decide) rf7_0
    refine g_getv (r := 7) (v := v24144) g ad7 (by decide) ft5_0 ev24144 ?_
    refine ev_icmpge f68_27 (fun c24145 => ?_) (fun c24145 => ?_)
    · refine ev_iconst ?_
      refine ev_ret rfl (by decide) (by decide) ?_
      show jEv _ _ _ _ _ _ _ (_, [(2, 7), (2, 1), (0, 1), (0, a3), (9, 0)], [(0, (-1))], _, _, _)
      refine ev_istore (L' := [(2, 7), (2, 1), (0, 1), (0, a3), (0, (-1))]) (Nat.le_of_ble_eq_true rfl) rfl ?_
      refine ev_iload rfl ?_
      refine ev_bipush ?_
      refine ev_icmpne f74_40 (fun c24146 => ?_) (fun c24146 => absurd c24146 (by omega))
      refine ev_iload rfl ?_
      refine ev_bipush ?_
      refine ev_icmpne f74_55 (fun c24147 => ?_) (fun c24147 => absurd c24147 (by omega))
      refine ev_iload rfl ?_
      refine ev_bipush ?_
      refine ev_icmplt f74_78 (fun c24148 => ?_) (fun c24148 => absurd c24148 (by omega))
      refine ev_aload_n rfl ?_
      refine ev_call (jcall_v (A := []) (S' := []) (r := 7) rfl (g.lt ad7) (g.tg ad7) (Nat.le_of_ble_eq_true rfl)) (jOk_le (by decide) (s75 g (ew0) (by omega) (by omega))) (by decide) (by decide) (fun w24149 h24149 q24149 => ?_)
      obtain ⟨v24151, v24150, rfl, lv24151, uv24151, g24149, kk24149, ev24150, p24149_0, p24149_1⟩ := q24149
      have bv24150 := g24149.rg ad7 (i := 1) (by decide) rf7_1
      rw [ev24150] at bv24150
      have k24149 := k0.tr kk24149 (by decide)
      show jEv _ _ _ _ _ _ _ (_, [(2, 7), (2, 1), (0, 1), (0, a3), (0, (-1))], [(0, v24151)], _, _, _)
      exact ev_ret rfl (by decide) (by decide) ⟨_, _, rfl, by omega, by omega, g24149, k24149, (ev24150), by omega, by omega⟩
    · refine ev_aload_n rfl ?_
      refine g_getp (r := 7) (c := 8) g ad7 (by decide) (by decide) rf7_5 ft5_5 ?_
      refine ev_aload_n rfl ?_
      refine g_getv (r := 7) (v := v24143) g ad7 (by decide) ft5_2 (ev24143) ?_
      refine g_bald g ad8 rt8 (by omega) (by omega) (fun v24152 ev24152 lv24152 uv24152 => ?_)
      refine ev_sipush ?_
      refine g_iandB (b := 255) (by omega) (by omega) (by decide) (fun v24153 ev24153 lv24153 uv24153 => ?_)
      refine ev_goto f68_28 ?_
      refine ev_ret rfl (by decide) (by decide) ?_
      show jEv _ _ _ _ _ _ _ (_, [(2, 7), (2, 1), (0, 1), (0, a3), (9, 0)], [(0, v24153)], _, _, _)
      refine ev_istore (L' := [(2, 7), (2, 1), (0, 1), (0, a3), (0, v24153)]) (Nat.le_of_ble_eq_true rfl) rfl ?_
      refine ev_iload rfl ?_
      refine ev_bipush ?_
      refine ev_icmpne f74_40 (fun c24154 => ?_) (fun c24154 => ?_)
      · refine ev_iload rfl ?_
        refine ev_bipush ?_
        refine ev_icmpne f74_55 (fun c24155 => ?_) (fun c24155 => ?_)
        · refine ev_iload rfl ?_
          refine ev_bipush ?_
          refine ev_icmplt f74_78 (fun c24156 => ?_) (fun c24156 => ?_)
          · refine ev_aload_n rfl ?_
            refine ev_call (jcall_v (A := []) (S' := []) (r := 7) rfl (g.lt ad7) (g.tg ad7) (Nat.le_of_ble_eq_true rfl)) (jOk_le (by decide) (s75 g (ew0) (by omega) (by omega))) (by decide) (by decide) (fun w24157 h24157 q24157 => ?_)
            obtain ⟨v24159, v24158, rfl, lv24159, uv24159, g24157, kk24157, ev24158, p24157_0, p24157_1⟩ := q24157
            have bv24158 := g24157.rg ad7 (i := 1) (by decide) rf7_1
            rw [ev24158] at bv24158
            have k24157 := k0.tr kk24157 (by decide)
            show jEv _ _ _ _ _ _ _ (_, [(2, 7), (2, 1), (0, 1), (0, a3), (0, v24153)], [(0, v24159)], _, _, _)
            exact ev_ret rfl (by decide) (by decide) ⟨_, _, rfl, by omega, by omega, g24157, k24157, (ev24158), by omega, by omega⟩
          · refine ev_iload rfl ?_
            refine ev_bipush ?_
            refine ev_icmpge f74_78 (fun c24160 => ?_) (fun c24160 => ?_)
            · refine ev_aload_n rfl ?_
              refine ev_call (jcall_v (A := []) (S' := []) (r := 7) rfl (g.lt ad7) (g.tg ad7) (Nat.le_of_ble_eq_true rfl)) (jOk_le (by decide) (s75 g (ew0) (by omega) (by omega))) (by decide) (by decide) (fun w24161 h24161 q24161 => ?_)
              obtain ⟨v24163, v24162, rfl, lv24163, uv24163, g24161, kk24161, ev24162, p24161_0, p24161_1⟩ := q24161
              have bv24162 := g24161.rg ad7 (i := 1) (by decide) rf7_1
              rw [ev24162] at bv24162
              have k24161 := k0.tr kk24161 (by decide)
              show jEv _ _ _ _ _ _ _ (_, [(2, 7), (2, 1), (0, 1), (0, a3), (0, v24153)], [(0, v24163)], _, _, _)
              exact ev_ret rfl (by decide) (by decide) ⟨_, _, rfl, by omega, by omega, g24161, k24161, (ev24162), by omega, by omega⟩
            · refine ev_aload_n rfl ?_
              refine ev_iload_n rfl ?_
              refine ev_iload_n rfl ?_
              refine ev_call (jcall_v (A := [(0, a3), (0, 1)]) (S' := []) (r := 7) rfl (g.lt ad7) (g.tg ad7) (Nat.le_of_ble_eq_true rfl)) (jOk_le (by decide) (s77 g (by omega) (by omega) (by omega) (by omega) (ew0) (by omega) (by omega))) (by decide) (by decide) (fun w24164 h24164 q24164 => ?_)
              obtain ⟨v24166, v24165, rfl, lv24166, uv24166, g24164, kk24164, ev24165, p24164_0, p24164_1⟩ := q24164
              have bv24165 := g24164.rg ad7 (i := 1) (by decide) rf7_1
              rw [ev24165] at bv24165
              have k24164 := k0.tr kk24164 (by decide)
              show jEv _ _ _ _ _ _ _ (_, [(2, 7), (2, 1), (0, 1), (0, a3), (0, v24153)], [(0, v24166)], _, _, _)
              refine ev_goto f74_82 ?_
              exact ev_ret rfl (by decide) (by decide) ⟨_, _, rfl, by omega, by omega, g24164, k24164, (ev24165), by omega, by omega⟩
        · refine ev_aload_n rfl ?_
          refine ev_aload_n rfl ?_
          refine ev_iload_n rfl ?_
          refine ev_iload_n rfl ?_
          refine ev_call (jcall_v (A := [(0, a3), (0, 1), (2, 1)]) (S' := []) (r := 7) rfl (g.lt ad7) (g.tg ad7) (Nat.le_of_ble_eq_true rfl)) (jOk_le (by decide) (s79_1 g (by omega) (by omega) (ew0) (by omega) (by omega) (ev24143) (by omega) (by omega))) (by decide) (by decide) (fun w24167 h24167 q24167 => ?_)
          obtain ⟨v24169, v24168, rfl, lv24169, uv24169, g24167, kk24167, ev24168, p24167_0, p24167_1⟩ := q24167
          have bv24168 := g24167.rg ad7 (i := 1) (by decide) rf7_1
          rw [ev24168] at bv24168
          have k24167 := k0.tr kk24167 (by decide)
          show jEv _ _ _ _ _ _ _ (_, [(2, 7), (2, 1), (0, 1), (0, a3), (0, v24153)], [(0, v24169)], _, _, _)
          exact ev_ret rfl (by decide) (by decide) ⟨_, _, rfl, by omega, by omega, g24167, k24167, (ev24168), by omega, by omega⟩
      · refine ev_aload_n rfl ?_
        refine ev_aload_n rfl ?_
        refine ev_iload_n rfl ?_
        refine ev_iload_n rfl ?_
        refine ev_call (jcall_v (A := [(0, a3), (0, 1), (2, 1)]) (S' := []) (r := 7) rfl (g.lt ad7) (g.tg ad7) (Nat.le_of_ble_eq_true rfl)) (jOk_le (by decide) (s78_1 g (by omega) (by omega) (ew0) (by omega) (by omega) (ev24143) (by omega) (by omega))) (by decide) (by decide) (fun w24170 h24170 q24170 => ?_)
        obtain ⟨v24172, v24171, rfl, lv24172, uv24172, g24170, kk24170, ev24171, p24170_0, p24170_1⟩ := q24170
        have bv24171 := g24170.rg ad7 (i := 1) (by decide) rf7_1
        rw [ev24171] at bv24171
        have k24170 := k0.tr kk24170 (by decide)
        show jEv _ _ _ _ _ _ _ (_, [(2, 7), (2, 1), (0, 1), (0, a3), (0, v24153)], [(0, v24172)], _, _, _)
        exact ev_ret rfl (by decide) (by decide) ⟨_, _, rfl, by omega, by omega, g24170, k24170, (ev24171), by omega, by omega⟩
/-! s78_0  -/
set_option maxHeartbeats 4000000 in
theorem s78_0_l {G : GH} {h : JH} {a3 : Int} (la3 : (-2147483648) ≤ a3) (ua3 : a3 ≤ 2147483647) {w0 : Int} (ew0 : h.2.2 7 1 = w0) (lw0 : (-1) ≤ w0) (uw0 : w0 ≤ 200) {w1 : Int} (ew1 : h.2.2 7 2 = w1) (lw1 : 0 ≤ w1) (uw1 : w1 ≤ 199) : ∀ N : Nat, (∀ (h1 : JH) (x4 x5 y0 : Int) (j6 : AV), Gd G h1 → Kp [(7, 2), (7, 3), (7, 4), (10, 0), (11, 0), (12, 0), (13, 0), (14, 0), (15, 0), (16, 0), (17, 0)] h h1 → (-2147483648) ≤ a3 → a3 ≤ 2147483647 → (-1) ≤ x4 → x4 ≤ 199 → 0 ≤ x5 → x5 ≤ 3 → (w0 + (-y0)) ≤ 0 → ((-x4) + (-y0)) ≤ 1 → h1.2.2 7 1 = y0 → (-1) ≤ y0 → y0 ≤ 200 → ((-x5) + 3) < N → jEv (jOk 27) none (fun _ => 0) c78_0 0 0 (fun v h' => ∃ r F : Int, v = some (0, r) ∧ (-1) ≤ r ∧ r ≤ 199 ∧ Gd G h' ∧ Kp [(7, 2), (7, 3), (7, 4), (10, 0), (11, 0), (12, 0), (13, 0), (14, 0), (15, 0), (16, 0), (17, 0)] h h' ∧ h'.2.2 7 1 = F ∧ ((-F) + w0) ≤ 0 ∧ ((-F) + (-r)) ≤ 1) (c78_25, [(2, 7), (2, 1), (0, 0), (0, a3), (0, x4), (0, x5), j6], [], h1, 0, 0)) := by
  intro N
  induction N with
  | zero => exact fun h1 x4 x5 y0 j6 g1 k1 b0 b1 b2 b3 b4 b5 b6 b7 b8 b9 b10 hm => absurd hm (by omega)
  | succ N ih =>
    show _
    intro h1 x4 x5 y0 j6 g1 k1 b0 b1 b2 b3 b4 b5 b6 b7 ey0 ly0 uy0 hm
    refine ev_iload rfl ?_
    refine ev_iconst ?_
    refine ev_icmpge f78_100 (fun c24341 => absurd c24341 (by omega)) (fun c24341 => ?_)
    refine ev_aload_n rfl ?_
    refine g_getv (r := 7) (v := y0) g1 ad7 (by decide) ft5_1 (ey0) ?_
    refine ev_ifge f78_100 (fun c24342 => ?_) (fun c24342 => ?_)
    · refine ev_aload_n rfl ?_
      refine ev_bipush ?_
      refine ev_call (jcall_v (A := [(0, 41)]) (S' := []) (r := 7) rfl (g1.lt ad7) (g1.tg ad7) (Nat.le_of_ble_eq_true rfl)) (jOk_le (by decide) (s71 g1 (by omega) (by omega) (ey0) (by omega) (by omega))) (by decide) (by decide) (fun w24343 h24343 q24343 => ?_)
      obtain ⟨v24344, rfl, g24343, kk24343, ev24344, p24343_0⟩ := q24343
      have bv24344 := g24343.rg ad7 (i := 1) (by decide) rf7_1
      rw [ev24344] at bv24344
      have k24343 := k1.tr kk24343 (by decide)
      show jEv _ _ _ _ _ _ _ (_, [(2, 7), (2, 1), (0, 0), (0, a3), (0, x4), (0, x5), j6], [], _, _, _)
      refine ev_aload_n rfl ?_
      refine g_getv (r := 7) (v := v24344) g24343 ad7 (by decide) ft5_1 (ev24344) ?_
      refine ev_iflt f78_117 (fun c24345 => absurd c24345 (by omega)) (fun c24345 => ?_)
      refine ev_iconst ?_
      refine ev_goto f78_119 ?_
      exact ev_ret rfl (by decide) (by decide) ⟨_, _, rfl, by omega, by omega, g24343, k24343, (ev24344), by omega, by omega⟩
    · refine ev_aload_n rfl ?_
      refine ev_iconst ?_
      refine ev_call (jcall_v (A := [(0, 2)]) (S' := []) (r := 7) rfl (g1.lt ad7) (g1.tg ad7) (Nat.le_of_ble_eq_true rfl)) (jOk_le (by decide) (s76 g1 (by omega) (by omega) (ey0) (by omega) (by omega))) (by decide) (by decide) (fun w24346 h24346 q24346 => ?_)
      obtain ⟨v24348, v24347, rfl, lv24348, uv24348, g24346, kk24346, ev24347, p24346_0⟩ := q24346
      have bv24347 := g24346.rg ad7 (i := 1) (by decide) rf7_1
      rw [ev24347] at bv24347
      have k24346 := k1.tr kk24346 (by decide)
      show jEv _ _ _ _ _ _ _ (_, [(2, 7), (2, 1), (0, 0), (0, a3), (0, x4), (0, x5), j6], [(0, v24348)], _, _, _)
      refine ev_istore (L' := [(2, 7), (2, 1), (0, 0), (0, a3), (0, x4), (0, x5), (0, v24348)]) (Nat.le_of_ble_eq_true rfl) rfl ?_
      refine ev_aload_n rfl ?_
      refine ev_bipush ?_
      refine ev_call (jcall_v (A := [(0, 58)]) (S' := []) (r := 7) rfl (g24346.lt ad7) (g24346.tg ad7) (Nat.le_of_ble_eq_true rfl)) (jOk_le (by decide) (s71 g24346 (by omega) (by omega) (ev24347) (by omega) (by omega))) (by decide) (by decide) (fun w24349 h24349 q24349 => ?_)
      obtain ⟨v24350, rfl, g24349, kk24349, ev24350, p24349_0⟩ := q24349
      have bv24350 := g24349.rg ad7 (i := 1) (by decide) rf7_1
      rw [ev24350] at bv24350
      have k24349 := k24346.tr kk24349 (by decide)
      show jEv _ _ _ _ _ _ _ (_, [(2, 7), (2, 1), (0, 0), (0, a3), (0, x4), (0, x5), (0, v24348)], [], _, _, _)
      refine ev_aload_n rfl ?_
      refine ev_iload rfl ?_
      refine ev_iload rfl ?_
      refine ev_iload rfl ?_
      refine ev_aload_n rfl ?_
      refine ev_aload_n rfl ?_
      refine ev_iload_n rfl ?_
      refine ev_iconst ?_
      refine ev_iadd (r := 1) (by decide) ?_
      refine ev_iload_n rfl ?_
      refine ev_call (jcall_v (A := [(0, a3), (0, 1), (2, 1)]) (S' := [(0, v24348), (0, x5), (0, x4), (2, 7)]) (r := 7) rfl (g24349.lt ad7) (g24349.tg ad7) (Nat.le_of_ble_eq_true rfl)) (jOk_le (by decide) (s74_1 g24349 (by omega) (by omega) (ev24350) (by omega) (by omega))) (by decide) (by decide) (fun w24351 h24351 q24351 => ?_)
      obtain ⟨v24353, v24352, rfl, lv24353, uv24353, g24351, kk24351, ev24352, p24351_0, p24351_1⟩ := q24351
      have bv24352 := g24351.rg ad7 (i := 1) (by decide) rf7_1
      rw [ev24352] at bv24352
      have k24351 := k24349.tr kk24351 (by decide)
      show jEv _ _ _ _ _ _ _ (_, [(2, 7), (2, 1), (0, 0), (0, a3), (0, x4), (0, x5), (0, v24348)], [(0, v24353), (0, v24348), (0, x5), (0, x4), (2, 7)], _, _, _)
      refine ev_call (jcall_v (A := [(0, v24353), (0, v24348), (0, x5), (0, x4)]) (S' := []) (r := 7) rfl (g24351.lt ad7) (g24351.tg ad7) (Nat.le_of_ble_eq_true rfl)) (jOk_le (by decide) (s80 g24351 (by omega) (by omega) (by omega) (by omega) (by omega) (by omega) (by omega) (by omega))) (by decide) (by decide) (fun w24354 h24354 q24354 => ?_)
      obtain ⟨rfl, g24354, kk24354⟩ := q24354
      have k24354 := k24351.tr kk24354 (by decide)
      show jEv _ _ _ _ _ _ _ (_, [(2, 7), (2, 1), (0, 0), (0, a3), (0, x4), (0, x5), (0, v24348)], [], _, _, _)
      refine ev_aload_n rfl ?_
      refine ev_in (d := 26) (a := 0) (b := 0) (cd' := c68_0) (m := 1) (L0 := [(2, 7)]) (jcall_v (A := []) (S' := []) (r := 7) rfl (g24354.lt ad7) (g24354.tg ad7) (Nat.le_of_ble_eq_true rfl)) (by decide) ml68 pp68 (Nat.le_of_ble_eq_true rfl) rfl (by decide) (by decide) ?_
      refine ev_aload_n rfl ?_
      obtain ⟨v24355, ev24355, lv24355, uv24355⟩ := g24354.rd ad7 (show 2 < 15 by decide) rf7_2
      refine g_getv (r := 7) (v := v24355) g24354 ad7 (by decide) ft5_2 ev24355 ?_
      refine ev_aload_n rfl ?_
      obtain ⟨v24356, ev24356, lv24356, uv24356⟩ := g24354.rd ad7 (show 0 < 15 by decide) rf7_0
      refine g_getv (r := 7) (v := v24356) g24354 ad7 (by decide) ft5_0 ev24356 ?_
      refine ev_icmpge f68_27 (fun c24357 => ?_) (fun c24357 => ?_)
      · refine ev_iconst ?_
        refine ev_ret rfl (by decide) (by decide) ?_
        show jEv _ _ _ _ _ _ _ (_, [(2, 7), (2, 1), (0, 0), (0, a3), (0, x4), (0, x5), (0, v24348)], [(0, (-1))], _, _, _)
        refine ev_bipush ?_
        refine ev_icmpne f78_100 (fun c24358 => ?_) (fun c24358 => absurd c24358 (by omega))
        refine ev_aload_n rfl ?_
        refine ev_bipush ?_
        refine ev_call (jcall_v (A := [(0, 41)]) (S' := []) (r := 7) rfl (g24354.lt ad7) (g24354.tg ad7) (Nat.le_of_ble_eq_true rfl)) (jOk_le (by decide) (s71 g24354 (by omega) (by omega) (((kk24354.v (by decide)).trans ev24352)) (by omega) (by omega))) (by decide) (by decide) (fun w24359 h24359 q24359 => ?_)
        obtain ⟨v24360, rfl, g24359, kk24359, ev24360, p24359_0⟩ := q24359
        have bv24360 := g24359.rg ad7 (i := 1) (by decide) rf7_1
        rw [ev24360] at bv24360
        have k24359 := k24354.tr kk24359 (by decide)
        show jEv _ _ _ _ _ _ _ (_, [(2, 7), (2, 1), (0, 0), (0, a3), (0, x4), (0, x5), (0, v24348)], [], _, _, _)
        refine ev_aload_n rfl ?_
        refine g_getv (r := 7) (v := v24360) g24359 ad7 (by decide) ft5_1 (ev24360) ?_
        refine ev_iflt f78_117 (fun c24361 => ?_) (fun c24361 => ?_)
        · refine ev_iload rfl ?_
          exact ev_ret rfl (by decide) (by decide) ⟨_, _, rfl, by omega, by omega, g24359, k24359, (ev24360), by omega, by omega⟩
        · refine ev_iconst ?_
          refine ev_goto f78_119 ?_
          exact ev_ret rfl (by decide) (by decide) ⟨_, _, rfl, by omega, by omega, g24359, k24359, (ev24360), by omega, by omega⟩
      · refine ev_aload_n rfl ?_
        refine g_getp (r := 7) (c := 8) g24354 ad7 (by decide) (by decide) rf7_5 ft5_5 ?_
        refine ev_aload_n rfl ?_
        refine g_getv (r := 7) (v := v24355) g24354 ad7 (by decide) ft5_2 (ev24355) ?_
        refine g_bald g24354 ad8 rt8 (by omega) (by omega) (fun v24362 ev24362 lv24362 uv24362 => ?_)
        refine ev_sipush ?_
        refine g_iandB (b := 255) (by omega) (by omega) (by decide) (fun v24363 ev24363 lv24363 uv24363 => ?_)
        refine ev_goto f68_28 ?_
        refine ev_ret rfl (by decide) (by decide) ?_
        show jEv _ _ _ _ _ _ _ (_, [(2, 7), (2, 1), (0, 0), (0, a3), (0, x4), (0, x5), (0, v24348)], [(0, v24363)], _, _, _)
        refine ev_bipush ?_
        refine ev_icmpne f78_100 (fun c24364 => ?_) (fun c24364 => ?_)
        · refine ev_aload_n rfl ?_
          refine ev_bipush ?_
          refine ev_call (jcall_v (A := [(0, 41)]) (S' := []) (r := 7) rfl (g24354.lt ad7) (g24354.tg ad7) (Nat.le_of_ble_eq_true rfl)) (jOk_le (by decide) (s71 g24354 (by omega) (by omega) (((kk24354.v (by decide)).trans ev24352)) (by omega) (by omega))) (by decide) (by decide) (fun w24365 h24365 q24365 => ?_)
          obtain ⟨v24366, rfl, g24365, kk24365, ev24366, p24365_0⟩ := q24365
          have bv24366 := g24365.rg ad7 (i := 1) (by decide) rf7_1
          rw [ev24366] at bv24366
          have k24365 := k24354.tr kk24365 (by decide)
          show jEv _ _ _ _ _ _ _ (_, [(2, 7), (2, 1), (0, 0), (0, a3), (0, x4), (0, x5), (0, v24348)], [], _, _, _)
          refine ev_aload_n rfl ?_
          refine g_getv (r := 7) (v := v24366) g24365 ad7 (by decide) ft5_1 (ev24366) ?_
          refine ev_iflt f78_117 (fun c24367 => ?_) (fun c24367 => ?_)
          · refine ev_iload rfl ?_
            exact ev_ret rfl (by decide) (by decide) ⟨_, _, rfl, by omega, by omega, g24365, k24365, (ev24366), by omega, by omega⟩
          · refine ev_iconst ?_
            refine ev_goto f78_119 ?_
            exact ev_ret rfl (by decide) (by decide) ⟨_, _, rfl, by omega, by omega, g24365, k24365, (ev24366), by omega, by omega⟩
        · refine ev_iload rfl ?_
          refine ev_iconst ?_
          refine ev_icmpne f78_88 (fun c24368 => ?_) (fun c24368 => ?_)
          · refine ev_aload_n rfl ?_
            refine ev_bipush ?_
            refine ev_call (jcall_v (A := [(0, 44)]) (S' := []) (r := 7) rfl (g24354.lt ad7) (g24354.tg ad7) (Nat.le_of_ble_eq_true rfl)) (jOk_le (by decide) (s71 g24354 (by omega) (by omega) (((kk24354.v (by decide)).trans ev24352)) (by omega) (by omega))) (by decide) (by decide) (fun w24369 h24369 q24369 => ?_)
            obtain ⟨v24370, rfl, g24369, kk24369, ev24370, p24369_0⟩ := q24369
            have bv24370 := g24369.rg ad7 (i := 1) (by decide) rf7_1
            rw [ev24370] at bv24370
            have k24369 := k24354.tr kk24369 (by decide)
            show jEv _ _ _ _ _ _ _ (_, [(2, 7), (2, 1), (0, 0), (0, a3), (0, x4), (0, x5), (0, v24348)], [], _, _, _)
            refine ev_iinc (w := (x5 + 1)) (L' := [(2, 7), (2, 1), (0, 0), (0, a3), (0, x4), (0, (x5 + 1)), (0, v24348)]) rfl (by unfold w32; omega) rfl ?_
            refine ev_goto f78_25 ?_
            exact ih _ _ _ _ _ g24369 k24369 (by omega) (by omega) (by omega) (by omega) (by omega) (by omega) (by omega) (by omega) (ev24370) (by omega) (by omega) (by omega)
          · refine ev_goto f78_100 ?_
            refine ev_aload_n rfl ?_
            refine ev_bipush ?_
            refine ev_call (jcall_v (A := [(0, 41)]) (S' := []) (r := 7) rfl (g24354.lt ad7) (g24354.tg ad7) (Nat.le_of_ble_eq_true rfl)) (jOk_le (by decide) (s71 g24354 (by omega) (by omega) (((kk24354.v (by decide)).trans ev24352)) (by omega) (by omega))) (by decide) (by decide) (fun w24371 h24371 q24371 => ?_)
            obtain ⟨v24372, rfl, g24371, kk24371, ev24372, p24371_0⟩ := q24371
            have bv24372 := g24371.rg ad7 (i := 1) (by decide) rf7_1
            rw [ev24372] at bv24372
            have k24371 := k24354.tr kk24371 (by decide)
            show jEv _ _ _ _ _ _ _ (_, [(2, 7), (2, 1), (0, 0), (0, a3), (0, x4), (0, x5), (0, v24348)], [], _, _, _)
            refine ev_aload_n rfl ?_
            refine g_getv (r := 7) (v := v24372) g24371 ad7 (by decide) ft5_1 (ev24372) ?_
            refine ev_iflt f78_117 (fun c24373 => ?_) (fun c24373 => ?_)
            · refine ev_iload rfl ?_
              exact ev_ret rfl (by decide) (by decide) ⟨_, _, rfl, by omega, by omega, g24371, k24371, (ev24372), by omega, by omega⟩
            · refine ev_iconst ?_
              refine ev_goto f78_119 ?_
              exact ev_ret rfl (by decide) (by decide) ⟨_, _, rfl, by omega, by omega, g24371, k24371, (ev24372), by omega, by omega⟩
set_option maxHeartbeats 4000000 in
theorem s78_0 {G : GH} {h : JH} (g : Gd G h) {a3 : Int} (la3 : (-2147483648) ≤ a3) (ua3 : a3 ≤ 2147483647) {w0 : Int} (ew0 : h.2.2 7 1 = w0) (lw0 : (-1) ≤ w0) (uw0 : w0 ≤ 200) {w1 : Int} (ew1 : h.2.2 7 2 = w1) (lw1 : 0 ≤ w1) (uw1 : w1 ≤ 199) : jOk 28 0 0 78 [(2, 7), (2, 1), (0, 0), (0, a3)] h (fun v h' => ∃ r F : Int, v = some (0, r) ∧ (-1) ≤ r ∧ r ≤ 199 ∧ Gd G h' ∧ Kp [(7, 2), (7, 3), (7, 4), (10, 0), (11, 0), (12, 0), (13, 0), (14, 0), (15, 0), (16, 0), (17, 0)] h h' ∧ h'.2.2 7 1 = F ∧ ((-F) + w0) ≤ 0 ∧ ((-F) + (-r)) ≤ 1) := by
  refine ⟨by decide, by rw [ml78]; exact Nat.le_of_ble_eq_true rfl, ?_⟩
  rw [ml78, pp78]
  show jEv _ none _ c78_0 0 0 _ (c78_0, [(2, 7), (2, 1), (0, 0), (0, a3), (9, 0), (9, 0), (9, 0)], [], h, 0, 0)
  have k0 := Kp.rf [(7, 2), (7, 3), (7, 4), (10, 0), (11, 0), (12, 0), (13, 0), (14, 0), (15, 0), (16, 0), (17, 0)] h
  refine ev_aload_n rfl ?_
  refine ev_dup (by decide) ?_
  refine g_getv (r := 7) (v := w1) g ad7 (by decide) ft5_2 (ew1) ?_
  refine ev_iconst ?_
  refine ev_iadd (r := (w1 + 1)) (by unfold w32; omega) ?_
  refine g_putf (r := 7) g ad7 (by decide) ft5_2 (by decide) (fun e => absurd e nz5_2) rf7_2 (by decide) (by omega) (by omega) (fun h24374 e24374 g24374 => ?_)
  have k24374 := k0.wr e24374 rfl
  refine ev_aload_n rfl ?_
  refine ev_iload_n rfl ?_
  refine ev_call (jcall_v (A := [(0, 0)]) (S' := []) (r := 7) rfl (g24374.lt ad7) (g24374.tg ad7) (Nat.le_of_ble_eq_true rfl)) (jOk_le (by decide) (s72 g24374 (by omega) (by omega) (((jw_ne e24374 (Or.inr (by decide))).trans ew0)) (by omega) (by omega))) (by decide) (by decide) (fun w24375 h24375 q24375 => ?_)
  obtain ⟨v24376, rfl, g24375, kk24375, ev24376, p24375_0⟩ := q24375
  have bv24376 := g24375.rg ad7 (i := 1) (by decide) rf7_1
  rw [ev24376] at bv24376
  have k24375 := k24374.tr kk24375 (by decide)
  show jEv _ _ _ _ _ _ _ (_, [(2, 7), (2, 1), (0, 0), (0, a3), (9, 0), (9, 0), (9, 0)], [], _, _, _)
  refine ev_aload_n rfl ?_
  refine ev_iconst ?_
  refine ev_call (jcall_v (A := [(0, 1)]) (S' := []) (r := 7) rfl (g24375.lt ad7) (g24375.tg ad7) (Nat.le_of_ble_eq_true rfl)) (jOk_le (by decide) (s73 g24375 (by omega) (by omega) (ev24376) (by omega) (by omega))) (by decide) (by decide) (fun w24377 h24377 q24377 => ?_)
  obtain ⟨v24379, v24378, rfl, lv24379, uv24379, g24377, kk24377, ev24378, p24377_0, p24377_1⟩ := q24377
  have bv24378 := g24377.rg ad7 (i := 1) (by decide) rf7_1
  rw [ev24378] at bv24378
  have k24377 := k24375.tr kk24377 (by decide)
  show jEv _ _ _ _ _ _ _ (_, [(2, 7), (2, 1), (0, 0), (0, a3), (9, 0), (9, 0), (9, 0)], [(0, v24379)], _, _, _)
  refine ev_istore (L' := [(2, 7), (2, 1), (0, 0), (0, a3), (0, v24379), (9, 0), (9, 0)]) (Nat.le_of_ble_eq_true rfl) rfl ?_
  refine ev_iconst ?_
  refine ev_istore (L' := [(2, 7), (2, 1), (0, 0), (0, a3), (0, v24379), (0, 0), (9, 0)]) (Nat.le_of_ble_eq_true rfl) rfl ?_
  exact (s78_0_l la3 ua3 ew0 lw0 uw0 ew1 lw1 uw1 8) _ _ _ _ _ g24377 k24377 (by omega) (by omega) (by omega) (by omega) (by omega) (by omega) (by omega) (by omega) (ev24378) (by omega) (by omega) (by omega)
/-! s79_0  -/
set_option maxHeartbeats 4000000 in
theorem s79_0_l {G : GH} {h : JH} {a3 : Int} (la3 : (-2147483648) ≤ a3) (ua3 : a3 ≤ 2147483647) {w0 : Int} (ew0 : h.2.2 7 1 = w0) (lw0 : (-1) ≤ w0) (uw0 : w0 ≤ 200) {w1 : Int} (ew1 : h.2.2 7 2 = w1) (lw1 : 0 ≤ w1) (uw1 : w1 ≤ 199) : ∀ N : Nat, (∀ (h1 : JH) (x4 x5 x6 y0 : Int), Gd G h1 → Kp [(7, 2), (7, 3), (7, 4), (10, 0), (11, 0), (12, 0), (13, 0), (14, 0), (15, 0), (16, 0), (17, 0)] h h1 → (-2147483648) ≤ a3 → a3 ≤ 2147483647 → 0 ≤ x4 → x4 ≤ 3 → (-1) ≤ x5 → x5 ≤ 199 → 0 ≤ x6 → x6 ≤ 3 → (w0 + (-y0)) ≤ 0 → ((-x5) + (-y0)) ≤ 1 → h1.2.2 7 1 = y0 → (-1) ≤ y0 → y0 ≤ 200 → ((-x6) + 3) < N → jEv (jOk 27) none (fun _ => 0) c79_0 0 0 (fun v h' => ∃ r F : Int, v = some (0, r) ∧ (-1) ≤ r ∧ r ≤ 199 ∧ Gd G h' ∧ Kp [(7, 2), (7, 3), (7, 4), (10, 0), (11, 0), (12, 0), (13, 0), (14, 0), (15, 0), (16, 0), (17, 0)] h h' ∧ h'.2.2 7 1 = F ∧ ((-F) + w0) ≤ 0 ∧ ((-F) + (-r)) ≤ 1) (c79_68, [(2, 7), (2, 1), (0, 0), (0, a3), (0, x4), (0, x5), (0, x6)], [], h1, 0, 0)) := by
  intro N
  induction N with
  | zero => exact fun h1 x4 x5 x6 y0 g1 k1 b0 b1 b2 b3 b4 b5 b6 b7 b8 b9 b10 b11 b12 hm => absurd hm (by omega)
  | succ N ih =>
    show _
    intro h1 x4 x5 x6 y0 g1 k1 b0 b1 b2 b3 b4 b5 b6 b7 b8 b9 ey0 ly0 uy0 hm
    refine ev_iload rfl ?_
    refine ev_aload_n rfl ?_
    refine ev_iload rfl ?_
    refine ev_in (d := 26) (a := 0) (b := 0) (cd' := c141_0) (m := 2) (L0 := [(2, 1), (0, x4)]) (jcall_v (A := [(0, x4)]) (S' := [(0, x6)]) (r := 1) rfl (g1.lt ad1) (g1.tg ad1) (Nat.le_of_ble_eq_true rfl)) (by decide) ml141 pp141 (Nat.le_of_ble_eq_true rfl) rfl (by decide) (by decide) ?_
    refine ev_aload_n rfl ?_
    refine ev_iload_n rfl ?_
    refine ev_in (d := 25) (a := 0) (b := 0) (cd' := c140_0) (m := 2) (L0 := [(2, 1), (0, x4)]) (jcall_v (A := [(0, x4)]) (S' := []) (r := 1) rfl (g1.lt ad1) (g1.tg ad1) (Nat.le_of_ble_eq_true rfl)) (by decide) ml140 pp140 (Nat.le_of_ble_eq_true rfl) rfl (by decide) (by decide) ?_
    refine ev_iload_n rfl ?_
    refine ev_iflt f140_16 (fun c24657 => absurd c24657 (by omega)) (fun c24657 => ?_)
    refine ev_iload_n rfl ?_
    refine ev_aload_n rfl ?_
    obtain ⟨v24658, ev24658, lv24658, uv24658⟩ := g1.rd ad1 (show 0 < 8 by decide) rf1_0
    refine g_getv (r := 1) (v := v24658) g1 ad1 (by decide) ft10_0 ev24658 ?_
    refine ev_icmpge f140_16 (fun c24659 => ?_) (fun c24659 => ?_)
    · refine ev_iconst ?_
      refine ev_ret rfl (by decide) (by decide) ?_
      show jEv _ _ _ _ _ _ _ (_, [(2, 1), (0, x4)], [(0, 0)], _, _, _)
      refine ev_ifeq f141_17 (fun c24660 => ?_) (fun c24660 => absurd c24660 (by omega))
      refine ev_iconst ?_
      refine ev_ret rfl (by decide) (by decide) ?_
      show jEv _ _ _ _ _ _ _ (_, [(2, 7), (2, 1), (0, 0), (0, a3), (0, x4), (0, x5), (0, x6)], [(0, 0), (0, x6)], _, _, _)
      refine ev_icmpge f79_126 (fun c24661 => ?_) (fun c24661 => absurd c24661 (by omega))
      refine ev_aload_n rfl ?_
      refine ev_bipush ?_
      refine ev_call (jcall_v (A := [(0, 41)]) (S' := []) (r := 7) rfl (g1.lt ad7) (g1.tg ad7) (Nat.le_of_ble_eq_true rfl)) (jOk_le (by decide) (s71 g1 (by omega) (by omega) (ey0) (by omega) (by omega))) (by decide) (by decide) (fun w24662 h24662 q24662 => ?_)
      obtain ⟨v24663, rfl, g24662, kk24662, ev24663, p24662_0⟩ := q24662
      have bv24663 := g24662.rg ad7 (i := 1) (by decide) rf7_1
      rw [ev24663] at bv24663
      have k24662 := k1.tr kk24662 (by decide)
      show jEv _ _ _ _ _ _ _ (_, [(2, 7), (2, 1), (0, 0), (0, a3), (0, x4), (0, x5), (0, x6)], [], _, _, _)
      refine ev_aload_n rfl ?_
      refine g_getv (r := 7) (v := v24663) g24662 ad7 (by decide) ft5_1 (ev24663) ?_
      refine ev_ifge f79_144 (fun c24664 => ?_) (fun c24664 => ?_)
      · refine ev_iconst ?_
        exact ev_ret rfl (by decide) (by decide) ⟨_, _, rfl, by omega, by omega, g24662, k24662, (ev24663), by omega, by omega⟩
      · refine ev_iload rfl ?_
        refine ev_ifge f79_146 (fun c24665 => ?_) (fun c24665 => absurd c24665 (by omega))
        refine ev_aload_n rfl ?_
        refine g_getp (r := 7) (c := 11) g24662 ad7 (by decide) (by decide) rf7_8 ft5_8 ?_
        refine ev_iload rfl ?_
        refine ev_iload rfl ?_
        refine g_iast g24662 ad11 rt11 (fun _ => rfl) (by omega) (by omega) (by omega) (by omega) (fun h24666 e24666 g24666 => ?_)
        have k24666 := k24662.wr e24666 rfl
        refine ev_aload_n rfl ?_
        refine g_getp (r := 7) (c := 15) g24666 ad7 (by decide) (by decide) rf7_12 ft5_12 ?_
        refine ev_iload rfl ?_
        refine ev_dup2 (by decide) (by decide) ?_
        refine g_iald g24666 ad15 rt15 (by omega) (by omega) (fun v24667 ev24667 lv24667 uv24667 => ?_)
        refine ev_iconst ?_
        refine ev_iload rfl ?_
        refine g_ishlB (a' := 1) (a := 1) (b := 3) (hi := 8) (by omega) (by omega) (by omega) (by omega) (by decide) (by decide) (fun v24668 ev24668 lv24668 uv24668 => ?_)
        refine g_iorG (fun v24669 ev24669 lv24669 uv24669 => ?_)
        refine g_iast g24666 ad15 rt15 (fun _ => rfl) (by omega) (by omega) (by omega) (by omega) (fun h24670 e24670 g24670 => ?_)
        have k24670 := k24666.wr e24670 rfl
        refine ev_iload rfl ?_
        exact ev_ret rfl (by decide) (by decide) ⟨_, _, rfl, by omega, by omega, g24670, k24670, (((jw_ne e24670 (Or.inl (by decide))).trans ((jw_ne e24666 (Or.inl (by decide))).trans ev24663))), by omega, by omega⟩
    · refine ev_iconst ?_
      refine ev_goto f140_17 ?_
      refine ev_ret rfl (by decide) (by decide) ?_
      show jEv _ _ _ _ _ _ _ (_, [(2, 1), (0, x4)], [(0, 1)], _, _, _)
      refine ev_ifeq f141_17 (fun c24671 => absurd c24671 (by omega)) (fun c24671 => ?_)
      refine ev_aload_n rfl ?_
      refine g_getp (r := 1) (c := 2) g1 ad1 (by decide) (by decide) rf1_3 ft10_3 ?_
      refine ev_iload_n rfl ?_
      refine g_iald g1 ad2 rt2 (by omega) (by omega) (fun v24672 ev24672 lv24672 uv24672 => ?_)
      refine ev_goto f141_18 ?_
      refine ev_ret rfl (by decide) (by decide) ?_
      show jEv _ _ _ _ _ _ _ (_, [(2, 7), (2, 1), (0, 0), (0, a3), (0, x4), (0, x5), (0, x6)], [(0, v24672), (0, x6)], _, _, _)
      refine ev_icmpge f79_126 (fun c24673 => ?_) (fun c24673 => ?_)
      · refine ev_aload_n rfl ?_
        refine ev_bipush ?_
        refine ev_call (jcall_v (A := [(0, 41)]) (S' := []) (r := 7) rfl (g1.lt ad7) (g1.tg ad7) (Nat.le_of_ble_eq_true rfl)) (jOk_le (by decide) (s71 g1 (by omega) (by omega) (ey0) (by omega) (by omega))) (by decide) (by decide) (fun w24674 h24674 q24674 => ?_)
        obtain ⟨v24675, rfl, g24674, kk24674, ev24675, p24674_0⟩ := q24674
        have bv24675 := g24674.rg ad7 (i := 1) (by decide) rf7_1
        rw [ev24675] at bv24675
        have k24674 := k1.tr kk24674 (by decide)
        show jEv _ _ _ _ _ _ _ (_, [(2, 7), (2, 1), (0, 0), (0, a3), (0, x4), (0, x5), (0, x6)], [], _, _, _)
        refine ev_aload_n rfl ?_
        refine g_getv (r := 7) (v := v24675) g24674 ad7 (by decide) ft5_1 (ev24675) ?_
        refine ev_ifge f79_144 (fun c24676 => ?_) (fun c24676 => ?_)
        · refine ev_iconst ?_
          exact ev_ret rfl (by decide) (by decide) ⟨_, _, rfl, by omega, by omega, g24674, k24674, (ev24675), by omega, by omega⟩
        · refine ev_iload rfl ?_
          refine ev_ifge f79_146 (fun c24677 => ?_) (fun c24677 => absurd c24677 (by omega))
          refine ev_aload_n rfl ?_
          refine g_getp (r := 7) (c := 11) g24674 ad7 (by decide) (by decide) rf7_8 ft5_8 ?_
          refine ev_iload rfl ?_
          refine ev_iload rfl ?_
          refine g_iast g24674 ad11 rt11 (fun _ => rfl) (by omega) (by omega) (by omega) (by omega) (fun h24678 e24678 g24678 => ?_)
          have k24678 := k24674.wr e24678 rfl
          refine ev_aload_n rfl ?_
          refine g_getp (r := 7) (c := 15) g24678 ad7 (by decide) (by decide) rf7_12 ft5_12 ?_
          refine ev_iload rfl ?_
          refine ev_dup2 (by decide) (by decide) ?_
          refine g_iald g24678 ad15 rt15 (by omega) (by omega) (fun v24679 ev24679 lv24679 uv24679 => ?_)
          refine ev_iconst ?_
          refine ev_iload rfl ?_
          refine g_ishlB (a' := 1) (a := 1) (b := 3) (hi := 8) (by omega) (by omega) (by omega) (by omega) (by decide) (by decide) (fun v24680 ev24680 lv24680 uv24680 => ?_)
          refine g_iorG (fun v24681 ev24681 lv24681 uv24681 => ?_)
          refine g_iast g24678 ad15 rt15 (fun _ => rfl) (by omega) (by omega) (by omega) (by omega) (fun h24682 e24682 g24682 => ?_)
          have k24682 := k24678.wr e24682 rfl
          refine ev_iload rfl ?_
          exact ev_ret rfl (by decide) (by decide) ⟨_, _, rfl, by omega, by omega, g24682, k24682, (((jw_ne e24682 (Or.inl (by decide))).trans ((jw_ne e24678 (Or.inl (by decide))).trans ev24675))), by omega, by omega⟩
      · refine ev_aload_n rfl ?_
        refine g_getv (r := 7) (v := y0) g1 ad7 (by decide) ft5_1 (ey0) ?_
        refine ev_ifge f79_126 (fun c24683 => ?_) (fun c24683 => ?_)
        · refine ev_aload_n rfl ?_
          refine ev_bipush ?_
          refine ev_call (jcall_v (A := [(0, 41)]) (S' := []) (r := 7) rfl (g1.lt ad7) (g1.tg ad7) (Nat.le_of_ble_eq_true rfl)) (jOk_le (by decide) (s71 g1 (by omega) (by omega) (ey0) (by omega) (by omega))) (by decide) (by decide) (fun w24684 h24684 q24684 => ?_)
          obtain ⟨v24685, rfl, g24684, kk24684, ev24685, p24684_0⟩ := q24684
          have bv24685 := g24684.rg ad7 (i := 1) (by decide) rf7_1
          rw [ev24685] at bv24685
          have k24684 := k1.tr kk24684 (by decide)
          show jEv _ _ _ _ _ _ _ (_, [(2, 7), (2, 1), (0, 0), (0, a3), (0, x4), (0, x5), (0, x6)], [], _, _, _)
          refine ev_aload_n rfl ?_
          refine g_getv (r := 7) (v := v24685) g24684 ad7 (by decide) ft5_1 (ev24685) ?_
          refine ev_ifge f79_144 (fun c24686 => ?_) (fun c24686 => absurd c24686 (by omega))
          refine ev_iconst ?_
          exact ev_ret rfl (by decide) (by decide) ⟨_, _, rfl, by omega, by omega, g24684, k24684, (ev24685), by omega, by omega⟩
        · refine ev_iload rfl ?_
          refine ev_ifle f79_97 (fun c24687 => ?_) (fun c24687 => ?_)
          · refine ev_aload_n rfl ?_
            refine ev_iload rfl ?_
            refine ev_iload rfl ?_
            refine ev_iconst ?_
            refine ev_aload_n rfl ?_
            refine ev_aload_n rfl ?_
            refine ev_iload_n rfl ?_
            refine ev_iconst ?_
            refine ev_iadd (r := 1) (by decide) ?_
            refine ev_iload_n rfl ?_
            refine ev_iconst ?_
            refine ev_iload rfl ?_
            refine g_ishlB (a' := 1) (a := 1) (b := 3) (hi := 8) (by omega) (by omega) (by omega) (by omega) (by decide) (by decide) (fun v24688 ev24688 lv24688 uv24688 => ?_)
            refine g_iorG (fun v24689 ev24689 lv24689 uv24689 => ?_)
            refine ev_call (jcall_v (A := [(0, v24689), (0, 1), (2, 1)]) (S' := [(0, 0), (0, x6), (0, x5), (2, 7)]) (r := 7) rfl (g1.lt ad7) (g1.tg ad7) (Nat.le_of_ble_eq_true rfl)) (jOk_le (by decide) (s74_1 g1 (by omega) (by omega) (ey0) (by omega) (by omega))) (by decide) (by decide) (fun w24690 h24690 q24690 => ?_)
            obtain ⟨v24692, v24691, rfl, lv24692, uv24692, g24690, kk24690, ev24691, p24690_0, p24690_1⟩ := q24690
            have bv24691 := g24690.rg ad7 (i := 1) (by decide) rf7_1
            rw [ev24691] at bv24691
            have k24690 := k1.tr kk24690 (by decide)
            show jEv _ _ _ _ _ _ _ (_, [(2, 7), (2, 1), (0, 0), (0, a3), (0, x4), (0, x5), (0, x6)], [(0, v24692), (0, 0), (0, x6), (0, x5), (2, 7)], _, _, _)
            refine ev_call (jcall_v (A := [(0, v24692), (0, 0), (0, x6), (0, x5)]) (S' := []) (r := 7) rfl (g24690.lt ad7) (g24690.tg ad7) (Nat.le_of_ble_eq_true rfl)) (jOk_le (by decide) (s80 g24690 (by omega) (by omega) (by omega) (by omega) (by omega) (by omega) (by omega) (by omega))) (by decide) (by decide) (fun w24693 h24693 q24693 => ?_)
            obtain ⟨rfl, g24693, kk24693⟩ := q24693
            have k24693 := k24690.tr kk24693 (by decide)
            show jEv _ _ _ _ _ _ _ (_, [(2, 7), (2, 1), (0, 0), (0, a3), (0, x4), (0, x5), (0, x6)], [], _, _, _)
            refine ev_iinc (w := (x6 + 1)) (L' := [(2, 7), (2, 1), (0, 0), (0, a3), (0, x4), (0, x5), (0, (x6 + 1))]) rfl (by unfold w32; omega) rfl ?_
            refine ev_goto f79_68 ?_
            exact ih _ _ _ _ _ g24693 k24693 (by omega) (by omega) (by omega) (by omega) (by omega) (by omega) (by omega) (by omega) (by omega) (by omega) (((kk24693.v (by decide)).trans ev24691)) (by omega) (by omega) (by omega)
          · refine ev_aload_n rfl ?_
            refine ev_bipush ?_
            refine ev_call (jcall_v (A := [(0, 44)]) (S' := []) (r := 7) rfl (g1.lt ad7) (g1.tg ad7) (Nat.le_of_ble_eq_true rfl)) (jOk_le (by decide) (s71 g1 (by omega) (by omega) (ey0) (by omega) (by omega))) (by decide) (by decide) (fun w24694 h24694 q24694 => ?_)
            obtain ⟨v24695, rfl, g24694, kk24694, ev24695, p24694_0⟩ := q24694
            have bv24695 := g24694.rg ad7 (i := 1) (by decide) rf7_1
            rw [ev24695] at bv24695
            have k24694 := k1.tr kk24694 (by decide)
            show jEv _ _ _ _ _ _ _ (_, [(2, 7), (2, 1), (0, 0), (0, a3), (0, x4), (0, x5), (0, x6)], [], _, _, _)
            refine ev_aload_n rfl ?_
            refine ev_iload rfl ?_
            refine ev_iload rfl ?_
            refine ev_iconst ?_
            refine ev_aload_n rfl ?_
            refine ev_aload_n rfl ?_
            refine ev_iload_n rfl ?_
            refine ev_iconst ?_
            refine ev_iadd (r := 1) (by decide) ?_
            refine ev_iload_n rfl ?_
            refine ev_iconst ?_
            refine ev_iload rfl ?_
            refine g_ishlB (a' := 1) (a := 1) (b := 3) (hi := 8) (by omega) (by omega) (by omega) (by omega) (by decide) (by decide) (fun v24696 ev24696 lv24696 uv24696 => ?_)
            refine g_iorG (fun v24697 ev24697 lv24697 uv24697 => ?_)
            refine ev_call (jcall_v (A := [(0, v24697), (0, 1), (2, 1)]) (S' := [(0, 0), (0, x6), (0, x5), (2, 7)]) (r := 7) rfl (g24694.lt ad7) (g24694.tg ad7) (Nat.le_of_ble_eq_true rfl)) (jOk_le (by decide) (s74_1 g24694 (by omega) (by omega) (ev24695) (by omega) (by omega))) (by decide) (by decide) (fun w24698 h24698 q24698 => ?_)
            obtain ⟨v24700, v24699, rfl, lv24700, uv24700, g24698, kk24698, ev24699, p24698_0, p24698_1⟩ := q24698
            have bv24699 := g24698.rg ad7 (i := 1) (by decide) rf7_1
            rw [ev24699] at bv24699
            have k24698 := k24694.tr kk24698 (by decide)
            show jEv _ _ _ _ _ _ _ (_, [(2, 7), (2, 1), (0, 0), (0, a3), (0, x4), (0, x5), (0, x6)], [(0, v24700), (0, 0), (0, x6), (0, x5), (2, 7)], _, _, _)
            refine ev_call (jcall_v (A := [(0, v24700), (0, 0), (0, x6), (0, x5)]) (S' := []) (r := 7) rfl (g24698.lt ad7) (g24698.tg ad7) (Nat.le_of_ble_eq_true rfl)) (jOk_le (by decide) (s80 g24698 (by omega) (by omega) (by omega) (by omega) (by omega) (by omega) (by omega) (by omega))) (by decide) (by decide) (fun w24701 h24701 q24701 => ?_)
            obtain ⟨rfl, g24701, kk24701⟩ := q24701
            have k24701 := k24698.tr kk24701 (by decide)
            show jEv _ _ _ _ _ _ _ (_, [(2, 7), (2, 1), (0, 0), (0, a3), (0, x4), (0, x5), (0, x6)], [], _, _, _)
            refine ev_iinc (w := (x6 + 1)) (L' := [(2, 7), (2, 1), (0, 0), (0, a3), (0, x4), (0, x5), (0, (x6 + 1))]) rfl (by unfold w32; omega) rfl ?_
            refine ev_goto f79_68 ?_
            exact ih _ _ _ _ _ g24701 k24701 (by omega) (by omega) (by omega) (by omega) (by omega) (by omega) (by omega) (by omega) (by omega) (by omega) (((kk24701.v (by decide)).trans ev24699)) (by omega) (by omega) (by omega)
set_option maxHeartbeats 4000000 in
theorem s79_0 {G : GH} {h : JH} (g : Gd G h) {a3 : Int} (la3 : (-2147483648) ≤ a3) (ua3 : a3 ≤ 2147483647) {w0 : Int} (ew0 : h.2.2 7 1 = w0) (lw0 : (-1) ≤ w0) (uw0 : w0 ≤ 200) {w1 : Int} (ew1 : h.2.2 7 2 = w1) (lw1 : 0 ≤ w1) (uw1 : w1 ≤ 199) : jOk 28 0 0 79 [(2, 7), (2, 1), (0, 0), (0, a3)] h (fun v h' => ∃ r F : Int, v = some (0, r) ∧ (-1) ≤ r ∧ r ≤ 199 ∧ Gd G h' ∧ Kp [(7, 2), (7, 3), (7, 4), (10, 0), (11, 0), (12, 0), (13, 0), (14, 0), (15, 0), (16, 0), (17, 0)] h h' ∧ h'.2.2 7 1 = F ∧ ((-F) + w0) ≤ 0 ∧ ((-F) + (-r)) ≤ 1) := by
  refine ⟨by decide, by rw [ml79]; exact Nat.le_of_ble_eq_true rfl, ?_⟩
  rw [ml79, pp79]
  show jEv _ none _ c79_0 0 0 _ (c79_0, [(2, 7), (2, 1), (0, 0), (0, a3), (9, 0), (9, 0), (9, 0)], [], h, 0, 0)
  have k0 := Kp.rf [(7, 2), (7, 3), (7, 4), (10, 0), (11, 0), (12, 0), (13, 0), (14, 0), (15, 0), (16, 0), (17, 0)] h
  refine ev_aload_n rfl ?_
  refine ev_dup (by decide) ?_
  refine g_getv (r := 7) (v := w1) g ad7 (by decide) ft5_2 (ew1) ?_
  refine ev_iconst ?_
  refine ev_iadd (r := (w1 + 1)) (by unfold w32; omega) ?_
  refine g_putf (r := 7) g ad7 (by decide) ft5_2 (by decide) (fun e => absurd e nz5_2) rf7_2 (by decide) (by omega) (by omega) (fun h24702 e24702 g24702 => ?_)
  have k24702 := k0.wr e24702 rfl
  refine ev_aload_n rfl ?_
  refine ev_in (d := 26) (a := 0) (b := 0) (cd' := c68_0) (m := 1) (L0 := [(2, 7)]) (jcall_v (A := []) (S' := []) (r := 7) rfl (g24702.lt ad7) (g24702.tg ad7) (Nat.le_of_ble_eq_true rfl)) (by decide) ml68 pp68 (Nat.le_of_ble_eq_true rfl) rfl (by decide) (by decide) ?_
  refine ev_aload_n rfl ?_
  refine g_getv (r := 7) (v := (w1 + 1)) g24702 ad7 (by decide) ft5_2 ((jw_eq e24702)) ?_
  refine ev_aload_n rfl ?_
  obtain ⟨v24703, ev24703, lv24703, uv24703⟩ := g24702.rd ad7 (show 0 < 15 by decide) rf7_0
  refine g_getv (r := 7) (v := v24703) g24702 ad7 (by decide) ft5_0 ev24703 ?_
  refine ev_icmpge f68_27 (fun c24704 => ?_) (fun c24704 => ?_)
  · refine ev_iconst ?_
    refine ev_ret rfl (by decide) (by decide) ?_
    show jEv _ _ _ _ _ _ _ (_, [(2, 7), (2, 1), (0, 0), (0, a3), (9, 0), (9, 0), (9, 0)], [(0, (-1))], _, _, _)
    refine ev_bipush ?_
    refine ev_isub (r := (-98)) (by decide) ?_
    refine ev_istore (L' := [(2, 7), (2, 1), (0, 0), (0, a3), (0, (-98)), (9, 0), (9, 0)]) (Nat.le_of_ble_eq_true rfl) rfl ?_
    refine ev_aload_n rfl ?_
    refine ev_iload rfl ?_
    refine ev_in (d := 26) (a := 0) (b := 0) (cd' := c140_0) (m := 2) (L0 := [(2, 1), (0, (-98))]) (jcall_v (A := [(0, (-98))]) (S' := []) (r := 1) rfl (g24702.lt ad1) (g24702.tg ad1) (Nat.le_of_ble_eq_true rfl)) (by decide) ml140 pp140 (Nat.le_of_ble_eq_true rfl) rfl (by decide) (by decide) ?_
    refine ev_iload_n rfl ?_
    refine ev_iflt f140_16 (fun c24705 => ?_) (fun c24705 => absurd c24705 (by omega))
    refine ev_iconst ?_
    refine ev_ret rfl (by decide) (by decide) ?_
    show jEv _ _ _ _ _ _ _ (_, [(2, 7), (2, 1), (0, 0), (0, a3), (0, (-98)), (9, 0), (9, 0)], [(0, 0)], _, _, _)
    refine ev_ifeq f79_37 (fun c24706 => ?_) (fun c24706 => absurd c24706 (by omega))
    refine ev_aload_n rfl ?_
    refine ev_in (d := 26) (a := 0) (b := 0) (cd' := c70_0) (m := 1) (L0 := [(2, 7)]) (jcall_v (A := []) (S' := []) (r := 7) rfl (g24702.lt ad7) (g24702.tg ad7) (Nat.le_of_ble_eq_true rfl)) (by decide) ml70 pp70 (Nat.le_of_ble_eq_true rfl) rfl (by decide) (by decide) ?_
    refine ev_aload_n rfl ?_
    refine g_getv (r := 7) (v := w0) g24702 ad7 (by decide) ft5_1 (((jw_ne e24702 (Or.inr (by decide))).trans ew0)) ?_
    refine ev_ifge f70_15 (fun c24707 => ?_) (fun c24707 => ?_)
    · refine ev_ret rfl (by decide) (by decide) ?_
      show jEv _ _ _ _ _ _ _ (_, [(2, 7), (2, 1), (0, 0), (0, a3), (0, (-98)), (9, 0), (9, 0)], [], _, _, _)
      refine ev_iconst ?_
      exact ev_ret rfl (by decide) (by decide) ⟨_, _, rfl, by omega, by omega, g24702, k24702, (((jw_ne e24702 (Or.inr (by decide))).trans ew0)), by omega, by omega⟩
    · refine ev_aload_n rfl ?_
      refine ev_aload_n rfl ?_
      refine g_getv (r := 7) (v := (w1 + 1)) g24702 ad7 (by decide) ft5_2 ((jw_eq e24702)) ?_
      refine g_putf (r := 7) g24702 ad7 (by decide) ft5_1 (by decide) (fun e => absurd e nz5_1) rf7_1 (by decide) (by omega) (by omega) (fun h24708 e24708 g24708 => ?_)
      have k24708 := k24702.wr e24708 rfl
      refine ev_ret rfl (by decide) (by decide) ?_
      show jEv _ _ _ _ _ _ _ (_, [(2, 7), (2, 1), (0, 0), (0, a3), (0, (-98)), (9, 0), (9, 0)], [], _, _, _)
      refine ev_iconst ?_
      exact ev_ret rfl (by decide) (by decide) ⟨_, _, rfl, by omega, by omega, g24708, k24708, ((jw_eq e24708)), by omega, by omega⟩
  · refine ev_aload_n rfl ?_
    refine g_getp (r := 7) (c := 8) g24702 ad7 (by decide) (by decide) rf7_5 ft5_5 ?_
    refine ev_aload_n rfl ?_
    refine g_getv (r := 7) (v := (w1 + 1)) g24702 ad7 (by decide) ft5_2 ((jw_eq e24702)) ?_
    refine g_bald g24702 ad8 rt8 (by omega) (by omega) (fun v24709 ev24709 lv24709 uv24709 => ?_)
    refine ev_sipush ?_
    refine g_iandB (b := 255) (by omega) (by omega) (by decide) (fun v24710 ev24710 lv24710 uv24710 => ?_)
    refine ev_goto f68_28 ?_
    refine ev_ret rfl (by decide) (by decide) ?_
    show jEv _ _ _ _ _ _ _ (_, [(2, 7), (2, 1), (0, 0), (0, a3), (9, 0), (9, 0), (9, 0)], [(0, v24710)], _, _, _)
    refine ev_bipush ?_
    refine ev_isub (r := (v24710 - 97)) (by unfold w32; omega) ?_
    refine ev_istore (L' := [(2, 7), (2, 1), (0, 0), (0, a3), (0, (v24710 - 97)), (9, 0), (9, 0)]) (Nat.le_of_ble_eq_true rfl) rfl ?_
    refine ev_aload_n rfl ?_
    refine ev_iload rfl ?_
    refine ev_in (d := 26) (a := 0) (b := 0) (cd' := c140_0) (m := 2) (L0 := [(2, 1), (0, (v24710 - 97))]) (jcall_v (A := [(0, (v24710 - 97))]) (S' := []) (r := 1) rfl (g24702.lt ad1) (g24702.tg ad1) (Nat.le_of_ble_eq_true rfl)) (by decide) ml140 pp140 (Nat.le_of_ble_eq_true rfl) rfl (by decide) (by decide) ?_
    refine ev_iload_n rfl ?_
    refine ev_iflt f140_16 (fun c24711 => ?_) (fun c24711 => ?_)
    · refine ev_iconst ?_
      refine ev_ret rfl (by decide) (by decide) ?_
      show jEv _ _ _ _ _ _ _ (_, [(2, 7), (2, 1), (0, 0), (0, a3), (0, (v24710 - 97)), (9, 0), (9, 0)], [(0, 0)], _, _, _)
      refine ev_ifeq f79_37 (fun c24712 => ?_) (fun c24712 => absurd c24712 (by omega))
      refine ev_aload_n rfl ?_
      refine ev_in (d := 26) (a := 0) (b := 0) (cd' := c70_0) (m := 1) (L0 := [(2, 7)]) (jcall_v (A := []) (S' := []) (r := 7) rfl (g24702.lt ad7) (g24702.tg ad7) (Nat.le_of_ble_eq_true rfl)) (by decide) ml70 pp70 (Nat.le_of_ble_eq_true rfl) rfl (by decide) (by decide) ?_
      refine ev_aload_n rfl ?_
      refine g_getv (r := 7) (v := w0) g24702 ad7 (by decide) ft5_1 (((jw_ne e24702 (Or.inr (by decide))).trans ew0)) ?_
      refine ev_ifge f70_15 (fun c24713 => ?_) (fun c24713 => ?_)
      · refine ev_ret rfl (by decide) (by decide) ?_
        show jEv _ _ _ _ _ _ _ (_, [(2, 7), (2, 1), (0, 0), (0, a3), (0, (v24710 - 97)), (9, 0), (9, 0)], [], _, _, _)
        refine ev_iconst ?_
        exact ev_ret rfl (by decide) (by decide) ⟨_, _, rfl, by omega, by omega, g24702, k24702, (((jw_ne e24702 (Or.inr (by decide))).trans ew0)), by omega, by omega⟩
      · refine ev_aload_n rfl ?_
        refine ev_aload_n rfl ?_
        refine g_getv (r := 7) (v := (w1 + 1)) g24702 ad7 (by decide) ft5_2 ((jw_eq e24702)) ?_
        refine g_putf (r := 7) g24702 ad7 (by decide) ft5_1 (by decide) (fun e => absurd e nz5_1) rf7_1 (by decide) (by omega) (by omega) (fun h24714 e24714 g24714 => ?_)
        have k24714 := k24702.wr e24714 rfl
        refine ev_ret rfl (by decide) (by decide) ?_
        show jEv _ _ _ _ _ _ _ (_, [(2, 7), (2, 1), (0, 0), (0, a3), (0, (v24710 - 97)), (9, 0), (9, 0)], [], _, _, _)
        refine ev_iconst ?_
        exact ev_ret rfl (by decide) (by decide) ⟨_, _, rfl, by omega, by omega, g24714, k24714, ((jw_eq e24714)), by omega, by omega⟩
    · refine ev_iload_n rfl ?_
      refine ev_aload_n rfl ?_
      obtain ⟨v24715, ev24715, lv24715, uv24715⟩ := g24702.rd ad1 (show 0 < 8 by decide) rf1_0
      refine g_getv (r := 1) (v := v24715) g24702 ad1 (by decide) ft10_0 ev24715 ?_
      refine ev_icmpge f140_16 (fun c24716 => ?_) (fun c24716 => ?_)
      · refine ev_iconst ?_
        refine ev_ret rfl (by decide) (by decide) ?_
        show jEv _ _ _ _ _ _ _ (_, [(2, 7), (2, 1), (0, 0), (0, a3), (0, (v24710 - 97)), (9, 0), (9, 0)], [(0, 0)], _, _, _)
        refine ev_ifeq f79_37 (fun c24717 => ?_) (fun c24717 => absurd c24717 (by omega))
        refine ev_aload_n rfl ?_
        refine ev_in (d := 26) (a := 0) (b := 0) (cd' := c70_0) (m := 1) (L0 := [(2, 7)]) (jcall_v (A := []) (S' := []) (r := 7) rfl (g24702.lt ad7) (g24702.tg ad7) (Nat.le_of_ble_eq_true rfl)) (by decide) ml70 pp70 (Nat.le_of_ble_eq_true rfl) rfl (by decide) (by decide) ?_
        refine ev_aload_n rfl ?_
        refine g_getv (r := 7) (v := w0) g24702 ad7 (by decide) ft5_1 (((jw_ne e24702 (Or.inr (by decide))).trans ew0)) ?_
        refine ev_ifge f70_15 (fun c24718 => ?_) (fun c24718 => ?_)
        · refine ev_ret rfl (by decide) (by decide) ?_
          show jEv _ _ _ _ _ _ _ (_, [(2, 7), (2, 1), (0, 0), (0, a3), (0, (v24710 - 97)), (9, 0), (9, 0)], [], _, _, _)
          refine ev_iconst ?_
          exact ev_ret rfl (by decide) (by decide) ⟨_, _, rfl, by omega, by omega, g24702, k24702, (((jw_ne e24702 (Or.inr (by decide))).trans ew0)), by omega, by omega⟩
        · refine ev_aload_n rfl ?_
          refine ev_aload_n rfl ?_
          refine g_getv (r := 7) (v := (w1 + 1)) g24702 ad7 (by decide) ft5_2 ((jw_eq e24702)) ?_
          refine g_putf (r := 7) g24702 ad7 (by decide) ft5_1 (by decide) (fun e => absurd e nz5_1) rf7_1 (by decide) (by omega) (by omega) (fun h24719 e24719 g24719 => ?_)
          have k24719 := k24702.wr e24719 rfl
          refine ev_ret rfl (by decide) (by decide) ?_
          show jEv _ _ _ _ _ _ _ (_, [(2, 7), (2, 1), (0, 0), (0, a3), (0, (v24710 - 97)), (9, 0), (9, 0)], [], _, _, _)
          refine ev_iconst ?_
          exact ev_ret rfl (by decide) (by decide) ⟨_, _, rfl, by omega, by omega, g24719, k24719, ((jw_eq e24719)), by omega, by omega⟩
      · refine ev_iconst ?_
        refine ev_goto f140_17 ?_
        refine ev_ret rfl (by decide) (by decide) ?_
        show jEv _ _ _ _ _ _ _ (_, [(2, 7), (2, 1), (0, 0), (0, a3), (0, (v24710 - 97)), (9, 0), (9, 0)], [(0, 1)], _, _, _)
        refine ev_ifeq f79_37 (fun c24720 => absurd c24720 (by omega)) (fun c24720 => ?_)
        refine ev_iload_n rfl ?_
        refine ev_iload rfl ?_
        refine g_ishrG (fun v24721 ev24721 lv24721 uv24721 => ?_)
        refine ev_iconst ?_
        refine g_iandB (b := 1) (by omega) (by omega) (by decide) (fun v24722 ev24722 lv24722 uv24722 => ?_)
        refine ev_ifeq f79_43 (fun c24723 => ?_) (fun c24723 => ?_)
        · refine ev_aload_n rfl ?_
          refine ev_dup (by decide) ?_
          refine g_getv (r := 7) (v := (w1 + 1)) g24702 ad7 (by decide) ft5_2 ((jw_eq e24702)) ?_
          refine ev_iconst ?_
          refine ev_iadd (r := (w1 + 2)) (by unfold w32; omega) ?_
          refine g_putf (r := 7) g24702 ad7 (by decide) ft5_2 (by decide) (fun e => absurd e nz5_2) rf7_2 (by decide) (by omega) (by omega) (fun h24724 e24724 g24724 => ?_)
          have k24724 := k24702.wr e24724 rfl
          refine ev_aload_n rfl ?_
          refine ev_iload_n rfl ?_
          refine ev_call (jcall_v (A := [(0, 0)]) (S' := []) (r := 7) rfl (g24724.lt ad7) (g24724.tg ad7) (Nat.le_of_ble_eq_true rfl)) (jOk_le (by decide) (s72 g24724 (by omega) (by omega) (((jw_ne e24724 (Or.inr (by decide))).trans ((jw_ne e24702 (Or.inr (by decide))).trans ew0))) (by omega) (by omega))) (by decide) (by decide) (fun w24725 h24725 q24725 => ?_)
          obtain ⟨v24726, rfl, g24725, kk24725, ev24726, p24725_0⟩ := q24725
          have bv24726 := g24725.rg ad7 (i := 1) (by decide) rf7_1
          rw [ev24726] at bv24726
          have k24725 := k24724.tr kk24725 (by decide)
          show jEv _ _ _ _ _ _ _ (_, [(2, 7), (2, 1), (0, 0), (0, a3), (0, (v24710 - 97)), (9, 0), (9, 0)], [], _, _, _)
          refine ev_aload_n rfl ?_
          refine ev_iconst ?_
          refine ev_call (jcall_v (A := [(0, 2)]) (S' := []) (r := 7) rfl (g24725.lt ad7) (g24725.tg ad7) (Nat.le_of_ble_eq_true rfl)) (jOk_le (by decide) (s73 g24725 (by omega) (by omega) (ev24726) (by omega) (by omega))) (by decide) (by decide) (fun w24727 h24727 q24727 => ?_)
          obtain ⟨v24729, v24728, rfl, lv24729, uv24729, g24727, kk24727, ev24728, p24727_0, p24727_1⟩ := q24727
          have bv24728 := g24727.rg ad7 (i := 1) (by decide) rf7_1
          rw [ev24728] at bv24728
          have k24727 := k24725.tr kk24727 (by decide)
          show jEv _ _ _ _ _ _ _ (_, [(2, 7), (2, 1), (0, 0), (0, a3), (0, (v24710 - 97)), (9, 0), (9, 0)], [(0, v24729)], _, _, _)
          refine ev_istore (L' := [(2, 7), (2, 1), (0, 0), (0, a3), (0, (v24710 - 97)), (0, v24729), (9, 0)]) (Nat.le_of_ble_eq_true rfl) rfl ?_
          refine ev_iconst ?_
          refine ev_istore (L' := [(2, 7), (2, 1), (0, 0), (0, a3), (0, (v24710 - 97)), (0, v24729), (0, 0)]) (Nat.le_of_ble_eq_true rfl) rfl ?_
          exact (s79_0_l la3 ua3 ew0 lw0 uw0 ew1 lw1 uw1 8) _ _ _ _ _ g24727 k24727 (by omega) (by omega) (by omega) (by omega) (by omega) (by omega) (by omega) (by omega) (by omega) (by omega) (ev24728) (by omega) (by omega) (by omega)
        · refine ev_aload_n rfl ?_
          refine ev_in (d := 26) (a := 0) (b := 0) (cd' := c70_0) (m := 1) (L0 := [(2, 7)]) (jcall_v (A := []) (S' := []) (r := 7) rfl (g24702.lt ad7) (g24702.tg ad7) (Nat.le_of_ble_eq_true rfl)) (by decide) ml70 pp70 (Nat.le_of_ble_eq_true rfl) rfl (by decide) (by decide) ?_
          refine ev_aload_n rfl ?_
          refine g_getv (r := 7) (v := w0) g24702 ad7 (by decide) ft5_1 (((jw_ne e24702 (Or.inr (by decide))).trans ew0)) ?_
          refine ev_ifge f70_15 (fun c24730 => ?_) (fun c24730 => ?_)
          · refine ev_ret rfl (by decide) (by decide) ?_
            show jEv _ _ _ _ _ _ _ (_, [(2, 7), (2, 1), (0, 0), (0, a3), (0, (v24710 - 97)), (9, 0), (9, 0)], [], _, _, _)
            refine ev_iconst ?_
            exact ev_ret rfl (by decide) (by decide) ⟨_, _, rfl, by omega, by omega, g24702, k24702, (((jw_ne e24702 (Or.inr (by decide))).trans ew0)), by omega, by omega⟩
          · refine ev_aload_n rfl ?_
            refine ev_aload_n rfl ?_
            refine g_getv (r := 7) (v := (w1 + 1)) g24702 ad7 (by decide) ft5_2 ((jw_eq e24702)) ?_
            refine g_putf (r := 7) g24702 ad7 (by decide) ft5_1 (by decide) (fun e => absurd e nz5_1) rf7_1 (by decide) (by omega) (by omega) (fun h24731 e24731 g24731 => ?_)
            have k24731 := k24702.wr e24731 rfl
            refine ev_ret rfl (by decide) (by decide) ?_
            show jEv _ _ _ _ _ _ _ (_, [(2, 7), (2, 1), (0, 0), (0, a3), (0, (v24710 - 97)), (9, 0), (9, 0)], [], _, _, _)
            refine ev_iconst ?_
            exact ev_ret rfl (by decide) (by decide) ⟨_, _, rfl, by omega, by omega, g24731, k24731, ((jw_eq e24731)), by omega, by omega⟩
/-! s74_0  -/
set_option maxHeartbeats 4000000 in
theorem s74_0 {G : GH} {h : JH} (g : Gd G h) {a3 : Int} (la3 : (-2147483648) ≤ a3) (ua3 : a3 ≤ 2147483647) {w0 : Int} (ew0 : h.2.2 7 1 = w0) (lw0 : (-1) ≤ w0) (uw0 : w0 ≤ 200) : jOk 29 0 0 74 [(2, 7), (2, 1), (0, 0), (0, a3)] h (fun v h' => ∃ r F : Int, v = some (0, r) ∧ (-1) ≤ r ∧ r ≤ 199 ∧ Gd G h' ∧ Kp [(7, 2), (7, 3), (7, 4), (10, 0), (11, 0), (12, 0), (13, 0), (14, 0), (15, 0), (16, 0), (17, 0)] h h' ∧ h'.2.2 7 1 = F ∧ ((-F) + w0) ≤ 0 ∧ ((-F) + (-r)) ≤ 1) := by
  refine ⟨by decide, by rw [ml74]; exact Nat.le_of_ble_eq_true rfl, ?_⟩
  rw [ml74, pp74]
  show jEv _ none _ c74_0 0 0 _ (c74_0, [(2, 7), (2, 1), (0, 0), (0, a3), (9, 0)], [], h, 0, 0)
  have k0 := Kp.rf [(7, 2), (7, 3), (7, 4), (10, 0), (11, 0), (12, 0), (13, 0), (14, 0), (15, 0), (16, 0), (17, 0)] h
  refine ev_aload_n rfl ?_
  refine g_getv (r := 7) (v := w0) g ad7 (by decide) ft5_1 (ew0) ?_
  refine ev_ifge f74_13 (fun c24798 => ?_) (fun c24798 => ?_)
  · refine ev_aload_n rfl ?_
    refine ev_in (d := 27) (a := 0) (b := 0) (cd' := c70_0) (m := 1) (L0 := [(2, 7)]) (jcall_v (A := []) (S' := []) (r := 7) rfl (g.lt ad7) (g.tg ad7) (Nat.le_of_ble_eq_true rfl)) (by decide) ml70 pp70 (Nat.le_of_ble_eq_true rfl) rfl (by decide) (by decide) ?_
    refine ev_aload_n rfl ?_
    refine g_getv (r := 7) (v := w0) g ad7 (by decide) ft5_1 (ew0) ?_
    refine ev_ifge f70_15 (fun c24799 => ?_) (fun c24799 => absurd c24799 (by omega))
    refine ev_ret rfl (by decide) (by decide) ?_
    show jEv _ _ _ _ _ _ _ (_, [(2, 7), (2, 1), (0, 0), (0, a3), (9, 0)], [], _, _, _)
    refine ev_iconst ?_
    exact ev_ret rfl (by decide) (by decide) ⟨_, _, rfl, by omega, by omega, g, k0, (ew0), by omega, by omega⟩
  · refine ev_iload_n rfl ?_
    refine ev_bipush ?_
    refine ev_icmple f74_19 (fun c24800 => ?_) (fun c24800 => absurd c24800 (by omega))
    refine ev_aload_n rfl ?_
    refine ev_in (d := 27) (a := 0) (b := 0) (cd' := c68_0) (m := 1) (L0 := [(2, 7)]) (jcall_v (A := []) (S' := []) (r := 7) rfl (g.lt ad7) (g.tg ad7) (Nat.le_of_ble_eq_true rfl)) (by decide) ml68 pp68 (Nat.le_of_ble_eq_true rfl) rfl (by decide) (by decide) ?_
    refine ev_aload_n rfl ?_
    obtain ⟨v24801, ev24801, lv24801, uv24801⟩ := g.rd ad7 (show 2 < 15 by decide) rf7_2
    refine g_getv (r := 7) (v := v24801) g ad7 (by decide) ft5_2 ev24801 ?_
    refine ev_aload_n rfl ?_
    obtain ⟨v24802, ev24802, lv24802, uv24802⟩ := g.rd ad7 (show 0 < 15 by decide) rf7_0
    refine g_getv (r := 7) (v := v24802) g ad7 (by decide) ft5_0 ev24802 ?_
    refine ev_icmpge f68_27 (fun c24803 => ?_) (fun c24803 => ?_)
    · refine ev_iconst ?_
      refine ev_ret rfl (by decide) (by decide) ?_
      show jEv _ _ _ _ _ _ _ (_, [(2, 7), (2, 1), (0, 0), (0, a3), (9, 0)], [(0, (-1))], _, _, _)
      refine ev_istore (L' := [(2, 7), (2, 1), (0, 0), (0, a3), (0, (-1))]) (Nat.le_of_ble_eq_true rfl) rfl ?_
      refine ev_iload rfl ?_
      refine ev_bipush ?_
      refine ev_icmpne f74_40 (fun c24804 => ?_) (fun c24804 => absurd c24804 (by omega))
      refine ev_iload rfl ?_
      refine ev_bipush ?_
      refine ev_icmpne f74_55 (fun c24805 => ?_) (fun c24805 => absurd c24805 (by omega))
      refine ev_iload rfl ?_
      refine ev_bipush ?_
      refine ev_icmplt f74_78 (fun c24806 => ?_) (fun c24806 => absurd c24806 (by omega))
      refine ev_aload_n rfl ?_
      refine ev_call (jcall_v (A := []) (S' := []) (r := 7) rfl (g.lt ad7) (g.tg ad7) (Nat.le_of_ble_eq_true rfl)) (jOk_le (by decide) (s75 g (ew0) (by omega) (by omega))) (by decide) (by decide) (fun w24807 h24807 q24807 => ?_)
      obtain ⟨v24809, v24808, rfl, lv24809, uv24809, g24807, kk24807, ev24808, p24807_0, p24807_1⟩ := q24807
      have bv24808 := g24807.rg ad7 (i := 1) (by decide) rf7_1
      rw [ev24808] at bv24808
      have k24807 := k0.tr kk24807 (by decide)
      show jEv _ _ _ _ _ _ _ (_, [(2, 7), (2, 1), (0, 0), (0, a3), (0, (-1))], [(0, v24809)], _, _, _)
      exact ev_ret rfl (by decide) (by decide) ⟨_, _, rfl, by omega, by omega, g24807, k24807, (ev24808), by omega, by omega⟩
    · refine ev_aload_n rfl ?_
      refine g_getp (r := 7) (c := 8) g ad7 (by decide) (by decide) rf7_5 ft5_5 ?_
      refine ev_aload_n rfl ?_
      refine g_getv (r := 7) (v := v24801) g ad7 (by decide) ft5_2 (ev24801) ?_
      refine g_bald g ad8 rt8 (by omega) (by omega) (fun v24810 ev24810 lv24810 uv24810 => ?_)
      refine ev_sipush ?_
      refine g_iandB (b := 255) (by omega) (by omega) (by decide) (fun v24811 ev24811 lv24811 uv24811 => ?_)
      refine ev_goto f68_28 ?_
      refine ev_ret rfl (by decide) (by decide) ?_
      show jEv _ _ _ _ _ _ _ (_, [(2, 7), (2, 1), (0, 0), (0, a3), (9, 0)], [(0, v24811)], _, _, _)
      refine ev_istore (L' := [(2, 7), (2, 1), (0, 0), (0, a3), (0, v24811)]) (Nat.le_of_ble_eq_true rfl) rfl ?_
      refine ev_iload rfl ?_
      refine ev_bipush ?_
      refine ev_icmpne f74_40 (fun c24812 => ?_) (fun c24812 => ?_)
      · refine ev_iload rfl ?_
        refine ev_bipush ?_
        refine ev_icmpne f74_55 (fun c24813 => ?_) (fun c24813 => ?_)
        · refine ev_iload rfl ?_
          refine ev_bipush ?_
          refine ev_icmplt f74_78 (fun c24814 => ?_) (fun c24814 => ?_)
          · refine ev_aload_n rfl ?_
            refine ev_call (jcall_v (A := []) (S' := []) (r := 7) rfl (g.lt ad7) (g.tg ad7) (Nat.le_of_ble_eq_true rfl)) (jOk_le (by decide) (s75 g (ew0) (by omega) (by omega))) (by decide) (by decide) (fun w24815 h24815 q24815 => ?_)
            obtain ⟨v24817, v24816, rfl, lv24817, uv24817, g24815, kk24815, ev24816, p24815_0, p24815_1⟩ := q24815
            have bv24816 := g24815.rg ad7 (i := 1) (by decide) rf7_1
            rw [ev24816] at bv24816
            have k24815 := k0.tr kk24815 (by decide)
            show jEv _ _ _ _ _ _ _ (_, [(2, 7), (2, 1), (0, 0), (0, a3), (0, v24811)], [(0, v24817)], _, _, _)
            exact ev_ret rfl (by decide) (by decide) ⟨_, _, rfl, by omega, by omega, g24815, k24815, (ev24816), by omega, by omega⟩
          · refine ev_iload rfl ?_
            refine ev_bipush ?_
            refine ev_icmpge f74_78 (fun c24818 => ?_) (fun c24818 => ?_)
            · refine ev_aload_n rfl ?_
              refine ev_call (jcall_v (A := []) (S' := []) (r := 7) rfl (g.lt ad7) (g.tg ad7) (Nat.le_of_ble_eq_true rfl)) (jOk_le (by decide) (s75 g (ew0) (by omega) (by omega))) (by decide) (by decide) (fun w24819 h24819 q24819 => ?_)
              obtain ⟨v24821, v24820, rfl, lv24821, uv24821, g24819, kk24819, ev24820, p24819_0, p24819_1⟩ := q24819
              have bv24820 := g24819.rg ad7 (i := 1) (by decide) rf7_1
              rw [ev24820] at bv24820
              have k24819 := k0.tr kk24819 (by decide)
              show jEv _ _ _ _ _ _ _ (_, [(2, 7), (2, 1), (0, 0), (0, a3), (0, v24811)], [(0, v24821)], _, _, _)
              exact ev_ret rfl (by decide) (by decide) ⟨_, _, rfl, by omega, by omega, g24819, k24819, (ev24820), by omega, by omega⟩
            · refine ev_aload_n rfl ?_
              refine ev_iload_n rfl ?_
              refine ev_iload_n rfl ?_
              refine ev_call (jcall_v (A := [(0, a3), (0, 0)]) (S' := []) (r := 7) rfl (g.lt ad7) (g.tg ad7) (Nat.le_of_ble_eq_true rfl)) (jOk_le (by decide) (s77 g (by omega) (by omega) (by omega) (by omega) (ew0) (by omega) (by omega))) (by decide) (by decide) (fun w24822 h24822 q24822 => ?_)
              obtain ⟨v24824, v24823, rfl, lv24824, uv24824, g24822, kk24822, ev24823, p24822_0, p24822_1⟩ := q24822
              have bv24823 := g24822.rg ad7 (i := 1) (by decide) rf7_1
              rw [ev24823] at bv24823
              have k24822 := k0.tr kk24822 (by decide)
              show jEv _ _ _ _ _ _ _ (_, [(2, 7), (2, 1), (0, 0), (0, a3), (0, v24811)], [(0, v24824)], _, _, _)
              refine ev_goto f74_82 ?_
              exact ev_ret rfl (by decide) (by decide) ⟨_, _, rfl, by omega, by omega, g24822, k24822, (ev24823), by omega, by omega⟩
        · refine ev_aload_n rfl ?_
          refine ev_aload_n rfl ?_
          refine ev_iload_n rfl ?_
          refine ev_iload_n rfl ?_
          refine ev_call (jcall_v (A := [(0, a3), (0, 0), (2, 1)]) (S' := []) (r := 7) rfl (g.lt ad7) (g.tg ad7) (Nat.le_of_ble_eq_true rfl)) (jOk_le (by decide) (s79_0 g (by omega) (by omega) (ew0) (by omega) (by omega) (ev24801) (by omega) (by omega))) (by decide) (by decide) (fun w24825 h24825 q24825 => ?_)
          obtain ⟨v24827, v24826, rfl, lv24827, uv24827, g24825, kk24825, ev24826, p24825_0, p24825_1⟩ := q24825
          have bv24826 := g24825.rg ad7 (i := 1) (by decide) rf7_1
          rw [ev24826] at bv24826
          have k24825 := k0.tr kk24825 (by decide)
          show jEv _ _ _ _ _ _ _ (_, [(2, 7), (2, 1), (0, 0), (0, a3), (0, v24811)], [(0, v24827)], _, _, _)
          exact ev_ret rfl (by decide) (by decide) ⟨_, _, rfl, by omega, by omega, g24825, k24825, (ev24826), by omega, by omega⟩
      · refine ev_aload_n rfl ?_
        refine ev_aload_n rfl ?_
        refine ev_iload_n rfl ?_
        refine ev_iload_n rfl ?_
        refine ev_call (jcall_v (A := [(0, a3), (0, 0), (2, 1)]) (S' := []) (r := 7) rfl (g.lt ad7) (g.tg ad7) (Nat.le_of_ble_eq_true rfl)) (jOk_le (by decide) (s78_0 g (by omega) (by omega) (ew0) (by omega) (by omega) (ev24801) (by omega) (by omega))) (by decide) (by decide) (fun w24828 h24828 q24828 => ?_)
        obtain ⟨v24830, v24829, rfl, lv24830, uv24830, g24828, kk24828, ev24829, p24828_0, p24828_1⟩ := q24828
        have bv24829 := g24828.rg ad7 (i := 1) (by decide) rf7_1
        rw [ev24829] at bv24829
        have k24828 := k0.tr kk24828 (by decide)
        show jEv _ _ _ _ _ _ _ (_, [(2, 7), (2, 1), (0, 0), (0, a3), (0, v24811)], [(0, v24830)], _, _, _)
        exact ev_ret rfl (by decide) (by decide) ⟨_, _, rfl, by omega, by omega, g24828, k24828, (ev24829), by omega, by omega⟩
/-! 67 readText -/
set_option maxHeartbeats 4000000 in
theorem s67_l {G : GH} {h : JH}  : ∀ N : Nat, (∀ (h1 : JH) (y0 : Int) (j2 : AV), Gd G h1 → Kp [(7, 2), (7, 3), (7, 4), (10, 0), (11, 0), (12, 0), (13, 0), (14, 0), (15, 0), (16, 0), (17, 0), (7, 5), (9, 0)] h h1 → h1.2.2 7 4 = y0 → 0 ≤ y0 → y0 ≤ 6 → ((-y0) + 6) < N → jEv (jOk 29) none (fun _ => 0) c67_0 0 0 (PI G [(7, 2), (7, 3), (7, 4), (10, 0), (11, 0), (12, 0), (13, 0), (14, 0), (15, 0), (16, 0), (17, 0), (7, 5), (9, 0)] h 0 (-1) 199) (c67_20, [(2, 7), (2, 1), j2], [], h1, 0, 0)) := by
  intro N
  induction N with
  | zero => exact fun h1 y0 j2 g1 k1 b0 b1 b2 hm => absurd hm (by omega)
  | succ N ih =>
    show _
    intro h1 y0 j2 g1 k1 ey0 ly0 uy0 hm
    refine ev_aload_n rfl ?_
    refine g_getv (r := 7) (v := y0) g1 ad7 (by decide) ft5_4 (ey0) ?_
    refine ev_bipush ?_
    refine ev_icmpge f67_105 (fun c24947 => ?_) (fun c24947 => ?_)
    · refine ev_aload_n rfl ?_
      refine ev_aload_n rfl ?_
      refine ev_iconst ?_
      refine ev_iconst ?_
      obtain ⟨v24948, ev24948, lv24948, uv24948⟩ := g1.rd ad7 (show 1 < 15 by decide) rf7_1
      refine ev_call (jcall_v (A := [(0, 0), (0, 0), (2, 1)]) (S' := []) (r := 7) rfl (g1.lt ad7) (g1.tg ad7) (Nat.le_of_ble_eq_true rfl)) (jOk_le (by decide) (s74_0 g1 (by omega) (by omega) ev24948 (by omega) (by omega))) (by decide) (by decide) (fun w24949 h24949 q24949 => ?_)
      obtain ⟨v24951, v24950, rfl, lv24951, uv24951, g24949, kk24949, ev24950, p24949_0, p24949_1⟩ := q24949
      have bv24950 := g24949.rg ad7 (i := 1) (by decide) rf7_1
      rw [ev24950] at bv24950
      have k24949 := k1.tr kk24949 (by decide)
      show jEv _ _ _ _ _ _ _ (_, [(2, 7), (2, 1), j2], [(0, v24951)], _, _, _)
      refine ev_istore_n (L' := [(2, 7), (2, 1), (0, v24951)]) (Nat.le_of_ble_eq_true rfl) rfl ?_
      refine ev_aload_n rfl ?_
      refine g_getv (r := 7) (v := v24950) g24949 ad7 (by decide) ft5_1 (ev24950) ?_
      refine ev_ifge f67_139 (fun c24952 => ?_) (fun c24952 => ?_)
      · refine ev_aload_n rfl ?_
        refine g_getv (r := 7) (v := v24950) g24949 ad7 (by decide) ft5_1 (ev24950) ?_
        refine ev_iflt f67_150 (fun c24953 => absurd c24953 (by omega)) (fun c24953 => ?_)
        refine ev_iconst ?_
        refine ev_goto f67_151 ?_
        exact ev_ret rfl (by decide) (by decide) ⟨_, rfl, by omega, by omega, g24949, k24949⟩
      · refine ev_aload_n rfl ?_
        obtain ⟨v24954, ev24954, lv24954, uv24954⟩ := g24949.rd ad7 (show 2 < 15 by decide) rf7_2
        refine g_getv (r := 7) (v := v24954) g24949 ad7 (by decide) ft5_2 ev24954 ?_
        refine ev_aload_n rfl ?_
        obtain ⟨v24955, ev24955, lv24955, uv24955⟩ := g24949.rd ad7 (show 0 < 15 by decide) rf7_0
        refine g_getv (r := 7) (v := v24955) g24949 ad7 (by decide) ft5_0 ev24955 ?_
        refine ev_icmpge f67_139 (fun c24956 => ?_) (fun c24956 => ?_)
        · refine ev_aload_n rfl ?_
          refine g_getv (r := 7) (v := v24950) g24949 ad7 (by decide) ft5_1 (ev24950) ?_
          refine ev_iflt f67_150 (fun c24957 => ?_) (fun c24957 => absurd c24957 (by omega))
          refine ev_iload_n rfl ?_
          exact ev_ret rfl (by decide) (by decide) ⟨_, rfl, by omega, by omega, g24949, k24949⟩
        · refine ev_aload_n rfl ?_
          refine ev_aload_n rfl ?_
          refine g_getv (r := 7) (v := v24954) g24949 ad7 (by decide) ft5_2 (ev24954) ?_
          refine g_putf (r := 7) g24949 ad7 (by decide) ft5_1 (by decide) (fun e => absurd e nz5_1) rf7_1 (by decide) (by omega) (by omega) (fun h24958 e24958 g24958 => ?_)
          have k24958 := k24949.wr e24958 rfl
          refine ev_aload_n rfl ?_
          refine g_getv (r := 7) (v := v24954) g24958 ad7 (by decide) ft5_1 ((jw_eq e24958)) ?_
          refine ev_iflt f67_150 (fun c24959 => absurd c24959 (by omega)) (fun c24959 => ?_)
          refine ev_iconst ?_
          refine ev_goto f67_151 ?_
          exact ev_ret rfl (by decide) (by decide) ⟨_, rfl, by omega, by omega, g24958, k24958⟩
    · refine ev_aload_n rfl ?_
      refine ev_in (d := 28) (a := 0) (b := 0) (cd' := c68_0) (m := 1) (L0 := [(2, 7)]) (jcall_v (A := []) (S' := []) (r := 7) rfl (g1.lt ad7) (g1.tg ad7) (Nat.le_of_ble_eq_true rfl)) (by decide) ml68 pp68 (Nat.le_of_ble_eq_true rfl) rfl (by decide) (by decide) ?_
      refine ev_aload_n rfl ?_
      obtain ⟨v24960, ev24960, lv24960, uv24960⟩ := g1.rd ad7 (show 2 < 15 by decide) rf7_2
      refine g_getv (r := 7) (v := v24960) g1 ad7 (by decide) ft5_2 ev24960 ?_
      refine ev_aload_n rfl ?_
      obtain ⟨v24961, ev24961, lv24961, uv24961⟩ := g1.rd ad7 (show 0 < 15 by decide) rf7_0
      refine g_getv (r := 7) (v := v24961) g1 ad7 (by decide) ft5_0 ev24961 ?_
      refine ev_icmpge f68_27 (fun c24962 => ?_) (fun c24962 => ?_)
      · refine ev_iconst ?_
        refine ev_ret rfl (by decide) (by decide) ?_
        show jEv _ _ _ _ _ _ _ (_, [(2, 7), (2, 1), j2], [(0, (-1))], _, _, _)
        refine ev_bipush ?_
        refine ev_aload_n rfl ?_
        refine g_getv (r := 7) (v := y0) g1 ad7 (by decide) ft5_4 (ey0) ?_
        refine ev_iadd (r := (y0 + 65)) (by unfold w32; omega) ?_
        refine ev_icmpne f67_105 (fun c24963 => ?_) (fun c24963 => absurd c24963 (by omega))
        refine ev_aload_n rfl ?_
        refine ev_aload_n rfl ?_
        refine ev_iconst ?_
        refine ev_iconst ?_
        obtain ⟨v24964, ev24964, lv24964, uv24964⟩ := g1.rd ad7 (show 1 < 15 by decide) rf7_1
        refine ev_call (jcall_v (A := [(0, 0), (0, 0), (2, 1)]) (S' := []) (r := 7) rfl (g1.lt ad7) (g1.tg ad7) (Nat.le_of_ble_eq_true rfl)) (jOk_le (by decide) (s74_0 g1 (by omega) (by omega) ev24964 (by omega) (by omega))) (by decide) (by decide) (fun w24965 h24965 q24965 => ?_)
        obtain ⟨v24967, v24966, rfl, lv24967, uv24967, g24965, kk24965, ev24966, p24965_0, p24965_1⟩ := q24965
        have bv24966 := g24965.rg ad7 (i := 1) (by decide) rf7_1
        rw [ev24966] at bv24966
        have k24965 := k1.tr kk24965 (by decide)
        show jEv _ _ _ _ _ _ _ (_, [(2, 7), (2, 1), j2], [(0, v24967)], _, _, _)
        refine ev_istore_n (L' := [(2, 7), (2, 1), (0, v24967)]) (Nat.le_of_ble_eq_true rfl) rfl ?_
        refine ev_aload_n rfl ?_
        refine g_getv (r := 7) (v := v24966) g24965 ad7 (by decide) ft5_1 (ev24966) ?_
        refine ev_ifge f67_139 (fun c24968 => ?_) (fun c24968 => ?_)
        · refine ev_aload_n rfl ?_
          refine g_getv (r := 7) (v := v24966) g24965 ad7 (by decide) ft5_1 (ev24966) ?_
          refine ev_iflt f67_150 (fun c24969 => absurd c24969 (by omega)) (fun c24969 => ?_)
          refine ev_iconst ?_
          refine ev_goto f67_151 ?_
          exact ev_ret rfl (by decide) (by decide) ⟨_, rfl, by omega, by omega, g24965, k24965⟩
        · refine ev_aload_n rfl ?_
          obtain ⟨v24970, ev24970, lv24970, uv24970⟩ := g24965.rd ad7 (show 2 < 15 by decide) rf7_2
          refine g_getv (r := 7) (v := v24970) g24965 ad7 (by decide) ft5_2 ev24970 ?_
          refine ev_aload_n rfl ?_
          refine g_getv (r := 7) (v := v24961) g24965 ad7 (by decide) ft5_0 (((kk24965.v (by decide)).trans ev24961)) ?_
          refine ev_icmpge f67_139 (fun c24971 => ?_) (fun c24971 => ?_)
          · refine ev_aload_n rfl ?_
            refine g_getv (r := 7) (v := v24966) g24965 ad7 (by decide) ft5_1 (ev24966) ?_
            refine ev_iflt f67_150 (fun c24972 => ?_) (fun c24972 => absurd c24972 (by omega))
            refine ev_iload_n rfl ?_
            exact ev_ret rfl (by decide) (by decide) ⟨_, rfl, by omega, by omega, g24965, k24965⟩
          · refine ev_aload_n rfl ?_
            refine ev_aload_n rfl ?_
            refine g_getv (r := 7) (v := v24970) g24965 ad7 (by decide) ft5_2 (ev24970) ?_
            refine g_putf (r := 7) g24965 ad7 (by decide) ft5_1 (by decide) (fun e => absurd e nz5_1) rf7_1 (by decide) (by omega) (by omega) (fun h24973 e24973 g24973 => ?_)
            have k24973 := k24965.wr e24973 rfl
            refine ev_aload_n rfl ?_
            refine g_getv (r := 7) (v := v24970) g24973 ad7 (by decide) ft5_1 ((jw_eq e24973)) ?_
            refine ev_iflt f67_150 (fun c24974 => absurd c24974 (by omega)) (fun c24974 => ?_)
            refine ev_iconst ?_
            refine ev_goto f67_151 ?_
            exact ev_ret rfl (by decide) (by decide) ⟨_, rfl, by omega, by omega, g24973, k24973⟩
      · refine ev_aload_n rfl ?_
        refine g_getp (r := 7) (c := 8) g1 ad7 (by decide) (by decide) rf7_5 ft5_5 ?_
        refine ev_aload_n rfl ?_
        refine g_getv (r := 7) (v := v24960) g1 ad7 (by decide) ft5_2 (ev24960) ?_
        refine g_bald g1 ad8 rt8 (by omega) (by omega) (fun v24975 ev24975 lv24975 uv24975 => ?_)
        refine ev_sipush ?_
        refine g_iandB (b := 255) (by omega) (by omega) (by decide) (fun v24976 ev24976 lv24976 uv24976 => ?_)
        refine ev_goto f68_28 ?_
        refine ev_ret rfl (by decide) (by decide) ?_
        show jEv _ _ _ _ _ _ _ (_, [(2, 7), (2, 1), j2], [(0, v24976)], _, _, _)
        refine ev_bipush ?_
        refine ev_aload_n rfl ?_
        refine g_getv (r := 7) (v := y0) g1 ad7 (by decide) ft5_4 (ey0) ?_
        refine ev_iadd (r := (y0 + 65)) (by unfold w32; omega) ?_
        refine ev_icmpne f67_105 (fun c24977 => ?_) (fun c24977 => ?_)
        · refine ev_aload_n rfl ?_
          refine ev_aload_n rfl ?_
          refine ev_iconst ?_
          refine ev_iconst ?_
          obtain ⟨v24978, ev24978, lv24978, uv24978⟩ := g1.rd ad7 (show 1 < 15 by decide) rf7_1
          refine ev_call (jcall_v (A := [(0, 0), (0, 0), (2, 1)]) (S' := []) (r := 7) rfl (g1.lt ad7) (g1.tg ad7) (Nat.le_of_ble_eq_true rfl)) (jOk_le (by decide) (s74_0 g1 (by omega) (by omega) ev24978 (by omega) (by omega))) (by decide) (by decide) (fun w24979 h24979 q24979 => ?_)
          obtain ⟨v24981, v24980, rfl, lv24981, uv24981, g24979, kk24979, ev24980, p24979_0, p24979_1⟩ := q24979
          have bv24980 := g24979.rg ad7 (i := 1) (by decide) rf7_1
          rw [ev24980] at bv24980
          have k24979 := k1.tr kk24979 (by decide)
          show jEv _ _ _ _ _ _ _ (_, [(2, 7), (2, 1), j2], [(0, v24981)], _, _, _)
          refine ev_istore_n (L' := [(2, 7), (2, 1), (0, v24981)]) (Nat.le_of_ble_eq_true rfl) rfl ?_
          refine ev_aload_n rfl ?_
          refine g_getv (r := 7) (v := v24980) g24979 ad7 (by decide) ft5_1 (ev24980) ?_
          refine ev_ifge f67_139 (fun c24982 => ?_) (fun c24982 => ?_)
          · refine ev_aload_n rfl ?_
            refine g_getv (r := 7) (v := v24980) g24979 ad7 (by decide) ft5_1 (ev24980) ?_
            refine ev_iflt f67_150 (fun c24983 => absurd c24983 (by omega)) (fun c24983 => ?_)
            refine ev_iconst ?_
            refine ev_goto f67_151 ?_
            exact ev_ret rfl (by decide) (by decide) ⟨_, rfl, by omega, by omega, g24979, k24979⟩
          · refine ev_aload_n rfl ?_
            obtain ⟨v24984, ev24984, lv24984, uv24984⟩ := g24979.rd ad7 (show 2 < 15 by decide) rf7_2
            refine g_getv (r := 7) (v := v24984) g24979 ad7 (by decide) ft5_2 ev24984 ?_
            refine ev_aload_n rfl ?_
            refine g_getv (r := 7) (v := v24961) g24979 ad7 (by decide) ft5_0 (((kk24979.v (by decide)).trans ev24961)) ?_
            refine ev_icmpge f67_139 (fun c24985 => ?_) (fun c24985 => ?_)
            · refine ev_aload_n rfl ?_
              refine g_getv (r := 7) (v := v24980) g24979 ad7 (by decide) ft5_1 (ev24980) ?_
              refine ev_iflt f67_150 (fun c24986 => ?_) (fun c24986 => absurd c24986 (by omega))
              refine ev_iload_n rfl ?_
              exact ev_ret rfl (by decide) (by decide) ⟨_, rfl, by omega, by omega, g24979, k24979⟩
            · refine ev_aload_n rfl ?_
              refine ev_aload_n rfl ?_
              refine g_getv (r := 7) (v := v24984) g24979 ad7 (by decide) ft5_2 (ev24984) ?_
              refine g_putf (r := 7) g24979 ad7 (by decide) ft5_1 (by decide) (fun e => absurd e nz5_1) rf7_1 (by decide) (by omega) (by omega) (fun h24987 e24987 g24987 => ?_)
              have k24987 := k24979.wr e24987 rfl
              refine ev_aload_n rfl ?_
              refine g_getv (r := 7) (v := v24984) g24987 ad7 (by decide) ft5_1 ((jw_eq e24987)) ?_
              refine ev_iflt f67_150 (fun c24988 => absurd c24988 (by omega)) (fun c24988 => ?_)
              refine ev_iconst ?_
              refine ev_goto f67_151 ?_
              exact ev_ret rfl (by decide) (by decide) ⟨_, rfl, by omega, by omega, g24987, k24987⟩
        · refine ev_aload_n rfl ?_
          refine ev_dup (by decide) ?_
          refine g_getv (r := 7) (v := v24960) g1 ad7 (by decide) ft5_2 (ev24960) ?_
          refine ev_iconst ?_
          refine ev_iadd (r := (v24960 + 1)) (by unfold w32; omega) ?_
          refine g_putf (r := 7) g1 ad7 (by decide) ft5_2 (by decide) (fun e => absurd e nz5_2) rf7_2 (by decide) (by omega) (by omega) (fun h24989 e24989 g24989 => ?_)
          have k24989 := k1.wr e24989 rfl
          refine ev_aload_n rfl ?_
          refine ev_bipush ?_
          obtain ⟨v24990, ev24990, lv24990, uv24990⟩ := g24989.rd ad7 (show 1 < 15 by decide) rf7_1
          refine ev_call (jcall_v (A := [(0, 61)]) (S' := []) (r := 7) rfl (g24989.lt ad7) (g24989.tg ad7) (Nat.le_of_ble_eq_true rfl)) (jOk_le (by decide) (s71 g24989 (by omega) (by omega) ev24990 (by omega) (by omega))) (by decide) (by decide) (fun w24991 h24991 q24991 => ?_)
          obtain ⟨v24992, rfl, g24991, kk24991, ev24992, p24991_0⟩ := q24991
          have bv24992 := g24991.rg ad7 (i := 1) (by decide) rf7_1
          rw [ev24992] at bv24992
          have k24991 := k24989.tr kk24991 (by decide)
          show jEv _ _ _ _ _ _ _ (_, [(2, 7), (2, 1), j2], [], _, _, _)
          refine ev_aload_n rfl ?_
          refine ev_aload_n rfl ?_
          refine ev_iconst ?_
          refine ev_iconst ?_
          refine ev_call (jcall_v (A := [(0, 0), (0, 0), (2, 1)]) (S' := []) (r := 7) rfl (g24991.lt ad7) (g24991.tg ad7) (Nat.le_of_ble_eq_true rfl)) (jOk_le (by decide) (s74_0 g24991 (by omega) (by omega) (ev24992) (by omega) (by omega))) (by decide) (by decide) (fun w24993 h24993 q24993 => ?_)
          obtain ⟨v24995, v24994, rfl, lv24995, uv24995, g24993, kk24993, ev24994, p24993_0, p24993_1⟩ := q24993
          have bv24994 := g24993.rg ad7 (i := 1) (by decide) rf7_1
          rw [ev24994] at bv24994
          have k24993 := k24991.tr kk24993 (by decide)
          show jEv _ _ _ _ _ _ _ (_, [(2, 7), (2, 1), j2], [(0, v24995)], _, _, _)
          refine ev_istore_n (L' := [(2, 7), (2, 1), (0, v24995)]) (Nat.le_of_ble_eq_true rfl) rfl ?_
          refine ev_aload_n rfl ?_
          refine ev_bipush ?_
          refine ev_call (jcall_v (A := [(0, 59)]) (S' := []) (r := 7) rfl (g24993.lt ad7) (g24993.tg ad7) (Nat.le_of_ble_eq_true rfl)) (jOk_le (by decide) (s71 g24993 (by omega) (by omega) (ev24994) (by omega) (by omega))) (by decide) (by decide) (fun w24996 h24996 q24996 => ?_)
          obtain ⟨v24997, rfl, g24996, kk24996, ev24997, p24996_0⟩ := q24996
          have bv24997 := g24996.rg ad7 (i := 1) (by decide) rf7_1
          rw [ev24997] at bv24997
          have k24996 := k24993.tr kk24996 (by decide)
          show jEv _ _ _ _ _ _ _ (_, [(2, 7), (2, 1), (0, v24995)], [], _, _, _)
          refine ev_aload_n rfl ?_
          refine g_getv (r := 7) (v := v24997) g24996 ad7 (by decide) ft5_1 (ev24997) ?_
          refine ev_iflt f67_82 (fun c24998 => ?_) (fun c24998 => ?_)
          · refine ev_aload_n rfl ?_
            refine g_getp (r := 7) (c := 9) g24996 ad7 (by decide) (by decide) rf7_6 ft5_6 ?_
            refine ev_aload_n rfl ?_
            refine g_getv (r := 7) (v := y0) g24996 ad7 (by decide) ft5_4 (((kk24996.v (by decide)).trans ((kk24993.v (by decide)).trans ((kk24991.v (by decide)).trans ((jw_ne e24989 (Or.inr (by decide))).trans ey0))))) ?_
            refine ev_iload_n rfl ?_
            refine g_iast g24996 ad9 rt9 (fun _ => rfl) (by omega) (by omega) (by omega) (by omega) (fun h24999 e24999 g24999 => ?_)
            have k24999 := k24996.wr e24999 rfl
            refine ev_aload_n rfl ?_
            refine ev_dup (by decide) ?_
            refine g_getv (r := 7) (v := y0) g24999 ad7 (by decide) ft5_4 (((jw_ne e24999 (Or.inl (by decide))).trans ((kk24996.v (by decide)).trans ((kk24993.v (by decide)).trans ((kk24991.v (by decide)).trans ((jw_ne e24989 (Or.inr (by decide))).trans ey0)))))) ?_
            refine ev_iconst ?_
            refine ev_iadd (r := (y0 + 1)) (by unfold w32; omega) ?_
            refine g_putf (r := 7) g24999 ad7 (by decide) ft5_4 (by decide) (fun e => absurd e nz5_4) rf7_4 (by decide) (by omega) (by omega) (fun h25000 e25000 g25000 => ?_)
            have k25000 := k24999.wr e25000 rfl
            refine ev_goto f67_20 ?_
            exact ih _ _ _ g25000 k25000 ((jw_eq e25000)) (by omega) (by omega) (by omega)
          · refine ev_iconst ?_
            exact ev_ret rfl (by decide) (by decide) ⟨_, rfl, by omega, by omega, g24996, k24996⟩
set_option maxHeartbeats 4000000 in
theorem s67 {G : GH} {h : JH} (g : Gd G h)  : jOk 30 0 0 67 [(2, 7), (2, 1)] h (PI G [(7, 2), (7, 3), (7, 4), (10, 0), (11, 0), (12, 0), (13, 0), (14, 0), (15, 0), (16, 0), (17, 0), (7, 5), (9, 0)] h 0 (-1) 199) := by
  refine ⟨by decide, by rw [ml67]; exact Nat.le_of_ble_eq_true rfl, ?_⟩
  rw [ml67, pp67]
  show jEv _ none _ c67_0 0 0 _ (c67_0, [(2, 7), (2, 1), (9, 0)], [], h, 0, 0)
  have k0 := Kp.rf [(7, 2), (7, 3), (7, 4), (10, 0), (11, 0), (12, 0), (13, 0), (14, 0), (15, 0), (16, 0), (17, 0), (7, 5), (9, 0)] h
  refine ev_aload_n rfl ?_
  refine ev_iconst ?_
  refine g_putf (r := 7) g ad7 (by decide) ft5_2 (by decide) (fun e => absurd e nz5_2) rf7_2 (by decide) (by omega) (by omega) (fun h25001 e25001 g25001 => ?_)
  have k25001 := k0.wr e25001 rfl
  refine ev_aload_n rfl ?_
  refine ev_iconst ?_
  refine g_putf (r := 7) g25001 ad7 (by decide) ft5_1 (by decide) (fun e => absurd e nz5_1) rf7_1 (by decide) (by omega) (by omega) (fun h25002 e25002 g25002 => ?_)
  have k25002 := k25001.wr e25002 rfl
  refine ev_aload_n rfl ?_
  refine ev_iconst ?_
  refine g_putf (r := 7) g25002 ad7 (by decide) ft5_3 (by decide) (fun e => absurd e nz5_3) rf7_3 (by decide) (by omega) (by omega) (fun h25003 e25003 g25003 => ?_)
  have k25003 := k25002.wr e25003 rfl
  refine ev_aload_n rfl ?_
  refine ev_iconst ?_
  refine g_putf (r := 7) g25003 ad7 (by decide) ft5_4 (by decide) (fun e => absurd e nz5_4) rf7_4 (by decide) (by omega) (by omega) (fun h25004 e25004 g25004 => ?_)
  have k25004 := k25003.wr e25004 rfl
  exact (s67_l  14) _ _ _ g25004 k25004 ((jw_eq e25004)) (by omega) (by omega) (by omega)
/-! s156_0_1  -/
set_option maxHeartbeats 4000000 in
theorem s156_0_1_l {G : GH} {h : JH} (ew0 : h.2.2 1 0 = 1) : ∀ N : Nat, (∀ (h1 : JH) (x3 y0 z0 : Int) (j4 j5 j7 : AV), Gd G h1 → Kp [(6, 0)] h h1 → 0 ≤ x3 → x3 ≤ 4 → 0 ≤ z0 → z0 ≤ 1 → (x3 + (-4) * z0) ≤ 0 → ((-x3) + 4 * z0) ≤ 0 → h1.2.2 1 0 = y0 → 1 ≤ y0 → y0 ≤ 1 → ((-32) * x3 + 148) < N → jEv (jOk 1) none (fun _ => 0) c156_0 0 0 (PV G [(6, 0)] h) (c156_8, [(2, 1), (0, 0), (0, 1), (0, x3), j4, j5, (9, 0), j7], [], h1, 0, 0)) ∧ (∀ (h1 : JH) (x3 x4 y0 z0 : Int) (j5 j7 : AV), Gd G h1 → Kp [(6, 0)] h h1 → 0 ≤ x3 → x3 ≤ 0 → 0 ≤ x4 → x4 ≤ 1 → 0 ≤ z0 → z0 ≤ 0 → (x3 + (-4) * z0) ≤ 0 → ((-x3) + 4 * z0) ≤ 0 → ((-x3) + x4) ≤ 1 → (x3 + (-x4)) ≤ 0 → h1.2.2 1 0 = y0 → 1 ≤ y0 → y0 ≤ 1 → ((-32) * x3 + (-8) * x4 + 140) < N → jEv (jOk 1) none (fun _ => 0) c156_0 0 0 (PV G [(6, 0)] h) (c156_19, [(2, 1), (0, 0), (0, 1), (0, x3), (0, x4), j5, (9, 0), j7], [], h1, 0, 0)) ∧ (∀ (h1 : JH) (x3 x4 x5 x7 y0 z0 : Int), Gd G h1 → Kp [(6, 0)] h h1 → 0 ≤ x3 → x3 ≤ 0 → 0 ≤ x4 → x4 ≤ 0 → (-9223372036854775808) ≤ x5 → x5 ≤ 9223372036854775807 → 1 ≤ x7 → x7 ≤ 4 → 0 ≤ z0 → z0 ≤ 0 → (x3 + (-4) * z0) ≤ 0 → ((-x3) + 4 * z0) ≤ 0 → ((-x3) + x4) ≤ 0 → (x3 + (-x4)) ≤ 0 → h1.2.2 1 0 = y0 → 1 ≤ y0 → y0 ≤ 1 → ((-32) * x3 + (-8) * x4 + (-x7) + 140) < N → jEv (jOk 1) none (fun _ => 0) c156_0 0 0 (PV G [(6, 0)] h) (c156_33, [(2, 1), (0, 0), (0, 1), (0, x3), (0, x4), (1, x5), (9, 0), (0, x7)], [], h1, 0, 0)) := by
  intro N
  induction N with
  | zero => exact ⟨fun h1 x3 y0 z0 j4 j5 j7 g1 k1 b0 b1 b2 b3 b4 b5 b6 b7 b8 hm => absurd hm (by omega), fun h1 x3 x4 y0 z0 j5 j7 g1 k1 b0 b1 b2 b3 b4 b5 b6 b7 b8 b9 b10 b11 b12 hm => absurd hm (by omega), fun h1 x3 x4 x5 x7 y0 z0 g1 k1 b0 b1 b2 b3 b4 b5 b6 b7 b8 b9 b10 b11 b12 b13 b14 b15 b16 hm => absurd hm (by omega)⟩
  | succ N ih =>
    refine ⟨?_, ?_, ?_⟩
    · intro h1 x3 y0 z0 j4 j5 j7 g1 k1 b0 b1 b2 b3 b4 b5 ey0 ly0 uy0 hm
      refine ev_iload_n rfl ?_
      refine ev_aload_n rfl ?_
      refine ev_in (d := 0) (a := 0) (b := 0) (cd' := c157_0) (m := 1) (L0 := [(2, 1)]) (jcall_v (A := []) (S' := [(0, x3)]) (r := 1) rfl (g1.lt ad1) (g1.tg ad1) (Nat.le_of_ble_eq_true rfl)) (by decide) ml157 pp157 (Nat.le_of_ble_eq_true rfl) rfl (by decide) (by decide) ?_
      refine ev_iconst ?_
      refine ev_iconst ?_
      refine ev_aload_n rfl ?_
      refine g_getv (r := 1) (v := y0) g1 ad1 (by decide) ft10_0 (ey0) ?_
      refine ev_imul (r := (2 * y0)) (by unfold w32; omega) ?_
      refine g_ishlB (a' := 1) (a := 1) (b := 2) (hi := 4) (by omega) (by omega) (by omega) (by omega) (by decide) (by decide) (fun v25039 ev25039 lv25039 uv25039 => ?_)
      refine ev_ret rfl (by decide) (by decide) ?_
      show jEv _ _ _ _ _ _ _ (_, [(2, 1), (0, 0), (0, 1), (0, x3), j4, j5, (9, 0), j7], [(0, v25039), (0, x3)], _, _, _)
      refine ev_icmpge f156_91 (fun c25040 => ?_) (fun c25040 => ?_)
      · exact ev_ret rfl (by decide) (by decide) ⟨rfl, g1, k1⟩
      · refine ev_iload_n rfl ?_
        refine ev_istore (L' := [(2, 1), (0, 0), (0, 1), (0, x3), (0, x3), j5, (9, 0), j7]) (Nat.le_of_ble_eq_true rfl) rfl ?_
        exact ih.2.1 _ _ _ _ z0 _ _ g1 k1 (by omega) (by omega) (by omega) (by omega) (by omega) (by omega) (by omega) (by omega) (by omega) (by omega) (ey0) (by omega) (by omega) (by omega)
    · intro h1 x3 x4 y0 z0 j5 j7 g1 k1 b0 b1 b2 b3 b4 b5 b6 b7 b8 b9 ey0 ly0 uy0 hm
      refine ev_iload rfl ?_
      refine ev_iload_n rfl ?_
      refine ev_iload_n rfl ?_
      refine ev_iadd (r := (x3 + 1)) (by unfold w32; omega) ?_
      refine ev_icmpge f156_82 (fun c25041 => ?_) (fun c25041 => ?_)
      · refine ev_iload_n rfl ?_
        refine ev_iconst ?_
        refine ev_iload_n rfl ?_
        refine ev_imul (r := 4) (by decide) ?_
        refine ev_iadd (r := (x3 + 4)) (by unfold w32; omega) ?_
        refine ev_istore_n (L' := [(2, 1), (0, 0), (0, 1), (0, (x3 + 4)), (0, x4), j5, (9, 0), j7]) (Nat.le_of_ble_eq_true rfl) rfl ?_
        refine ev_goto f156_8 ?_
        exact ih.1 _ _ _ (z0 + 1) _ _ _ g1 k1 (by omega) (by omega) (by omega) (by omega) (by omega) (by omega) (ey0) (by omega) (by omega) (by omega)
      · refine ev_lconst ?_
        refine ev_lstore (L' := [(2, 1), (0, 0), (0, 1), (0, x3), (0, x4), (1, 0), (9, 0), j7]) (Nat.le_of_ble_eq_true rfl) rfl ?_
        refine ev_iconst ?_
        refine ev_istore (L' := [(2, 1), (0, 0), (0, 1), (0, x3), (0, x4), (1, 0), (9, 0), (0, 1)]) (Nat.le_of_ble_eq_true rfl) rfl ?_
        exact ih.2.2 _ _ _ _ _ _ z0 g1 k1 (by omega) (by omega) (by omega) (by omega) (by omega) (by omega) (by omega) (by omega) (by omega) (by omega) (by omega) (by omega) (by omega) (by omega) (ey0) (by omega) (by omega) (by omega)
    · intro h1 x3 x4 x5 x7 y0 z0 g1 k1 b0 b1 b2 b3 b4 b5 b6 b7 b8 b9 b10 b11 b12 b13 ey0 ly0 uy0 hm
      refine ev_iload rfl ?_
      refine ev_aload_n rfl ?_
      refine g_getp (r := 1) (c := 2) g1 ad1 (by decide) (by decide) rf1_3 ft10_3 ?_
      refine ev_iload_n rfl ?_
      refine g_iald g1 ad2 rt2 (by omega) (by omega) (fun v25042 ev25042 lv25042 uv25042 => ?_)
      refine ev_icmpgt f156_67 (fun c25043 => ?_) (fun c25043 => ?_)
      · refine ev_aload_n rfl ?_
        refine g_getp (r := 1) (c := 6) g1 ad1 (by decide) (by decide) rf1_7 ft10_7 ?_
        refine ev_iload rfl ?_
        refine ev_lload rfl ?_
        refine g_last g1 ad6 rt6 (fun _ => rfl) (by omega) (by omega) (by omega) (by omega) (fun h25044 e25044 g25044 => ?_)
        have k25044 := k1.wr e25044 rfl
        refine ev_iinc (w := (x4 + 1)) (L' := [(2, 1), (0, 0), (0, 1), (0, x3), (0, (x4 + 1)), (1, x5), (9, 0), (0, x7)]) rfl (by unfold w32; omega) rfl ?_
        refine ev_goto f156_19 ?_
        exact ih.2.1 _ _ _ _ z0 _ _ g25044 k25044 (by omega) (by omega) (by omega) (by omega) (by omega) (by omega) (by omega) (by omega) (by omega) (by omega) (((jw_ne e25044 (Or.inl (by decide))).trans ey0)) (by omega) (by omega) (by omega)
      · refine ev_lload rfl ?_
        refine ev_aload_n rfl ?_
        refine g_getp (r := 1) (c := 6) g1 ad1 (by decide) (by decide) rf1_7 ft10_7 ?_
        refine ev_iload rfl ?_
        refine ev_iload rfl ?_
        refine ev_iload_n rfl ?_
        refine ev_imul (r := x7) (by unfold w32; omega) ?_
        refine ev_iadd (r := (x4 + x7)) (by unfold w32; omega) ?_
        refine g_lald g1 ad6 rt6 (by omega) (by omega) (fun v25045 ev25045 lv25045 uv25045 => ?_)
        refine g_laddG (fun v25046 ev25046 lv25046 uv25046 => ?_)
        refine ev_lstore (L' := [(2, 1), (0, 0), (0, 1), (0, x3), (0, x4), (1, v25046), (9, 0), (0, x7)]) (Nat.le_of_ble_eq_true rfl) rfl ?_
        refine ev_iinc (w := (x7 + 1)) (L' := [(2, 1), (0, 0), (0, 1), (0, x3), (0, x4), (1, v25046), (9, 0), (0, (x7 + 1))]) rfl (by unfold w32; omega) rfl ?_
        refine ev_goto f156_33 ?_
        exact ih.2.2 _ _ _ _ _ _ z0 g1 k1 (by omega) (by omega) (by omega) (by omega) (by omega) (by omega) (by omega) (by omega) (by omega) (by omega) (by omega) (by omega) (by omega) (by omega) (ey0) (by omega) (by omega) (by omega)
set_option maxHeartbeats 4000000 in
theorem s156_0_1 {G : GH} {h : JH} (g : Gd G h) (ew0 : h.2.2 1 0 = 1) : jOk 2 0 0 156 [(2, 1), (0, 0)] h (PV G [(6, 0)] h) := by
  refine ⟨by decide, by rw [ml156]; exact Nat.le_of_ble_eq_true rfl, ?_⟩
  rw [ml156, pp156]
  show jEv _ none _ c156_0 0 0 _ (c156_0, [(2, 1), (0, 0), (9, 0), (9, 0), (9, 0), (9, 0), (9, 0), (9, 0)], [], h, 0, 0)
  have k0 := Kp.rf [(6, 0)] h
  refine ev_iconst ?_
  refine ev_iconst ?_
  refine ev_iload_n rfl ?_
  refine ev_imul (r := 0) (by decide) ?_
  refine ev_ishl (r := 1) (by decide) ?_
  refine ev_istore_n (L' := [(2, 1), (0, 0), (0, 1), (9, 0), (9, 0), (9, 0), (9, 0), (9, 0)]) (Nat.le_of_ble_eq_true rfl) rfl ?_
  refine ev_iconst ?_
  refine ev_istore_n (L' := [(2, 1), (0, 0), (0, 1), (0, 0), (9, 0), (9, 0), (9, 0), (9, 0)]) (Nat.le_of_ble_eq_true rfl) rfl ?_
  exact (s156_0_1_l ew0 320).1 _ _ _ 0 _ _ _ g k0 (by omega) (by omega) (by omega) (by omega) (by omega) (by omega) (ew0) (by omega) (by omega) (by omega)
/-! s156_0_2  -/
set_option maxHeartbeats 4000000 in
theorem s156_0_2_l {G : GH} {h : JH} (ew0 : h.2.2 1 0 = 2) : ∀ N : Nat, (∀ (h1 : JH) (x3 y0 z0 : Int) (j4 j5 j7 : AV), Gd G h1 → Kp [(6, 0)] h h1 → 0 ≤ x3 → x3 ≤ 16 → 0 ≤ z0 → z0 ≤ 4 → (x3 + (-4) * z0) ≤ 0 → ((-x3) + 4 * z0) ≤ 0 → h1.2.2 1 0 = y0 → 2 ≤ y0 → y0 ≤ 2 → ((-224) * x3 + 3700) < N → jEv (jOk 1) none (fun _ => 0) c156_0 0 0 (PV G [(6, 0)] h) (c156_8, [(2, 1), (0, 0), (0, 1), (0, x3), j4, j5, (9, 0), j7], [], h1, 0, 0)) ∧ (∀ (h1 : JH) (x3 x4 y0 z0 : Int) (j5 j7 : AV), Gd G h1 → Kp [(6, 0)] h h1 → 0 ≤ x3 → x3 ≤ 12 → 0 ≤ x4 → x4 ≤ 13 → 0 ≤ z0 → z0 ≤ 3 → (x3 + (-4) * z0) ≤ 0 → ((-x3) + 4 * z0) ≤ 0 → ((-x3) + x4) ≤ 1 → (x3 + (-x4)) ≤ 0 → h1.2.2 1 0 = y0 → 2 ≤ y0 → y0 ≤ 2 → ((-224) * x3 + (-8) * x4 + 3692) < N → jEv (jOk 1) none (fun _ => 0) c156_0 0 0 (PV G [(6, 0)] h) (c156_19, [(2, 1), (0, 0), (0, 1), (0, x3), (0, x4), j5, (9, 0), j7], [], h1, 0, 0)) ∧ (∀ (h1 : JH) (x3 x4 x5 x7 y0 z0 : Int), Gd G h1 → Kp [(6, 0)] h h1 → 0 ≤ x3 → x3 ≤ 12 → 0 ≤ x4 → x4 ≤ 12 → (-9223372036854775808) ≤ x5 → x5 ≤ 9223372036854775807 → 1 ≤ x7 → x7 ≤ 4 → 0 ≤ z0 → z0 ≤ 3 → (x3 + (-4) * z0) ≤ 0 → ((-x3) + 4 * z0) ≤ 0 → ((-x3) + x4) ≤ 0 → (x3 + (-x4)) ≤ 0 → h1.2.2 1 0 = y0 → 2 ≤ y0 → y0 ≤ 2 → ((-224) * x3 + (-8) * x4 + (-x7) + 3692) < N → jEv (jOk 1) none (fun _ => 0) c156_0 0 0 (PV G [(6, 0)] h) (c156_33, [(2, 1), (0, 0), (0, 1), (0, x3), (0, x4), (1, x5), (9, 0), (0, x7)], [], h1, 0, 0)) := by
  intro N
  induction N with
  | zero => exact ⟨fun h1 x3 y0 z0 j4 j5 j7 g1 k1 b0 b1 b2 b3 b4 b5 b6 b7 b8 hm => absurd hm (by omega), fun h1 x3 x4 y0 z0 j5 j7 g1 k1 b0 b1 b2 b3 b4 b5 b6 b7 b8 b9 b10 b11 b12 hm => absurd hm (by omega), fun h1 x3 x4 x5 x7 y0 z0 g1 k1 b0 b1 b2 b3 b4 b5 b6 b7 b8 b9 b10 b11 b12 b13 b14 b15 b16 hm => absurd hm (by omega)⟩
  | succ N ih =>
    refine ⟨?_, ?_, ?_⟩
    · intro h1 x3 y0 z0 j4 j5 j7 g1 k1 b0 b1 b2 b3 b4 b5 ey0 ly0 uy0 hm
      refine ev_iload_n rfl ?_
      refine ev_aload_n rfl ?_
      refine ev_in (d := 0) (a := 0) (b := 0) (cd' := c157_0) (m := 1) (L0 := [(2, 1)]) (jcall_v (A := []) (S' := [(0, x3)]) (r := 1) rfl (g1.lt ad1) (g1.tg ad1) (Nat.le_of_ble_eq_true rfl)) (by decide) ml157 pp157 (Nat.le_of_ble_eq_true rfl) rfl (by decide) (by decide) ?_
      refine ev_iconst ?_
      refine ev_iconst ?_
      refine ev_aload_n rfl ?_
      refine g_getv (r := 1) (v := y0) g1 ad1 (by decide) ft10_0 (ey0) ?_
      refine ev_imul (r := (2 * y0)) (by unfold w32; omega) ?_
      refine g_ishlB (a' := 1) (a := 1) (b := 4) (hi := 16) (by omega) (by omega) (by omega) (by omega) (by decide) (by decide) (fun v25092 ev25092 lv25092 uv25092 => ?_)
      refine ev_ret rfl (by decide) (by decide) ?_
      show jEv _ _ _ _ _ _ _ (_, [(2, 1), (0, 0), (0, 1), (0, x3), j4, j5, (9, 0), j7], [(0, v25092), (0, x3)], _, _, _)
      refine ev_icmpge f156_91 (fun c25093 => ?_) (fun c25093 => ?_)
      · exact ev_ret rfl (by decide) (by decide) ⟨rfl, g1, k1⟩
      · refine ev_iload_n rfl ?_
        refine ev_istore (L' := [(2, 1), (0, 0), (0, 1), (0, x3), (0, x3), j5, (9, 0), j7]) (Nat.le_of_ble_eq_true rfl) rfl ?_
        exact ih.2.1 _ _ _ _ z0 _ _ g1 k1 (by omega) (by omega) (by omega) (by omega) (by omega) (by omega) (by omega) (by omega) (by omega) (by omega) (ey0) (by omega) (by omega) (by omega)
    · intro h1 x3 x4 y0 z0 j5 j7 g1 k1 b0 b1 b2 b3 b4 b5 b6 b7 b8 b9 ey0 ly0 uy0 hm
      refine ev_iload rfl ?_
      refine ev_iload_n rfl ?_
      refine ev_iload_n rfl ?_
      refine ev_iadd (r := (x3 + 1)) (by unfold w32; omega) ?_
      refine ev_icmpge f156_82 (fun c25094 => ?_) (fun c25094 => ?_)
      · refine ev_iload_n rfl ?_
        refine ev_iconst ?_
        refine ev_iload_n rfl ?_
        refine ev_imul (r := 4) (by decide) ?_
        refine ev_iadd (r := (x3 + 4)) (by unfold w32; omega) ?_
        refine ev_istore_n (L' := [(2, 1), (0, 0), (0, 1), (0, (x3 + 4)), (0, x4), j5, (9, 0), j7]) (Nat.le_of_ble_eq_true rfl) rfl ?_
        refine ev_goto f156_8 ?_
        exact ih.1 _ _ _ (z0 + 1) _ _ _ g1 k1 (by omega) (by omega) (by omega) (by omega) (by omega) (by omega) (ey0) (by omega) (by omega) (by omega)
      · refine ev_lconst ?_
        refine ev_lstore (L' := [(2, 1), (0, 0), (0, 1), (0, x3), (0, x4), (1, 0), (9, 0), j7]) (Nat.le_of_ble_eq_true rfl) rfl ?_
        refine ev_iconst ?_
        refine ev_istore (L' := [(2, 1), (0, 0), (0, 1), (0, x3), (0, x4), (1, 0), (9, 0), (0, 1)]) (Nat.le_of_ble_eq_true rfl) rfl ?_
        exact ih.2.2 _ _ _ _ _ _ z0 g1 k1 (by omega) (by omega) (by omega) (by omega) (by omega) (by omega) (by omega) (by omega) (by omega) (by omega) (by omega) (by omega) (by omega) (by omega) (ey0) (by omega) (by omega) (by omega)
    · intro h1 x3 x4 x5 x7 y0 z0 g1 k1 b0 b1 b2 b3 b4 b5 b6 b7 b8 b9 b10 b11 b12 b13 ey0 ly0 uy0 hm
      refine ev_iload rfl ?_
      refine ev_aload_n rfl ?_
      refine g_getp (r := 1) (c := 2) g1 ad1 (by decide) (by decide) rf1_3 ft10_3 ?_
      refine ev_iload_n rfl ?_
      refine g_iald g1 ad2 rt2 (by omega) (by omega) (fun v25095 ev25095 lv25095 uv25095 => ?_)
      refine ev_icmpgt f156_67 (fun c25096 => ?_) (fun c25096 => ?_)
      · refine ev_aload_n rfl ?_
        refine g_getp (r := 1) (c := 6) g1 ad1 (by decide) (by decide) rf1_7 ft10_7 ?_
        refine ev_iload rfl ?_
        refine ev_lload rfl ?_
        refine g_last g1 ad6 rt6 (fun _ => rfl) (by omega) (by omega) (by omega) (by omega) (fun h25097 e25097 g25097 => ?_)
        have k25097 := k1.wr e25097 rfl
        refine ev_iinc (w := (x4 + 1)) (L' := [(2, 1), (0, 0), (0, 1), (0, x3), (0, (x4 + 1)), (1, x5), (9, 0), (0, x7)]) rfl (by unfold w32; omega) rfl ?_
        refine ev_goto f156_19 ?_
        exact ih.2.1 _ _ _ _ z0 _ _ g25097 k25097 (by omega) (by omega) (by omega) (by omega) (by omega) (by omega) (by omega) (by omega) (by omega) (by omega) (((jw_ne e25097 (Or.inl (by decide))).trans ey0)) (by omega) (by omega) (by omega)
      · refine ev_lload rfl ?_
        refine ev_aload_n rfl ?_
        refine g_getp (r := 1) (c := 6) g1 ad1 (by decide) (by decide) rf1_7 ft10_7 ?_
        refine ev_iload rfl ?_
        refine ev_iload rfl ?_
        refine ev_iload_n rfl ?_
        refine ev_imul (r := x7) (by unfold w32; omega) ?_
        refine ev_iadd (r := (x4 + x7)) (by unfold w32; omega) ?_
        refine g_lald g1 ad6 rt6 (by omega) (by omega) (fun v25098 ev25098 lv25098 uv25098 => ?_)
        refine g_laddG (fun v25099 ev25099 lv25099 uv25099 => ?_)
        refine ev_lstore (L' := [(2, 1), (0, 0), (0, 1), (0, x3), (0, x4), (1, v25099), (9, 0), (0, x7)]) (Nat.le_of_ble_eq_true rfl) rfl ?_
        refine ev_iinc (w := (x7 + 1)) (L' := [(2, 1), (0, 0), (0, 1), (0, x3), (0, x4), (1, v25099), (9, 0), (0, (x7 + 1))]) rfl (by unfold w32; omega) rfl ?_
        refine ev_goto f156_33 ?_
        exact ih.2.2 _ _ _ _ _ _ z0 g1 k1 (by omega) (by omega) (by omega) (by omega) (by omega) (by omega) (by omega) (by omega) (by omega) (by omega) (by omega) (by omega) (by omega) (by omega) (ey0) (by omega) (by omega) (by omega)
set_option maxHeartbeats 4000000 in
theorem s156_0_2 {G : GH} {h : JH} (g : Gd G h) (ew0 : h.2.2 1 0 = 2) : jOk 2 0 0 156 [(2, 1), (0, 0)] h (PV G [(6, 0)] h) := by
  refine ⟨by decide, by rw [ml156]; exact Nat.le_of_ble_eq_true rfl, ?_⟩
  rw [ml156, pp156]
  show jEv _ none _ c156_0 0 0 _ (c156_0, [(2, 1), (0, 0), (9, 0), (9, 0), (9, 0), (9, 0), (9, 0), (9, 0)], [], h, 0, 0)
  have k0 := Kp.rf [(6, 0)] h
  refine ev_iconst ?_
  refine ev_iconst ?_
  refine ev_iload_n rfl ?_
  refine ev_imul (r := 0) (by decide) ?_
  refine ev_ishl (r := 1) (by decide) ?_
  refine ev_istore_n (L' := [(2, 1), (0, 0), (0, 1), (9, 0), (9, 0), (9, 0), (9, 0), (9, 0)]) (Nat.le_of_ble_eq_true rfl) rfl ?_
  refine ev_iconst ?_
  refine ev_istore_n (L' := [(2, 1), (0, 0), (0, 1), (0, 0), (9, 0), (9, 0), (9, 0), (9, 0)]) (Nat.le_of_ble_eq_true rfl) rfl ?_
  exact (s156_0_2_l ew0 7616).1 _ _ _ 0 _ _ _ g k0 (by omega) (by omega) (by omega) (by omega) (by omega) (by omega) (ew0) (by omega) (by omega) (by omega)
/-! s156_0_3  -/
set_option maxHeartbeats 4000000 in
theorem s156_0_3_l {G : GH} {h : JH} (ew0 : h.2.2 1 0 = 3) : ∀ N : Nat, (∀ (h1 : JH) (x3 y0 z0 : Int) (j4 j5 j7 : AV), Gd G h1 → Kp [(6, 0)] h h1 → 0 ≤ x3 → x3 ≤ 64 → 0 ≤ z0 → z0 ≤ 16 → (x3 + (-4) * z0) ≤ 0 → ((-x3) + 4 * z0) ≤ 0 → h1.2.2 1 0 = y0 → 3 ≤ y0 → y0 ≤ 3 → ((-1024) * x3 + 66052) < N → jEv (jOk 1) none (fun _ => 0) c156_0 0 0 (PV G [(6, 0)] h) (c156_8, [(2, 1), (0, 0), (0, 1), (0, x3), j4, j5, (9, 0), j7], [], h1, 0, 0)) ∧ (∀ (h1 : JH) (x3 x4 y0 z0 : Int) (j5 j7 : AV), Gd G h1 → Kp [(6, 0)] h h1 → 0 ≤ x3 → x3 ≤ 60 → 0 ≤ x4 → x4 ≤ 63 → 0 ≤ z0 → z0 ≤ 15 → (x3 + (-4) * z0) ≤ 0 → ((-x3) + 4 * z0) ≤ 0 → ((-x3) + x4) ≤ 1 → (x3 + (-x4)) ≤ 0 → h1.2.2 1 0 = y0 → 3 ≤ y0 → y0 ≤ 3 → ((-1024) * x3 + (-8) * x4 + 66044) < N → jEv (jOk 1) none (fun _ => 0) c156_0 0 0 (PV G [(6, 0)] h) (c156_19, [(2, 1), (0, 0), (0, 1), (0, x3), (0, x4), j5, (9, 0), j7], [], h1, 0, 0)) ∧ (∀ (h1 : JH) (x3 x4 x5 x7 y0 z0 : Int), Gd G h1 → Kp [(6, 0)] h h1 → 0 ≤ x3 → x3 ≤ 60 → 0 ≤ x4 → x4 ≤ 60 → (-9223372036854775808) ≤ x5 → x5 ≤ 9223372036854775807 → 1 ≤ x7 → x7 ≤ 4 → 0 ≤ z0 → z0 ≤ 15 → (x3 + (-4) * z0) ≤ 0 → ((-x3) + 4 * z0) ≤ 0 → ((-x3) + x4) ≤ 0 → (x3 + (-x4)) ≤ 0 → h1.2.2 1 0 = y0 → 3 ≤ y0 → y0 ≤ 3 → ((-1024) * x3 + (-8) * x4 + (-x7) + 66044) < N → jEv (jOk 1) none (fun _ => 0) c156_0 0 0 (PV G [(6, 0)] h) (c156_33, [(2, 1), (0, 0), (0, 1), (0, x3), (0, x4), (1, x5), (9, 0), (0, x7)], [], h1, 0, 0)) := by
  intro N
  induction N with
  | zero => exact ⟨fun h1 x3 y0 z0 j4 j5 j7 g1 k1 b0 b1 b2 b3 b4 b5 b6 b7 b8 hm => absurd hm (by omega), fun h1 x3 x4 y0 z0 j5 j7 g1 k1 b0 b1 b2 b3 b4 b5 b6 b7 b8 b9 b10 b11 b12 hm => absurd hm (by omega), fun h1 x3 x4 x5 x7 y0 z0 g1 k1 b0 b1 b2 b3 b4 b5 b6 b7 b8 b9 b10 b11 b12 b13 b14 b15 b16 hm => absurd hm (by omega)⟩
  | succ N ih =>
    refine ⟨?_, ?_, ?_⟩
    · intro h1 x3 y0 z0 j4 j5 j7 g1 k1 b0 b1 b2 b3 b4 b5 ey0 ly0 uy0 hm
      refine ev_iload_n rfl ?_
      refine ev_aload_n rfl ?_
      refine ev_in (d := 0) (a := 0) (b := 0) (cd' := c157_0) (m := 1) (L0 := [(2, 1)]) (jcall_v (A := []) (S' := [(0, x3)]) (r := 1) rfl (g1.lt ad1) (g1.tg ad1) (Nat.le_of_ble_eq_true rfl)) (by decide) ml157 pp157 (Nat.le_of_ble_eq_true rfl) rfl (by decide) (by decide) ?_
      refine ev_iconst ?_
      refine ev_iconst ?_
      refine ev_aload_n rfl ?_
      refine g_getv (r := 1) (v := y0) g1 ad1 (by decide) ft10_0 (ey0) ?_
      refine ev_imul (r := (2 * y0)) (by unfold w32; omega) ?_
      refine g_ishlB (a' := 1) (a := 1) (b := 6) (hi := 64) (by omega) (by omega) (by omega) (by omega) (by decide) (by decide) (fun v25214 ev25214 lv25214 uv25214 => ?_)
      refine ev_ret rfl (by decide) (by decide) ?_
      show jEv _ _ _ _ _ _ _ (_, [(2, 1), (0, 0), (0, 1), (0, x3), j4, j5, (9, 0), j7], [(0, v25214), (0, x3)], _, _, _)
      refine ev_icmpge f156_91 (fun c25215 => ?_) (fun c25215 => ?_)
      · exact ev_ret rfl (by decide) (by decide) ⟨rfl, g1, k1⟩
      · refine ev_iload_n rfl ?_
        refine ev_istore (L' := [(2, 1), (0, 0), (0, 1), (0, x3), (0, x3), j5, (9, 0), j7]) (Nat.le_of_ble_eq_true rfl) rfl ?_
        exact ih.2.1 _ _ _ _ z0 _ _ g1 k1 (by omega) (by omega) (by omega) (by omega) (by omega) (by omega) (by omega) (by omega) (by omega) (by omega) (ey0) (by omega) (by omega) (by omega)
    · intro h1 x3 x4 y0 z0 j5 j7 g1 k1 b0 b1 b2 b3 b4 b5 b6 b7 b8 b9 ey0 ly0 uy0 hm
      refine ev_iload rfl ?_
      refine ev_iload_n rfl ?_
      refine ev_iload_n rfl ?_
      refine ev_iadd (r := (x3 + 1)) (by unfold w32; omega) ?_
      refine ev_icmpge f156_82 (fun c25216 => ?_) (fun c25216 => ?_)
      · refine ev_iload_n rfl ?_
        refine ev_iconst ?_
        refine ev_iload_n rfl ?_
        refine ev_imul (r := 4) (by decide) ?_
        refine ev_iadd (r := (x3 + 4)) (by unfold w32; omega) ?_
        refine ev_istore_n (L' := [(2, 1), (0, 0), (0, 1), (0, (x3 + 4)), (0, x4), j5, (9, 0), j7]) (Nat.le_of_ble_eq_true rfl) rfl ?_
        refine ev_goto f156_8 ?_
        exact ih.1 _ _ _ (z0 + 1) _ _ _ g1 k1 (by omega) (by omega) (by omega) (by omega) (by omega) (by omega) (ey0) (by omega) (by omega) (by omega)
      · refine ev_lconst ?_
        refine ev_lstore (L' := [(2, 1), (0, 0), (0, 1), (0, x3), (0, x4), (1, 0), (9, 0), j7]) (Nat.le_of_ble_eq_true rfl) rfl ?_
        refine ev_iconst ?_
        refine ev_istore (L' := [(2, 1), (0, 0), (0, 1), (0, x3), (0, x4), (1, 0), (9, 0), (0, 1)]) (Nat.le_of_ble_eq_true rfl) rfl ?_
        exact ih.2.2 _ _ _ _ _ _ z0 g1 k1 (by omega) (by omega) (by omega) (by omega) (by omega) (by omega) (by omega) (by omega) (by omega) (by omega) (by omega) (by omega) (by omega) (by omega) (ey0) (by omega) (by omega) (by omega)
    · intro h1 x3 x4 x5 x7 y0 z0 g1 k1 b0 b1 b2 b3 b4 b5 b6 b7 b8 b9 b10 b11 b12 b13 ey0 ly0 uy0 hm
      refine ev_iload rfl ?_
      refine ev_aload_n rfl ?_
      refine g_getp (r := 1) (c := 2) g1 ad1 (by decide) (by decide) rf1_3 ft10_3 ?_
      refine ev_iload_n rfl ?_
      refine g_iald g1 ad2 rt2 (by omega) (by omega) (fun v25217 ev25217 lv25217 uv25217 => ?_)
      refine ev_icmpgt f156_67 (fun c25218 => ?_) (fun c25218 => ?_)
      · refine ev_aload_n rfl ?_
        refine g_getp (r := 1) (c := 6) g1 ad1 (by decide) (by decide) rf1_7 ft10_7 ?_
        refine ev_iload rfl ?_
        refine ev_lload rfl ?_
        refine g_last g1 ad6 rt6 (fun _ => rfl) (by omega) (by omega) (by omega) (by omega) (fun h25219 e25219 g25219 => ?_)
        have k25219 := k1.wr e25219 rfl
        refine ev_iinc (w := (x4 + 1)) (L' := [(2, 1), (0, 0), (0, 1), (0, x3), (0, (x4 + 1)), (1, x5), (9, 0), (0, x7)]) rfl (by unfold w32; omega) rfl ?_
        refine ev_goto f156_19 ?_
        exact ih.2.1 _ _ _ _ z0 _ _ g25219 k25219 (by omega) (by omega) (by omega) (by omega) (by omega) (by omega) (by omega) (by omega) (by omega) (by omega) (((jw_ne e25219 (Or.inl (by decide))).trans ey0)) (by omega) (by omega) (by omega)
      · refine ev_lload rfl ?_
        refine ev_aload_n rfl ?_
        refine g_getp (r := 1) (c := 6) g1 ad1 (by decide) (by decide) rf1_7 ft10_7 ?_
        refine ev_iload rfl ?_
        refine ev_iload rfl ?_
        refine ev_iload_n rfl ?_
        refine ev_imul (r := x7) (by unfold w32; omega) ?_
        refine ev_iadd (r := (x4 + x7)) (by unfold w32; omega) ?_
        refine g_lald g1 ad6 rt6 (by omega) (by omega) (fun v25220 ev25220 lv25220 uv25220 => ?_)
        refine g_laddG (fun v25221 ev25221 lv25221 uv25221 => ?_)
        refine ev_lstore (L' := [(2, 1), (0, 0), (0, 1), (0, x3), (0, x4), (1, v25221), (9, 0), (0, x7)]) (Nat.le_of_ble_eq_true rfl) rfl ?_
        refine ev_iinc (w := (x7 + 1)) (L' := [(2, 1), (0, 0), (0, 1), (0, x3), (0, x4), (1, v25221), (9, 0), (0, (x7 + 1))]) rfl (by unfold w32; omega) rfl ?_
        refine ev_goto f156_33 ?_
        exact ih.2.2 _ _ _ _ _ _ z0 g1 k1 (by omega) (by omega) (by omega) (by omega) (by omega) (by omega) (by omega) (by omega) (by omega) (by omega) (by omega) (by omega) (by omega) (by omega) (ey0) (by omega) (by omega) (by omega)
set_option maxHeartbeats 4000000 in
theorem s156_0_3 {G : GH} {h : JH} (g : Gd G h) (ew0 : h.2.2 1 0 = 3) : jOk 2 0 0 156 [(2, 1), (0, 0)] h (PV G [(6, 0)] h) := by
  refine ⟨by decide, by rw [ml156]; exact Nat.le_of_ble_eq_true rfl, ?_⟩
  rw [ml156, pp156]
  show jEv _ none _ c156_0 0 0 _ (c156_0, [(2, 1), (0, 0), (9, 0), (9, 0), (9, 0), (9, 0), (9, 0), (9, 0)], [], h, 0, 0)
  have k0 := Kp.rf [(6, 0)] h
  refine ev_iconst ?_
  refine ev_iconst ?_
  refine ev_iload_n rfl ?_
  refine ev_imul (r := 0) (by decide) ?_
  refine ev_ishl (r := 1) (by decide) ?_
  refine ev_istore_n (L' := [(2, 1), (0, 0), (0, 1), (9, 0), (9, 0), (9, 0), (9, 0), (9, 0)]) (Nat.le_of_ble_eq_true rfl) rfl ?_
  refine ev_iconst ?_
  refine ev_istore_n (L' := [(2, 1), (0, 0), (0, 1), (0, 0), (9, 0), (9, 0), (9, 0), (9, 0)]) (Nat.le_of_ble_eq_true rfl) rfl ?_
  exact (s156_0_3_l ew0 133120).1 _ _ _ 0 _ _ _ g k0 (by omega) (by omega) (by omega) (by omega) (by omega) (by omega) (ew0) (by omega) (by omega) (by omega)
/-! s156_0_4  -/
set_option maxHeartbeats 4000000 in
theorem s156_0_4_l {G : GH} {h : JH} (ew0 : h.2.2 1 0 = 4) : ∀ N : Nat, (∀ (h1 : JH) (x3 y0 z0 : Int) (j4 j5 j7 : AV), Gd G h1 → Kp [(6, 0)] h h1 → 0 ≤ x3 → x3 ≤ 256 → 0 ≤ z0 → z0 ≤ 64 → (x3 + (-4) * z0) ≤ 0 → ((-x3) + 4 * z0) ≤ 0 → h1.2.2 1 0 = y0 → 4 ≤ y0 → y0 ≤ 4 → ((-4096) * x3 + 1050628) < N → jEv (jOk 1) none (fun _ => 0) c156_0 0 0 (PV G [(6, 0)] h) (c156_8, [(2, 1), (0, 0), (0, 1), (0, x3), j4, j5, (9, 0), j7], [], h1, 0, 0)) ∧ (∀ (h1 : JH) (x3 x4 y0 z0 : Int) (j5 j7 : AV), Gd G h1 → Kp [(6, 0)] h h1 → 0 ≤ x3 → x3 ≤ 255 → 0 ≤ x4 → x4 ≤ 255 → 0 ≤ z0 → z0 ≤ 63 → (x3 + (-4) * z0) ≤ 0 → ((-x3) + 4 * z0) ≤ 0 → ((-x3) + x4) ≤ 1 → (x3 + (-x4)) ≤ 0 → h1.2.2 1 0 = y0 → 4 ≤ y0 → y0 ≤ 4 → ((-4096) * x3 + (-8) * x4 + 1050620) < N → jEv (jOk 1) none (fun _ => 0) c156_0 0 0 (PV G [(6, 0)] h) (c156_19, [(2, 1), (0, 0), (0, 1), (0, x3), (0, x4), j5, (9, 0), j7], [], h1, 0, 0)) ∧ (∀ (h1 : JH) (x3 x4 x5 x7 y0 z0 : Int), Gd G h1 → Kp [(6, 0)] h h1 → 0 ≤ x3 → x3 ≤ 255 → 0 ≤ x4 → x4 ≤ 255 → (-9223372036854775808) ≤ x5 → x5 ≤ 9223372036854775807 → 1 ≤ x7 → x7 ≤ 4 → 0 ≤ z0 → z0 ≤ 63 → (x3 + (-4) * z0) ≤ 0 → ((-x3) + 4 * z0) ≤ 0 → ((-x3) + x4) ≤ 0 → (x3 + (-x4)) ≤ 0 → h1.2.2 1 0 = y0 → 4 ≤ y0 → y0 ≤ 4 → ((-4096) * x3 + (-8) * x4 + (-x7) + 1050620) < N → jEv (jOk 1) none (fun _ => 0) c156_0 0 0 (PV G [(6, 0)] h) (c156_33, [(2, 1), (0, 0), (0, 1), (0, x3), (0, x4), (1, x5), (9, 0), (0, x7)], [], h1, 0, 0)) := by
  intro N
  induction N with
  | zero => exact ⟨fun h1 x3 y0 z0 j4 j5 j7 g1 k1 b0 b1 b2 b3 b4 b5 b6 b7 b8 hm => absurd hm (by omega), fun h1 x3 x4 y0 z0 j5 j7 g1 k1 b0 b1 b2 b3 b4 b5 b6 b7 b8 b9 b10 b11 b12 hm => absurd hm (by omega), fun h1 x3 x4 x5 x7 y0 z0 g1 k1 b0 b1 b2 b3 b4 b5 b6 b7 b8 b9 b10 b11 b12 b13 b14 b15 b16 hm => absurd hm (by omega)⟩
  | succ N ih =>
    refine ⟨?_, ?_, ?_⟩
    · intro h1 x3 y0 z0 j4 j5 j7 g1 k1 b0 b1 b2 b3 b4 b5 ey0 ly0 uy0 hm
      refine ev_iload_n rfl ?_
      refine ev_aload_n rfl ?_
      refine ev_in (d := 0) (a := 0) (b := 0) (cd' := c157_0) (m := 1) (L0 := [(2, 1)]) (jcall_v (A := []) (S' := [(0, x3)]) (r := 1) rfl (g1.lt ad1) (g1.tg ad1) (Nat.le_of_ble_eq_true rfl)) (by decide) ml157 pp157 (Nat.le_of_ble_eq_true rfl) rfl (by decide) (by decide) ?_
      refine ev_iconst ?_
      refine ev_iconst ?_
      refine ev_aload_n rfl ?_
      refine g_getv (r := 1) (v := y0) g1 ad1 (by decide) ft10_0 (ey0) ?_
      refine ev_imul (r := (2 * y0)) (by unfold w32; omega) ?_
      refine g_ishlB (a' := 1) (a := 1) (b := 8) (hi := 256) (by omega) (by omega) (by omega) (by omega) (by decide) (by decide) (fun v25413 ev25413 lv25413 uv25413 => ?_)
      refine ev_ret rfl (by decide) (by decide) ?_
      show jEv _ _ _ _ _ _ _ (_, [(2, 1), (0, 0), (0, 1), (0, x3), j4, j5, (9, 0), j7], [(0, v25413), (0, x3)], _, _, _)
      refine ev_icmpge f156_91 (fun c25414 => ?_) (fun c25414 => ?_)
      · exact ev_ret rfl (by decide) (by decide) ⟨rfl, g1, k1⟩
      · refine ev_iload_n rfl ?_
        refine ev_istore (L' := [(2, 1), (0, 0), (0, 1), (0, x3), (0, x3), j5, (9, 0), j7]) (Nat.le_of_ble_eq_true rfl) rfl ?_
        exact ih.2.1 _ _ _ _ z0 _ _ g1 k1 (by omega) (by omega) (by omega) (by omega) (by omega) (by omega) (by omega) (by omega) (by omega) (by omega) (ey0) (by omega) (by omega) (by omega)
    · intro h1 x3 x4 y0 z0 j5 j7 g1 k1 b0 b1 b2 b3 b4 b5 b6 b7 b8 b9 ey0 ly0 uy0 hm
      refine ev_iload rfl ?_
      refine ev_iload_n rfl ?_
      refine ev_iload_n rfl ?_
      refine ev_iadd (r := (x3 + 1)) (by unfold w32; omega) ?_
      refine ev_icmpge f156_82 (fun c25415 => ?_) (fun c25415 => ?_)
      · refine ev_iload_n rfl ?_
        refine ev_iconst ?_
        refine ev_iload_n rfl ?_
        refine ev_imul (r := 4) (by decide) ?_
        refine ev_iadd (r := (x3 + 4)) (by unfold w32; omega) ?_
        refine ev_istore_n (L' := [(2, 1), (0, 0), (0, 1), (0, (x3 + 4)), (0, x4), j5, (9, 0), j7]) (Nat.le_of_ble_eq_true rfl) rfl ?_
        refine ev_goto f156_8 ?_
        exact ih.1 _ _ _ (z0 + 1) _ _ _ g1 k1 (by omega) (by omega) (by omega) (by omega) (by omega) (by omega) (ey0) (by omega) (by omega) (by omega)
      · refine ev_lconst ?_
        refine ev_lstore (L' := [(2, 1), (0, 0), (0, 1), (0, x3), (0, x4), (1, 0), (9, 0), j7]) (Nat.le_of_ble_eq_true rfl) rfl ?_
        refine ev_iconst ?_
        refine ev_istore (L' := [(2, 1), (0, 0), (0, 1), (0, x3), (0, x4), (1, 0), (9, 0), (0, 1)]) (Nat.le_of_ble_eq_true rfl) rfl ?_
        exact ih.2.2 _ _ _ _ _ _ z0 g1 k1 (by omega) (by omega) (by omega) (by omega) (by omega) (by omega) (by omega) (by omega) (by omega) (by omega) (by omega) (by omega) (by omega) (by omega) (ey0) (by omega) (by omega) (by omega)
    · intro h1 x3 x4 x5 x7 y0 z0 g1 k1 b0 b1 b2 b3 b4 b5 b6 b7 b8 b9 b10 b11 b12 b13 ey0 ly0 uy0 hm
      refine ev_iload rfl ?_
      refine ev_aload_n rfl ?_
      refine g_getp (r := 1) (c := 2) g1 ad1 (by decide) (by decide) rf1_3 ft10_3 ?_
      refine ev_iload_n rfl ?_
      refine g_iald g1 ad2 rt2 (by omega) (by omega) (fun v25416 ev25416 lv25416 uv25416 => ?_)
      refine ev_icmpgt f156_67 (fun c25417 => ?_) (fun c25417 => ?_)
      · refine ev_aload_n rfl ?_
        refine g_getp (r := 1) (c := 6) g1 ad1 (by decide) (by decide) rf1_7 ft10_7 ?_
        refine ev_iload rfl ?_
        refine ev_lload rfl ?_
        refine g_last g1 ad6 rt6 (fun _ => rfl) (by omega) (by omega) (by omega) (by omega) (fun h25418 e25418 g25418 => ?_)
        have k25418 := k1.wr e25418 rfl
        refine ev_iinc (w := (x4 + 1)) (L' := [(2, 1), (0, 0), (0, 1), (0, x3), (0, (x4 + 1)), (1, x5), (9, 0), (0, x7)]) rfl (by unfold w32; omega) rfl ?_
        refine ev_goto f156_19 ?_
        exact ih.2.1 _ _ _ _ z0 _ _ g25418 k25418 (by omega) (by omega) (by omega) (by omega) (by omega) (by omega) (by omega) (by omega) (by omega) (by omega) (((jw_ne e25418 (Or.inl (by decide))).trans ey0)) (by omega) (by omega) (by omega)
      · refine ev_lload rfl ?_
        refine ev_aload_n rfl ?_
        refine g_getp (r := 1) (c := 6) g1 ad1 (by decide) (by decide) rf1_7 ft10_7 ?_
        refine ev_iload rfl ?_
        refine ev_iload rfl ?_
        refine ev_iload_n rfl ?_
        refine ev_imul (r := x7) (by unfold w32; omega) ?_
        refine ev_iadd (r := (x4 + x7)) (by unfold w32; omega) ?_
        refine g_lald g1 ad6 rt6 (by omega) (by omega) (fun v25419 ev25419 lv25419 uv25419 => ?_)
        refine g_laddG (fun v25420 ev25420 lv25420 uv25420 => ?_)
        refine ev_lstore (L' := [(2, 1), (0, 0), (0, 1), (0, x3), (0, x4), (1, v25420), (9, 0), (0, x7)]) (Nat.le_of_ble_eq_true rfl) rfl ?_
        refine ev_iinc (w := (x7 + 1)) (L' := [(2, 1), (0, 0), (0, 1), (0, x3), (0, x4), (1, v25420), (9, 0), (0, (x7 + 1))]) rfl (by unfold w32; omega) rfl ?_
        refine ev_goto f156_33 ?_
        exact ih.2.2 _ _ _ _ _ _ z0 g1 k1 (by omega) (by omega) (by omega) (by omega) (by omega) (by omega) (by omega) (by omega) (by omega) (by omega) (by omega) (by omega) (by omega) (by omega) (ey0) (by omega) (by omega) (by omega)
set_option maxHeartbeats 4000000 in
theorem s156_0_4 {G : GH} {h : JH} (g : Gd G h) (ew0 : h.2.2 1 0 = 4) : jOk 2 0 0 156 [(2, 1), (0, 0)] h (PV G [(6, 0)] h) := by
  refine ⟨by decide, by rw [ml156]; exact Nat.le_of_ble_eq_true rfl, ?_⟩
  rw [ml156, pp156]
  show jEv _ none _ c156_0 0 0 _ (c156_0, [(2, 1), (0, 0), (9, 0), (9, 0), (9, 0), (9, 0), (9, 0), (9, 0)], [], h, 0, 0)
  have k0 := Kp.rf [(6, 0)] h
  refine ev_iconst ?_
  refine ev_iconst ?_
  refine ev_iload_n rfl ?_
  refine ev_imul (r := 0) (by decide) ?_
  refine ev_ishl (r := 1) (by decide) ?_
  refine ev_istore_n (L' := [(2, 1), (0, 0), (0, 1), (9, 0), (9, 0), (9, 0), (9, 0), (9, 0)]) (Nat.le_of_ble_eq_true rfl) rfl ?_
  refine ev_iconst ?_
  refine ev_istore_n (L' := [(2, 1), (0, 0), (0, 1), (0, 0), (9, 0), (9, 0), (9, 0), (9, 0)]) (Nat.le_of_ble_eq_true rfl) rfl ?_
  exact (s156_0_4_l ew0 2105344).1 _ _ _ 0 _ _ _ g k0 (by omega) (by omega) (by omega) (by omega) (by omega) (by omega) (ew0) (by omega) (by omega) (by omega)
