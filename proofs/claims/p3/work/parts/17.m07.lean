/-! s82_1  -/
set_option maxHeartbeats 4000000 in
theorem s82_1_l {G : GH} {h : JH} {r1 : Nat} {m1 : Int} (q1 : IsQ G r1 m1) {a2 : Int} (la2 : 0 ≤ a2) (ua2 : a2 ≤ 199) {a3 : Int} (la3 : (-1) ≤ a3) (ua3 : a3 ≤ m1 - 1) {a4 : Int} (la4 : (-2147483648) ≤ a4) (ua4 : a4 ≤ 2147483647) : ∀ N : Nat, (∀ (h1 : JH) (x6 x7 : Int) (j8 j9 : AV), Gd G h1 → Kp [(1000000, 0)] h h1 → 0 ≤ a2 → a2 ≤ 199 → (-1) ≤ a3 → a3 ≤ 99 → (-2147483648) ≤ a4 → a4 ≤ 2147483647 → (-1) ≤ x6 → x6 ≤ 99 → x6 ≤ m1 - 1 → 0 ≤ x7 → x7 ≤ 4 → ((-x7) + 4) < N → jEv (jOk 13) none (fun _ => 0) c82_0 0 0 (PM G [(1000000, 0)] h m1 0 (-1) (-1)) (c82_24, [(2, 7), (2, (r1 : Int)), (0, a2), (0, a3), (0, a4), (0, 1), (0, x6), (0, x7), j8, j9], [], h1, 0, 0)) := by
  intro N
  induction N with
  | zero => exact fun h1 x6 x7 j8 j9 g1 k1 b0 b1 b2 b3 b4 b5 b6 b7 b8 b9 b10 hm => absurd hm (by omega)
  | succ N ih =>
    show _
    intro h1 x6 x7 j8 j9 g1 k1 b0 b1 b2 b3 b4 b5 b6 b7 b8 b9 b10 hm
    have wr1 := g1.qb q1
    have zr1 := q1.1
    refine ev_iload rfl ?_
    refine ev_aload_n rfl ?_
    refine g_getp (r := 7) (c := 12) g1 ad7 (by decide) (by decide) rf7_9 ft5_9 ?_
    refine ev_iload_n rfl ?_
    refine g_iald g1 ad12 rt12 (by omega) (by omega) (fun v28786 ev28786 lv28786 uv28786 => ?_)
    refine ev_icmpge f82_126 (fun c28787 => ?_) (fun c28787 => ?_)
    · refine ev_iload rfl ?_
      exact ev_ret rfl (by decide) (by decide) ⟨_, rfl, by omega, by omega, g1, k1⟩
    · refine ev_iload rfl ?_
      refine ev_bipush ?_
      refine ev_icmpgt f82_126 (fun c28788 => absurd c28788 (by omega)) (fun c28788 => ?_)
      refine ev_aload_n rfl ?_
      refine g_getp (r := 7) (c := 10) g1 ad7 (by decide) (by decide) rf7_7 ft5_7 ?_
      refine ev_iload_n rfl ?_
      refine g_iald g1 ad10 rt10 (by omega) (by omega) (fun v28789 ev28789 lv28789 uv28789 => ?_)
      refine ev_iconst ?_
      refine ev_icmpne f82_71 (fun c28790 => ?_) (fun c28790 => ?_)
      · refine ev_iload rfl ?_
        refine ev_istore (L' := [(2, 7), (2, (r1 : Int)), (0, a2), (0, a3), (0, a4), (0, 1), (0, x6), (0, x7), (0, a4), j9]) (Nat.le_of_ble_eq_true rfl) rfl ?_
        refine ev_aload_n rfl ?_
        refine ev_aload_n rfl ?_
        refine ev_aload_n rfl ?_
        refine g_getp (r := 7) (c := 13) g1 ad7 (by decide) (by decide) rf7_10 ft5_10 ?_
        refine ev_iconst ?_
        refine ev_iload_n rfl ?_
        refine ev_imul (r := (4 * a2)) (by unfold w32; omega) ?_
        refine ev_iload rfl ?_
        refine ev_iadd (r := (4 * a2 + x7)) (by unfold w32; omega) ?_
        refine g_iald g1 ad13 rt13 (by omega) (by omega) (fun v28791 ev28791 lv28791 uv28791 => ?_)
        refine ev_iload rfl ?_
        refine ev_iload rfl ?_
        refine ev_iload rfl ?_
        refine ev_iconst ?_
        refine ev_iadd (r := 2) (by decide) ?_
        refine ev_call (jcall_v (A := [(0, 2), (0, a4), (0, x6), (0, v28791), (2, (r1 : Int))]) (S' := []) (r := 7) rfl (g1.lt ad7) (g1.tg ad7) (Nat.le_of_ble_eq_true rfl)) (jOk_le (by decide) (s82_2 g1 q1 (by omega) (by omega) (by omega) (by omega) (by omega) (by omega))) (by decide) (by decide) (fun w28792 h28792 q28792 => ?_)
        obtain ⟨v28793, rfl, lv28793, uv28793, g28792, kk28792⟩ := q28792
        have k28792 := k1.tr kk28792 (by decide)
        show jEv _ _ _ _ _ _ _ (_, [(2, 7), (2, (r1 : Int)), (0, a2), (0, a3), (0, a4), (0, 1), (0, x6), (0, x7), (0, a4), j9], [(0, v28793)], _, _, _)
        refine ev_istore (L' := [(2, 7), (2, (r1 : Int)), (0, a2), (0, a3), (0, a4), (0, 1), (0, x6), (0, x7), (0, a4), (0, v28793)]) (Nat.le_of_ble_eq_true rfl) rfl ?_
        refine ev_aload_n rfl ?_
        refine ev_iload rfl ?_
        refine ev_aload_n rfl ?_
        refine g_getp (r := 7) (c := 14) g28792 ad7 (by decide) (by decide) rf7_11 ft5_11 ?_
        refine ev_iconst ?_
        refine ev_iload_n rfl ?_
        refine ev_imul (r := (4 * a2)) (by unfold w32; omega) ?_
        refine ev_iload rfl ?_
        refine ev_iadd (r := (4 * a2 + x7)) (by unfold w32; omega) ?_
        refine g_iald g28792 ad14 rt14 (by omega) (by omega) (fun v28794 ev28794 lv28794 uv28794 => ?_)
        refine ev_iload rfl ?_
        refine ev_call (jcall_v (A := [(0, v28793), (0, v28794), (0, x6)]) (S' := []) (r := r1) rfl (g28792.qlt q1) (g28792.qtg q1) (Nat.le_of_ble_eq_true rfl)) (jOk_le (by decide) (s23 g28792 q1 (by omega) (by omega) (by omega) (by omega) (by omega) (by omega))) (by decide) (by decide) (fun w28795 h28795 q28795 => ?_)
        obtain ⟨rfl, g28795, kk28795⟩ := q28795
        have k28795 := k28792.tr kk28795 (by decide)
        show jEv _ _ _ _ _ _ _ (_, [(2, 7), (2, (r1 : Int)), (0, a2), (0, a3), (0, a4), (0, 1), (0, x6), (0, x7), (0, a4), (0, v28793)], [], _, _, _)
        refine ev_iinc (w := (x7 + 1)) (L' := [(2, 7), (2, (r1 : Int)), (0, a2), (0, a3), (0, a4), (0, 1), (0, x6), (0, (x7 + 1)), (0, a4), (0, v28793)]) rfl (by unfold w32; omega) rfl ?_
        refine ev_goto f82_24 ?_
        exact ih _ _ _ _ _ g28795 k28795 (by omega) (by omega) (by omega) (by omega) (by omega) (by omega) (by omega) (by omega) (by omega) (by omega) (by omega) (by omega)
      · refine ev_iload rfl ?_
        refine ev_iload rfl ?_
        refine ev_iconst ?_
        refine ev_iadd (r := (x7 + 1)) (by unfold w32; omega) ?_
        refine ev_iconst ?_
        refine ev_aload_n rfl ?_
        refine g_getp (r := 7) (c := 11) g1 ad7 (by decide) (by decide) rf7_8 ft5_8 ?_
        refine ev_iload_n rfl ?_
        refine g_iald g1 ad11 rt11 (by omega) (by omega) (fun v28796 ev28796 lv28796 uv28796 => ?_)
        refine g_imulG (fun v28797 ev28797 lv28797 uv28797 => ?_)
        refine g_ishlG (fun v28798 ev28798 lv28798 uv28798 => ?_)
        refine g_iorG (fun v28799 ev28799 lv28799 uv28799 => ?_)
        refine ev_goto f82_73 ?_
        refine ev_istore (L' := [(2, 7), (2, (r1 : Int)), (0, a2), (0, a3), (0, a4), (0, 1), (0, x6), (0, x7), (0, v28799), j9]) (Nat.le_of_ble_eq_true rfl) rfl ?_
        refine ev_aload_n rfl ?_
        refine ev_aload_n rfl ?_
        refine ev_aload_n rfl ?_
        refine g_getp (r := 7) (c := 13) g1 ad7 (by decide) (by decide) rf7_10 ft5_10 ?_
        refine ev_iconst ?_
        refine ev_iload_n rfl ?_
        refine ev_imul (r := (4 * a2)) (by unfold w32; omega) ?_
        refine ev_iload rfl ?_
        refine ev_iadd (r := (4 * a2 + x7)) (by unfold w32; omega) ?_
        refine g_iald g1 ad13 rt13 (by omega) (by omega) (fun v28800 ev28800 lv28800 uv28800 => ?_)
        refine ev_iload rfl ?_
        refine ev_iload rfl ?_
        refine ev_iload rfl ?_
        refine ev_iconst ?_
        refine ev_iadd (r := 2) (by decide) ?_
        refine ev_call (jcall_v (A := [(0, 2), (0, v28799), (0, x6), (0, v28800), (2, (r1 : Int))]) (S' := []) (r := 7) rfl (g1.lt ad7) (g1.tg ad7) (Nat.le_of_ble_eq_true rfl)) (jOk_le (by decide) (s82_2 g1 q1 (by omega) (by omega) (by omega) (by omega) (by omega) (by omega))) (by decide) (by decide) (fun w28801 h28801 q28801 => ?_)
        obtain ⟨v28802, rfl, lv28802, uv28802, g28801, kk28801⟩ := q28801
        have k28801 := k1.tr kk28801 (by decide)
        show jEv _ _ _ _ _ _ _ (_, [(2, 7), (2, (r1 : Int)), (0, a2), (0, a3), (0, a4), (0, 1), (0, x6), (0, x7), (0, v28799), j9], [(0, v28802)], _, _, _)
        refine ev_istore (L' := [(2, 7), (2, (r1 : Int)), (0, a2), (0, a3), (0, a4), (0, 1), (0, x6), (0, x7), (0, v28799), (0, v28802)]) (Nat.le_of_ble_eq_true rfl) rfl ?_
        refine ev_aload_n rfl ?_
        refine ev_iload rfl ?_
        refine ev_aload_n rfl ?_
        refine g_getp (r := 7) (c := 14) g28801 ad7 (by decide) (by decide) rf7_11 ft5_11 ?_
        refine ev_iconst ?_
        refine ev_iload_n rfl ?_
        refine ev_imul (r := (4 * a2)) (by unfold w32; omega) ?_
        refine ev_iload rfl ?_
        refine ev_iadd (r := (4 * a2 + x7)) (by unfold w32; omega) ?_
        refine g_iald g28801 ad14 rt14 (by omega) (by omega) (fun v28803 ev28803 lv28803 uv28803 => ?_)
        refine ev_iload rfl ?_
        refine ev_call (jcall_v (A := [(0, v28802), (0, v28803), (0, x6)]) (S' := []) (r := r1) rfl (g28801.qlt q1) (g28801.qtg q1) (Nat.le_of_ble_eq_true rfl)) (jOk_le (by decide) (s23 g28801 q1 (by omega) (by omega) (by omega) (by omega) (by omega) (by omega))) (by decide) (by decide) (fun w28804 h28804 q28804 => ?_)
        obtain ⟨rfl, g28804, kk28804⟩ := q28804
        have k28804 := k28801.tr kk28804 (by decide)
        show jEv _ _ _ _ _ _ _ (_, [(2, 7), (2, (r1 : Int)), (0, a2), (0, a3), (0, a4), (0, 1), (0, x6), (0, x7), (0, v28799), (0, v28802)], [], _, _, _)
        refine ev_iinc (w := (x7 + 1)) (L' := [(2, 7), (2, (r1 : Int)), (0, a2), (0, a3), (0, a4), (0, 1), (0, x6), (0, (x7 + 1)), (0, v28799), (0, v28802)]) rfl (by unfold w32; omega) rfl ?_
        refine ev_goto f82_24 ?_
        exact ih _ _ _ _ _ g28804 k28804 (by omega) (by omega) (by omega) (by omega) (by omega) (by omega) (by omega) (by omega) (by omega) (by omega) (by omega) (by omega)
set_option maxHeartbeats 4000000 in
theorem s82_1 {G : GH} {h : JH} (g : Gd G h) {r1 : Nat} {m1 : Int} (q1 : IsQ G r1 m1) {a2 : Int} (la2 : 0 ≤ a2) (ua2 : a2 ≤ 199) {a3 : Int} (la3 : (-1) ≤ a3) (ua3 : a3 ≤ m1 - 1) {a4 : Int} (la4 : (-2147483648) ≤ a4) (ua4 : a4 ≤ 2147483647) : jOk 14 0 0 82 [(2, 7), (2, (r1 : Int)), (0, a2), (0, a3), (0, a4), (0, 1)] h (PM G [(1000000, 0)] h m1 0 (-1) (-1)) := by
  refine ⟨by decide, by rw [ml82]; exact Nat.le_of_ble_eq_true rfl, ?_⟩
  rw [ml82, pp82]
  show jEv _ none _ c82_0 0 0 _ (c82_0, [(2, 7), (2, (r1 : Int)), (0, a2), (0, a3), (0, a4), (0, 1), (9, 0), (9, 0), (9, 0), (9, 0)], [], h, 0, 0)
  have k0 := Kp.rf [(1000000, 0)] h
  have wr1 := g.qb q1
  have zr1 := q1.1
  refine ev_aload_n rfl ?_
  refine ev_aload_n rfl ?_
  refine g_getp (r := 7) (c := 10) g ad7 (by decide) (by decide) rf7_7 ft5_7 ?_
  refine ev_iload_n rfl ?_
  refine g_iald g ad10 rt10 (by omega) (by omega) (fun v28805 ev28805 lv28805 uv28805 => ?_)
  refine ev_aload_n rfl ?_
  refine g_getp (r := 7) (c := 11) g ad7 (by decide) (by decide) rf7_8 ft5_8 ?_
  refine ev_iload_n rfl ?_
  refine g_iald g ad11 rt11 (by omega) (by omega) (fun v28806 ev28806 lv28806 uv28806 => ?_)
  refine ev_iload_n rfl ?_
  refine ev_iload rfl ?_
  refine ev_call (jcall_v (A := [(0, a4), (0, a3), (0, v28806), (0, v28805)]) (S' := []) (r := r1) rfl (g.qlt q1) (g.qtg q1) (Nat.le_of_ble_eq_true rfl)) (jOk_le (by decide) (s22 g q1 (by omega) (by omega) (by omega) (by omega) (by omega) (by omega) (by omega) (by omega))) (by decide) (by decide) (fun w28807 h28807 q28807 => ?_)
  obtain ⟨v28808, rfl, lv28808, uv28808, g28807, kk28807⟩ := q28807
  have k28807 := k0.tr kk28807 (by decide)
  show jEv _ _ _ _ _ _ _ (_, [(2, 7), (2, (r1 : Int)), (0, a2), (0, a3), (0, a4), (0, 1), (9, 0), (9, 0), (9, 0), (9, 0)], [(0, v28808)], _, _, _)
  refine ev_istore (L' := [(2, 7), (2, (r1 : Int)), (0, a2), (0, a3), (0, a4), (0, 1), (0, v28808), (9, 0), (9, 0), (9, 0)]) (Nat.le_of_ble_eq_true rfl) rfl ?_
  refine ev_iconst ?_
  refine ev_istore (L' := [(2, 7), (2, (r1 : Int)), (0, a2), (0, a3), (0, a4), (0, 1), (0, v28808), (0, 0), (9, 0), (9, 0)]) (Nat.le_of_ble_eq_true rfl) rfl ?_
  exact (s82_1_l q1 la2 ua2 la3 ua3 la4 ua4 10) _ _ _ _ _ g28807 k28807 (by omega) (by omega) (by omega) (by omega) (by omega) (by omega) (by omega) (by omega) (by omega) (by omega) (by omega) (by omega)
/-! s82_0  -/
set_option maxHeartbeats 4000000 in
theorem s82_0_l {G : GH} {h : JH} {r1 : Nat} {m1 : Int} (q1 : IsQ G r1 m1) {a2 : Int} (la2 : 0 ≤ a2) (ua2 : a2 ≤ 199) {a3 : Int} (la3 : (-1) ≤ a3) (ua3 : a3 ≤ m1 - 1) {a4 : Int} (la4 : (-2147483648) ≤ a4) (ua4 : a4 ≤ 2147483647) : ∀ N : Nat, (∀ (h1 : JH) (x6 x7 : Int) (j8 j9 : AV), Gd G h1 → Kp [(1000000, 0)] h h1 → 0 ≤ a2 → a2 ≤ 199 → (-1) ≤ a3 → a3 ≤ 99 → (-2147483648) ≤ a4 → a4 ≤ 2147483647 → (-1) ≤ x6 → x6 ≤ 99 → x6 ≤ m1 - 1 → 0 ≤ x7 → x7 ≤ 4 → ((-x7) + 4) < N → jEv (jOk 14) none (fun _ => 0) c82_0 0 0 (PM G [(1000000, 0)] h m1 0 (-1) (-1)) (c82_24, [(2, 7), (2, (r1 : Int)), (0, a2), (0, a3), (0, a4), (0, 0), (0, x6), (0, x7), j8, j9], [], h1, 0, 0)) := by
  intro N
  induction N with
  | zero => exact fun h1 x6 x7 j8 j9 g1 k1 b0 b1 b2 b3 b4 b5 b6 b7 b8 b9 b10 hm => absurd hm (by omega)
  | succ N ih =>
    show _
    intro h1 x6 x7 j8 j9 g1 k1 b0 b1 b2 b3 b4 b5 b6 b7 b8 b9 b10 hm
    have wr1 := g1.qb q1
    have zr1 := q1.1
    refine ev_iload rfl ?_
    refine ev_aload_n rfl ?_
    refine g_getp (r := 7) (c := 12) g1 ad7 (by decide) (by decide) rf7_9 ft5_9 ?_
    refine ev_iload_n rfl ?_
    refine g_iald g1 ad12 rt12 (by omega) (by omega) (fun v28931 ev28931 lv28931 uv28931 => ?_)
    refine ev_icmpge f82_126 (fun c28932 => ?_) (fun c28932 => ?_)
    · refine ev_iload rfl ?_
      exact ev_ret rfl (by decide) (by decide) ⟨_, rfl, by omega, by omega, g1, k1⟩
    · refine ev_iload rfl ?_
      refine ev_bipush ?_
      refine ev_icmpgt f82_126 (fun c28933 => absurd c28933 (by omega)) (fun c28933 => ?_)
      refine ev_aload_n rfl ?_
      refine g_getp (r := 7) (c := 10) g1 ad7 (by decide) (by decide) rf7_7 ft5_7 ?_
      refine ev_iload_n rfl ?_
      refine g_iald g1 ad10 rt10 (by omega) (by omega) (fun v28934 ev28934 lv28934 uv28934 => ?_)
      refine ev_iconst ?_
      refine ev_icmpne f82_71 (fun c28935 => ?_) (fun c28935 => ?_)
      · refine ev_iload rfl ?_
        refine ev_istore (L' := [(2, 7), (2, (r1 : Int)), (0, a2), (0, a3), (0, a4), (0, 0), (0, x6), (0, x7), (0, a4), j9]) (Nat.le_of_ble_eq_true rfl) rfl ?_
        refine ev_aload_n rfl ?_
        refine ev_aload_n rfl ?_
        refine ev_aload_n rfl ?_
        refine g_getp (r := 7) (c := 13) g1 ad7 (by decide) (by decide) rf7_10 ft5_10 ?_
        refine ev_iconst ?_
        refine ev_iload_n rfl ?_
        refine ev_imul (r := (4 * a2)) (by unfold w32; omega) ?_
        refine ev_iload rfl ?_
        refine ev_iadd (r := (4 * a2 + x7)) (by unfold w32; omega) ?_
        refine g_iald g1 ad13 rt13 (by omega) (by omega) (fun v28936 ev28936 lv28936 uv28936 => ?_)
        refine ev_iload rfl ?_
        refine ev_iload rfl ?_
        refine ev_iload rfl ?_
        refine ev_iconst ?_
        refine ev_iadd (r := 1) (by decide) ?_
        refine ev_call (jcall_v (A := [(0, 1), (0, a4), (0, x6), (0, v28936), (2, (r1 : Int))]) (S' := []) (r := 7) rfl (g1.lt ad7) (g1.tg ad7) (Nat.le_of_ble_eq_true rfl)) (jOk_le (by decide) (s82_1 g1 q1 (by omega) (by omega) (by omega) (by omega) (by omega) (by omega))) (by decide) (by decide) (fun w28937 h28937 q28937 => ?_)
        obtain ⟨v28938, rfl, lv28938, uv28938, g28937, kk28937⟩ := q28937
        have k28937 := k1.tr kk28937 (by decide)
        show jEv _ _ _ _ _ _ _ (_, [(2, 7), (2, (r1 : Int)), (0, a2), (0, a3), (0, a4), (0, 0), (0, x6), (0, x7), (0, a4), j9], [(0, v28938)], _, _, _)
        refine ev_istore (L' := [(2, 7), (2, (r1 : Int)), (0, a2), (0, a3), (0, a4), (0, 0), (0, x6), (0, x7), (0, a4), (0, v28938)]) (Nat.le_of_ble_eq_true rfl) rfl ?_
        refine ev_aload_n rfl ?_
        refine ev_iload rfl ?_
        refine ev_aload_n rfl ?_
        refine g_getp (r := 7) (c := 14) g28937 ad7 (by decide) (by decide) rf7_11 ft5_11 ?_
        refine ev_iconst ?_
        refine ev_iload_n rfl ?_
        refine ev_imul (r := (4 * a2)) (by unfold w32; omega) ?_
        refine ev_iload rfl ?_
        refine ev_iadd (r := (4 * a2 + x7)) (by unfold w32; omega) ?_
        refine g_iald g28937 ad14 rt14 (by omega) (by omega) (fun v28939 ev28939 lv28939 uv28939 => ?_)
        refine ev_iload rfl ?_
        refine ev_call (jcall_v (A := [(0, v28938), (0, v28939), (0, x6)]) (S' := []) (r := r1) rfl (g28937.qlt q1) (g28937.qtg q1) (Nat.le_of_ble_eq_true rfl)) (jOk_le (by decide) (s23 g28937 q1 (by omega) (by omega) (by omega) (by omega) (by omega) (by omega))) (by decide) (by decide) (fun w28940 h28940 q28940 => ?_)
        obtain ⟨rfl, g28940, kk28940⟩ := q28940
        have k28940 := k28937.tr kk28940 (by decide)
        show jEv _ _ _ _ _ _ _ (_, [(2, 7), (2, (r1 : Int)), (0, a2), (0, a3), (0, a4), (0, 0), (0, x6), (0, x7), (0, a4), (0, v28938)], [], _, _, _)
        refine ev_iinc (w := (x7 + 1)) (L' := [(2, 7), (2, (r1 : Int)), (0, a2), (0, a3), (0, a4), (0, 0), (0, x6), (0, (x7 + 1)), (0, a4), (0, v28938)]) rfl (by unfold w32; omega) rfl ?_
        refine ev_goto f82_24 ?_
        exact ih _ _ _ _ _ g28940 k28940 (by omega) (by omega) (by omega) (by omega) (by omega) (by omega) (by omega) (by omega) (by omega) (by omega) (by omega) (by omega)
      · refine ev_iload rfl ?_
        refine ev_iload rfl ?_
        refine ev_iconst ?_
        refine ev_iadd (r := (x7 + 1)) (by unfold w32; omega) ?_
        refine ev_iconst ?_
        refine ev_aload_n rfl ?_
        refine g_getp (r := 7) (c := 11) g1 ad7 (by decide) (by decide) rf7_8 ft5_8 ?_
        refine ev_iload_n rfl ?_
        refine g_iald g1 ad11 rt11 (by omega) (by omega) (fun v28941 ev28941 lv28941 uv28941 => ?_)
        refine g_imulG (fun v28942 ev28942 lv28942 uv28942 => ?_)
        refine g_ishlG (fun v28943 ev28943 lv28943 uv28943 => ?_)
        refine g_iorG (fun v28944 ev28944 lv28944 uv28944 => ?_)
        refine ev_goto f82_73 ?_
        refine ev_istore (L' := [(2, 7), (2, (r1 : Int)), (0, a2), (0, a3), (0, a4), (0, 0), (0, x6), (0, x7), (0, v28944), j9]) (Nat.le_of_ble_eq_true rfl) rfl ?_
        refine ev_aload_n rfl ?_
        refine ev_aload_n rfl ?_
        refine ev_aload_n rfl ?_
        refine g_getp (r := 7) (c := 13) g1 ad7 (by decide) (by decide) rf7_10 ft5_10 ?_
        refine ev_iconst ?_
        refine ev_iload_n rfl ?_
        refine ev_imul (r := (4 * a2)) (by unfold w32; omega) ?_
        refine ev_iload rfl ?_
        refine ev_iadd (r := (4 * a2 + x7)) (by unfold w32; omega) ?_
        refine g_iald g1 ad13 rt13 (by omega) (by omega) (fun v28945 ev28945 lv28945 uv28945 => ?_)
        refine ev_iload rfl ?_
        refine ev_iload rfl ?_
        refine ev_iload rfl ?_
        refine ev_iconst ?_
        refine ev_iadd (r := 1) (by decide) ?_
        refine ev_call (jcall_v (A := [(0, 1), (0, v28944), (0, x6), (0, v28945), (2, (r1 : Int))]) (S' := []) (r := 7) rfl (g1.lt ad7) (g1.tg ad7) (Nat.le_of_ble_eq_true rfl)) (jOk_le (by decide) (s82_1 g1 q1 (by omega) (by omega) (by omega) (by omega) (by omega) (by omega))) (by decide) (by decide) (fun w28946 h28946 q28946 => ?_)
        obtain ⟨v28947, rfl, lv28947, uv28947, g28946, kk28946⟩ := q28946
        have k28946 := k1.tr kk28946 (by decide)
        show jEv _ _ _ _ _ _ _ (_, [(2, 7), (2, (r1 : Int)), (0, a2), (0, a3), (0, a4), (0, 0), (0, x6), (0, x7), (0, v28944), j9], [(0, v28947)], _, _, _)
        refine ev_istore (L' := [(2, 7), (2, (r1 : Int)), (0, a2), (0, a3), (0, a4), (0, 0), (0, x6), (0, x7), (0, v28944), (0, v28947)]) (Nat.le_of_ble_eq_true rfl) rfl ?_
        refine ev_aload_n rfl ?_
        refine ev_iload rfl ?_
        refine ev_aload_n rfl ?_
        refine g_getp (r := 7) (c := 14) g28946 ad7 (by decide) (by decide) rf7_11 ft5_11 ?_
        refine ev_iconst ?_
        refine ev_iload_n rfl ?_
        refine ev_imul (r := (4 * a2)) (by unfold w32; omega) ?_
        refine ev_iload rfl ?_
        refine ev_iadd (r := (4 * a2 + x7)) (by unfold w32; omega) ?_
        refine g_iald g28946 ad14 rt14 (by omega) (by omega) (fun v28948 ev28948 lv28948 uv28948 => ?_)
        refine ev_iload rfl ?_
        refine ev_call (jcall_v (A := [(0, v28947), (0, v28948), (0, x6)]) (S' := []) (r := r1) rfl (g28946.qlt q1) (g28946.qtg q1) (Nat.le_of_ble_eq_true rfl)) (jOk_le (by decide) (s23 g28946 q1 (by omega) (by omega) (by omega) (by omega) (by omega) (by omega))) (by decide) (by decide) (fun w28949 h28949 q28949 => ?_)
        obtain ⟨rfl, g28949, kk28949⟩ := q28949
        have k28949 := k28946.tr kk28949 (by decide)
        show jEv _ _ _ _ _ _ _ (_, [(2, 7), (2, (r1 : Int)), (0, a2), (0, a3), (0, a4), (0, 0), (0, x6), (0, x7), (0, v28944), (0, v28947)], [], _, _, _)
        refine ev_iinc (w := (x7 + 1)) (L' := [(2, 7), (2, (r1 : Int)), (0, a2), (0, a3), (0, a4), (0, 0), (0, x6), (0, (x7 + 1)), (0, v28944), (0, v28947)]) rfl (by unfold w32; omega) rfl ?_
        refine ev_goto f82_24 ?_
        exact ih _ _ _ _ _ g28949 k28949 (by omega) (by omega) (by omega) (by omega) (by omega) (by omega) (by omega) (by omega) (by omega) (by omega) (by omega) (by omega)
set_option maxHeartbeats 4000000 in
theorem s82_0 {G : GH} {h : JH} (g : Gd G h) {r1 : Nat} {m1 : Int} (q1 : IsQ G r1 m1) {a2 : Int} (la2 : 0 ≤ a2) (ua2 : a2 ≤ 199) {a3 : Int} (la3 : (-1) ≤ a3) (ua3 : a3 ≤ m1 - 1) {a4 : Int} (la4 : (-2147483648) ≤ a4) (ua4 : a4 ≤ 2147483647) : jOk 15 0 0 82 [(2, 7), (2, (r1 : Int)), (0, a2), (0, a3), (0, a4), (0, 0)] h (PM G [(1000000, 0)] h m1 0 (-1) (-1)) := by
  refine ⟨by decide, by rw [ml82]; exact Nat.le_of_ble_eq_true rfl, ?_⟩
  rw [ml82, pp82]
  show jEv _ none _ c82_0 0 0 _ (c82_0, [(2, 7), (2, (r1 : Int)), (0, a2), (0, a3), (0, a4), (0, 0), (9, 0), (9, 0), (9, 0), (9, 0)], [], h, 0, 0)
  have k0 := Kp.rf [(1000000, 0)] h
  have wr1 := g.qb q1
  have zr1 := q1.1
  refine ev_aload_n rfl ?_
  refine ev_aload_n rfl ?_
  refine g_getp (r := 7) (c := 10) g ad7 (by decide) (by decide) rf7_7 ft5_7 ?_
  refine ev_iload_n rfl ?_
  refine g_iald g ad10 rt10 (by omega) (by omega) (fun v28950 ev28950 lv28950 uv28950 => ?_)
  refine ev_aload_n rfl ?_
  refine g_getp (r := 7) (c := 11) g ad7 (by decide) (by decide) rf7_8 ft5_8 ?_
  refine ev_iload_n rfl ?_
  refine g_iald g ad11 rt11 (by omega) (by omega) (fun v28951 ev28951 lv28951 uv28951 => ?_)
  refine ev_iload_n rfl ?_
  refine ev_iload rfl ?_
  refine ev_call (jcall_v (A := [(0, a4), (0, a3), (0, v28951), (0, v28950)]) (S' := []) (r := r1) rfl (g.qlt q1) (g.qtg q1) (Nat.le_of_ble_eq_true rfl)) (jOk_le (by decide) (s22 g q1 (by omega) (by omega) (by omega) (by omega) (by omega) (by omega) (by omega) (by omega))) (by decide) (by decide) (fun w28952 h28952 q28952 => ?_)
  obtain ⟨v28953, rfl, lv28953, uv28953, g28952, kk28952⟩ := q28952
  have k28952 := k0.tr kk28952 (by decide)
  show jEv _ _ _ _ _ _ _ (_, [(2, 7), (2, (r1 : Int)), (0, a2), (0, a3), (0, a4), (0, 0), (9, 0), (9, 0), (9, 0), (9, 0)], [(0, v28953)], _, _, _)
  refine ev_istore (L' := [(2, 7), (2, (r1 : Int)), (0, a2), (0, a3), (0, a4), (0, 0), (0, v28953), (9, 0), (9, 0), (9, 0)]) (Nat.le_of_ble_eq_true rfl) rfl ?_
  refine ev_iconst ?_
  refine ev_istore (L' := [(2, 7), (2, (r1 : Int)), (0, a2), (0, a3), (0, a4), (0, 0), (0, v28953), (0, 0), (9, 0), (9, 0)]) (Nat.le_of_ble_eq_true rfl) rfl ?_
  exact (s82_0_l q1 la2 ua2 la3 ua3 la4 ua4 10) _ _ _ _ _ g28952 k28952 (by omega) (by omega) (by omega) (by omega) (by omega) (by omega) (by omega) (by omega) (by omega) (by omega) (by omega) (by omega)
/-! 81 writeText -/
set_option maxHeartbeats 4000000 in
theorem s81 {G : GH} {h : JH} (g : Gd G h) {a1 : Int} (la1 : 0 ≤ a1) (ua1 : a1 ≤ 199) : jOk 16 13 1814 81 [(2, 7), (0, a1)] h (fun v h' => ∃ (G' : GH) (r : Nat) (m : Int), v = some (2, (r : Int)) ∧ Gd G' h' ∧ IsQ G' r m ∧ Kx [(1000000, 0)] h h' ∧ r = h.1 ∧ h'.1 = h.1 + 13) := by
  refine ⟨by decide, by rw [ml81]; exact Nat.le_of_ble_eq_true rfl, ?_⟩
  rw [ml81, pp81]
  show jEv _ none _ c81_0 13 1814 _ (c81_0, [(2, 7), (0, a1), (9, 0), (9, 0)], [], h, 0, 0)
  have k0 := Kp.rf [(1000000, 0)] h
  refine ev_aload_n rfl ?_
  refine ev_iload_n rfl ?_
  refine ev_in (d := 14) (a := 0) (b := 0) (cd' := c66_0) (m := 2) (L0 := [(2, 7), (0, a1)]) (jcall_v (A := [(0, a1)]) (S' := []) (r := 7) rfl (g.lt ad7) (g.tg ad7) (Nat.le_of_ble_eq_true rfl)) (by decide) ml66 pp66 (Nat.le_of_ble_eq_true rfl) rfl (by decide) (by decide) ?_
  refine ev_iload_n rfl ?_
  refine ev_iflt f66_12 (fun c29008 => absurd c29008 (by omega)) (fun c29008 => ?_)
  refine ev_iload_n rfl ?_
  refine ev_aload_n rfl ?_
  obtain ⟨v29009, ev29009, lv29009, uv29009⟩ := g.rd ad7 (show 3 < 15 by decide) rf7_3
  refine g_getv (r := 7) (v := v29009) g ad7 (by decide) ft5_3 ev29009 ?_
  refine ev_icmplt f66_16 (fun c29010 => ?_) (fun c29010 => ?_)
  · refine ev_aload_n rfl ?_
    refine g_getp (r := 7) (c := 17) g ad7 (by decide) (by decide) rf7_14 ft5_14 ?_
    refine ev_iload_n rfl ?_
    refine g_iald g ad17 rt17 (by omega) (by omega) (fun v29011 ev29011 lv29011 uv29011 => ?_)
    refine ev_ret rfl (by decide) (by decide) ?_
    show jEv _ _ _ _ _ _ _ (_, [(2, 7), (0, a1), (9, 0), (9, 0)], [(0, v29011)], _, _, _)
    refine ev_istore_n (L' := [(2, 7), (0, a1), (0, v29011), (9, 0)]) (Nat.le_of_ble_eq_true rfl) rfl ?_
    refine ev_new jn4 (by decide) (by decide) ?_
    refine ev_dup (by decide) ?_
    refine ev_iload_n rfl ?_
    refine ev_iconst ?_
    refine ev_icmplt f81_21 (fun c29012 => ?_) (fun c29012 => ?_)
    · refine ev_iconst ?_
      refine ev_goto f81_26 ?_
      refine ev_call (jcall_i (A := [(0, 1)]) (S' := [(2, (h.1 : Int))]) (r := h.1) (by decide) rfl (Nat.le_of_ble_eq_true rfl)) (jOk_le (by decide) (s21 g (by omega) (by omega))) (by decide) (by decide) (fun w29013 h29013 z29013 => ?_)
      obtain ⟨rfl, z29013⟩ := z29013
      have s29013 : h29013.1 = h.1 + 13 := z29013.1
      obtain ⟨g29013, qr29014, x29013⟩ := z29013.gd g rfl (by omega) (by omega)
      obtain ⟨r29014, er29014⟩ : ∃ x : Nat, x = h.1 := ⟨_, rfl⟩
      obtain ⟨m29015, em29015⟩ : ∃ x : Int, x = 1 := ⟨_, rfl⟩
      rw [← er29014, ← em29015] at g29013 qr29014
      rw [← er29014]
      have wr29014 := g29013.qb qr29014
      have zr29014 := qr29014.1
      have k29013 : Kx [(1000000, 0)] h h29013 := ⟨x29013.1, x29013.2.1, fun a i ha hw => x29013.2.2 a i ha rfl⟩
      show jEv _ _ _ _ _ _ _ (_, [(2, 7), (0, a1), (0, v29011), (9, 0)], [(2, (r29014 : Int))], _, _, _)
      refine ev_astore_n (L' := [(2, 7), (0, a1), (0, v29011), (2, (r29014 : Int))]) (Nat.le_of_ble_eq_true rfl) rfl ?_
      refine ev_aload_n rfl ?_
      refine ev_aload_n rfl ?_
      refine ev_iload_n rfl ?_
      refine ev_iconst ?_
      refine ev_iconst ?_
      refine ev_iconst ?_
      refine ev_call (jcall_v (A := [(0, 0), (0, 0), (0, (-1)), (0, a1), (2, (r29014 : Int))]) (S' := []) (r := 7) rfl (g29013.lt ad7) (g29013.tg ad7) (Nat.le_of_ble_eq_true rfl)) (jOk_le (by decide) (s82_0 g29013 qr29014 (by omega) (by omega) (by omega) (by omega) (by omega) (by omega))) (by decide) (by decide) (fun w29016 h29016 q29016 => ?_)
      obtain ⟨v29017, rfl, lv29017, uv29017, g29016, kk29016⟩ := q29016
      have k29016 := k29013.tr kk29016 (by decide)
      show jEv _ _ _ _ _ _ _ (_, [(2, 7), (0, a1), (0, v29011), (2, (r29014 : Int))], [(0, v29017)], _, _, _)
      refine ev_pop (by decide) ?_
      refine ev_aload_n rfl ?_
      exact ev_ret rfl (by decide) (by decide) ⟨_, r29014, m29015, rfl, g29016, qr29014, k29016, rfl, by rw [kk29016.1, s29013, er29014]⟩
    · refine ev_iload_n rfl ?_
      refine ev_bipush ?_
      refine ev_icmple f81_25 (fun c29018 => ?_) (fun c29018 => ?_)
      · refine ev_iload_n rfl ?_
        refine ev_call (jcall_i (A := [(0, v29011)]) (S' := [(2, (h.1 : Int))]) (r := h.1) (by decide) rfl (Nat.le_of_ble_eq_true rfl)) (jOk_le (by decide) (s21 g (by omega) (by omega))) (by decide) (by decide) (fun w29019 h29019 z29019 => ?_)
        obtain ⟨rfl, z29019⟩ := z29019
        have s29019 : h29019.1 = h.1 + 13 := z29019.1
        obtain ⟨g29019, qr29020, x29019⟩ := z29019.gd g rfl (by omega) (by omega)
        obtain ⟨r29020, er29020⟩ : ∃ x : Nat, x = h.1 := ⟨_, rfl⟩
        obtain ⟨m29021, em29021⟩ : ∃ x : Int, x = v29011 := ⟨_, rfl⟩
        rw [← er29020, ← em29021] at g29019 qr29020
        rw [← er29020]
        have wr29020 := g29019.qb qr29020
        have zr29020 := qr29020.1
        have k29019 : Kx [(1000000, 0)] h h29019 := ⟨x29019.1, x29019.2.1, fun a i ha hw => x29019.2.2 a i ha rfl⟩
        show jEv _ _ _ _ _ _ _ (_, [(2, 7), (0, a1), (0, v29011), (9, 0)], [(2, (r29020 : Int))], _, _, _)
        refine ev_astore_n (L' := [(2, 7), (0, a1), (0, v29011), (2, (r29020 : Int))]) (Nat.le_of_ble_eq_true rfl) rfl ?_
        refine ev_aload_n rfl ?_
        refine ev_aload_n rfl ?_
        refine ev_iload_n rfl ?_
        refine ev_iconst ?_
        refine ev_iconst ?_
        refine ev_iconst ?_
        refine ev_call (jcall_v (A := [(0, 0), (0, 0), (0, (-1)), (0, a1), (2, (r29020 : Int))]) (S' := []) (r := 7) rfl (g29019.lt ad7) (g29019.tg ad7) (Nat.le_of_ble_eq_true rfl)) (jOk_le (by decide) (s82_0 g29019 qr29020 (by omega) (by omega) (by omega) (by omega) (by omega) (by omega))) (by decide) (by decide) (fun w29022 h29022 q29022 => ?_)
        obtain ⟨v29023, rfl, lv29023, uv29023, g29022, kk29022⟩ := q29022
        have k29022 := k29019.tr kk29022 (by decide)
        show jEv _ _ _ _ _ _ _ (_, [(2, 7), (0, a1), (0, v29011), (2, (r29020 : Int))], [(0, v29023)], _, _, _)
        refine ev_pop (by decide) ?_
        refine ev_aload_n rfl ?_
        exact ev_ret rfl (by decide) (by decide) ⟨_, r29020, m29021, rfl, g29022, qr29020, k29022, rfl, by rw [kk29022.1, s29019, er29020]⟩
      · refine ev_iconst ?_
        refine ev_goto f81_26 ?_
        refine ev_call (jcall_i (A := [(0, 1)]) (S' := [(2, (h.1 : Int))]) (r := h.1) (by decide) rfl (Nat.le_of_ble_eq_true rfl)) (jOk_le (by decide) (s21 g (by omega) (by omega))) (by decide) (by decide) (fun w29024 h29024 z29024 => ?_)
        obtain ⟨rfl, z29024⟩ := z29024
        have s29024 : h29024.1 = h.1 + 13 := z29024.1
        obtain ⟨g29024, qr29025, x29024⟩ := z29024.gd g rfl (by omega) (by omega)
        obtain ⟨r29025, er29025⟩ : ∃ x : Nat, x = h.1 := ⟨_, rfl⟩
        obtain ⟨m29026, em29026⟩ : ∃ x : Int, x = 1 := ⟨_, rfl⟩
        rw [← er29025, ← em29026] at g29024 qr29025
        rw [← er29025]
        have wr29025 := g29024.qb qr29025
        have zr29025 := qr29025.1
        have k29024 : Kx [(1000000, 0)] h h29024 := ⟨x29024.1, x29024.2.1, fun a i ha hw => x29024.2.2 a i ha rfl⟩
        show jEv _ _ _ _ _ _ _ (_, [(2, 7), (0, a1), (0, v29011), (9, 0)], [(2, (r29025 : Int))], _, _, _)
        refine ev_astore_n (L' := [(2, 7), (0, a1), (0, v29011), (2, (r29025 : Int))]) (Nat.le_of_ble_eq_true rfl) rfl ?_
        refine ev_aload_n rfl ?_
        refine ev_aload_n rfl ?_
        refine ev_iload_n rfl ?_
        refine ev_iconst ?_
        refine ev_iconst ?_
        refine ev_iconst ?_
        refine ev_call (jcall_v (A := [(0, 0), (0, 0), (0, (-1)), (0, a1), (2, (r29025 : Int))]) (S' := []) (r := 7) rfl (g29024.lt ad7) (g29024.tg ad7) (Nat.le_of_ble_eq_true rfl)) (jOk_le (by decide) (s82_0 g29024 qr29025 (by omega) (by omega) (by omega) (by omega) (by omega) (by omega))) (by decide) (by decide) (fun w29027 h29027 q29027 => ?_)
        obtain ⟨v29028, rfl, lv29028, uv29028, g29027, kk29027⟩ := q29027
        have k29027 := k29024.tr kk29027 (by decide)
        show jEv _ _ _ _ _ _ _ (_, [(2, 7), (0, a1), (0, v29011), (2, (r29025 : Int))], [(0, v29028)], _, _, _)
        refine ev_pop (by decide) ?_
        refine ev_aload_n rfl ?_
        exact ev_ret rfl (by decide) (by decide) ⟨_, r29025, m29026, rfl, g29027, qr29025, k29027, rfl, by rw [kk29027.1, s29024, er29025]⟩
  · refine ev_iconst ?_
    refine ev_goto f66_22 ?_
    refine ev_ret rfl (by decide) (by decide) ?_
    show jEv _ _ _ _ _ _ _ (_, [(2, 7), (0, a1), (9, 0), (9, 0)], [(0, 0)], _, _, _)
    refine ev_istore_n (L' := [(2, 7), (0, a1), (0, 0), (9, 0)]) (Nat.le_of_ble_eq_true rfl) rfl ?_
    refine ev_new jn4 (by decide) (by decide) ?_
    refine ev_dup (by decide) ?_
    refine ev_iload_n rfl ?_
    refine ev_iconst ?_
    refine ev_icmplt f81_21 (fun c29029 => ?_) (fun c29029 => absurd c29029 (by omega))
    refine ev_iconst ?_
    refine ev_goto f81_26 ?_
    refine ev_call (jcall_i (A := [(0, 1)]) (S' := [(2, (h.1 : Int))]) (r := h.1) (by decide) rfl (Nat.le_of_ble_eq_true rfl)) (jOk_le (by decide) (s21 g (by omega) (by omega))) (by decide) (by decide) (fun w29030 h29030 z29030 => ?_)
    obtain ⟨rfl, z29030⟩ := z29030
    have s29030 : h29030.1 = h.1 + 13 := z29030.1
    obtain ⟨g29030, qr29031, x29030⟩ := z29030.gd g rfl (by omega) (by omega)
    obtain ⟨r29031, er29031⟩ : ∃ x : Nat, x = h.1 := ⟨_, rfl⟩
    obtain ⟨m29032, em29032⟩ : ∃ x : Int, x = 1 := ⟨_, rfl⟩
    rw [← er29031, ← em29032] at g29030 qr29031
    rw [← er29031]
    have wr29031 := g29030.qb qr29031
    have zr29031 := qr29031.1
    have k29030 : Kx [(1000000, 0)] h h29030 := ⟨x29030.1, x29030.2.1, fun a i ha hw => x29030.2.2 a i ha rfl⟩
    show jEv _ _ _ _ _ _ _ (_, [(2, 7), (0, a1), (0, 0), (9, 0)], [(2, (r29031 : Int))], _, _, _)
    refine ev_astore_n (L' := [(2, 7), (0, a1), (0, 0), (2, (r29031 : Int))]) (Nat.le_of_ble_eq_true rfl) rfl ?_
    refine ev_aload_n rfl ?_
    refine ev_aload_n rfl ?_
    refine ev_iload_n rfl ?_
    refine ev_iconst ?_
    refine ev_iconst ?_
    refine ev_iconst ?_
    refine ev_call (jcall_v (A := [(0, 0), (0, 0), (0, (-1)), (0, a1), (2, (r29031 : Int))]) (S' := []) (r := 7) rfl (g29030.lt ad7) (g29030.tg ad7) (Nat.le_of_ble_eq_true rfl)) (jOk_le (by decide) (s82_0 g29030 qr29031 (by omega) (by omega) (by omega) (by omega) (by omega) (by omega))) (by decide) (by decide) (fun w29033 h29033 q29033 => ?_)
    obtain ⟨v29034, rfl, lv29034, uv29034, g29033, kk29033⟩ := q29033
    have k29033 := k29030.tr kk29033 (by decide)
    show jEv _ _ _ _ _ _ _ (_, [(2, 7), (0, a1), (0, 0), (2, (r29031 : Int))], [(0, v29034)], _, _, _)
    refine ev_pop (by decide) ?_
    refine ev_aload_n rfl ?_
    exact ev_ret rfl (by decide) (by decide) ⟨_, r29031, m29032, rfl, g29033, qr29031, k29033, rfl, by rw [kk29033.1, s29030, er29031]⟩
/-! 173 quarrel -/
set_option maxHeartbeats 4000000 in
theorem s173 {G : GH} {h : JH} (g : Gd G h) (hB : h.1 ≤ 1000000) : jOk 31 13 1814 173 [(2, 0)] h (PN [(7, 2), (7, 3), (7, 4), (10, 0), (11, 0), (12, 0), (13, 0), (14, 0), (15, 0), (16, 0), (17, 0), (7, 5), (9, 0), (7, 1), (0, 4), (18, 0), (1000000, 0)] h 0 (-300) 6) := by
  refine ⟨by decide, by rw [ml173]; exact Nat.le_of_ble_eq_true rfl, ?_⟩
  rw [ml173, pp173]
  show jEv _ none _ c173_0 13 1814 _ (c173_0, [(2, 0), (9, 0), (9, 0)], [], h, 0, 0)
  have k0 := Kp.rf [(7, 2), (7, 3), (7, 4), (10, 0), (11, 0), (12, 0), (13, 0), (14, 0), (15, 0), (16, 0), (17, 0), (7, 5), (9, 0), (7, 1), (0, 4), (18, 0), (1000000, 0)] h
  refine ev_aload_n rfl ?_
  obtain ⟨v29087, ev29087, lv29087, uv29087⟩ := g.rd ad0 (show 3 < 17 by decide) rf0_3
  refine g_getv (r := 0) (v := v29087) g ad0 (by decide) ft11_3 ev29087 ?_
  refine ev_bipush ?_
  refine ev_icmplt f173_12 (fun c29088 => ?_) (fun c29088 => ?_)
  · refine ev_aload_n rfl ?_
    refine g_getp (r := 0) (c := 7) g ad0 (by decide) (by decide) rf0_1 ft11_1 ?_
    refine ev_aload_n rfl ?_
    refine g_getp (r := 0) (c := 1) g ad0 (by decide) (by decide) rf0_0 ft11_0 ?_
    refine ev_call (jcall_v (A := [(2, 1)]) (S' := []) (r := 7) rfl (g.lt ad7) (g.tg ad7) (Nat.le_of_ble_eq_true rfl)) (jOk_le (by decide) (s67 g )) (by decide) (by decide) (fun w29089 h29089 q29089 => ?_)
    obtain ⟨v29090, rfl, lv29090, uv29090, g29089, kk29089⟩ := q29089
    have k29089 := k0.tr kk29089 (by decide)
    show jEv _ _ _ _ _ _ _ (_, [(2, 0), (9, 0), (9, 0)], [(0, v29090)], _, _, _)
    refine ev_istore_n (L' := [(2, 0), (0, v29090), (9, 0)]) (Nat.le_of_ble_eq_true rfl) rfl ?_
    refine ev_iload_n rfl ?_
    refine ev_ifge f173_42 (fun c29091 => ?_) (fun c29091 => ?_)
    · refine ev_aload_n rfl ?_
      refine g_getp (r := 0) (c := 7) g29089 ad0 (by decide) (by decide) rf0_1 ft11_1 ?_
      refine ev_iload_n rfl ?_
      refine ev_in (d := 29) (a := 0) (b := 0) (cd' := c66_0) (m := 2) (L0 := [(2, 7), (0, v29090)]) (jcall_v (A := [(0, v29090)]) (S' := []) (r := 7) rfl (g29089.lt ad7) (g29089.tg ad7) (Nat.le_of_ble_eq_true rfl)) (by decide) ml66 pp66 (Nat.le_of_ble_eq_true rfl) rfl (by decide) (by decide) ?_
      refine ev_iload_n rfl ?_
      refine ev_iflt f66_12 (fun c29092 => absurd c29092 (by omega)) (fun c29092 => ?_)
      refine ev_iload_n rfl ?_
      refine ev_aload_n rfl ?_
      obtain ⟨v29093, ev29093, lv29093, uv29093⟩ := g29089.rd ad7 (show 3 < 15 by decide) rf7_3
      refine g_getv (r := 7) (v := v29093) g29089 ad7 (by decide) ft5_3 ev29093 ?_
      refine ev_icmplt f66_16 (fun c29094 => ?_) (fun c29094 => ?_)
      · refine ev_aload_n rfl ?_
        refine g_getp (r := 7) (c := 17) g29089 ad7 (by decide) (by decide) rf7_14 ft5_14 ?_
        refine ev_iload_n rfl ?_
        refine g_iald g29089 ad17 rt17 (by omega) (by omega) (fun v29095 ev29095 lv29095 uv29095 => ?_)
        refine ev_ret rfl (by decide) (by decide) ?_
        show jEv _ _ _ _ _ _ _ (_, [(2, 0), (0, v29090), (9, 0)], [(0, v29095)], _, _, _)
        refine ev_bipush ?_
        refine ev_icmple f173_61 (fun c29096 => ?_) (fun c29096 => ?_)
        · refine ev_aload_n rfl ?_
          refine g_getv (r := 0) (v := v29087) g29089 ad0 (by decide) ft11_3 (((kk29089.v (by decide)).trans ev29087)) ?_
          refine ev_istore_n (L' := [(2, 0), (0, v29090), (0, v29087)]) (Nat.le_of_ble_eq_true rfl) rfl ?_
          refine ev_aload_n rfl ?_
          refine g_getp (r := 0) (c := 18) g29089 ad0 (by decide) (by decide) rf0_2 ft11_2 ?_
          refine ev_aload_n rfl ?_
          refine g_getv (r := 0) (v := v29087) g29089 ad0 (by decide) ft11_3 (((kk29089.v (by decide)).trans ev29087)) ?_
          refine ev_aload_n rfl ?_
          refine g_getp (r := 0) (c := 7) g29089 ad0 (by decide) (by decide) rf0_1 ft11_1 ?_
          refine ev_iload_n rfl ?_
          refine ev_call (jcall_v (A := [(0, v29090)]) (S' := [(0, v29087), (2, 18)]) (r := 7) rfl (g29089.lt ad7) (g29089.tg ad7) (Nat.le_of_ble_eq_true rfl)) (jOk_le (by decide) (s81 g29089 (by omega) (by omega))) (by decide) (by decide) (fun w29097 h29097 z29097 => ?_)
          obtain ⟨G29097, r29098, m29099, rfl, g29097, qr29098, x29097, er29097, es29097⟩ := z29097
          have hz29097 := k29089.1
          have k29097 := Kx.tx k29089 x29097 (by decide)
          have wr29098 := g29097.qb qr29098
          have zr29098 := qr29098.1
          show jEv _ _ _ _ _ _ _ (_, [(2, 0), (0, v29090), (0, v29087)], [(2, (r29098 : Int)), (0, v29087), (2, 18)], _, _, _)
          refine ev_astoG (r := 18) (j := (v29087).toNat) (v := r29098) (g29097.lt ad18) (g29097.tg ad18) (by omega) (by rw [g29097.ln ad18]; omega) (g29097.qlt qr29098) (by rw [g29097.qtg qr29098]; rfl) (fun h29100 e29100 => ?_)
          have g29100 := g29097.wr18 qr29098 e29100 (by rw [(((x29097.2.2 0 3 (g29089.lt ad0) (by decide)).trans ((kk29089.v (by decide)).trans ev29087)))]; omega) (by omega)
          have k29100 := k29097.wr e29100 rfl
          refine ev_aload_n rfl ?_
          refine ev_dup (by decide) ?_
          refine g_getv (r := 0) (v := v29087) g29100 ad0 (by decide) ft11_3 (((jw_ne e29100 (Or.inl (by decide))).trans ((x29097.2.2 0 3 (g29089.lt ad0) (by decide)).trans ((kk29089.v (by decide)).trans ev29087)))) ?_
          refine ev_iconst ?_
          refine ev_iadd (r := (v29087 + 1)) (by unfold w32; omega) ?_
          refine ev_putfG (r := 0) (g29100.lt ad0) (g29100.fam ad0 (by decide)) ft11_3 (fun e => absurd e nz11_3) (fun e => absurd e (by decide)) (fun h29101 e29101 => ?_)
          have g29101 := g29100.wr03 qr29098 e29101 (((jw_ne e29100 (Or.inl (by decide))).trans ((x29097.2.2 0 3 (g29089.lt ad0) (by decide)).trans ((kk29089.v (by decide)).trans ev29087)))) (jw_eq e29100) (by omega) (by omega)
          have k29101 := k29100.wr e29101 rfl
          refine ev_aload_n rfl ?_
          refine g_getp (r := 0) (c := 7) g29101 ad0 (by decide) (by decide) rf0_1 ft11_1 ?_
          refine ev_in (d := 29) (a := 0) (b := 0) (cd' := c65_0) (m := 1) (L0 := [(2, 7)]) (jcall_v (A := []) (S' := []) (r := 7) rfl (g29101.lt ad7) (g29101.tg ad7) (Nat.le_of_ble_eq_true rfl)) (by decide) ml65 pp65 (Nat.le_of_ble_eq_true rfl) rfl (by decide) (by decide) ?_
          refine ev_aload_n rfl ?_
          refine ev_iconst ?_
          refine g_putf (r := 7) g29101 ad7 (by decide) ft5_0 (by decide) (fun e => absurd e nz5_0) rf7_0 (by decide) (by omega) (by omega) (fun h29102 e29102 g29102 => ?_)
          have k29102 := k29101.wr e29102 rfl
          refine ev_ret rfl (by decide) (by decide) ?_
          show jEv _ _ _ _ _ _ _ (_, [(2, 0), (0, v29090), (0, v29087)], [], _, _, _)
          refine ev_iload_n rfl ?_
          exact ev_ret rfl (by decide) (by decide) ⟨_, rfl, by omega, by omega, ⟨_, g29102⟩, k29102, by rw [(jwr_ty e29102).1, (jwr_ty e29101).1, (jwr_ty e29100).1, es29097]; omega⟩
        · refine ev_bipush ?_
          refine ev_istore_n (L' := [(2, 0), (0, v29090), (0, (-3))]) (Nat.le_of_ble_eq_true rfl) rfl ?_
          refine ev_goto f173_93 ?_
          refine ev_aload_n rfl ?_
          refine g_getp (r := 0) (c := 7) g29089 ad0 (by decide) (by decide) rf0_1 ft11_1 ?_
          refine ev_in (d := 29) (a := 0) (b := 0) (cd' := c65_0) (m := 1) (L0 := [(2, 7)]) (jcall_v (A := []) (S' := []) (r := 7) rfl (g29089.lt ad7) (g29089.tg ad7) (Nat.le_of_ble_eq_true rfl)) (by decide) ml65 pp65 (Nat.le_of_ble_eq_true rfl) rfl (by decide) (by decide) ?_
          refine ev_aload_n rfl ?_
          refine ev_iconst ?_
          refine g_putf (r := 7) g29089 ad7 (by decide) ft5_0 (by decide) (fun e => absurd e nz5_0) rf7_0 (by decide) (by omega) (by omega) (fun h29103 e29103 g29103 => ?_)
          have k29103 := k29089.wr e29103 rfl
          refine ev_ret rfl (by decide) (by decide) ?_
          show jEv _ _ _ _ _ _ _ (_, [(2, 0), (0, v29090), (0, (-3))], [], _, _, _)
          refine ev_iload_n rfl ?_
          exact ev_ret rfl (by decide) (by decide) ⟨_, rfl, by omega, by omega, ⟨_, g29103⟩, k29103.x, by rw [k29103.1]; omega⟩
      · refine ev_iconst ?_
        refine ev_goto f66_22 ?_
        refine ev_ret rfl (by decide) (by decide) ?_
        show jEv _ _ _ _ _ _ _ (_, [(2, 0), (0, v29090), (9, 0)], [(0, 0)], _, _, _)
        refine ev_bipush ?_
        refine ev_icmple f173_61 (fun c29104 => ?_) (fun c29104 => absurd c29104 (by omega))
        refine ev_aload_n rfl ?_
        refine g_getv (r := 0) (v := v29087) g29089 ad0 (by decide) ft11_3 (((kk29089.v (by decide)).trans ev29087)) ?_
        refine ev_istore_n (L' := [(2, 0), (0, v29090), (0, v29087)]) (Nat.le_of_ble_eq_true rfl) rfl ?_
        refine ev_aload_n rfl ?_
        refine g_getp (r := 0) (c := 18) g29089 ad0 (by decide) (by decide) rf0_2 ft11_2 ?_
        refine ev_aload_n rfl ?_
        refine g_getv (r := 0) (v := v29087) g29089 ad0 (by decide) ft11_3 (((kk29089.v (by decide)).trans ev29087)) ?_
        refine ev_aload_n rfl ?_
        refine g_getp (r := 0) (c := 7) g29089 ad0 (by decide) (by decide) rf0_1 ft11_1 ?_
        refine ev_iload_n rfl ?_
        refine ev_call (jcall_v (A := [(0, v29090)]) (S' := [(0, v29087), (2, 18)]) (r := 7) rfl (g29089.lt ad7) (g29089.tg ad7) (Nat.le_of_ble_eq_true rfl)) (jOk_le (by decide) (s81 g29089 (by omega) (by omega))) (by decide) (by decide) (fun w29105 h29105 z29105 => ?_)
        obtain ⟨G29105, r29106, m29107, rfl, g29105, qr29106, x29105, er29105, es29105⟩ := z29105
        have hz29105 := k29089.1
        have k29105 := Kx.tx k29089 x29105 (by decide)
        have wr29106 := g29105.qb qr29106
        have zr29106 := qr29106.1
        show jEv _ _ _ _ _ _ _ (_, [(2, 0), (0, v29090), (0, v29087)], [(2, (r29106 : Int)), (0, v29087), (2, 18)], _, _, _)
        refine ev_astoG (r := 18) (j := (v29087).toNat) (v := r29106) (g29105.lt ad18) (g29105.tg ad18) (by omega) (by rw [g29105.ln ad18]; omega) (g29105.qlt qr29106) (by rw [g29105.qtg qr29106]; rfl) (fun h29108 e29108 => ?_)
        have g29108 := g29105.wr18 qr29106 e29108 (by rw [(((x29105.2.2 0 3 (g29089.lt ad0) (by decide)).trans ((kk29089.v (by decide)).trans ev29087)))]; omega) (by omega)
        have k29108 := k29105.wr e29108 rfl
        refine ev_aload_n rfl ?_
        refine ev_dup (by decide) ?_
        refine g_getv (r := 0) (v := v29087) g29108 ad0 (by decide) ft11_3 (((jw_ne e29108 (Or.inl (by decide))).trans ((x29105.2.2 0 3 (g29089.lt ad0) (by decide)).trans ((kk29089.v (by decide)).trans ev29087)))) ?_
        refine ev_iconst ?_
        refine ev_iadd (r := (v29087 + 1)) (by unfold w32; omega) ?_
        refine ev_putfG (r := 0) (g29108.lt ad0) (g29108.fam ad0 (by decide)) ft11_3 (fun e => absurd e nz11_3) (fun e => absurd e (by decide)) (fun h29109 e29109 => ?_)
        have g29109 := g29108.wr03 qr29106 e29109 (((jw_ne e29108 (Or.inl (by decide))).trans ((x29105.2.2 0 3 (g29089.lt ad0) (by decide)).trans ((kk29089.v (by decide)).trans ev29087)))) (jw_eq e29108) (by omega) (by omega)
        have k29109 := k29108.wr e29109 rfl
        refine ev_aload_n rfl ?_
        refine g_getp (r := 0) (c := 7) g29109 ad0 (by decide) (by decide) rf0_1 ft11_1 ?_
        refine ev_in (d := 29) (a := 0) (b := 0) (cd' := c65_0) (m := 1) (L0 := [(2, 7)]) (jcall_v (A := []) (S' := []) (r := 7) rfl (g29109.lt ad7) (g29109.tg ad7) (Nat.le_of_ble_eq_true rfl)) (by decide) ml65 pp65 (Nat.le_of_ble_eq_true rfl) rfl (by decide) (by decide) ?_
        refine ev_aload_n rfl ?_
        refine ev_iconst ?_
        refine g_putf (r := 7) g29109 ad7 (by decide) ft5_0 (by decide) (fun e => absurd e nz5_0) rf7_0 (by decide) (by omega) (by omega) (fun h29110 e29110 g29110 => ?_)
        have k29110 := k29109.wr e29110 rfl
        refine ev_ret rfl (by decide) (by decide) ?_
        show jEv _ _ _ _ _ _ _ (_, [(2, 0), (0, v29090), (0, v29087)], [], _, _, _)
        refine ev_iload_n rfl ?_
        exact ev_ret rfl (by decide) (by decide) ⟨_, rfl, by omega, by omega, ⟨_, g29110⟩, k29110, by rw [(jwr_ty e29110).1, (jwr_ty e29109).1, (jwr_ty e29108).1, es29105]; omega⟩
    · refine ev_bipush ?_
      refine ev_aload_n rfl ?_
      refine g_getp (r := 0) (c := 7) g29089 ad0 (by decide) (by decide) rf0_1 ft11_1 ?_
      obtain ⟨v29111, ev29111, lv29111, uv29111⟩ := g29089.rd ad7 (show 1 < 15 by decide) rf7_1
      refine g_getv (r := 7) (v := v29111) g29089 ad7 (by decide) ft5_1 ev29111 ?_
      refine ev_isub (r := ((-v29111) - 100)) (by unfold w32; omega) ?_
      refine ev_istore_n (L' := [(2, 0), (0, v29090), (0, ((-v29111) - 100))]) (Nat.le_of_ble_eq_true rfl) rfl ?_
      refine ev_goto f173_93 ?_
      refine ev_aload_n rfl ?_
      refine g_getp (r := 0) (c := 7) g29089 ad0 (by decide) (by decide) rf0_1 ft11_1 ?_
      refine ev_in (d := 29) (a := 0) (b := 0) (cd' := c65_0) (m := 1) (L0 := [(2, 7)]) (jcall_v (A := []) (S' := []) (r := 7) rfl (g29089.lt ad7) (g29089.tg ad7) (Nat.le_of_ble_eq_true rfl)) (by decide) ml65 pp65 (Nat.le_of_ble_eq_true rfl) rfl (by decide) (by decide) ?_
      refine ev_aload_n rfl ?_
      refine ev_iconst ?_
      refine g_putf (r := 7) g29089 ad7 (by decide) ft5_0 (by decide) (fun e => absurd e nz5_0) rf7_0 (by decide) (by omega) (by omega) (fun h29112 e29112 g29112 => ?_)
      have k29112 := k29089.wr e29112 rfl
      refine ev_ret rfl (by decide) (by decide) ?_
      show jEv _ _ _ _ _ _ _ (_, [(2, 0), (0, v29090), (0, ((-v29111) - 100))], [], _, _, _)
      refine ev_iload_n rfl ?_
      exact ev_ret rfl (by decide) (by decide) ⟨_, rfl, by omega, by omega, ⟨_, g29112⟩, k29112.x, by rw [k29112.1]; omega⟩
  · refine ev_bipush ?_
    exact ev_ret rfl (by decide) (by decide) ⟨_, rfl, by omega, by omega, ⟨_, g⟩, k0.x, by rw [k0.1]; omega⟩
/-! newFeel  -/
theorem feelInit {d : Nat} {h : JH} {r s : Nat} {n p : Int} (hr : r < h.1) (hf : jfam 0 (h.2.1 r).1 = true) : jOk (d + 1) 0 0 0 [(2, (r : Int)), (2, (s : Int)), (0, n), (0, p)] h (fun v h' => v = none ∧ h' = jwr (jwr (jwr h r 0 s) r 1 n) r 2 p) := by
  refine ⟨by decide, by rw [ml0]; exact Nat.le_of_ble_eq_true rfl, ?_⟩
  rw [ml0, pp0]
  show jEv _ none _ c0_0 0 0 _ (c0_0, [(2, (r : Int)), (2, (s : Int)), (0, n), (0, p)], [], h, 0, 0)
  refine ev_aload_n rfl ?_
  refine ev_obji (Nat.le_of_ble_eq_true rfl) ?_
  refine ev_aload_n rfl ?_
  refine ev_aload_n rfl ?_
  refine ev_putf (r := r) hr hf ft0_0 (fun e => absurd e nz0_0) (fun _ => by omega) ?_
  refine ev_aload_n rfl ?_
  refine ev_iload_n rfl ?_
  refine ev_putf (r := r) hr hf ft0_1 (fun e => absurd e nz0_1) (fun e => absurd e (by decide)) ?_
  refine ev_aload_n rfl ?_
  refine ev_iload_n rfl ?_
  refine ev_putf (r := r) hr hf ft0_2 (fun e => absurd e nz0_2) (fun e => absurd e (by decide)) ?_
  exact ev_ret rfl (by decide) (by decide) ⟨rfl, rfl⟩
theorem feelInit9 {d : Nat} {h : JH} {r s : Nat} {n p : Int} (hr : r < h.1) (hf : jfam 0 (h.2.1 r).1 = true) : jOk (d + 2) 0 0 9 [(2, (r : Int)), (2, (s : Int)), (0, n), (0, p)] h (fun v h' => v = none ∧ h' = jwr (jwr (jwr h r 0 s) r 1 n) r 2 p) := by
  refine ⟨by decide, by rw [ml9]; exact Nat.le_of_ble_eq_true rfl, ?_⟩
  rw [ml9, pp9]
  show jEv _ none _ c9_0 0 0 _ (c9_0, [(2, (r : Int)), (2, (s : Int)), (0, n), (0, p)], [], h, 0, 0)
  refine ev_aload_n rfl ?_
  refine ev_aload_n rfl ?_
  refine ev_iload_n rfl ?_
  refine ev_iload_n rfl ?_
  refine ev_call (jcall_i (A := [(0, p), (0, n), (2, (s : Int))]) (S' := []) (r := r) (by decide) rfl (Nat.le_of_ble_eq_true rfl)) (feelInit (d := d) hr hf) (by decide) (by decide) (fun v h' q => ?_)
  obtain ⟨rfl, rfl⟩ := q
  exact ev_ret rfl (by decide) (by decide) ⟨rfl, rfl⟩
theorem feelInit13 {d : Nat} {h : JH} {r s : Nat} {n p : Int} (hr : r < h.1) (hf : jfam 0 (h.2.1 r).1 = true) : jOk (d + 2) 0 0 13 [(2, (r : Int)), (2, (s : Int)), (0, n), (0, p)] h (fun v h' => v = none ∧ h' = jwr (jwr (jwr h r 0 s) r 1 n) r 2 p) := by
  refine ⟨by decide, by rw [ml13]; exact Nat.le_of_ble_eq_true rfl, ?_⟩
  rw [ml13, pp13]
  show jEv _ none _ c13_0 0 0 _ (c13_0, [(2, (r : Int)), (2, (s : Int)), (0, n), (0, p)], [], h, 0, 0)
  refine ev_aload_n rfl ?_
  refine ev_aload_n rfl ?_
  refine ev_iload_n rfl ?_
  refine ev_iload_n rfl ?_
  refine ev_call (jcall_i (A := [(0, p), (0, n), (2, (s : Int))]) (S' := []) (r := r) (by decide) rfl (Nat.le_of_ble_eq_true rfl)) (feelInit (d := d) hr hf) (by decide) (by decide) (fun v h' q => ?_)
  obtain ⟨rfl, rfl⟩ := q
  exact ev_ret rfl (by decide) (by decide) ⟨rfl, rfl⟩
theorem feelInit17 {d : Nat} {h : JH} {r s : Nat} {n p : Int} (hr : r < h.1) (hf : jfam 0 (h.2.1 r).1 = true) : jOk (d + 2) 0 0 17 [(2, (r : Int)), (2, (s : Int)), (0, n), (0, p)] h (fun v h' => v = none ∧ h' = jwr (jwr (jwr h r 0 s) r 1 n) r 2 p) := by
  refine ⟨by decide, by rw [ml17]; exact Nat.le_of_ble_eq_true rfl, ?_⟩
  rw [ml17, pp17]
  show jEv _ none _ c17_0 0 0 _ (c17_0, [(2, (r : Int)), (2, (s : Int)), (0, n), (0, p)], [], h, 0, 0)
  refine ev_aload_n rfl ?_
  refine ev_aload_n rfl ?_
  refine ev_iload_n rfl ?_
  refine ev_iload_n rfl ?_
  refine ev_call (jcall_i (A := [(0, p), (0, n), (2, (s : Int))]) (S' := []) (r := r) (by decide) rfl (Nat.le_of_ble_eq_true rfl)) (feelInit (d := d) hr hf) (by decide) (by decide) (fun v h' q => ?_)
  obtain ⟨rfl, rfl⟩ := q
  exact ev_ret rfl (by decide) (by decide) ⟨rfl, rfl⟩
theorem feelInit83 {d : Nat} {h : JH} {r s : Nat} {n p : Int} (hr : r < h.1) (hf : jfam 0 (h.2.1 r).1 = true) : jOk (d + 3) 0 0 83 [(2, (r : Int)), (2, (s : Int)), (0, n), (0, p)] h (fun v h' => v = none ∧ h' = jwr (jwr (jwr h r 0 s) r 1 n) r 2 p) := by
  refine ⟨by decide, by rw [ml83]; exact Nat.le_of_ble_eq_true rfl, ?_⟩
  rw [ml83, pp83]
  show jEv _ none _ c83_0 0 0 _ (c83_0, [(2, (r : Int)), (2, (s : Int)), (0, n), (0, p)], [], h, 0, 0)
  refine ev_aload_n rfl ?_
  refine ev_aload_n rfl ?_
  refine ev_iload_n rfl ?_
  refine ev_iload_n rfl ?_
  refine ev_call (jcall_i (A := [(0, p), (0, n), (2, (s : Int))]) (S' := []) (r := r) (by decide) rfl (Nat.le_of_ble_eq_true rfl)) (feelInit9 (d := d) hr hf) (by decide) (by decide) (fun v h' q => ?_)
  obtain ⟨rfl, rfl⟩ := q
  exact ev_ret rfl (by decide) (by decide) ⟨rfl, rfl⟩
theorem feelInit97 {d : Nat} {h : JH} {r s : Nat} {n p : Int} (hr : r < h.1) (hf : jfam 0 (h.2.1 r).1 = true) : jOk (d + 3) 0 0 97 [(2, (r : Int)), (2, (s : Int)), (0, n), (0, p)] h (fun v h' => v = none ∧ h' = jwr (jwr (jwr h r 0 s) r 1 n) r 2 p) := by
  refine ⟨by decide, by rw [ml97]; exact Nat.le_of_ble_eq_true rfl, ?_⟩
  rw [ml97, pp97]
  show jEv _ none _ c97_0 0 0 _ (c97_0, [(2, (r : Int)), (2, (s : Int)), (0, n), (0, p)], [], h, 0, 0)
  refine ev_aload_n rfl ?_
  refine ev_aload_n rfl ?_
  refine ev_iload_n rfl ?_
  refine ev_iload_n rfl ?_
  refine ev_call (jcall_i (A := [(0, p), (0, n), (2, (s : Int))]) (S' := []) (r := r) (by decide) rfl (Nat.le_of_ble_eq_true rfl)) (feelInit17 (d := d) hr hf) (by decide) (by decide) (fun v h' q => ?_)
  obtain ⟨rfl, rfl⟩ := q
  exact ev_ret rfl (by decide) (by decide) ⟨rfl, rfl⟩
def feelT (c : Int) : Nat := if c = 1 then 1 else if c = 2 then 2 else if c = 3 then 6 else if c = 4 then 3 else if c = 5 then 8 else 0
theorem jn0 : jN 0 = 3 := by decide +kernel
theorem jn1 : jN 1 = 3 := by decide +kernel
theorem jn2 : jN 2 = 3 := by decide +kernel
theorem jn3 : jN 3 = 3 := by decide +kernel
theorem jn6 : jN 6 = 3 := by decide +kernel
theorem jn8 : jN 8 = 3 := by decide +kernel
theorem newFeel {d : Nat} {h : JH} {s : Nat} {c n p : Int} (h0 : 0 < h.1) (hf : jfam 11 (h.2.1 0).1 = true) (hs : h.2.2 0 4 = (s : Int)) (hs2 : s < h.1) : jOk (d + 4) 1 3 225 [(2, 0), (0, c), (0, n), (0, p)] h (fun v h' => v = some (2, (h.1 : Int)) ∧ h' = jwr (jwr (jwr (jnew h (feelT c) 3) h.1 0 s) h.1 1 n) h.1 2 p) := by
  refine ⟨by decide, by rw [ml225]; exact Nat.le_of_ble_eq_true rfl, ?_⟩
  rw [ml225, pp225]
  show jEv _ none _ c225_0 1 3 _ (c225_0, [(2, 0), (0, c), (0, n), (0, p)], [], h, 0, 0)
  refine ev_iload_n rfl ?_
  rcases (show c = 1 ∨ c = 2 ∨ c = 3 ∨ c = 4 ∨ c = 5 ∨ (c < 1 ∨ 5 < c) by omega) with hc | hc | hc | hc | hc | hc
  · refine ev_sw (t := 36) (by rw [hc]; decide) f225_36 ?_
    have et : feelT c = 1 := by rw [hc]; rfl
    rw [et]
    refine ev_new jn1 (by decide) (by decide) ?_
    refine ev_dup (by decide) ?_
    refine ev_aload_n rfl ?_
    have hne : ¬ (0 : Nat) = h.1 := by omega
    refine ev_getf (r := 0) (v := (s : Int)) (Nat.lt_succ_of_lt h0) (by show jfam 11 (if 0 = h.1 then (1, 3) else h.2.1 0).1 = true; rw [if_neg hne]; exact hf) ft11_4 (by show (if 0 = h.1 then jdef 1 4 else h.2.2 0 4) = (s : Int); rw [if_neg hne]; exact hs) ?_
    refine ev_iload_n rfl ?_
    refine ev_iload_n rfl ?_
    refine ev_call (jcall_i (A := [(0, p), (0, n), (2, (s : Int))]) (S' := [(2, (h.1 : Int))]) (r := h.1) (by decide) rfl (Nat.le_of_ble_eq_true rfl)) (feelInit9 (d := d + 1) (Nat.lt_succ_self _) (by show jfam 0 (if h.1 = h.1 then (1, 3) else h.2.1 h.1).1 = true; rw [if_pos rfl]; rfl)) (by decide) (by decide) (fun v h' q => ?_)
    obtain ⟨rfl, rfl⟩ := q
    exact ev_ret rfl (by decide) (by decide) ⟨rfl, rfl⟩
  · refine ev_sw (t := 50) (by rw [hc]; decide) f225_50 ?_
    have et : feelT c = 2 := by rw [hc]; rfl
    rw [et]
    refine ev_new jn2 (by decide) (by decide) ?_
    refine ev_dup (by decide) ?_
    refine ev_aload_n rfl ?_
    have hne : ¬ (0 : Nat) = h.1 := by omega
    refine ev_getf (r := 0) (v := (s : Int)) (Nat.lt_succ_of_lt h0) (by show jfam 11 (if 0 = h.1 then (2, 3) else h.2.1 0).1 = true; rw [if_neg hne]; exact hf) ft11_4 (by show (if 0 = h.1 then jdef 2 4 else h.2.2 0 4) = (s : Int); rw [if_neg hne]; exact hs) ?_
    refine ev_iload_n rfl ?_
    refine ev_iload_n rfl ?_
    refine ev_call (jcall_i (A := [(0, p), (0, n), (2, (s : Int))]) (S' := [(2, (h.1 : Int))]) (r := h.1) (by decide) rfl (Nat.le_of_ble_eq_true rfl)) (feelInit13 (d := d + 1) (Nat.lt_succ_self _) (by show jfam 0 (if h.1 = h.1 then (2, 3) else h.2.1 h.1).1 = true; rw [if_pos rfl]; rfl)) (by decide) (by decide) (fun v h' q => ?_)
    obtain ⟨rfl, rfl⟩ := q
    exact ev_ret rfl (by decide) (by decide) ⟨rfl, rfl⟩
  · refine ev_sw (t := 64) (by rw [hc]; decide) f225_64 ?_
    have et : feelT c = 6 := by rw [hc]; rfl
    rw [et]
    refine ev_new jn6 (by decide) (by decide) ?_
    refine ev_dup (by decide) ?_
    refine ev_aload_n rfl ?_
    have hne : ¬ (0 : Nat) = h.1 := by omega
    refine ev_getf (r := 0) (v := (s : Int)) (Nat.lt_succ_of_lt h0) (by show jfam 11 (if 0 = h.1 then (6, 3) else h.2.1 0).1 = true; rw [if_neg hne]; exact hf) ft11_4 (by show (if 0 = h.1 then jdef 6 4 else h.2.2 0 4) = (s : Int); rw [if_neg hne]; exact hs) ?_
    refine ev_iload_n rfl ?_
    refine ev_iload_n rfl ?_
    refine ev_call (jcall_i (A := [(0, p), (0, n), (2, (s : Int))]) (S' := [(2, (h.1 : Int))]) (r := h.1) (by decide) rfl (Nat.le_of_ble_eq_true rfl)) (feelInit83 (d := d) (Nat.lt_succ_self _) (by show jfam 0 (if h.1 = h.1 then (6, 3) else h.2.1 h.1).1 = true; rw [if_pos rfl]; rfl)) (by decide) (by decide) (fun v h' q => ?_)
    obtain ⟨rfl, rfl⟩ := q
    exact ev_ret rfl (by decide) (by decide) ⟨rfl, rfl⟩
  · refine ev_sw (t := 78) (by rw [hc]; decide) f225_78 ?_
    have et : feelT c = 3 := by rw [hc]; rfl
    rw [et]
    refine ev_new jn3 (by decide) (by decide) ?_
    refine ev_dup (by decide) ?_
    refine ev_aload_n rfl ?_
    have hne : ¬ (0 : Nat) = h.1 := by omega
    refine ev_getf (r := 0) (v := (s : Int)) (Nat.lt_succ_of_lt h0) (by show jfam 11 (if 0 = h.1 then (3, 3) else h.2.1 0).1 = true; rw [if_neg hne]; exact hf) ft11_4 (by show (if 0 = h.1 then jdef 3 4 else h.2.2 0 4) = (s : Int); rw [if_neg hne]; exact hs) ?_
    refine ev_iload_n rfl ?_
    refine ev_iload_n rfl ?_
    refine ev_call (jcall_i (A := [(0, p), (0, n), (2, (s : Int))]) (S' := [(2, (h.1 : Int))]) (r := h.1) (by decide) rfl (Nat.le_of_ble_eq_true rfl)) (feelInit17 (d := d + 1) (Nat.lt_succ_self _) (by show jfam 0 (if h.1 = h.1 then (3, 3) else h.2.1 h.1).1 = true; rw [if_pos rfl]; rfl)) (by decide) (by decide) (fun v h' q => ?_)
    obtain ⟨rfl, rfl⟩ := q
    exact ev_ret rfl (by decide) (by decide) ⟨rfl, rfl⟩
  · refine ev_sw (t := 92) (by rw [hc]; decide) f225_92 ?_
    have et : feelT c = 8 := by rw [hc]; rfl
    rw [et]
    refine ev_new jn8 (by decide) (by decide) ?_
    refine ev_dup (by decide) ?_
    refine ev_aload_n rfl ?_
    have hne : ¬ (0 : Nat) = h.1 := by omega
    refine ev_getf (r := 0) (v := (s : Int)) (Nat.lt_succ_of_lt h0) (by show jfam 11 (if 0 = h.1 then (8, 3) else h.2.1 0).1 = true; rw [if_neg hne]; exact hf) ft11_4 (by show (if 0 = h.1 then jdef 8 4 else h.2.2 0 4) = (s : Int); rw [if_neg hne]; exact hs) ?_
    refine ev_iload_n rfl ?_
    refine ev_iload_n rfl ?_
    refine ev_call (jcall_i (A := [(0, p), (0, n), (2, (s : Int))]) (S' := [(2, (h.1 : Int))]) (r := h.1) (by decide) rfl (Nat.le_of_ble_eq_true rfl)) (feelInit97 (d := d) (Nat.lt_succ_self _) (by show jfam 0 (if h.1 = h.1 then (8, 3) else h.2.1 h.1).1 = true; rw [if_pos rfl]; rfl)) (by decide) (by decide) (fun v h' q => ?_)
    obtain ⟨rfl, rfl⟩ := q
    exact ev_ret rfl (by decide) (by decide) ⟨rfl, rfl⟩
  · refine ev_sw (t := 106) (by rw [if_pos hc]; rfl) f225_106 ?_
    have et : feelT c = 0 := by unfold feelT; rw [if_neg (by omega), if_neg (by omega), if_neg (by omega), if_neg (by omega), if_neg (by omega)]
    rw [et]
    refine ev_new jn0 (by decide) (by decide) ?_
    refine ev_dup (by decide) ?_
    refine ev_aload_n rfl ?_
    have hne : ¬ (0 : Nat) = h.1 := by omega
    refine ev_getf (r := 0) (v := (s : Int)) (Nat.lt_succ_of_lt h0) (by show jfam 11 (if 0 = h.1 then (0, 3) else h.2.1 0).1 = true; rw [if_neg hne]; exact hf) ft11_4 (by show (if 0 = h.1 then jdef 0 4 else h.2.2 0 4) = (s : Int); rw [if_neg hne]; exact hs) ?_
    refine ev_iload_n rfl ?_
    refine ev_iload_n rfl ?_
    refine ev_call (jcall_i (A := [(0, p), (0, n), (2, (s : Int))]) (S' := [(2, (h.1 : Int))]) (r := h.1) (by decide) rfl (Nat.le_of_ble_eq_true rfl)) (feelInit (d := d + 2) (Nat.lt_succ_self _) (by show jfam 0 (if h.1 = h.1 then (0, 3) else h.2.1 h.1).1 = true; rw [if_pos rfl]; rfl)) (by decide) (by decide) (fun v h' q => ?_)
    obtain ⟨rfl, rfl⟩ := q
    exact ev_ret rfl (by decide) (by decide) ⟨rfl, rfl⟩
theorem feelT_fam (c : Int) : jfam 0 (feelT c) = true := by
  unfold feelT
  repeat' split
  all_goals rfl

/-! 178 feeling -/
set_option maxHeartbeats 4000000 in
theorem s178 {G : GH} {h : JH} (g : Gd G h) {a1 : Int} (la1 : (-2147483648) ≤ a1) (ua1 : a1 ≤ 2147483647) {a2 : Int} (la2 : (-2147483648) ≤ a2) (ua2 : a2 ≤ 2147483647) (hB : h.1 ≤ 1000000) : jOk 5 1 3 178 [(2, 0), (0, a1), (0, a2)] h (PN [(0, 8), (24, 0)] h 0 (-3) 19) := by
  refine ⟨by decide, by rw [ml178]; exact Nat.le_of_ble_eq_true rfl, ?_⟩
  rw [ml178, pp178]
  show jEv _ none _ c178_0 1 3 _ (c178_0, [(2, 0), (0, a1), (0, a2), (9, 0)], [], h, 0, 0)
  have k0 := Kp.rf [(0, 8), (24, 0)] h
  refine ev_iload_n rfl ?_
  refine ev_iconst ?_
  refine ev_icmpeq f178_10 (fun c29173 => ?_) (fun c29173 => ?_)
  · refine ev_iconst ?_
    refine ev_goto f178_15 ?_
    refine ev_istore_n (L' := [(2, 0), (0, a1), (0, a2), (0, 1)]) (Nat.le_of_ble_eq_true rfl) rfl ?_
    refine ev_iload_n rfl ?_
    refine ev_iflt f178_39 (fun c29174 => absurd c29174 (by omega)) (fun c29174 => ?_)
    refine ev_iload_n rfl ?_
    refine ev_iconst ?_
    refine ev_icmpgt f178_39 (fun c29175 => absurd c29175 (by omega)) (fun c29175 => ?_)
    refine ev_iload_n rfl ?_
    refine ev_ifeq f178_41 (fun c29176 => absurd c29176 (by omega)) (fun c29176 => ?_)
    refine ev_iload_n rfl ?_
    refine ev_iflt f178_39 (fun c29177 => ?_) (fun c29177 => ?_)
    · refine ev_iconst ?_
      exact ev_ret rfl (by decide) (by decide) ⟨_, rfl, by omega, by omega, ⟨_, g⟩, k0.x, by rw [k0.1]; omega⟩
    · refine ev_iload_n rfl ?_
      refine ev_bipush ?_
      refine ev_icmple f178_41 (fun c29178 => ?_) (fun c29178 => ?_)
      · refine ev_aload_n rfl ?_
        obtain ⟨v29179, ev29179, lv29179, uv29179⟩ := g.rd ad0 (show 7 < 17 by decide) rf0_7
        refine g_getv (r := 0) (v := v29179) g ad0 (by decide) ft11_7 ev29179 ?_
        refine ev_bipush ?_
        refine ev_icmplt f178_53 (fun c29180 => ?_) (fun c29180 => ?_)
        · refine ev_aload_n rfl ?_
          refine g_getp (r := 0) (c := 24) g ad0 (by decide) (by decide) rf0_6 ft11_6 ?_
          refine ev_aload_n rfl ?_
          refine g_getv (r := 0) (v := v29179) g ad0 (by decide) ft11_7 (ev29179) ?_
          refine ev_aload_n rfl ?_
          refine ev_iload_n rfl ?_
          refine ev_aload_n rfl ?_
          refine g_getv (r := 0) (v := v29179) g ad0 (by decide) ft11_7 (ev29179) ?_
          refine ev_iload_n rfl ?_
          refine ev_ifeq f178_75 (fun c29181 => absurd c29181 (by omega)) (fun c29181 => ?_)
          refine ev_iload_n rfl ?_
          refine ev_goto f178_76 ?_
          refine ev_call (jcall_v (A := [(0, a2), (0, v29179), (0, a1)]) (S' := [(0, v29179), (2, 24)]) (r := 0) rfl (g.lt ad0) (g.tg ad0) (Nat.le_of_ble_eq_true rfl)) (jOk_le (by decide) (newFeel (d := 0) (s := 19) (g.lt ad0) (g.fam ad0 (by decide)) (g.pt ad0 (i := 4) (by decide) rf0_4) (g.lt ad19))) (by decide) (by decide) (fun w29182 h29182 z29182 => ?_)
          obtain ⟨rfl, z29182⟩ := z29182
          obtain ⟨g29182, es29182, x29182⟩ := g.newF (feelT_fam _) (by omega) (by omega) (by omega) (by omega) z29182
          have hz29182 := k0.1
          have k29182 := Kx.tx k0 x29182 (by decide)
          have fz29182 := g.2.1.1
          show jEv _ _ _ _ _ _ _ (_, [(2, 0), (0, a1), (0, a2), (0, 1)], [(2, (h.1 : Int)), (0, v29179), (2, 24)], _, _, _)
          have ff29183 := gF_at (n := v29179) (p := a2) g
          refine ev_astoG (r := 24) (j := (v29179).toNat) (v := h.1) (g29182.lt ad24) (g29182.tg ad24) (by omega) (by rw [g29182.ln ad24]; omega) (by rw [es29182]; omega) (newF_ty (feelT_fam _) z29182) (fun h29183a e29183a => ?_)
          refine ev_aload_n rfl ?_
          refine ev_dup (by decide) ?_
          refine ev_getf (r := 0) (v := v29179) (by rw [(jwr_ty e29183a).1]; exact g29182.lt ad0) (by rw [(jwr_ty e29183a).2]; exact g29182.fam ad0 (by decide)) ft11_7 ((jw_ne e29183a (Or.inl (by decide))).trans (((x29182.2.2 0 7 (g.lt ad0) (by decide)).trans ev29179))) ?_
          refine ev_iconst ?_
          refine ev_iadd (r := (v29179 + 1)) (by unfold w32; omega) ?_
          refine ev_putfG (r := 0) (by rw [(jwr_ty e29183a).1]; exact g29182.lt ad0) (by rw [(jwr_ty e29183a).2]; exact g29182.fam ad0 (by decide)) ft11_7 (fun e => absurd e nz11_7) (fun e => absurd e (by decide)) (fun h29183 e29183 => ?_)
          have g29183 := g29182.putF ff29183 (((x29182.2.2 0 7 (g.lt ad0) (by decide)).trans ev29179)) e29183a e29183 (by omega) (by omega) (by omega)
          have k29183 := (k29182.wr e29183a rfl).wr e29183 rfl
          refine ev_aload_n rfl ?_
          refine g_getv (r := 0) (v := (v29179 + 1)) g29183 ad0 (by decide) ft11_7 ((jw_eq e29183)) ?_
          refine ev_iconst ?_
          refine ev_isub (r := v29179) (by unfold w32; omega) ?_
          exact ev_ret rfl (by decide) (by decide) ⟨_, rfl, by omega, by omega, ⟨_, g29183⟩, k29183, by rw [(jwr_ty e29183).1, (jwr_ty e29183a).1, es29182]; omega⟩
        · refine ev_bipush ?_
          exact ev_ret rfl (by decide) (by decide) ⟨_, rfl, by omega, by omega, ⟨_, g⟩, k0.x, by rw [k0.1]; omega⟩
      · refine ev_iconst ?_
        exact ev_ret rfl (by decide) (by decide) ⟨_, rfl, by omega, by omega, ⟨_, g⟩, k0.x, by rw [k0.1]; omega⟩
  · refine ev_iload_n rfl ?_
    refine ev_iconst ?_
    refine ev_icmpne f178_14 (fun c29184 => ?_) (fun c29184 => ?_)
    · refine ev_iconst ?_
      refine ev_istore_n (L' := [(2, 0), (0, a1), (0, a2), (0, 0)]) (Nat.le_of_ble_eq_true rfl) rfl ?_
      refine ev_iload_n rfl ?_
      refine ev_iflt f178_39 (fun c29185 => ?_) (fun c29185 => ?_)
      · refine ev_iconst ?_
        exact ev_ret rfl (by decide) (by decide) ⟨_, rfl, by omega, by omega, ⟨_, g⟩, k0.x, by rw [k0.1]; omega⟩
      · refine ev_iload_n rfl ?_
        refine ev_iconst ?_
        refine ev_icmpgt f178_39 (fun c29186 => ?_) (fun c29186 => ?_)
        · refine ev_iconst ?_
          exact ev_ret rfl (by decide) (by decide) ⟨_, rfl, by omega, by omega, ⟨_, g⟩, k0.x, by rw [k0.1]; omega⟩
        · refine ev_iload_n rfl ?_
          refine ev_ifeq f178_41 (fun c29187 => ?_) (fun c29187 => absurd c29187 (by omega))
          refine ev_aload_n rfl ?_
          obtain ⟨v29188, ev29188, lv29188, uv29188⟩ := g.rd ad0 (show 7 < 17 by decide) rf0_7
          refine g_getv (r := 0) (v := v29188) g ad0 (by decide) ft11_7 ev29188 ?_
          refine ev_bipush ?_
          refine ev_icmplt f178_53 (fun c29189 => ?_) (fun c29189 => ?_)
          · refine ev_aload_n rfl ?_
            refine g_getp (r := 0) (c := 24) g ad0 (by decide) (by decide) rf0_6 ft11_6 ?_
            refine ev_aload_n rfl ?_
            refine g_getv (r := 0) (v := v29188) g ad0 (by decide) ft11_7 (ev29188) ?_
            refine ev_aload_n rfl ?_
            refine ev_iload_n rfl ?_
            refine ev_aload_n rfl ?_
            refine g_getv (r := 0) (v := v29188) g ad0 (by decide) ft11_7 (ev29188) ?_
            refine ev_iload_n rfl ?_
            refine ev_ifeq f178_75 (fun c29190 => ?_) (fun c29190 => absurd c29190 (by omega))
            refine ev_iconst ?_
            refine ev_call (jcall_v (A := [(0, 0), (0, v29188), (0, a1)]) (S' := [(0, v29188), (2, 24)]) (r := 0) rfl (g.lt ad0) (g.tg ad0) (Nat.le_of_ble_eq_true rfl)) (jOk_le (by decide) (newFeel (d := 0) (s := 19) (g.lt ad0) (g.fam ad0 (by decide)) (g.pt ad0 (i := 4) (by decide) rf0_4) (g.lt ad19))) (by decide) (by decide) (fun w29191 h29191 z29191 => ?_)
            obtain ⟨rfl, z29191⟩ := z29191
            obtain ⟨g29191, es29191, x29191⟩ := g.newF (feelT_fam _) (by omega) (by omega) (by omega) (by omega) z29191
            have hz29191 := k0.1
            have k29191 := Kx.tx k0 x29191 (by decide)
            have fz29191 := g.2.1.1
            show jEv _ _ _ _ _ _ _ (_, [(2, 0), (0, a1), (0, a2), (0, 0)], [(2, (h.1 : Int)), (0, v29188), (2, 24)], _, _, _)
            have ff29192 := gF_at (n := v29188) (p := 0) g
            refine ev_astoG (r := 24) (j := (v29188).toNat) (v := h.1) (g29191.lt ad24) (g29191.tg ad24) (by omega) (by rw [g29191.ln ad24]; omega) (by rw [es29191]; omega) (newF_ty (feelT_fam _) z29191) (fun h29192a e29192a => ?_)
            refine ev_aload_n rfl ?_
            refine ev_dup (by decide) ?_
            refine ev_getf (r := 0) (v := v29188) (by rw [(jwr_ty e29192a).1]; exact g29191.lt ad0) (by rw [(jwr_ty e29192a).2]; exact g29191.fam ad0 (by decide)) ft11_7 ((jw_ne e29192a (Or.inl (by decide))).trans (((x29191.2.2 0 7 (g.lt ad0) (by decide)).trans ev29188))) ?_
            refine ev_iconst ?_
            refine ev_iadd (r := (v29188 + 1)) (by unfold w32; omega) ?_
            refine ev_putfG (r := 0) (by rw [(jwr_ty e29192a).1]; exact g29191.lt ad0) (by rw [(jwr_ty e29192a).2]; exact g29191.fam ad0 (by decide)) ft11_7 (fun e => absurd e nz11_7) (fun e => absurd e (by decide)) (fun h29192 e29192 => ?_)
            have g29192 := g29191.putF ff29192 (((x29191.2.2 0 7 (g.lt ad0) (by decide)).trans ev29188)) e29192a e29192 (by omega) (by omega) (by omega)
            have k29192 := (k29191.wr e29192a rfl).wr e29192 rfl
            refine ev_aload_n rfl ?_
            refine g_getv (r := 0) (v := (v29188 + 1)) g29192 ad0 (by decide) ft11_7 ((jw_eq e29192)) ?_
            refine ev_iconst ?_
            refine ev_isub (r := v29188) (by unfold w32; omega) ?_
            exact ev_ret rfl (by decide) (by decide) ⟨_, rfl, by omega, by omega, ⟨_, g29192⟩, k29192, by rw [(jwr_ty e29192).1, (jwr_ty e29192a).1, es29191]; omega⟩
          · refine ev_bipush ?_
            exact ev_ret rfl (by decide) (by decide) ⟨_, rfl, by omega, by omega, ⟨_, g⟩, k0.x, by rw [k0.1]; omega⟩
    · refine ev_iconst ?_
      refine ev_goto f178_15 ?_
      refine ev_istore_n (L' := [(2, 0), (0, a1), (0, a2), (0, 1)]) (Nat.le_of_ble_eq_true rfl) rfl ?_
      refine ev_iload_n rfl ?_
      refine ev_iflt f178_39 (fun c29193 => absurd c29193 (by omega)) (fun c29193 => ?_)
      refine ev_iload_n rfl ?_
      refine ev_iconst ?_
      refine ev_icmpgt f178_39 (fun c29194 => absurd c29194 (by omega)) (fun c29194 => ?_)
      refine ev_iload_n rfl ?_
      refine ev_ifeq f178_41 (fun c29195 => absurd c29195 (by omega)) (fun c29195 => ?_)
      refine ev_iload_n rfl ?_
      refine ev_iflt f178_39 (fun c29196 => ?_) (fun c29196 => ?_)
      · refine ev_iconst ?_
        exact ev_ret rfl (by decide) (by decide) ⟨_, rfl, by omega, by omega, ⟨_, g⟩, k0.x, by rw [k0.1]; omega⟩
      · refine ev_iload_n rfl ?_
        refine ev_bipush ?_
        refine ev_icmple f178_41 (fun c29197 => ?_) (fun c29197 => ?_)
        · refine ev_aload_n rfl ?_
          obtain ⟨v29198, ev29198, lv29198, uv29198⟩ := g.rd ad0 (show 7 < 17 by decide) rf0_7
          refine g_getv (r := 0) (v := v29198) g ad0 (by decide) ft11_7 ev29198 ?_
          refine ev_bipush ?_
          refine ev_icmplt f178_53 (fun c29199 => ?_) (fun c29199 => ?_)
          · refine ev_aload_n rfl ?_
            refine g_getp (r := 0) (c := 24) g ad0 (by decide) (by decide) rf0_6 ft11_6 ?_
            refine ev_aload_n rfl ?_
            refine g_getv (r := 0) (v := v29198) g ad0 (by decide) ft11_7 (ev29198) ?_
            refine ev_aload_n rfl ?_
            refine ev_iload_n rfl ?_
            refine ev_aload_n rfl ?_
            refine g_getv (r := 0) (v := v29198) g ad0 (by decide) ft11_7 (ev29198) ?_
            refine ev_iload_n rfl ?_
            refine ev_ifeq f178_75 (fun c29200 => absurd c29200 (by omega)) (fun c29200 => ?_)
            refine ev_iload_n rfl ?_
            refine ev_goto f178_76 ?_
            refine ev_call (jcall_v (A := [(0, a2), (0, v29198), (0, a1)]) (S' := [(0, v29198), (2, 24)]) (r := 0) rfl (g.lt ad0) (g.tg ad0) (Nat.le_of_ble_eq_true rfl)) (jOk_le (by decide) (newFeel (d := 0) (s := 19) (g.lt ad0) (g.fam ad0 (by decide)) (g.pt ad0 (i := 4) (by decide) rf0_4) (g.lt ad19))) (by decide) (by decide) (fun w29201 h29201 z29201 => ?_)
            obtain ⟨rfl, z29201⟩ := z29201
            obtain ⟨g29201, es29201, x29201⟩ := g.newF (feelT_fam _) (by omega) (by omega) (by omega) (by omega) z29201
            have hz29201 := k0.1
            have k29201 := Kx.tx k0 x29201 (by decide)
            have fz29201 := g.2.1.1
            show jEv _ _ _ _ _ _ _ (_, [(2, 0), (0, a1), (0, a2), (0, 1)], [(2, (h.1 : Int)), (0, v29198), (2, 24)], _, _, _)
            have ff29202 := gF_at (n := v29198) (p := a2) g
            refine ev_astoG (r := 24) (j := (v29198).toNat) (v := h.1) (g29201.lt ad24) (g29201.tg ad24) (by omega) (by rw [g29201.ln ad24]; omega) (by rw [es29201]; omega) (newF_ty (feelT_fam _) z29201) (fun h29202a e29202a => ?_)
            refine ev_aload_n rfl ?_
            refine ev_dup (by decide) ?_
            refine ev_getf (r := 0) (v := v29198) (by rw [(jwr_ty e29202a).1]; exact g29201.lt ad0) (by rw [(jwr_ty e29202a).2]; exact g29201.fam ad0 (by decide)) ft11_7 ((jw_ne e29202a (Or.inl (by decide))).trans (((x29201.2.2 0 7 (g.lt ad0) (by decide)).trans ev29198))) ?_
            refine ev_iconst ?_
            refine ev_iadd (r := (v29198 + 1)) (by unfold w32; omega) ?_
            refine ev_putfG (r := 0) (by rw [(jwr_ty e29202a).1]; exact g29201.lt ad0) (by rw [(jwr_ty e29202a).2]; exact g29201.fam ad0 (by decide)) ft11_7 (fun e => absurd e nz11_7) (fun e => absurd e (by decide)) (fun h29202 e29202 => ?_)
            have g29202 := g29201.putF ff29202 (((x29201.2.2 0 7 (g.lt ad0) (by decide)).trans ev29198)) e29202a e29202 (by omega) (by omega) (by omega)
            have k29202 := (k29201.wr e29202a rfl).wr e29202 rfl
            refine ev_aload_n rfl ?_
            refine g_getv (r := 0) (v := (v29198 + 1)) g29202 ad0 (by decide) ft11_7 ((jw_eq e29202)) ?_
            refine ev_iconst ?_
            refine ev_isub (r := v29198) (by unfold w32; omega) ?_
            exact ev_ret rfl (by decide) (by decide) ⟨_, rfl, by omega, by omega, ⟨_, g29202⟩, k29202, by rw [(jwr_ty e29202).1, (jwr_ty e29202a).1, es29201]; omega⟩
          · refine ev_bipush ?_
            exact ev_ret rfl (by decide) (by decide) ⟨_, rfl, by omega, by omega, ⟨_, g⟩, k0.x, by rw [k0.1]; omega⟩
        · refine ev_iconst ?_
          exact ev_ret rfl (by decide) (by decide) ⟨_, rfl, by omega, by omega, ⟨_, g⟩, k0.x, by rw [k0.1]; omega⟩
/-! 153 ready -/
set_option maxHeartbeats 4000000 in
theorem s153 {G : GH} {h : JH} (g : Gd G h)  : jOk 5 0 0 153 [(2, 1)] h (PI G [(1, 2), (1, 3), (5, 0), (6, 0)] h 0 0 1) := by
  refine ⟨by decide, by rw [ml153]; exact Nat.le_of_ble_eq_true rfl, ?_⟩
  rw [ml153, pp153]
  show jEv _ none _ c153_0 0 0 _ (c153_0, [(2, 1)], [], h, 0, 0)
  have k0 := Kp.rf [(1, 2), (1, 3), (5, 0), (6, 0)] h
  refine ev_aload_n rfl ?_
  obtain ⟨v29227, ev29227, lv29227, uv29227⟩ := g.rd ad1 (show 2 < 8 by decide) rf1_2
  refine g_getv (r := 1) (v := v29227) g ad1 (by decide) ft10_2 ev29227 ?_
  refine ev_ifne f153_33 (fun c29228 => ?_) (fun c29228 => ?_)
  · refine ev_aload_n rfl ?_
    obtain ⟨v29229, ev29229, lv29229, uv29229⟩ := g.rd ad1 (show 1 < 8 by decide) rf1_1
    refine g_getv (r := 1) (v := v29229) g ad1 (by decide) ft10_1 ev29229 ?_
    refine ev_lconst ?_
    refine ev_lcmp ?_
    refine ev_ifle f153_46 (fun c29230 => ?_) (fun c29230 => ?_)
    · have c29230b := jcmpL_le c29230
      refine ev_iconst ?_
      exact ev_ret rfl (by decide) (by decide) ⟨_, rfl, by omega, by omega, g, k0⟩
    · have c29230b := jcmpL_leN c29230
      refine ev_iconst ?_
      refine ev_goto f153_47 ?_
      exact ev_ret rfl (by decide) (by decide) ⟨_, rfl, by omega, by omega, g, k0⟩
  · refine ev_aload_n rfl ?_
    refine ev_iconst ?_
    refine g_putf (r := 1) g ad1 (by decide) ft10_2 (by decide) (fun _ => by omega) rf1_2 (by decide) (by omega) (by omega) (fun h29231 e29231 g29231 => ?_)
    have k29231 := k0.wr e29231 rfl
    refine ev_aload_n rfl ?_
    refine ev_aload_n rfl ?_
    refine ev_call (jcall_v (A := []) (S' := [(2, 1)]) (r := 1) rfl (g29231.lt ad1) (g29231.tg ad1) (Nat.le_of_ble_eq_true rfl)) (jOk_le (by decide) (s152 g29231 )) (by decide) (by decide) (fun w29232 h29232 q29232 => ?_)
    obtain ⟨v29233, rfl, lv29233, uv29233, g29232, kk29232⟩ := q29232
    have k29232 := k29231.tr kk29232 (by decide)
    show jEv _ _ _ _ _ _ _ (_, [(2, 1)], [(1, v29233), (2, 1)], _, _, _)
    refine g_putf (r := 1) g29232 ad1 (by decide) ft10_1 (by decide) (fun e => absurd e nz10_1) rf1_1 (by decide) (by omega) (by omega) (fun h29234 e29234 g29234 => ?_)
    have k29234 := k29232.wr e29234 rfl
    refine ev_aload_n rfl ?_
    refine g_getv (r := 1) (v := v29233) g29234 ad1 (by decide) ft10_1 ((jw_eq e29234)) ?_
    refine ev_lconst ?_
    refine ev_lcmp ?_
    refine ev_ifle f153_33 (fun c29235 => ?_) (fun c29235 => ?_)
    · have c29235b := jcmpL_le c29235
      refine ev_aload_n rfl ?_
      refine g_getv (r := 1) (v := v29233) g29234 ad1 (by decide) ft10_1 ((jw_eq e29234)) ?_
      refine ev_lconst ?_
      refine ev_lcmp ?_
      refine ev_ifle f153_46 (fun c29236 => ?_) (fun c29236 => absurd (jcmpL_leN c29236) (by omega))
      refine ev_iconst ?_
      exact ev_ret rfl (by decide) (by decide) ⟨_, rfl, by omega, by omega, g29234, k29234⟩
    · have c29235b := jcmpL_leN c29235
      refine ev_aload_n rfl ?_
      refine ev_call (jcall_v (A := []) (S' := []) (r := 1) rfl (g29234.lt ad1) (g29234.tg ad1) (Nat.le_of_ble_eq_true rfl)) (jOk_le (by decide) (s154 g29234 )) (by decide) (by decide) (fun w29237 h29237 q29237 => ?_)
      obtain ⟨rfl, g29237, kk29237⟩ := q29237
      have k29237 := k29234.tr kk29237 (by decide)
      show jEv _ _ _ _ _ _ _ (_, [(2, 1)], [], _, _, _)
      refine ev_aload_n rfl ?_
      refine g_getv (r := 1) (v := v29233) g29237 ad1 (by decide) ft10_1 (((kk29237.v (by decide)).trans (jw_eq e29234))) ?_
      refine ev_lconst ?_
      refine ev_lcmp ?_
      refine ev_ifle f153_46 (fun c29238 => absurd (jcmpL_le c29238) (by omega)) (fun c29238 => ?_)
      refine ev_iconst ?_
      refine ev_goto f153_47 ?_
      exact ev_ret rfl (by decide) (by decide) ⟨_, rfl, by omega, by omega, g29237, k29237⟩
/-! 229 remember -/
set_option maxHeartbeats 4000000 in
theorem s229 {G : GH} {h : JH} (g : Gd G h) {a1 : Int} (la1 : (-2147483648) ≤ a1) (ua1 : a1 ≤ 2147483647) {a2 : Int} (la2 : (-2147483648) ≤ a2) (ua2 : a2 ≤ 2147483647) {a3 : Int} (la3 : (-2147483648) ≤ a3) (ua3 : a3 ≤ 2147483647) : jOk 1 0 0 229 [(2, 0), (0, a1), (0, a2), (0, a3)] h (PV G [(25, 0), (0, 10), (0, 11)] h) := by
  refine ⟨by decide, by rw [ml229]; exact Nat.le_of_ble_eq_true rfl, ?_⟩
  rw [ml229, pp229]
  show jEv _ none _ c229_0 0 0 _ (c229_0, [(2, 0), (0, a1), (0, a2), (0, a3)], [], h, 0, 0)
  have k0 := Kp.rf [(25, 0), (0, 10), (0, 11)] h
  refine ev_aload_n rfl ?_
  obtain ⟨v29267, ev29267, lv29267, uv29267⟩ := g.rd ad0 (show 9 < 17 by decide) rf0_9
  refine g_getv (r := 0) (v := v29267) g ad0 (by decide) ft11_9 ev29267 ?_
  refine ev_bipush ?_
  refine ev_icmplt f229_30 (fun c29268 => ?_) (fun c29268 => ?_)
  · refine ev_aload_n rfl ?_
    refine g_getp (r := 0) (c := 25) g ad0 (by decide) (by decide) rf0_8 ft11_8 ?_
    refine ev_iconst ?_
    refine ev_aload_n rfl ?_
    refine g_getv (r := 0) (v := v29267) g ad0 (by decide) ft11_9 (ev29267) ?_
    refine ev_imul (r := (3 * v29267)) (by unfold w32; omega) ?_
    refine ev_iload_n rfl ?_
    refine g_iast g ad25 rt25 (fun _ => rfl) (by omega) (by omega) (by omega) (by omega) (fun h29269 e29269 g29269 => ?_)
    have k29269 := k0.wr e29269 rfl
    refine ev_aload_n rfl ?_
    refine g_getp (r := 0) (c := 25) g29269 ad0 (by decide) (by decide) rf0_8 ft11_8 ?_
    refine ev_iconst ?_
    refine ev_aload_n rfl ?_
    refine g_getv (r := 0) (v := v29267) g29269 ad0 (by decide) ft11_9 (((jw_ne e29269 (Or.inl (by decide))).trans ev29267)) ?_
    refine ev_imul (r := (3 * v29267)) (by unfold w32; omega) ?_
    refine ev_iconst ?_
    refine ev_iadd (r := (3 * v29267 + 1)) (by unfold w32; omega) ?_
    refine ev_iload_n rfl ?_
    refine g_iast g29269 ad25 rt25 (fun _ => rfl) (by omega) (by omega) (by omega) (by omega) (fun h29270 e29270 g29270 => ?_)
    have k29270 := k29269.wr e29270 rfl
    refine ev_aload_n rfl ?_
    refine g_getp (r := 0) (c := 25) g29270 ad0 (by decide) (by decide) rf0_8 ft11_8 ?_
    refine ev_iconst ?_
    refine ev_aload_n rfl ?_
    refine g_getv (r := 0) (v := v29267) g29270 ad0 (by decide) ft11_9 (((jw_ne e29270 (Or.inl (by decide))).trans ((jw_ne e29269 (Or.inl (by decide))).trans ev29267))) ?_
    refine ev_imul (r := (3 * v29267)) (by unfold w32; omega) ?_
    refine ev_iconst ?_
    refine ev_iadd (r := (3 * v29267 + 2)) (by unfold w32; omega) ?_
    refine ev_iload_n rfl ?_
    refine g_iast g29270 ad25 rt25 (fun _ => rfl) (by omega) (by omega) (by omega) (by omega) (fun h29271 e29271 g29271 => ?_)
    have k29271 := k29270.wr e29271 rfl
    refine ev_aload_n rfl ?_
    refine ev_dup (by decide) ?_
    refine g_getv (r := 0) (v := v29267) g29271 ad0 (by decide) ft11_9 (((jw_ne e29271 (Or.inl (by decide))).trans ((jw_ne e29270 (Or.inl (by decide))).trans ((jw_ne e29269 (Or.inl (by decide))).trans ev29267)))) ?_
    refine ev_iconst ?_
    refine ev_iadd (r := (v29267 + 1)) (by unfold w32; omega) ?_
    refine g_putf (r := 0) g29271 ad0 (by decide) ft11_9 (by decide) (fun e => absurd e nz11_9) rf0_9 (by decide) (by omega) (by omega) (fun h29272 e29272 g29272 => ?_)
    have k29272 := k29271.wr e29272 rfl
    refine ev_aload_n rfl ?_
    refine ev_iconst ?_
    refine g_putf (r := 0) g29272 ad0 (by decide) ft11_10 (by decide) (fun e => absurd e nz11_10) rf0_10 (by decide) (by omega) (by omega) (fun h29273 e29273 g29273 => ?_)
    have k29273 := k29272.wr e29273 rfl
    exact ev_ret rfl (by decide) (by decide) ⟨rfl, g29273, k29273⟩
  · refine ev_aload_n rfl ?_
    refine g_getp (r := 0) (c := 25) g ad0 (by decide) (by decide) rf0_8 ft11_8 ?_
    refine ev_iconst ?_
    refine ev_aload_n rfl ?_
    refine g_getp (r := 0) (c := 25) g ad0 (by decide) (by decide) rf0_8 ft11_8 ?_
    refine ev_iconst ?_
    refine ev_bipush ?_
    refine g_copyS g ad25 (by decide) rt25 (fun _ => rfl) (by omega) (by omega) (by omega) (by omega) (by omega) (Nat.le_of_ble_eq_true rfl) (fun h29274 g29274 kk29274 => ?_)
    have k29274 := k0.tr kk29274 (by decide)
    refine ev_aload_n rfl ?_
    refine ev_bipush ?_
    refine g_putf (r := 0) g29274 ad0 (by decide) ft11_9 (by decide) (fun e => absurd e nz11_9) rf0_9 (by decide) (by omega) (by omega) (fun h29275 e29275 g29275 => ?_)
    have k29275 := k29274.wr e29275 rfl
    refine ev_aload_n rfl ?_
    refine g_getp (r := 0) (c := 25) g29275 ad0 (by decide) (by decide) rf0_8 ft11_8 ?_
    refine ev_iconst ?_
    refine ev_aload_n rfl ?_
    refine g_getv (r := 0) (v := 39) g29275 ad0 (by decide) ft11_9 ((jw_eq e29275)) ?_
    refine ev_imul (r := 117) (by decide) ?_
    refine ev_iload_n rfl ?_
    refine g_iast g29275 ad25 rt25 (fun _ => rfl) (by omega) (by omega) (by omega) (by omega) (fun h29276 e29276 g29276 => ?_)
    have k29276 := k29275.wr e29276 rfl
    refine ev_aload_n rfl ?_
    refine g_getp (r := 0) (c := 25) g29276 ad0 (by decide) (by decide) rf0_8 ft11_8 ?_
    refine ev_iconst ?_
    refine ev_aload_n rfl ?_
    refine g_getv (r := 0) (v := 39) g29276 ad0 (by decide) ft11_9 (((jw_ne e29276 (Or.inl (by decide))).trans (jw_eq e29275))) ?_
    refine ev_imul (r := 117) (by decide) ?_
    refine ev_iconst ?_
    refine ev_iadd (r := 118) (by decide) ?_
    refine ev_iload_n rfl ?_
    refine g_iast g29276 ad25 rt25 (fun _ => rfl) (by omega) (by omega) (by omega) (by omega) (fun h29277 e29277 g29277 => ?_)
    have k29277 := k29276.wr e29277 rfl
    refine ev_aload_n rfl ?_
    refine g_getp (r := 0) (c := 25) g29277 ad0 (by decide) (by decide) rf0_8 ft11_8 ?_
    refine ev_iconst ?_
    refine ev_aload_n rfl ?_
    refine g_getv (r := 0) (v := 39) g29277 ad0 (by decide) ft11_9 (((jw_ne e29277 (Or.inl (by decide))).trans ((jw_ne e29276 (Or.inl (by decide))).trans (jw_eq e29275)))) ?_
    refine ev_imul (r := 117) (by decide) ?_
    refine ev_iconst ?_
    refine ev_iadd (r := 119) (by decide) ?_
    refine ev_iload_n rfl ?_
    refine g_iast g29277 ad25 rt25 (fun _ => rfl) (by omega) (by omega) (by omega) (by omega) (fun h29278 e29278 g29278 => ?_)
    have k29278 := k29277.wr e29278 rfl
    refine ev_aload_n rfl ?_
    refine ev_dup (by decide) ?_
    refine g_getv (r := 0) (v := 39) g29278 ad0 (by decide) ft11_9 (((jw_ne e29278 (Or.inl (by decide))).trans ((jw_ne e29277 (Or.inl (by decide))).trans ((jw_ne e29276 (Or.inl (by decide))).trans (jw_eq e29275))))) ?_
    refine ev_iconst ?_
    refine ev_iadd (r := 40) (by decide) ?_
    refine g_putf (r := 0) g29278 ad0 (by decide) ft11_9 (by decide) (fun e => absurd e nz11_9) rf0_9 (by decide) (by omega) (by omega) (fun h29279 e29279 g29279 => ?_)
    have k29279 := k29278.wr e29279 rfl
    refine ev_aload_n rfl ?_
    refine ev_iconst ?_
    refine g_putf (r := 0) g29279 ad0 (by decide) ft11_10 (by decide) (fun e => absurd e nz11_10) rf0_10 (by decide) (by omega) (by omega) (fun h29280 e29280 g29280 => ?_)
    have k29280 := k29279.wr e29280 rfl
    exact ev_ret rfl (by decide) (by decide) ⟨rfl, g29280, k29280⟩
/-! 230 restore -/
set_option maxHeartbeats 4000000 in
theorem s230 {G : GH} {h : JH} (g : Gd G h) {a1 : Int} (la1 : (-2147483648) ≤ a1) (ua1 : a1 ≤ 2147483647) {a2 : Int} (la2 : (-2147483648) ≤ a2) (ua2 : a2 ≤ 2147483647) : jOk 5 0 0 230 [(2, 0), (0, a1), (0, a2)] h (PV G [(4, 0), (1, 3), (1000000, 0)] h) := by
  refine ⟨by decide, by rw [ml230]; exact Nat.le_of_ble_eq_true rfl, ?_⟩
  rw [ml230, pp230]
  show jEv _ none _ c230_0 0 0 _ (c230_0, [(2, 0), (0, a1), (0, a2), (9, 0), (9, 0), (9, 0)], [], h, 0, 0)
  have k0 := Kp.rf [(4, 0), (1, 3), (1000000, 0)] h
  refine ev_iload_n rfl ?_
  refine ev_bipush ?_
  refine ev_icmpge f230_16 (fun c29385 => ?_) (fun c29385 => ?_)
  · refine ev_iload_n rfl ?_
    refine ev_bipush ?_
    refine ev_isub (r := (a1 - 36)) (by unfold w32; omega) ?_
    refine ev_iconst ?_
    refine g_idivP (c := 5) rfl (by decide) (by omega) (by omega) (fun v29386 ev29386 lv29386 uv29386 => ?_)
    refine ev_istore_n (L' := [(2, 0), (0, a1), (0, a2), (0, v29386), (9, 0), (9, 0)]) (Nat.le_of_ble_eq_true rfl) rfl ?_
    refine ev_iload_n rfl ?_
    refine ev_bipush ?_
    refine ev_isub (r := (a1 - 36)) (by unfold w32; omega) ?_
    refine ev_iconst ?_
    refine g_iremP (c := 5) rfl (by decide) (by omega) (fun v29387 ev29387 lv29387 uv29387 wv29387 => ?_)
    refine ev_iconst ?_
    refine ev_isub (r := (v29387 - 1)) (by unfold w32; omega) ?_
    refine ev_istore (L' := [(2, 0), (0, a1), (0, a2), (0, v29386), (0, (v29387 - 1)), (9, 0)]) (Nat.le_of_ble_eq_true rfl) rfl ?_
    refine ev_aload_n rfl ?_
    refine ev_iload_n rfl ?_
    refine ev_bipush ?_
    refine g_idivP (c := 100) rfl (by decide) (by omega) (by omega) (fun v29388 ev29388 lv29388 uv29388 => ?_)
    refine ev_in (d := 3) (a := 0) (b := 0) (cd' := c219_0) (m := 2) (L0 := [(2, 0), (0, v29388)]) (jcall_v (A := [(0, v29388)]) (S' := []) (r := 0) rfl (g.lt ad0) (g.tg ad0) (Nat.le_of_ble_eq_true rfl)) (by decide) ml219 pp219 (Nat.le_of_ble_eq_true rfl) rfl (by decide) (by decide) ?_
    refine ev_iload_n rfl ?_
    refine ev_iflt f219_12 (fun c29389 => absurd c29389 (by omega)) (fun c29389 => ?_)
    refine ev_iload_n rfl ?_
    refine ev_aload_n rfl ?_
    obtain ⟨v29390, ev29390, lv29390, uv29390⟩ := g.rd ad0 (show 3 < 17 by decide) rf0_3
    refine g_getv (r := 0) (v := v29390) g ad0 (by decide) ft11_3 ev29390 ?_
    refine ev_icmplt f219_16 (fun c29391 => ?_) (fun c29391 => ?_)
    · refine ev_aload_n rfl ?_
      refine g_getp (r := 0) (c := 18) g ad0 (by decide) (by decide) rf0_2 ft11_2 ?_
      refine ev_iload_n rfl ?_
      refine g_qaald (g) (i := v29388) (ev29390) (by omega) (by omega) (fun r29392 m29393 qr29392 => ?_)
      have wr29392 := g.qb qr29392
      have zr29392 := qr29392.1
      refine ev_ret rfl (by decide) (by decide) ?_
      show jEv _ _ _ _ _ _ _ (_, [(2, 0), (0, a1), (0, a2), (0, v29386), (0, (v29387 - 1)), (9, 0)], [(2, (r29392 : Int))], _, _, _)
      refine ev_astore (L' := [(2, 0), (0, a1), (0, a2), (0, v29386), (0, (v29387 - 1)), (2, (r29392 : Int))]) (Nat.le_of_ble_eq_true rfl) rfl ?_
      refine ev_aload rfl ?_
      refine ev_ifnull f230_74 (fun c29394 => absurd c29394 (by omega)) (fun c29394 => ?_)
      refine ev_aload rfl ?_
      refine ev_iload_n rfl ?_
      refine ev_bipush ?_
      refine g_iremP (c := 100) rfl (by decide) (by omega) (fun v29395 ev29395 lv29395 uv29395 wv29395 => ?_)
      refine ev_iload rfl ?_
      refine ev_in (d := 3) (a := 0) (b := 0) (cd' := c32_0) (m := 3) (L0 := [(2, (r29392 : Int)), (0, v29395), (0, (v29387 - 1))]) (jcall_v (A := [(0, (v29387 - 1)), (0, v29395)]) (S' := []) (r := r29392) rfl (g.qlt qr29392) (g.qtg qr29392) (Nat.le_of_ble_eq_true rfl)) (by decide) ml32 pp32 (Nat.le_of_ble_eq_true rfl) rfl (by decide) (by decide) ?_
      refine ev_iload_n rfl ?_
      refine ev_iconst ?_
      refine ev_icmpne f32_30 (fun c29396 => ?_) (fun c29396 => ?_)
      · refine ev_aload_n rfl ?_
        refine ev_iload_n rfl ?_
        refine ev_iload_n rfl ?_
        refine ev_in (d := 2) (a := 0) (b := 0) (cd' := c26_0) (m := 3) (L0 := [(2, (r29392 : Int)), (0, v29395), (0, (v29387 - 1))]) (jcall_v (A := [(0, (v29387 - 1)), (0, v29395)]) (S' := []) (r := r29392) rfl (g.qlt qr29392) (g.qtg qr29392) (Nat.le_of_ble_eq_true rfl)) (by decide) ml26 pp26 (Nat.le_of_ble_eq_true rfl) rfl (by decide) (by decide) ?_
        refine ev_aload_n rfl ?_
        refine ev_iload_n rfl ?_
        refine ev_iload_n rfl ?_
        refine ev_in (d := 1) (a := 0) (b := 0) (cd' := c25_0) (m := 3) (L0 := [(2, (r29392 : Int)), (0, v29395), (0, (v29387 - 1))]) (jcall_v (A := [(0, (v29387 - 1)), (0, v29395)]) (S' := []) (r := r29392) rfl (g.qlt qr29392) (g.qtg qr29392) (Nat.le_of_ble_eq_true rfl)) (by decide) ml25 pp25 (Nat.le_of_ble_eq_true rfl) rfl (by decide) (by decide) ?_
        refine ev_aload_n rfl ?_
        refine ev_iload_n rfl ?_
        refine ev_in (d := 0) (a := 0) (b := 0) (cd' := c24_0) (m := 2) (L0 := [(2, (r29392 : Int)), (0, v29395)]) (jcall_v (A := [(0, v29395)]) (S' := []) (r := r29392) rfl (g.qlt qr29392) (g.qtg qr29392) (Nat.le_of_ble_eq_true rfl)) (by decide) ml24 pp24 (Nat.le_of_ble_eq_true rfl) rfl (by decide) (by decide) ?_
        refine ev_iload_n rfl ?_
        refine ev_iflt f24_16 (fun c29397 => absurd c29397 (by omega)) (fun c29397 => ?_)
        refine ev_iload_n rfl ?_
        refine ev_aload_n rfl ?_
        obtain ⟨v29398, ev29398, lv29398, uv29398⟩ := g.q0 qr29392
        refine g_qgetv (v := v29398) g qr29392 ft4_0 ev29398 ?_
        refine ev_icmpge f24_16 (fun c29399 => ?_) (fun c29399 => ?_)
        · refine ev_iconst ?_
          refine ev_ret rfl (by decide) (by decide) ?_
          show jEv _ _ _ _ _ _ _ (_, [(2, (r29392 : Int)), (0, v29395), (0, (v29387 - 1))], [(0, 0)], _, _, _)
          refine ev_ifeq f25_26 (fun c29400 => ?_) (fun c29400 => absurd c29400 (by omega))
          refine ev_iconst ?_
          refine ev_ret rfl (by decide) (by decide) ?_
          show jEv _ _ _ _ _ _ _ (_, [(2, (r29392 : Int)), (0, v29395), (0, (v29387 - 1))], [(0, 0)], _, _, _)
          refine ev_ifeq f26_23 (fun c29401 => ?_) (fun c29401 => absurd c29401 (by omega))
          refine ev_iconst ?_
          refine ev_ret rfl (by decide) (by decide) ?_
          show jEv _ _ _ _ _ _ _ (_, [(2, (r29392 : Int)), (0, v29395), (0, (v29387 - 1))], [(0, 0)], _, _, _)
          refine ev_ret rfl (by decide) (by decide) ?_
          show jEv _ _ _ _ _ _ _ (_, [(2, 0), (0, a1), (0, a2), (0, v29386), (0, (v29387 - 1)), (2, (r29392 : Int))], [(0, 0)], _, _, _)
          refine ev_ifeq f230_74 (fun c29402 => ?_) (fun c29402 => absurd c29402 (by omega))
          exact ev_ret rfl (by decide) (by decide) ⟨rfl, g, k0⟩
        · refine ev_iconst ?_
          refine ev_goto f24_17 ?_
          refine ev_ret rfl (by decide) (by decide) ?_
          show jEv _ _ _ _ _ _ _ (_, [(2, (r29392 : Int)), (0, v29395), (0, (v29387 - 1))], [(0, 1)], _, _, _)
          refine ev_ifeq f25_26 (fun c29403 => absurd c29403 (by omega)) (fun c29403 => ?_)
          refine ev_iload_n rfl ?_
          refine ev_iflt f25_26 (fun c29404 => absurd c29404 (by omega)) (fun c29404 => ?_)
          refine ev_iload_n rfl ?_
          refine ev_aload_n rfl ?_
          refine g_qgetp g qr29392 (c := 4) (by decide) (by decide) ft4_4 ?_
          refine ev_iload_n rfl ?_
          refine g_qiald g qr29392 (c := 4) (by decide) (by decide) (by decide) (by omega) (by show v29395 < m29393; omega) rfl (fun v29405 ev29405 lv29405 uv29405 => ?_)
          refine ev_icmpge f25_26 (fun c29406 => ?_) (fun c29406 => ?_)
          · refine ev_iconst ?_
            refine ev_ret rfl (by decide) (by decide) ?_
            show jEv _ _ _ _ _ _ _ (_, [(2, (r29392 : Int)), (0, v29395), (0, (v29387 - 1))], [(0, 0)], _, _, _)
            refine ev_ifeq f26_23 (fun c29407 => ?_) (fun c29407 => absurd c29407 (by omega))
            refine ev_iconst ?_
            refine ev_ret rfl (by decide) (by decide) ?_
            show jEv _ _ _ _ _ _ _ (_, [(2, (r29392 : Int)), (0, v29395), (0, (v29387 - 1))], [(0, 0)], _, _, _)
            refine ev_ret rfl (by decide) (by decide) ?_
            show jEv _ _ _ _ _ _ _ (_, [(2, 0), (0, a1), (0, a2), (0, v29386), (0, (v29387 - 1)), (2, (r29392 : Int))], [(0, 0)], _, _, _)
            refine ev_ifeq f230_74 (fun c29408 => ?_) (fun c29408 => absurd c29408 (by omega))
            exact ev_ret rfl (by decide) (by decide) ⟨rfl, g, k0⟩
          · refine ev_iconst ?_
            refine ev_goto f25_27 ?_
            refine ev_ret rfl (by decide) (by decide) ?_
            show jEv _ _ _ _ _ _ _ (_, [(2, (r29392 : Int)), (0, v29395), (0, (v29387 - 1))], [(0, 1)], _, _, _)
            refine ev_ifeq f26_23 (fun c29409 => absurd c29409 (by omega)) (fun c29409 => ?_)
            refine ev_aload_n rfl ?_
            refine g_qgetp g qr29392 (c := 2) (by decide) (by decide) ft4_2 ?_
            refine ev_iload_n rfl ?_
            refine g_qiald g qr29392 (c := 2) (by decide) (by decide) (by decide) (by omega) (by show v29395 < m29393; omega) rfl (fun v29410 ev29410 lv29410 uv29410 => ?_)
            refine ev_iconst ?_
            refine ev_icmpne f26_23 (fun c29411 => ?_) (fun c29411 => ?_)
            · refine ev_iconst ?_
              refine ev_ret rfl (by decide) (by decide) ?_
              show jEv _ _ _ _ _ _ _ (_, [(2, (r29392 : Int)), (0, v29395), (0, (v29387 - 1))], [(0, 0)], _, _, _)
              refine ev_ret rfl (by decide) (by decide) ?_
              show jEv _ _ _ _ _ _ _ (_, [(2, 0), (0, a1), (0, a2), (0, v29386), (0, (v29387 - 1)), (2, (r29392 : Int))], [(0, 0)], _, _, _)
              refine ev_ifeq f230_74 (fun c29412 => ?_) (fun c29412 => absurd c29412 (by omega))
              exact ev_ret rfl (by decide) (by decide) ⟨rfl, g, k0⟩
            · refine ev_iconst ?_
              refine ev_goto f26_24 ?_
              refine ev_ret rfl (by decide) (by decide) ?_
              show jEv _ _ _ _ _ _ _ (_, [(2, (r29392 : Int)), (0, v29395), (0, (v29387 - 1))], [(0, 1)], _, _, _)
              refine ev_ret rfl (by decide) (by decide) ?_
              show jEv _ _ _ _ _ _ _ (_, [(2, 0), (0, a1), (0, a2), (0, v29386), (0, (v29387 - 1)), (2, (r29392 : Int))], [(0, 1)], _, _, _)
              refine ev_ifeq f230_74 (fun c29413 => absurd c29413 (by omega)) (fun c29413 => ?_)
              refine ev_aload rfl ?_
              refine ev_iload_n rfl ?_
              refine ev_bipush ?_
              refine g_iremP (c := 100) rfl (by decide) (by omega) (fun v29414 ev29414 lv29414 uv29414 wv29414 => ?_)
              obtain rfl : v29395 = v29414 := by omega
              refine ev_iload rfl ?_
              refine ev_iload_n rfl ?_
              refine ev_in (d := 3) (a := 0) (b := 0) (cd' := c35_0) (m := 4) (L0 := [(2, (r29392 : Int)), (0, v29395), (0, (v29387 - 1)), (0, a2)]) (jcall_v (A := [(0, a2), (0, (v29387 - 1)), (0, v29395)]) (S' := []) (r := r29392) rfl (g.qlt qr29392) (g.qtg qr29392) (Nat.le_of_ble_eq_true rfl)) (by decide) ml35 pp35 (Nat.le_of_ble_eq_true rfl) rfl (by decide) (by decide) ?_
              refine ev_iload_n rfl ?_
              refine ev_iconst ?_
              refine ev_icmpne f35_15 (fun c29415 => ?_) (fun c29415 => absurd c29415 (by omega))
              refine ev_aload_n rfl ?_
              refine g_qgetp g qr29392 (c := 6) (by decide) (by decide) ft4_6 ?_
              refine ev_iconst ?_
              refine ev_iload_n rfl ?_
              refine ev_imul (r := (4 * v29395)) (by unfold w32; omega) ?_
              refine ev_iload_n rfl ?_
              refine ev_iadd (r := (v29387 + 4 * v29395 - 1)) (by unfold w32; omega) ?_
              refine ev_iload_n rfl ?_
              refine g_qiast g qr29392 (c := 6) (by decide) (by decide) (by decide) (by omega) (by show (v29387 + 4 * v29395 - 1) < 4 * m29393; omega) rfl (by omega) (by omega) (fun h29416 e29416 g29416 => ?_)
              have k29416 := k0.wr e29416 (inW_dyn rfl (by have := qr29392.1; omega))
              refine ev_ret rfl (by decide) (by decide) ?_
              show jEv _ _ _ _ _ _ _ (_, [(2, 0), (0, a1), (0, a2), (0, v29386), (0, (v29387 - 1)), (2, (r29392 : Int))], [], _, _, _)
              exact ev_ret rfl (by decide) (by decide) ⟨rfl, g29416, k29416⟩
      · refine ev_aload_n rfl ?_
        refine ev_iload_n rfl ?_
        refine ev_in (d := 2) (a := 0) (b := 0) (cd' := c24_0) (m := 2) (L0 := [(2, (r29392 : Int)), (0, v29395)]) (jcall_v (A := [(0, v29395)]) (S' := []) (r := r29392) rfl (g.qlt qr29392) (g.qtg qr29392) (Nat.le_of_ble_eq_true rfl)) (by decide) ml24 pp24 (Nat.le_of_ble_eq_true rfl) rfl (by decide) (by decide) ?_
        refine ev_iload_n rfl ?_
        refine ev_iflt f24_16 (fun c29417 => absurd c29417 (by omega)) (fun c29417 => ?_)
        refine ev_iload_n rfl ?_
        refine ev_aload_n rfl ?_
        obtain ⟨v29418, ev29418, lv29418, uv29418⟩ := g.q0 qr29392
        refine g_qgetv (v := v29418) g qr29392 ft4_0 ev29418 ?_
        refine ev_icmpge f24_16 (fun c29419 => ?_) (fun c29419 => ?_)
        · refine ev_iconst ?_
          refine ev_ret rfl (by decide) (by decide) ?_
          show jEv _ _ _ _ _ _ _ (_, [(2, (r29392 : Int)), (0, v29395), (0, (v29387 - 1))], [(0, 0)], _, _, _)
          refine ev_ifeq f32_26 (fun c29420 => ?_) (fun c29420 => absurd c29420 (by omega))
          refine ev_iconst ?_
          refine ev_goto f32_36 ?_
          refine ev_ret rfl (by decide) (by decide) ?_
          show jEv _ _ _ _ _ _ _ (_, [(2, 0), (0, a1), (0, a2), (0, v29386), (0, (v29387 - 1)), (2, (r29392 : Int))], [(0, 0)], _, _, _)
          refine ev_ifeq f230_74 (fun c29421 => ?_) (fun c29421 => absurd c29421 (by omega))
          exact ev_ret rfl (by decide) (by decide) ⟨rfl, g, k0⟩
        · refine ev_iconst ?_
          refine ev_goto f24_17 ?_
          refine ev_ret rfl (by decide) (by decide) ?_
          show jEv _ _ _ _ _ _ _ (_, [(2, (r29392 : Int)), (0, v29395), (0, (v29387 - 1))], [(0, 1)], _, _, _)
          refine ev_ifeq f32_26 (fun c29422 => absurd c29422 (by omega)) (fun c29422 => ?_)
          refine ev_aload_n rfl ?_
          refine g_qgetp g qr29392 (c := 2) (by decide) (by decide) ft4_2 ?_
          refine ev_iload_n rfl ?_
          refine g_qiald g qr29392 (c := 2) (by decide) (by decide) (by decide) (by omega) (by show v29395 < m29393; omega) rfl (fun v29423 ev29423 lv29423 uv29423 => ?_)
          refine ev_ifne f32_26 (fun c29424 => ?_) (fun c29424 => ?_)
          · refine ev_iconst ?_
            refine ev_goto f32_36 ?_
            refine ev_ret rfl (by decide) (by decide) ?_
            show jEv _ _ _ _ _ _ _ (_, [(2, 0), (0, a1), (0, a2), (0, v29386), (0, (v29387 - 1)), (2, (r29392 : Int))], [(0, 0)], _, _, _)
            refine ev_ifeq f230_74 (fun c29425 => ?_) (fun c29425 => absurd c29425 (by omega))
            exact ev_ret rfl (by decide) (by decide) ⟨rfl, g, k0⟩
          · refine ev_iconst ?_
            refine ev_goto f32_36 ?_
            refine ev_ret rfl (by decide) (by decide) ?_
            show jEv _ _ _ _ _ _ _ (_, [(2, 0), (0, a1), (0, a2), (0, v29386), (0, (v29387 - 1)), (2, (r29392 : Int))], [(0, 1)], _, _, _)
            refine ev_ifeq f230_74 (fun c29426 => absurd c29426 (by omega)) (fun c29426 => ?_)
            refine ev_aload rfl ?_
            refine ev_iload_n rfl ?_
            refine ev_bipush ?_
            refine g_iremP (c := 100) rfl (by decide) (by omega) (fun v29427 ev29427 lv29427 uv29427 wv29427 => ?_)
            obtain rfl : v29395 = v29427 := by omega
            refine ev_iload rfl ?_
            refine ev_iload_n rfl ?_
            refine ev_in (d := 3) (a := 0) (b := 0) (cd' := c35_0) (m := 4) (L0 := [(2, (r29392 : Int)), (0, v29395), (0, (v29387 - 1)), (0, a2)]) (jcall_v (A := [(0, a2), (0, (v29387 - 1)), (0, v29395)]) (S' := []) (r := r29392) rfl (g.qlt qr29392) (g.qtg qr29392) (Nat.le_of_ble_eq_true rfl)) (by decide) ml35 pp35 (Nat.le_of_ble_eq_true rfl) rfl (by decide) (by decide) ?_
            refine ev_iload_n rfl ?_
            refine ev_iconst ?_
            refine ev_icmpne f35_15 (fun c29428 => absurd c29428 (by omega)) (fun c29428 => ?_)
            refine ev_aload_n rfl ?_
            refine g_qgetp g qr29392 (c := 3) (by decide) (by decide) ft4_3 ?_
            refine ev_iload_n rfl ?_
            refine ev_iload_n rfl ?_
            refine g_qiast g qr29392 (c := 3) (by decide) (by decide) (by decide) (by omega) (by show v29395 < m29393; omega) rfl (by omega) (by omega) (fun h29429 e29429 g29429 => ?_)
            have k29429 := k0.wr e29429 (inW_dyn rfl (by have := qr29392.1; omega))
            refine ev_goto f35_26 ?_
            refine ev_ret rfl (by decide) (by decide) ?_
            show jEv _ _ _ _ _ _ _ (_, [(2, 0), (0, a1), (0, a2), (0, v29386), (0, (v29387 - 1)), (2, (r29392 : Int))], [], _, _, _)
            exact ev_ret rfl (by decide) (by decide) ⟨rfl, g29429, k29429⟩
    · refine ev_aconst_null ?_
      refine ev_goto f219_22 ?_
      refine ev_ret rfl (by decide) (by decide) ?_
      show jEv _ _ _ _ _ _ _ (_, [(2, 0), (0, a1), (0, a2), (0, v29386), (0, (v29387 - 1)), (9, 0)], [(2, (-1))], _, _, _)
      refine ev_astore (L' := [(2, 0), (0, a1), (0, a2), (0, v29386), (0, (v29387 - 1)), (2, (-1))]) (Nat.le_of_ble_eq_true rfl) rfl ?_
      refine ev_aload rfl ?_
      refine ev_ifnull f230_74 (fun c29430 => ?_) (fun c29430 => absurd c29430 (by decide))
      exact ev_ret rfl (by decide) (by decide) ⟨rfl, g, k0⟩
  · refine ev_aload_n rfl ?_
    refine g_getp (r := 0) (c := 1) g ad0 (by decide) (by decide) rf0_0 ft11_0 ?_
    refine ev_iload_n rfl ?_
    refine ev_iload_n rfl ?_
    refine ev_in (d := 3) (a := 0) (b := 0) (cd' := c149_0) (m := 3) (L0 := [(2, 1), (0, a1), (0, a2)]) (jcall_v (A := [(0, a2), (0, a1)]) (S' := []) (r := 1) rfl (g.lt ad1) (g.tg ad1) (Nat.le_of_ble_eq_true rfl)) (by decide) ml149 pp149 (Nat.le_of_ble_eq_true rfl) rfl (by decide) (by decide) ?_
    refine ev_iload_n rfl ?_
    refine ev_iflt f149_32 (fun c29431 => ?_) (fun c29431 => ?_)
    · refine ev_ret rfl (by decide) (by decide) ?_
      show jEv _ _ _ _ _ _ _ (_, [(2, 0), (0, a1), (0, a2), (9, 0), (9, 0), (9, 0)], [], _, _, _)
      exact ev_ret rfl (by decide) (by decide) ⟨rfl, g, k0⟩
    · refine ev_iload_n rfl ?_
      refine ev_bipush ?_
      refine ev_icmpge f149_32 (fun c29432 => absurd c29432 (by omega)) (fun c29432 => ?_)
      refine ev_aload_n rfl ?_
      refine g_getp (r := 1) (c := 4) g ad1 (by decide) (by decide) rf1_5 ft10_5 ?_
      refine ev_iload_n rfl ?_
      refine g_iald g ad4 rt4 (by omega) (by omega) (fun v29433 ev29433 lv29433 uv29433 => ?_)
      refine ev_iload_n rfl ?_
      refine ev_icmpeq f149_32 (fun c29434 => ?_) (fun c29434 => ?_)
      · refine ev_ret rfl (by decide) (by decide) ?_
        show jEv _ _ _ _ _ _ _ (_, [(2, 0), (0, a1), (0, a2), (9, 0), (9, 0), (9, 0)], [], _, _, _)
        exact ev_ret rfl (by decide) (by decide) ⟨rfl, g, k0⟩
      · refine ev_aload_n rfl ?_
        refine g_getp (r := 1) (c := 4) g ad1 (by decide) (by decide) rf1_5 ft10_5 ?_
        refine ev_iload_n rfl ?_
        refine ev_iload_n rfl ?_
        refine g_iast g ad4 rt4 (fun _ => rfl) (by omega) (by omega) (by omega) (by omega) (fun h29435 e29435 g29435 => ?_)
        have k29435 := k0.wr e29435 rfl
        refine ev_aload_n rfl ?_
        refine ev_iconst ?_
        refine g_putf (r := 1) g29435 ad1 (by decide) ft10_2 (by decide) (fun _ => by omega) rf1_2 (by decide) (by omega) (by omega) (fun h29436 e29436 g29436 => ?_)
        have k29436 := k29435.wr e29436 rfl
        refine ev_ret rfl (by decide) (by decide) ?_
        show jEv _ _ _ _ _ _ _ (_, [(2, 0), (0, a1), (0, a2), (9, 0), (9, 0), (9, 0)], [], _, _, _)
        exact ev_ret rfl (by decide) (by decide) ⟨rfl, g29436, k29436⟩
/-! 166 thing -/
set_option maxHeartbeats 4000000 in
theorem s166 {G : GH} {h : JH} (g : Gd G h) {a1 : Int} (la1 : (-2147483648) ≤ a1) (ua1 : a1 ≤ 2147483647) : jOk 4 0 0 166 [(2, 0), (0, a1)] h (PI G [(1, 1), (1, 3), (2, 0), (3, 0), (4, 0)] h 0 (-5) 3) := by
  refine ⟨by decide, by rw [ml166]; exact Nat.le_of_ble_eq_true rfl, ?_⟩
  rw [ml166, pp166]
  show jEv _ none _ c166_0 0 0 _ (c166_0, [(2, 0), (0, a1)], [], h, 0, 0)
  have k0 := Kp.rf [(1, 1), (1, 3), (2, 0), (3, 0), (4, 0)] h
  refine ev_iload_n rfl ?_
  refine ev_iconst ?_
  refine ev_icmplt f166_10 (fun c29453 => ?_) (fun c29453 => ?_)
  · refine ev_iconst ?_
    exact ev_ret rfl (by decide) (by decide) ⟨_, rfl, by omega, by omega, g, k0⟩
  · refine ev_iload_n rfl ?_
    refine ev_iconst ?_
    refine ev_icmple f166_12 (fun c29454 => ?_) (fun c29454 => ?_)
    · refine ev_aload_n rfl ?_
      obtain ⟨v29455, ev29455, lv29455, uv29455⟩ := g.rd ad0 (show 3 < 17 by decide) rf0_3
      refine g_getv (r := 0) (v := v29455) g ad0 (by decide) ft11_3 ev29455 ?_
      refine ev_ifle f166_22 (fun c29456 => ?_) (fun c29456 => ?_)
      · refine ev_aload_n rfl ?_
        refine g_getp (r := 0) (c := 1) g ad0 (by decide) (by decide) rf0_0 ft11_0 ?_
        obtain ⟨v29457, ev29457, lv29457, uv29457⟩ := g.rd ad1 (show 0 < 8 by decide) rf1_0
        refine g_getv (r := 1) (v := v29457) g ad1 (by decide) ft10_0 ev29457 ?_
        refine ev_iconst ?_
        refine ev_icmplt f166_38 (fun c29458 => ?_) (fun c29458 => ?_)
        · refine ev_aload_n rfl ?_
          refine g_getp (r := 0) (c := 1) g ad0 (by decide) (by decide) rf0_0 ft11_0 ?_
          refine ev_iload_n rfl ?_
          refine ev_call (jcall_v (A := [(0, a1)]) (S' := []) (r := 1) rfl (g.lt ad1) (g.tg ad1) (Nat.le_of_ble_eq_true rfl)) (jOk_le (by decide) (s139 g (by omega) (by omega))) (by decide) (by decide) (fun w29459 h29459 q29459 => ?_)
          obtain ⟨v29460, rfl, lv29460, uv29460, g29459, kk29459⟩ := q29459
          have k29459 := k0.tr kk29459 (by decide)
          show jEv _ _ _ _ _ _ _ (_, [(2, 0), (0, a1)], [(0, v29460)], _, _, _)
          exact ev_ret rfl (by decide) (by decide) ⟨_, rfl, by omega, by omega, g29459, k29459⟩
        · refine ev_bipush ?_
          refine ev_goto f166_46 ?_
          exact ev_ret rfl (by decide) (by decide) ⟨_, rfl, by omega, by omega, g, k0⟩
      · refine ev_bipush ?_
        exact ev_ret rfl (by decide) (by decide) ⟨_, rfl, by omega, by omega, g, k0⟩
    · refine ev_iconst ?_
      exact ev_ret rfl (by decide) (by decide) ⟨_, rfl, by omega, by omega, g, k0⟩
/-! 167 hang -/
set_option maxHeartbeats 4000000 in
theorem s167 {G : GH} {h : JH} (g : Gd G h) {a1 : Int} (la1 : (-2147483648) ≤ a1) (ua1 : a1 ≤ 2147483647) {a2 : Int} (la2 : (-2147483648) ≤ a2) (ua2 : a2 ≤ 2147483647) : jOk 4 0 0 167 [(2, 0), (0, a1), (0, a2)] h (PI G [(1, 3), (3, 0), (4, 0), (0, 10), (0, 11)] h 0 (-5) 1) := by
  refine ⟨by decide, by rw [ml167]; exact Nat.le_of_ble_eq_true rfl, ?_⟩
  rw [ml167, pp167]
  show jEv _ none _ c167_0 0 0 _ (c167_0, [(2, 0), (0, a1), (0, a2)], [], h, 0, 0)
  have k0 := Kp.rf [(1, 3), (3, 0), (4, 0), (0, 10), (0, 11)] h
  refine ev_aload_n rfl ?_
  refine g_getp (r := 0) (c := 1) g ad0 (by decide) (by decide) rf0_0 ft11_0 ?_
  refine ev_iload_n rfl ?_
  refine ev_in (d := 2) (a := 0) (b := 0) (cd' := c140_0) (m := 2) (L0 := [(2, 1), (0, a1)]) (jcall_v (A := [(0, a1)]) (S' := []) (r := 1) rfl (g.lt ad1) (g.tg ad1) (Nat.le_of_ble_eq_true rfl)) (by decide) ml140 pp140 (Nat.le_of_ble_eq_true rfl) rfl (by decide) (by decide) ?_
  refine ev_iload_n rfl ?_
  refine ev_iflt f140_16 (fun c29501 => ?_) (fun c29501 => ?_)
  · refine ev_iconst ?_
    refine ev_ret rfl (by decide) (by decide) ?_
    show jEv _ _ _ _ _ _ _ (_, [(2, 0), (0, a1), (0, a2)], [(0, 0)], _, _, _)
    refine ev_ifeq f167_20 (fun c29502 => ?_) (fun c29502 => absurd c29502 (by omega))
    refine ev_iconst ?_
    exact ev_ret rfl (by decide) (by decide) ⟨_, rfl, by omega, by omega, g, k0⟩
  · refine ev_iload_n rfl ?_
    refine ev_aload_n rfl ?_
    obtain ⟨v29503, ev29503, lv29503, uv29503⟩ := g.rd ad1 (show 0 < 8 by decide) rf1_0
    refine g_getv (r := 1) (v := v29503) g ad1 (by decide) ft10_0 ev29503 ?_
    refine ev_icmpge f140_16 (fun c29504 => ?_) (fun c29504 => ?_)
    · refine ev_iconst ?_
      refine ev_ret rfl (by decide) (by decide) ?_
      show jEv _ _ _ _ _ _ _ (_, [(2, 0), (0, a1), (0, a2)], [(0, 0)], _, _, _)
      refine ev_ifeq f167_20 (fun c29505 => ?_) (fun c29505 => absurd c29505 (by omega))
      refine ev_iconst ?_
      exact ev_ret rfl (by decide) (by decide) ⟨_, rfl, by omega, by omega, g, k0⟩
    · refine ev_iconst ?_
      refine ev_goto f140_17 ?_
      refine ev_ret rfl (by decide) (by decide) ?_
      show jEv _ _ _ _ _ _ _ (_, [(2, 0), (0, a1), (0, a2)], [(0, 1)], _, _, _)
      refine ev_ifeq f167_20 (fun c29506 => absurd c29506 (by omega)) (fun c29506 => ?_)
      refine ev_iload_n rfl ?_
      refine ev_iflt f167_20 (fun c29507 => ?_) (fun c29507 => ?_)
      · refine ev_iconst ?_
        exact ev_ret rfl (by decide) (by decide) ⟨_, rfl, by omega, by omega, g, k0⟩
      · refine ev_iload_n rfl ?_
        refine ev_iload_n rfl ?_
        refine ev_icmplt f167_22 (fun c29508 => ?_) (fun c29508 => ?_)
        · refine ev_aload_n rfl ?_
          refine g_getp (r := 0) (c := 1) g ad0 (by decide) (by decide) rf0_0 ft11_0 ?_
          refine ev_iload_n rfl ?_
          refine ev_in (d := 2) (a := 0) (b := 0) (cd' := c142_0) (m := 2) (L0 := [(2, 1), (0, a1)]) (jcall_v (A := [(0, a1)]) (S' := []) (r := 1) rfl (g.lt ad1) (g.tg ad1) (Nat.le_of_ble_eq_true rfl)) (by decide) ml142 pp142 (Nat.le_of_ble_eq_true rfl) rfl (by decide) (by decide) ?_
          refine ev_aload_n rfl ?_
          refine ev_iload_n rfl ?_
          refine ev_in (d := 1) (a := 0) (b := 0) (cd' := c140_0) (m := 2) (L0 := [(2, 1), (0, a1)]) (jcall_v (A := [(0, a1)]) (S' := []) (r := 1) rfl (g.lt ad1) (g.tg ad1) (Nat.le_of_ble_eq_true rfl)) (by decide) ml140 pp140 (Nat.le_of_ble_eq_true rfl) rfl (by decide) (by decide) ?_
          refine ev_iload_n rfl ?_
          refine ev_iflt f140_16 (fun c29509 => absurd c29509 (by omega)) (fun c29509 => ?_)
          refine ev_iload_n rfl ?_
          refine ev_aload_n rfl ?_
          refine g_getv (r := 1) (v := v29503) g ad1 (by decide) ft10_0 (ev29503) ?_
          refine ev_icmpge f140_16 (fun c29510 => absurd c29510 (by omega)) (fun c29510 => ?_)
          refine ev_iconst ?_
          refine ev_goto f140_17 ?_
          refine ev_ret rfl (by decide) (by decide) ?_
          show jEv _ _ _ _ _ _ _ (_, [(2, 1), (0, a1)], [(0, 1)], _, _, _)
          refine ev_ifeq f142_21 (fun c29511 => absurd c29511 (by omega)) (fun c29511 => ?_)
          refine ev_aload_n rfl ?_
          refine g_getp (r := 1) (c := 3) g ad1 (by decide) (by decide) rf1_4 ft10_4 ?_
          refine ev_iload_n rfl ?_
          refine g_iald g ad3 rt3 (by omega) (by omega) (fun v29512 ev29512 lv29512 uv29512 => ?_)
          refine ev_iflt f142_21 (fun c29513 => ?_) (fun c29513 => ?_)
          · refine ev_iconst ?_
            refine ev_ret rfl (by decide) (by decide) ?_
            show jEv _ _ _ _ _ _ _ (_, [(2, 0), (0, a1), (0, a2)], [(0, 0)], _, _, _)
            refine ev_ifne f167_40 (fun c29514 => absurd c29514 (by omega)) (fun c29514 => ?_)
            refine ev_aload_n rfl ?_
            obtain ⟨v29515, ev29515, lv29515, uv29515⟩ := g.rd ad0 (show 3 < 17 by decide) rf0_3
            refine g_getv (r := 0) (v := v29515) g ad0 (by decide) ft11_3 ev29515 ?_
            refine ev_ifle f167_43 (fun c29516 => ?_) (fun c29516 => ?_)
            · refine ev_aload_n rfl ?_
              refine g_getp (r := 0) (c := 1) g ad0 (by decide) (by decide) rf0_0 ft11_0 ?_
              refine ev_iload_n rfl ?_
              refine ev_iload_n rfl ?_
              refine ev_call (jcall_v (A := [(0, a2), (0, a1)]) (S' := []) (r := 1) rfl (g.lt ad1) (g.tg ad1) (Nat.le_of_ble_eq_true rfl)) (jOk_le (by decide) (s143 g (by omega) (by omega) (by omega) (by omega))) (by decide) (by decide) (fun w29517 h29517 q29517 => ?_)
              obtain ⟨rfl, g29517, kk29517⟩ := q29517
              have k29517 := k0.tr kk29517 (by decide)
              show jEv _ _ _ _ _ _ _ (_, [(2, 0), (0, a1), (0, a2)], [], _, _, _)
              refine ev_aload_n rfl ?_
              refine ev_iconst ?_
              refine g_putf (r := 0) g29517 ad0 (by decide) ft11_9 (by decide) (fun e => absurd e nz11_9) rf0_9 (by decide) (by omega) (by omega) (fun h29518 e29518 g29518 => ?_)
              have k29518 := k29517.wr e29518 rfl
              refine ev_aload_n rfl ?_
              refine ev_iconst ?_
              refine g_putf (r := 0) g29518 ad0 (by decide) ft11_10 (by decide) (fun e => absurd e nz11_10) rf0_10 (by decide) (by omega) (by omega) (fun h29519 e29519 g29519 => ?_)
              have k29519 := k29518.wr e29519 rfl
              refine ev_iconst ?_
              exact ev_ret rfl (by decide) (by decide) ⟨_, rfl, by omega, by omega, g29519, k29519⟩
            · refine ev_bipush ?_
              exact ev_ret rfl (by decide) (by decide) ⟨_, rfl, by omega, by omega, g, k0⟩
          · refine ev_iconst ?_
            refine ev_goto f142_22 ?_
            refine ev_ret rfl (by decide) (by decide) ?_
            show jEv _ _ _ _ _ _ _ (_, [(2, 0), (0, a1), (0, a2)], [(0, 1)], _, _, _)
            refine ev_ifne f167_40 (fun c29520 => ?_) (fun c29520 => absurd c29520 (by omega))
            refine ev_bipush ?_
            exact ev_ret rfl (by decide) (by decide) ⟨_, rfl, by omega, by omega, g, k0⟩
        · refine ev_iconst ?_
          exact ev_ret rfl (by decide) (by decide) ⟨_, rfl, by omega, by omega, g, k0⟩
/-! 168 weight -/
set_option maxHeartbeats 4000000 in
theorem s168 {G : GH} {h : JH} (g : Gd G h) {a1 : Int} (la1 : (-2147483648) ≤ a1) (ua1 : a1 ≤ 2147483647) {a2 : Int} (la2 : (-2147483648) ≤ a2) (ua2 : a2 ≤ 2147483647) {a3 : Int} (la3 : (-2147483648) ≤ a3) (ua3 : a3 ≤ 2147483647) {a4 : Int} (la4 : (-2147483648) ≤ a4) (ua4 : a4 ≤ 2147483647) : jOk 3 0 0 168 [(2, 0), (0, a1), (0, a2), (0, a3), (0, a4)] h (PI G [(4, 0), (1, 3), (25, 0), (0, 10), (0, 11)] h 0 (-2147483648) 2147483647) := by
  refine ⟨by decide, by rw [ml168]; exact Nat.le_of_ble_eq_true rfl, ?_⟩
  rw [ml168, pp168]
  show jEv _ none _ c168_0 0 0 _ (c168_0, [(2, 0), (0, a1), (0, a2), (0, a3), (0, a4), (9, 0), (9, 0)], [], h, 0, 0)
  have k0 := Kp.rf [(4, 0), (1, 3), (25, 0), (0, 10), (0, 11)] h
  refine ev_aload_n rfl ?_
  refine g_getp (r := 0) (c := 1) g ad0 (by decide) (by decide) rf0_0 ft11_0 ?_
  refine ev_iload_n rfl ?_
  refine ev_iload_n rfl ?_
  refine ev_iload_n rfl ?_
  refine ev_in (d := 1) (a := 0) (b := 0) (cd' := c146_0) (m := 4) (L0 := [(2, 1), (0, a1), (0, a2), (0, a3)]) (jcall_v (A := [(0, a3), (0, a2), (0, a1)]) (S' := []) (r := 1) rfl (g.lt ad1) (g.tg ad1) (Nat.le_of_ble_eq_true rfl)) (by decide) ml146 pp146 (Nat.le_of_ble_eq_true rfl) rfl (by decide) (by decide) ?_
  refine ev_aload_n rfl ?_
  refine ev_iload_n rfl ?_
  refine ev_in (d := 0) (a := 0) (b := 0) (cd' := c140_0) (m := 2) (L0 := [(2, 1), (0, a1)]) (jcall_v (A := [(0, a1)]) (S' := []) (r := 1) rfl (g.lt ad1) (g.tg ad1) (Nat.le_of_ble_eq_true rfl)) (by decide) ml140 pp140 (Nat.le_of_ble_eq_true rfl) rfl (by decide) (by decide) ?_
  refine ev_iload_n rfl ?_
  refine ev_iflt f140_16 (fun c29627 => ?_) (fun c29627 => ?_)
  · refine ev_iconst ?_
    refine ev_ret rfl (by decide) (by decide) ?_
    show jEv _ _ _ _ _ _ _ (_, [(2, 1), (0, a1), (0, a2), (0, a3)], [(0, 0)], _, _, _)
    refine ev_ifeq f146_39 (fun c29628 => ?_) (fun c29628 => absurd c29628 (by omega))
    refine ev_iconst ?_
    refine ev_ret rfl (by decide) (by decide) ?_
    show jEv _ _ _ _ _ _ _ (_, [(2, 0), (0, a1), (0, a2), (0, a3), (0, a4), (9, 0), (9, 0)], [(0, 0)], _, _, _)
    refine ev_ifeq f168_26 (fun c29629 => ?_) (fun c29629 => absurd c29629 (by omega))
    refine ev_iconst ?_
    exact ev_ret rfl (by decide) (by decide) ⟨_, rfl, by omega, by omega, g, k0⟩
  · refine ev_iload_n rfl ?_
    refine ev_aload_n rfl ?_
    obtain ⟨v29630, ev29630, lv29630, uv29630⟩ := g.rd ad1 (show 0 < 8 by decide) rf1_0
    refine g_getv (r := 1) (v := v29630) g ad1 (by decide) ft10_0 ev29630 ?_
    refine ev_icmpge f140_16 (fun c29631 => ?_) (fun c29631 => ?_)
    · refine ev_iconst ?_
      refine ev_ret rfl (by decide) (by decide) ?_
      show jEv _ _ _ _ _ _ _ (_, [(2, 1), (0, a1), (0, a2), (0, a3)], [(0, 0)], _, _, _)
      refine ev_ifeq f146_39 (fun c29632 => ?_) (fun c29632 => absurd c29632 (by omega))
      refine ev_iconst ?_
      refine ev_ret rfl (by decide) (by decide) ?_
      show jEv _ _ _ _ _ _ _ (_, [(2, 0), (0, a1), (0, a2), (0, a3), (0, a4), (9, 0), (9, 0)], [(0, 0)], _, _, _)
      refine ev_ifeq f168_26 (fun c29633 => ?_) (fun c29633 => absurd c29633 (by omega))
      refine ev_iconst ?_
      exact ev_ret rfl (by decide) (by decide) ⟨_, rfl, by omega, by omega, g, k0⟩
    · refine ev_iconst ?_
      refine ev_goto f140_17 ?_
      refine ev_ret rfl (by decide) (by decide) ?_
      show jEv _ _ _ _ _ _ _ (_, [(2, 1), (0, a1), (0, a2), (0, a3)], [(0, 1)], _, _, _)
      refine ev_ifeq f146_39 (fun c29634 => absurd c29634 (by omega)) (fun c29634 => ?_)
      refine ev_iload_n rfl ?_
      refine ev_iflt f146_39 (fun c29635 => ?_) (fun c29635 => ?_)
      · refine ev_iconst ?_
        refine ev_ret rfl (by decide) (by decide) ?_
        show jEv _ _ _ _ _ _ _ (_, [(2, 0), (0, a1), (0, a2), (0, a3), (0, a4), (9, 0), (9, 0)], [(0, 0)], _, _, _)
        refine ev_ifeq f168_26 (fun c29636 => ?_) (fun c29636 => absurd c29636 (by omega))
        refine ev_iconst ?_
        exact ev_ret rfl (by decide) (by decide) ⟨_, rfl, by omega, by omega, g, k0⟩
      · refine ev_iload_n rfl ?_
        refine ev_aload_n rfl ?_
        refine ev_iload_n rfl ?_
        refine ev_in (d := 0) (a := 0) (b := 0) (cd' := c145_0) (m := 2) (L0 := [(2, 1), (0, a1)]) (jcall_v (A := [(0, a1)]) (S' := [(0, a2)]) (r := 1) rfl (g.lt ad1) (g.tg ad1) (Nat.le_of_ble_eq_true rfl)) (by decide) ml145 pp145 (Nat.le_of_ble_eq_true rfl) rfl (by decide) (by decide) ?_
        refine ev_aload_n rfl ?_
        refine g_getp (r := 1) (c := 3) g ad1 (by decide) (by decide) rf1_4 ft10_4 ?_
        refine ev_iload_n rfl ?_
        refine g_iald g ad3 rt3 (by omega) (by omega) (fun v29637 ev29637 lv29637 uv29637 => ?_)
        refine ev_ifge f145_13 (fun c29638 => ?_) (fun c29638 => ?_)
        · refine ev_aload_n rfl ?_
          refine g_getp (r := 1) (c := 2) g ad1 (by decide) (by decide) rf1_3 ft10_3 ?_
          refine ev_aload_n rfl ?_
          refine g_getp (r := 1) (c := 3) g ad1 (by decide) (by decide) rf1_4 ft10_4 ?_
          refine ev_iload_n rfl ?_
          refine g_ialdv (v := v29637) g ad3 (by omega) (by omega) (ev29637) ?_
          refine g_iald g ad2 rt2 (by omega) (by omega) (fun v29639 ev29639 lv29639 uv29639 => ?_)
          refine ev_ret rfl (by decide) (by decide) ?_
          show jEv _ _ _ _ _ _ _ (_, [(2, 1), (0, a1), (0, a2), (0, a3)], [(0, v29639), (0, a2)], _, _, _)
          refine ev_icmpge f146_39 (fun c29640 => ?_) (fun c29640 => ?_)
          · refine ev_iconst ?_
            refine ev_ret rfl (by decide) (by decide) ?_
            show jEv _ _ _ _ _ _ _ (_, [(2, 0), (0, a1), (0, a2), (0, a3), (0, a4), (9, 0), (9, 0)], [(0, 0)], _, _, _)
            refine ev_ifeq f168_26 (fun c29641 => ?_) (fun c29641 => absurd c29641 (by omega))
            refine ev_iconst ?_
            exact ev_ret rfl (by decide) (by decide) ⟨_, rfl, by omega, by omega, g, k0⟩
          · refine ev_iload_n rfl ?_
            refine ev_iflt f146_39 (fun c29642 => ?_) (fun c29642 => ?_)
            · refine ev_iconst ?_
              refine ev_ret rfl (by decide) (by decide) ?_
              show jEv _ _ _ _ _ _ _ (_, [(2, 0), (0, a1), (0, a2), (0, a3), (0, a4), (9, 0), (9, 0)], [(0, 0)], _, _, _)
              refine ev_ifeq f168_26 (fun c29643 => ?_) (fun c29643 => absurd c29643 (by omega))
              refine ev_iconst ?_
              exact ev_ret rfl (by decide) (by decide) ⟨_, rfl, by omega, by omega, g, k0⟩
            · refine ev_iload_n rfl ?_
              refine ev_aload_n rfl ?_
              refine g_getp (r := 1) (c := 2) g ad1 (by decide) (by decide) rf1_3 ft10_3 ?_
              refine ev_iload_n rfl ?_
              refine g_iald g ad2 rt2 (by omega) (by omega) (fun v29644 ev29644 lv29644 uv29644 => ?_)
              have xv29644 := (g.ex.1.1 (a1 : Int).toNat (by rw [(ev29630)]; omega))
              rw [ev29644] at xv29644
              refine ev_icmpge f146_39 (fun c29645 => ?_) (fun c29645 => ?_)
              · refine ev_iconst ?_
                refine ev_ret rfl (by decide) (by decide) ?_
                show jEv _ _ _ _ _ _ _ (_, [(2, 0), (0, a1), (0, a2), (0, a3), (0, a4), (9, 0), (9, 0)], [(0, 0)], _, _, _)
                refine ev_ifeq f168_26 (fun c29646 => ?_) (fun c29646 => absurd c29646 (by omega))
                refine ev_iconst ?_
                exact ev_ret rfl (by decide) (by decide) ⟨_, rfl, by omega, by omega, g, k0⟩
              · refine ev_iconst ?_
                refine ev_goto f146_40 ?_
                refine ev_ret rfl (by decide) (by decide) ?_
                show jEv _ _ _ _ _ _ _ (_, [(2, 0), (0, a1), (0, a2), (0, a3), (0, a4), (9, 0), (9, 0)], [(0, 1)], _, _, _)
                refine ev_ifeq f168_26 (fun c29647 => absurd c29647 (by omega)) (fun c29647 => ?_)
                refine ev_iload rfl ?_
                refine ev_iconst ?_
                refine ev_icmplt f168_26 (fun c29648 => ?_) (fun c29648 => ?_)
                · refine ev_iconst ?_
                  exact ev_ret rfl (by decide) (by decide) ⟨_, rfl, by omega, by omega, g, k0⟩
                · refine ev_iload rfl ?_
                  refine ev_bipush ?_
                  refine ev_icmple f168_28 (fun c29649 => ?_) (fun c29649 => ?_)
                  · refine ev_iload_n rfl ?_
                    refine ev_iload_n rfl ?_
                    refine ev_iload_n rfl ?_
                    refine ev_in (d := 1) (a := 0) (b := 0) (cd' := c147_0) (m := 3) (L0 := [(0, a1), (0, a2), (0, a3)]) (jcall_s (A := [(0, a3), (0, a2), (0, a1)]) (S' := []) (by decide) rfl (Nat.le_of_ble_eq_true rfl)) (by decide) ml147 pp147 (Nat.le_of_ble_eq_true rfl) rfl (by decide) (by decide) ?_
                    refine ev_bipush ?_
                    refine ev_iload_n rfl ?_
                    refine ev_imul (r := (9 * a1)) (by unfold w32; omega) ?_
                    refine ev_iconst ?_
                    refine ev_iload_n rfl ?_
                    refine ev_imul (r := (3 * a2)) (by unfold w32; omega) ?_
                    refine ev_iadd (r := (9 * a1 + 3 * a2)) (by unfold w32; omega) ?_
                    refine ev_iload_n rfl ?_
                    refine ev_iadd (r := (9 * a1 + 3 * a2 + a3)) (by unfold w32; omega) ?_
                    refine ev_ret rfl (by decide) (by decide) ?_
                    show jEv _ _ _ _ _ _ _ (_, [(2, 0), (0, a1), (0, a2), (0, a3), (0, a4), (9, 0), (9, 0)], [(0, (9 * a1 + 3 * a2 + a3))], _, _, _)
                    refine ev_istore (L' := [(2, 0), (0, a1), (0, a2), (0, a3), (0, a4), (0, (9 * a1 + 3 * a2 + a3)), (9, 0)]) (Nat.le_of_ble_eq_true rfl) rfl ?_
                    refine ev_aload_n rfl ?_
                    refine g_getp (r := 0) (c := 1) g ad0 (by decide) (by decide) rf0_0 ft11_0 ?_
                    refine ev_iload rfl ?_
                    refine ev_in (d := 1) (a := 0) (b := 0) (cd' := c148_0) (m := 2) (L0 := [(2, 1), (0, (9 * a1 + 3 * a2 + a3))]) (jcall_v (A := [(0, (9 * a1 + 3 * a2 + a3))]) (S' := []) (r := 1) rfl (g.lt ad1) (g.tg ad1) (Nat.le_of_ble_eq_true rfl)) (by decide) ml148 pp148 (Nat.le_of_ble_eq_true rfl) rfl (by decide) (by decide) ?_
                    refine ev_iload_n rfl ?_
                    refine ev_iflt f148_10 (fun c29650 => absurd c29650 (by omega)) (fun c29650 => ?_)
                    refine ev_iload_n rfl ?_
                    refine ev_bipush ?_
                    refine ev_icmplt f148_14 (fun c29651 => ?_) (fun c29651 => absurd c29651 (by omega))
                    refine ev_aload_n rfl ?_
                    refine g_getp (r := 1) (c := 4) g ad1 (by decide) (by decide) rf1_5 ft10_5 ?_
                    refine ev_iload_n rfl ?_
                    refine g_iald g ad4 rt4 (by omega) (by omega) (fun v29652 ev29652 lv29652 uv29652 => ?_)
                    refine ev_ret rfl (by decide) (by decide) ?_
                    show jEv _ _ _ _ _ _ _ (_, [(2, 0), (0, a1), (0, a2), (0, a3), (0, a4), (0, (9 * a1 + 3 * a2 + a3)), (9, 0)], [(0, v29652)], _, _, _)
                    refine ev_istore (L' := [(2, 0), (0, a1), (0, a2), (0, a3), (0, a4), (0, (9 * a1 + 3 * a2 + a3)), (0, v29652)]) (Nat.le_of_ble_eq_true rfl) rfl ?_
                    refine ev_aload_n rfl ?_
                    refine g_getp (r := 0) (c := 1) g ad0 (by decide) (by decide) rf0_0 ft11_0 ?_
                    refine ev_iload rfl ?_
                    refine ev_iload rfl ?_
                    refine ev_in (d := 1) (a := 0) (b := 0) (cd' := c149_0) (m := 3) (L0 := [(2, 1), (0, (9 * a1 + 3 * a2 + a3)), (0, a4)]) (jcall_v (A := [(0, a4), (0, (9 * a1 + 3 * a2 + a3))]) (S' := []) (r := 1) rfl (g.lt ad1) (g.tg ad1) (Nat.le_of_ble_eq_true rfl)) (by decide) ml149 pp149 (Nat.le_of_ble_eq_true rfl) rfl (by decide) (by decide) ?_
                    refine ev_iload_n rfl ?_
                    refine ev_iflt f149_32 (fun c29653 => absurd c29653 (by omega)) (fun c29653 => ?_)
                    refine ev_iload_n rfl ?_
                    refine ev_bipush ?_
                    refine ev_icmpge f149_32 (fun c29654 => absurd c29654 (by omega)) (fun c29654 => ?_)
                    refine ev_aload_n rfl ?_
                    refine g_getp (r := 1) (c := 4) g ad1 (by decide) (by decide) rf1_5 ft10_5 ?_
                    refine ev_iload_n rfl ?_
                    refine g_ialdv (v := v29652) g ad4 (by omega) (by omega) (ev29652) ?_
                    refine ev_iload_n rfl ?_
                    refine ev_icmpeq f149_32 (fun c29655 => ?_) (fun c29655 => ?_)
                    · refine ev_ret rfl (by decide) (by decide) ?_
                      show jEv _ _ _ _ _ _ _ (_, [(2, 0), (0, a1), (0, a2), (0, a3), (0, a4), (0, (9 * a1 + 3 * a2 + a3)), (0, v29652)], [], _, _, _)
                      refine ev_aload_n rfl ?_
                      refine ev_iload rfl ?_
                      refine ev_iload rfl ?_
                      refine ev_iload rfl ?_
                      refine ev_call (jcall_v (A := [(0, a4), (0, v29652), (0, (9 * a1 + 3 * a2 + a3))]) (S' := []) (r := 0) rfl (g.lt ad0) (g.tg ad0) (Nat.le_of_ble_eq_true rfl)) (jOk_le (by decide) (s229 g (by omega) (by omega) (by omega) (by omega) (by omega) (by omega))) (by decide) (by decide) (fun w29656 h29656 q29656 => ?_)
                      obtain ⟨rfl, g29656, kk29656⟩ := q29656
                      have k29656 := k0.tr kk29656 (by decide)
                      show jEv _ _ _ _ _ _ _ (_, [(2, 0), (0, a1), (0, a2), (0, a3), (0, a4), (0, (9 * a1 + 3 * a2 + a3)), (0, v29652)], [], _, _, _)
                      refine ev_iload rfl ?_
                      exact ev_ret rfl (by decide) (by decide) ⟨_, rfl, by omega, by omega, g29656, k29656⟩
                    · refine ev_aload_n rfl ?_
                      refine g_getp (r := 1) (c := 4) g ad1 (by decide) (by decide) rf1_5 ft10_5 ?_
                      refine ev_iload_n rfl ?_
                      refine ev_iload_n rfl ?_
                      refine g_iast g ad4 rt4 (fun _ => rfl) (by omega) (by omega) (by omega) (by omega) (fun h29657 e29657 g29657 => ?_)
                      have k29657 := k0.wr e29657 rfl
                      refine ev_aload_n rfl ?_
                      refine ev_iconst ?_
                      refine g_putf (r := 1) g29657 ad1 (by decide) ft10_2 (by decide) (fun _ => by omega) rf1_2 (by decide) (by omega) (by omega) (fun h29658 e29658 g29658 => ?_)
                      have k29658 := k29657.wr e29658 rfl
                      refine ev_ret rfl (by decide) (by decide) ?_
                      show jEv _ _ _ _ _ _ _ (_, [(2, 0), (0, a1), (0, a2), (0, a3), (0, a4), (0, (9 * a1 + 3 * a2 + a3)), (0, v29652)], [], _, _, _)
                      refine ev_aload_n rfl ?_
                      refine ev_iload rfl ?_
                      refine ev_iload rfl ?_
                      refine ev_iload rfl ?_
                      refine ev_call (jcall_v (A := [(0, a4), (0, v29652), (0, (9 * a1 + 3 * a2 + a3))]) (S' := []) (r := 0) rfl (g29658.lt ad0) (g29658.tg ad0) (Nat.le_of_ble_eq_true rfl)) (jOk_le (by decide) (s229 g29658 (by omega) (by omega) (by omega) (by omega) (by omega) (by omega))) (by decide) (by decide) (fun w29659 h29659 q29659 => ?_)
                      obtain ⟨rfl, g29659, kk29659⟩ := q29659
                      have k29659 := k29658.tr kk29659 (by decide)
                      show jEv _ _ _ _ _ _ _ (_, [(2, 0), (0, a1), (0, a2), (0, a3), (0, a4), (0, (9 * a1 + 3 * a2 + a3)), (0, v29652)], [], _, _, _)
                      refine ev_iload rfl ?_
                      exact ev_ret rfl (by decide) (by decide) ⟨_, rfl, by omega, by omega, g29659, k29659⟩
                  · refine ev_iconst ?_
                    exact ev_ret rfl (by decide) (by decide) ⟨_, rfl, by omega, by omega, g, k0⟩
        · refine ev_iconst ?_
          refine ev_goto f145_24 ?_
          refine ev_ret rfl (by decide) (by decide) ?_
          show jEv _ _ _ _ _ _ _ (_, [(2, 1), (0, a1), (0, a2), (0, a3)], [(0, 1), (0, a2)], _, _, _)
          refine ev_icmpge f146_39 (fun c29660 => ?_) (fun c29660 => ?_)
          · refine ev_iconst ?_
            refine ev_ret rfl (by decide) (by decide) ?_
            show jEv _ _ _ _ _ _ _ (_, [(2, 0), (0, a1), (0, a2), (0, a3), (0, a4), (9, 0), (9, 0)], [(0, 0)], _, _, _)
            refine ev_ifeq f168_26 (fun c29661 => ?_) (fun c29661 => absurd c29661 (by omega))
            refine ev_iconst ?_
            exact ev_ret rfl (by decide) (by decide) ⟨_, rfl, by omega, by omega, g, k0⟩
          · refine ev_iload_n rfl ?_
            refine ev_iflt f146_39 (fun c29662 => ?_) (fun c29662 => ?_)
            · refine ev_iconst ?_
              refine ev_ret rfl (by decide) (by decide) ?_
              show jEv _ _ _ _ _ _ _ (_, [(2, 0), (0, a1), (0, a2), (0, a3), (0, a4), (9, 0), (9, 0)], [(0, 0)], _, _, _)
              refine ev_ifeq f168_26 (fun c29663 => ?_) (fun c29663 => absurd c29663 (by omega))
              refine ev_iconst ?_
              exact ev_ret rfl (by decide) (by decide) ⟨_, rfl, by omega, by omega, g, k0⟩
            · refine ev_iload_n rfl ?_
              refine ev_aload_n rfl ?_
              refine g_getp (r := 1) (c := 2) g ad1 (by decide) (by decide) rf1_3 ft10_3 ?_
              refine ev_iload_n rfl ?_
              refine g_iald g ad2 rt2 (by omega) (by omega) (fun v29664 ev29664 lv29664 uv29664 => ?_)
              have xv29664 := (g.ex.1.1 (a1 : Int).toNat (by rw [(ev29630)]; omega))
              rw [ev29664] at xv29664
              refine ev_icmpge f146_39 (fun c29665 => ?_) (fun c29665 => ?_)
              · refine ev_iconst ?_
                refine ev_ret rfl (by decide) (by decide) ?_
                show jEv _ _ _ _ _ _ _ (_, [(2, 0), (0, a1), (0, a2), (0, a3), (0, a4), (9, 0), (9, 0)], [(0, 0)], _, _, _)
                refine ev_ifeq f168_26 (fun c29666 => ?_) (fun c29666 => absurd c29666 (by omega))
                refine ev_iconst ?_
                exact ev_ret rfl (by decide) (by decide) ⟨_, rfl, by omega, by omega, g, k0⟩
              · refine ev_iconst ?_
                refine ev_goto f146_40 ?_
                refine ev_ret rfl (by decide) (by decide) ?_
                show jEv _ _ _ _ _ _ _ (_, [(2, 0), (0, a1), (0, a2), (0, a3), (0, a4), (9, 0), (9, 0)], [(0, 1)], _, _, _)
                refine ev_ifeq f168_26 (fun c29667 => absurd c29667 (by omega)) (fun c29667 => ?_)
                refine ev_iload rfl ?_
                refine ev_iconst ?_
                refine ev_icmplt f168_26 (fun c29668 => ?_) (fun c29668 => ?_)
                · refine ev_iconst ?_
                  exact ev_ret rfl (by decide) (by decide) ⟨_, rfl, by omega, by omega, g, k0⟩
                · refine ev_iload rfl ?_
                  refine ev_bipush ?_
                  refine ev_icmple f168_28 (fun c29669 => ?_) (fun c29669 => ?_)
                  · refine ev_iload_n rfl ?_
                    refine ev_iload_n rfl ?_
                    refine ev_iload_n rfl ?_
                    refine ev_in (d := 1) (a := 0) (b := 0) (cd' := c147_0) (m := 3) (L0 := [(0, a1), (0, a2), (0, a3)]) (jcall_s (A := [(0, a3), (0, a2), (0, a1)]) (S' := []) (by decide) rfl (Nat.le_of_ble_eq_true rfl)) (by decide) ml147 pp147 (Nat.le_of_ble_eq_true rfl) rfl (by decide) (by decide) ?_
                    refine ev_bipush ?_
                    refine ev_iload_n rfl ?_
                    refine ev_imul (r := (9 * a1)) (by unfold w32; omega) ?_
                    refine ev_iconst ?_
                    refine ev_iload_n rfl ?_
                    refine ev_imul (r := (3 * a2)) (by unfold w32; omega) ?_
                    refine ev_iadd (r := (9 * a1 + 3 * a2)) (by unfold w32; omega) ?_
                    refine ev_iload_n rfl ?_
                    refine ev_iadd (r := (9 * a1 + 3 * a2 + a3)) (by unfold w32; omega) ?_
                    refine ev_ret rfl (by decide) (by decide) ?_
                    show jEv _ _ _ _ _ _ _ (_, [(2, 0), (0, a1), (0, a2), (0, a3), (0, a4), (9, 0), (9, 0)], [(0, (9 * a1 + 3 * a2 + a3))], _, _, _)
                    refine ev_istore (L' := [(2, 0), (0, a1), (0, a2), (0, a3), (0, a4), (0, (9 * a1 + 3 * a2 + a3)), (9, 0)]) (Nat.le_of_ble_eq_true rfl) rfl ?_
                    refine ev_aload_n rfl ?_
                    refine g_getp (r := 0) (c := 1) g ad0 (by decide) (by decide) rf0_0 ft11_0 ?_
                    refine ev_iload rfl ?_
                    refine ev_in (d := 1) (a := 0) (b := 0) (cd' := c148_0) (m := 2) (L0 := [(2, 1), (0, (9 * a1 + 3 * a2 + a3))]) (jcall_v (A := [(0, (9 * a1 + 3 * a2 + a3))]) (S' := []) (r := 1) rfl (g.lt ad1) (g.tg ad1) (Nat.le_of_ble_eq_true rfl)) (by decide) ml148 pp148 (Nat.le_of_ble_eq_true rfl) rfl (by decide) (by decide) ?_
                    refine ev_iload_n rfl ?_
                    refine ev_iflt f148_10 (fun c29670 => absurd c29670 (by omega)) (fun c29670 => ?_)
                    refine ev_iload_n rfl ?_
                    refine ev_bipush ?_
                    refine ev_icmplt f148_14 (fun c29671 => ?_) (fun c29671 => absurd c29671 (by omega))
                    refine ev_aload_n rfl ?_
                    refine g_getp (r := 1) (c := 4) g ad1 (by decide) (by decide) rf1_5 ft10_5 ?_
                    refine ev_iload_n rfl ?_
                    refine g_iald g ad4 rt4 (by omega) (by omega) (fun v29672 ev29672 lv29672 uv29672 => ?_)
                    refine ev_ret rfl (by decide) (by decide) ?_
                    show jEv _ _ _ _ _ _ _ (_, [(2, 0), (0, a1), (0, a2), (0, a3), (0, a4), (0, (9 * a1 + 3 * a2 + a3)), (9, 0)], [(0, v29672)], _, _, _)
                    refine ev_istore (L' := [(2, 0), (0, a1), (0, a2), (0, a3), (0, a4), (0, (9 * a1 + 3 * a2 + a3)), (0, v29672)]) (Nat.le_of_ble_eq_true rfl) rfl ?_
                    refine ev_aload_n rfl ?_
                    refine g_getp (r := 0) (c := 1) g ad0 (by decide) (by decide) rf0_0 ft11_0 ?_
                    refine ev_iload rfl ?_
                    refine ev_iload rfl ?_
                    refine ev_in (d := 1) (a := 0) (b := 0) (cd' := c149_0) (m := 3) (L0 := [(2, 1), (0, (9 * a1 + 3 * a2 + a3)), (0, a4)]) (jcall_v (A := [(0, a4), (0, (9 * a1 + 3 * a2 + a3))]) (S' := []) (r := 1) rfl (g.lt ad1) (g.tg ad1) (Nat.le_of_ble_eq_true rfl)) (by decide) ml149 pp149 (Nat.le_of_ble_eq_true rfl) rfl (by decide) (by decide) ?_
                    refine ev_iload_n rfl ?_
                    refine ev_iflt f149_32 (fun c29673 => absurd c29673 (by omega)) (fun c29673 => ?_)
                    refine ev_iload_n rfl ?_
                    refine ev_bipush ?_
                    refine ev_icmpge f149_32 (fun c29674 => absurd c29674 (by omega)) (fun c29674 => ?_)
                    refine ev_aload_n rfl ?_
                    refine g_getp (r := 1) (c := 4) g ad1 (by decide) (by decide) rf1_5 ft10_5 ?_
                    refine ev_iload_n rfl ?_
                    refine g_ialdv (v := v29672) g ad4 (by omega) (by omega) (ev29672) ?_
                    refine ev_iload_n rfl ?_
                    refine ev_icmpeq f149_32 (fun c29675 => ?_) (fun c29675 => ?_)
                    · refine ev_ret rfl (by decide) (by decide) ?_
                      show jEv _ _ _ _ _ _ _ (_, [(2, 0), (0, a1), (0, a2), (0, a3), (0, a4), (0, (9 * a1 + 3 * a2 + a3)), (0, v29672)], [], _, _, _)
                      refine ev_aload_n rfl ?_
                      refine ev_iload rfl ?_
                      refine ev_iload rfl ?_
                      refine ev_iload rfl ?_
                      refine ev_call (jcall_v (A := [(0, a4), (0, v29672), (0, (9 * a1 + 3 * a2 + a3))]) (S' := []) (r := 0) rfl (g.lt ad0) (g.tg ad0) (Nat.le_of_ble_eq_true rfl)) (jOk_le (by decide) (s229 g (by omega) (by omega) (by omega) (by omega) (by omega) (by omega))) (by decide) (by decide) (fun w29676 h29676 q29676 => ?_)
                      obtain ⟨rfl, g29676, kk29676⟩ := q29676
                      have k29676 := k0.tr kk29676 (by decide)
                      show jEv _ _ _ _ _ _ _ (_, [(2, 0), (0, a1), (0, a2), (0, a3), (0, a4), (0, (9 * a1 + 3 * a2 + a3)), (0, v29672)], [], _, _, _)
                      refine ev_iload rfl ?_
                      exact ev_ret rfl (by decide) (by decide) ⟨_, rfl, by omega, by omega, g29676, k29676⟩
                    · refine ev_aload_n rfl ?_
                      refine g_getp (r := 1) (c := 4) g ad1 (by decide) (by decide) rf1_5 ft10_5 ?_
                      refine ev_iload_n rfl ?_
                      refine ev_iload_n rfl ?_
                      refine g_iast g ad4 rt4 (fun _ => rfl) (by omega) (by omega) (by omega) (by omega) (fun h29677 e29677 g29677 => ?_)
                      have k29677 := k0.wr e29677 rfl
                      refine ev_aload_n rfl ?_
                      refine ev_iconst ?_
                      refine g_putf (r := 1) g29677 ad1 (by decide) ft10_2 (by decide) (fun _ => by omega) rf1_2 (by decide) (by omega) (by omega) (fun h29678 e29678 g29678 => ?_)
                      have k29678 := k29677.wr e29678 rfl
                      refine ev_ret rfl (by decide) (by decide) ?_
                      show jEv _ _ _ _ _ _ _ (_, [(2, 0), (0, a1), (0, a2), (0, a3), (0, a4), (0, (9 * a1 + 3 * a2 + a3)), (0, v29672)], [], _, _, _)
                      refine ev_aload_n rfl ?_
                      refine ev_iload rfl ?_
                      refine ev_iload rfl ?_
                      refine ev_iload rfl ?_
                      refine ev_call (jcall_v (A := [(0, a4), (0, v29672), (0, (9 * a1 + 3 * a2 + a3))]) (S' := []) (r := 0) rfl (g29678.lt ad0) (g29678.tg ad0) (Nat.le_of_ble_eq_true rfl)) (jOk_le (by decide) (s229 g29678 (by omega) (by omega) (by omega) (by omega) (by omega) (by omega))) (by decide) (by decide) (fun w29679 h29679 q29679 => ?_)
                      obtain ⟨rfl, g29679, kk29679⟩ := q29679
                      have k29679 := k29678.tr kk29679 (by decide)
                      show jEv _ _ _ _ _ _ _ (_, [(2, 0), (0, a1), (0, a2), (0, a3), (0, a4), (0, (9 * a1 + 3 * a2 + a3)), (0, v29672)], [], _, _, _)
                      refine ev_iload rfl ?_
                      exact ev_ret rfl (by decide) (by decide) ⟨_, rfl, by omega, by omega, g29679, k29679⟩
                  · refine ev_iconst ?_
                    exact ev_ret rfl (by decide) (by decide) ⟨_, rfl, by omega, by omega, g, k0⟩
/-! 169 bottom -/
set_option maxHeartbeats 4000000 in
theorem s169 {G : GH} {h : JH} (g : Gd G h)  : jOk 6 0 0 169 [(2, 0)] h (PI G [(1, 2), (1, 3), (5, 0), (6, 0)] h 1 (-9223372036854775808) 9223372036854775807) := by
  refine ⟨by decide, by rw [ml169]; exact Nat.le_of_ble_eq_true rfl, ?_⟩
  rw [ml169, pp169]
  show jEv _ none _ c169_0 0 0 _ (c169_0, [(2, 0)], [], h, 0, 0)
  have k0 := Kp.rf [(1, 2), (1, 3), (5, 0), (6, 0)] h
  refine ev_aload_n rfl ?_
  refine g_getp (r := 0) (c := 1) g ad0 (by decide) (by decide) rf0_0 ft11_0 ?_
  refine ev_call (jcall_v (A := []) (S' := []) (r := 1) rfl (g.lt ad1) (g.tg ad1) (Nat.le_of_ble_eq_true rfl)) (jOk_le (by decide) (s153 g )) (by decide) (by decide) (fun w29688 h29688 q29688 => ?_)
  obtain ⟨v29689, rfl, lv29689, uv29689, g29688, kk29688⟩ := q29688
  have k29688 := k0.tr kk29688 (by decide)
  show jEv _ _ _ _ _ _ _ (_, [(2, 0)], [(0, v29689)], _, _, _)
  refine ev_ifeq f169_20 (fun c29690 => ?_) (fun c29690 => ?_)
  · refine ev_ldc2_w ?_
    exact ev_ret rfl (by decide) (by decide) ⟨_, rfl, by omega, by omega, g29688, k29688⟩
  · refine ev_aload_n rfl ?_
    refine g_getp (r := 0) (c := 1) g29688 ad0 (by decide) (by decide) rf0_0 ft11_0 ?_
    obtain ⟨v29691, ev29691, lv29691, uv29691⟩ := g29688.rd ad1 (show 1 < 8 by decide) rf1_1
    refine g_getv (r := 1) (v := v29691) g29688 ad1 (by decide) ft10_1 ev29691 ?_
    refine ev_goto f169_23 ?_
    exact ev_ret rfl (by decide) (by decide) ⟨_, rfl, by omega, by omega, g29688, k29688⟩
/-! 170 number -/
set_option maxHeartbeats 4000000 in
theorem s170 {G : GH} {h : JH} (g : Gd G h) {a1 : Int} (la1 : (-2147483648) ≤ a1) (ua1 : a1 ≤ 2147483647) : jOk 6 0 0 170 [(2, 0), (0, a1)] h (PI G [(1, 2), (1, 3), (5, 0), (6, 0)] h 1 (-9223372036854775808) 9223372036854775807) := by
  refine ⟨by decide, by rw [ml170]; exact Nat.le_of_ble_eq_true rfl, ?_⟩
  rw [ml170, pp170]
  show jEv _ none _ c170_0 0 0 _ (c170_0, [(2, 0), (0, a1)], [], h, 0, 0)
  have k0 := Kp.rf [(1, 2), (1, 3), (5, 0), (6, 0)] h
  refine ev_aload_n rfl ?_
  refine g_getp (r := 0) (c := 1) g ad0 (by decide) (by decide) rf0_0 ft11_0 ?_
  refine ev_iload_n rfl ?_
  refine ev_call (jcall_v (A := [(0, a1)]) (S' := []) (r := 1) rfl (g.lt ad1) (g.tg ad1) (Nat.le_of_ble_eq_true rfl)) (jOk_le (by decide) (s159 g (by omega) (by omega))) (by decide) (by decide) (fun w29720 h29720 q29720 => ?_)
  obtain ⟨v29721, rfl, lv29721, uv29721, g29720, kk29720⟩ := q29720
  have k29720 := k0.tr kk29720 (by decide)
  show jEv _ _ _ _ _ _ _ (_, [(2, 0), (0, a1)], [(0, v29721)], _, _, _)
  refine ev_ifne f170_15 (fun c29722 => ?_) (fun c29722 => ?_)
  · refine ev_aload_n rfl ?_
    refine g_getp (r := 0) (c := 1) g29720 ad0 (by decide) (by decide) rf0_0 ft11_0 ?_
    refine ev_call (jcall_v (A := []) (S' := []) (r := 1) rfl (g29720.lt ad1) (g29720.tg ad1) (Nat.le_of_ble_eq_true rfl)) (jOk_le (by decide) (s153 g29720 )) (by decide) (by decide) (fun w29723 h29723 q29723 => ?_)
    obtain ⟨v29724, rfl, lv29724, uv29724, g29723, kk29723⟩ := q29723
    have k29723 := k29720.tr kk29723 (by decide)
    show jEv _ _ _ _ _ _ _ (_, [(2, 0), (0, a1)], [(0, v29724)], _, _, _)
    refine ev_ifeq f170_43 (fun c29725 => ?_) (fun c29725 => ?_)
    · refine ev_ldc2_w ?_
      exact ev_ret rfl (by decide) (by decide) ⟨_, rfl, by omega, by omega, g29723, k29723⟩
    · refine ev_aload_n rfl ?_
      refine g_getp (r := 0) (c := 1) g29723 ad0 (by decide) (by decide) rf0_0 ft11_0 ?_
      refine ev_aload_n rfl ?_
      refine g_getp (r := 0) (c := 1) g29723 ad0 (by decide) (by decide) rf0_0 ft11_0 ?_
      refine ev_iload_n rfl ?_
      refine ev_in (d := 4) (a := 0) (b := 0) (cd' := c160_0) (m := 2) (L0 := [(2, 1), (0, a1)]) (jcall_v (A := [(0, a1)]) (S' := [(2, 1)]) (r := 1) rfl (g29723.lt ad1) (g29723.tg ad1) (Nat.le_of_ble_eq_true rfl)) (by decide) ml160 pp160 (Nat.le_of_ble_eq_true rfl) rfl (by decide) (by decide) ?_
      refine ev_iload_n rfl ?_
      refine ev_aload_n rfl ?_
      refine ev_in (d := 3) (a := 0) (b := 0) (cd' := c157_0) (m := 1) (L0 := [(2, 1)]) (jcall_v (A := []) (S' := [(0, a1)]) (r := 1) rfl (g29723.lt ad1) (g29723.tg ad1) (Nat.le_of_ble_eq_true rfl)) (by decide) ml157 pp157 (Nat.le_of_ble_eq_true rfl) rfl (by decide) (by decide) ?_
      refine ev_iconst ?_
      refine ev_iconst ?_
      refine ev_aload_n rfl ?_
      obtain ⟨v29726, ev29726, lv29726, uv29726⟩ := g29723.rd ad1 (show 0 < 8 by decide) rf1_0
      refine g_getv (r := 1) (v := v29726) g29723 ad1 (by decide) ft10_0 ev29726 ?_
      refine ev_imul (r := (2 * v29726)) (by unfold w32; omega) ?_
      refine g_ishlB (a' := 1) (a := 1) (b := 8) (hi := 256) (by omega) (by omega) (by omega) (by omega) (by decide) (by decide) (fun v29727 ev29727 lv29727 uv29727 => ?_)
      refine ev_ret rfl (by decide) (by decide) ?_
      show jEv _ _ _ _ _ _ _ (_, [(2, 1), (0, a1)], [(0, v29727), (0, a1)], _, _, _)
      refine ev_iconst ?_
      refine ev_isub (r := (v29727 - 1)) (by unfold w32; omega) ?_
      refine ev_iconst ?_
      refine g_idivP (c := 3) rfl (by decide) (by omega) (by omega) (fun v29728 ev29728 lv29728 uv29728 => ?_)
      refine g_iaddG (fun v29729 ev29729 lv29729 uv29729 => ?_)
      refine ev_ret rfl (by decide) (by decide) ?_
      show jEv _ _ _ _ _ _ _ (_, [(2, 0), (0, a1)], [(0, v29729), (2, 1)], _, _, _)
      refine ev_in (d := 4) (a := 0) (b := 0) (cd' := c161_0) (m := 2) (L0 := [(2, 1), (0, v29729)]) (jcall_v (A := [(0, v29729)]) (S' := []) (r := 1) rfl (g29723.lt ad1) (g29723.tg ad1) (Nat.le_of_ble_eq_true rfl)) (by decide) ml161 pp161 (Nat.le_of_ble_eq_true rfl) rfl (by decide) (by decide) ?_
      refine ev_iload_n rfl ?_
      refine ev_iflt f161_12 (fun c29730 => ?_) (fun c29730 => ?_)
      · refine ev_lconst ?_
        refine ev_goto f161_22 ?_
        refine ev_ret rfl (by decide) (by decide) ?_
        show jEv _ _ _ _ _ _ _ (_, [(2, 0), (0, a1)], [(1, 0)], _, _, _)
        refine ev_goto f170_46 ?_
        exact ev_ret rfl (by decide) (by decide) ⟨_, rfl, by omega, by omega, g29723, k29723⟩
      · refine ev_iload_n rfl ?_
        refine ev_aload_n rfl ?_
        refine ev_in (d := 3) (a := 0) (b := 0) (cd' := c157_0) (m := 1) (L0 := [(2, 1)]) (jcall_v (A := []) (S' := [(0, v29729)]) (r := 1) rfl (g29723.lt ad1) (g29723.tg ad1) (Nat.le_of_ble_eq_true rfl)) (by decide) ml157 pp157 (Nat.le_of_ble_eq_true rfl) rfl (by decide) (by decide) ?_
        refine ev_iconst ?_
        refine ev_iconst ?_
        refine ev_aload_n rfl ?_
        refine g_getv (r := 1) (v := v29726) g29723 ad1 (by decide) ft10_0 (ev29726) ?_
        refine ev_imul (r := (2 * v29726)) (by unfold w32; omega) ?_
        refine g_ishlB (a' := 1) (a := 1) (b := 8) (hi := 256) (by omega) (by omega) (by omega) (by omega) (by decide) (by decide) (fun v29731 ev29731 lv29731 uv29731 => ?_)
        obtain rfl : v29727 = v29731 := by omega
        refine ev_ret rfl (by decide) (by decide) ?_
        show jEv _ _ _ _ _ _ _ (_, [(2, 1), (0, v29729)], [(0, v29727), (0, v29729)], _, _, _)
        refine ev_icmplt f161_16 (fun c29732 => ?_) (fun c29732 => ?_)
        · refine ev_aload_n rfl ?_
          refine g_getp (r := 1) (c := 6) g29723 ad1 (by decide) (by decide) rf1_7 ft10_7 ?_
          refine ev_iload_n rfl ?_
          refine g_lald g29723 ad6 rt6 (by omega) (by omega) (fun v29733 ev29733 lv29733 uv29733 => ?_)
          refine ev_ret rfl (by decide) (by decide) ?_
          show jEv _ _ _ _ _ _ _ (_, [(2, 0), (0, a1)], [(1, v29733)], _, _, _)
          refine ev_goto f170_46 ?_
          exact ev_ret rfl (by decide) (by decide) ⟨_, rfl, by omega, by omega, g29723, k29723⟩
        · refine ev_lconst ?_
          refine ev_goto f161_22 ?_
          refine ev_ret rfl (by decide) (by decide) ?_
          show jEv _ _ _ _ _ _ _ (_, [(2, 0), (0, a1)], [(1, 0)], _, _, _)
          refine ev_goto f170_46 ?_
          exact ev_ret rfl (by decide) (by decide) ⟨_, rfl, by omega, by omega, g29723, k29723⟩
  · refine ev_ldc2_w ?_
    exact ev_ret rfl (by decide) (by decide) ⟨_, rfl, by omega, by omega, g29720, k29720⟩
/-! 171 chance -/
set_option maxHeartbeats 4000000 in
theorem s171 {G : GH} {h : JH} (g : Gd G h) {a1 : Int} (la1 : (-2147483648) ≤ a1) (ua1 : a1 ≤ 2147483647) {a2 : Int} (la2 : (-2147483648) ≤ a2) (ua2 : a2 ≤ 2147483647) {a3 : Int} (la3 : (-2147483648) ≤ a3) (ua3 : a3 ≤ 2147483647) : jOk 6 0 0 171 [(2, 0), (0, a1), (0, a2), (0, a3)] h (PI G [(1, 2), (1, 3), (5, 0), (6, 0)] h 1 (-9223372036854775808) 9223372036854775807) := by
  refine ⟨by decide, by rw [ml171]; exact Nat.le_of_ble_eq_true rfl, ?_⟩
  rw [ml171, pp171]
  show jEv _ none _ c171_0 0 0 _ (c171_0, [(2, 0), (0, a1), (0, a2), (0, a3)], [], h, 0, 0)
  have k0 := Kp.rf [(1, 2), (1, 3), (5, 0), (6, 0)] h
  refine ev_aload_n rfl ?_
  refine g_getp (r := 0) (c := 1) g ad0 (by decide) (by decide) rf0_0 ft11_0 ?_
  refine ev_iload_n rfl ?_
  refine ev_call (jcall_v (A := [(0, a1)]) (S' := []) (r := 1) rfl (g.lt ad1) (g.tg ad1) (Nat.le_of_ble_eq_true rfl)) (jOk_le (by decide) (s158 g (by omega) (by omega))) (by decide) (by decide) (fun w30000 h30000 q30000 => ?_)
  obtain ⟨v30001, rfl, lv30001, uv30001, g30000, kk30000⟩ := q30000
  have k30000 := k0.tr kk30000 (by decide)
  show jEv _ _ _ _ _ _ _ (_, [(2, 0), (0, a1), (0, a2), (0, a3)], [(0, v30001)], _, _, _)
  refine ev_ifeq f171_29 (fun c30002 => ?_) (fun c30002 => ?_)
  · refine ev_ldc2_w ?_
    exact ev_ret rfl (by decide) (by decide) ⟨_, rfl, by omega, by omega, g30000, k30000⟩
  · refine ev_aload_n rfl ?_
    refine g_getp (r := 0) (c := 1) g30000 ad0 (by decide) (by decide) rf0_0 ft11_0 ?_
    refine ev_iload_n rfl ?_
    refine ev_call (jcall_v (A := [(0, a2)]) (S' := []) (r := 1) rfl (g30000.lt ad1) (g30000.tg ad1) (Nat.le_of_ble_eq_true rfl)) (jOk_le (by decide) (s158 g30000 (by omega) (by omega))) (by decide) (by decide) (fun w30003 h30003 q30003 => ?_)
    obtain ⟨v30004, rfl, lv30004, uv30004, g30003, kk30003⟩ := q30003
    have k30003 := k30000.tr kk30003 (by decide)
    show jEv _ _ _ _ _ _ _ (_, [(2, 0), (0, a1), (0, a2), (0, a3)], [(0, v30004)], _, _, _)
    refine ev_ifeq f171_29 (fun c30005 => ?_) (fun c30005 => ?_)
    · refine ev_ldc2_w ?_
      exact ev_ret rfl (by decide) (by decide) ⟨_, rfl, by omega, by omega, g30003, k30003⟩
    · refine ev_iload_n rfl ?_
      refine ev_in (d := 4) (a := 0) (b := 0) (cd' := c221_0) (m := 1) (L0 := [(0, a3)]) (jcall_s (A := [(0, a3)]) (S' := []) (by decide) rfl (Nat.le_of_ble_eq_true rfl)) (by decide) ml221 pp221 (Nat.le_of_ble_eq_true rfl) rfl (by decide) (by decide) ?_
      refine ev_iload_n rfl ?_
      refine ev_ifeq f221_9 (fun c30006 => ?_) (fun c30006 => ?_)
      · refine ev_iconst ?_
        refine ev_goto f221_14 ?_
        refine ev_ret rfl (by decide) (by decide) ?_
        show jEv _ _ _ _ _ _ _ (_, [(2, 0), (0, a1), (0, a2), (0, a3)], [(0, 1)], _, _, _)
        refine ev_ifne f171_33 (fun c30007 => ?_) (fun c30007 => absurd c30007 (by omega))
        refine ev_aload_n rfl ?_
        refine g_getp (r := 0) (c := 1) g30003 ad0 (by decide) (by decide) rf0_0 ft11_0 ?_
        refine ev_call (jcall_v (A := []) (S' := []) (r := 1) rfl (g30003.lt ad1) (g30003.tg ad1) (Nat.le_of_ble_eq_true rfl)) (jOk_le (by decide) (s153 g30003 )) (by decide) (by decide) (fun w30008 h30008 q30008 => ?_)
        obtain ⟨v30009, rfl, lv30009, uv30009, g30008, kk30008⟩ := q30008
        have k30008 := k30003.tr kk30008 (by decide)
        show jEv _ _ _ _ _ _ _ (_, [(2, 0), (0, a1), (0, a2), (0, a3)], [(0, v30009)], _, _, _)
        refine ev_ifne f171_47 (fun c30010 => ?_) (fun c30010 => ?_)
        · refine ev_aload_n rfl ?_
          refine g_getp (r := 0) (c := 1) g30008 ad0 (by decide) (by decide) rf0_0 ft11_0 ?_
          refine ev_iload_n rfl ?_
          refine ev_iload_n rfl ?_
          refine ev_in (d := 4) (a := 0) (b := 0) (cd' := c163_0) (m := 3) (L0 := [(2, 1), (0, a1), (0, a2)]) (jcall_v (A := [(0, a2), (0, a1)]) (S' := []) (r := 1) rfl (g30008.lt ad1) (g30008.tg ad1) (Nat.le_of_ble_eq_true rfl)) (by decide) ml163 pp163 (Nat.le_of_ble_eq_true rfl) rfl (by decide) (by decide) ?_
          refine ev_iload_n rfl ?_
          refine ev_iload_n rfl ?_
          refine g_ixorG (fun v30011 ev30011 lv30011 uv30011 => ?_)
          refine ev_iload_n rfl ?_
          refine ev_in (d := 3) (a := 0) (b := 0) (cd' := c162_0) (m := 1) (L0 := [(0, a1)]) (jcall_s (A := [(0, a1)]) (S' := [(0, v30011)]) (by decide) rfl (Nat.le_of_ble_eq_true rfl)) (by decide) ml162 pp162 (Nat.le_of_ble_eq_true rfl) rfl (by decide) (by decide) ?_
          refine ev_iload_n rfl ?_
          refine ev_iload_n rfl ?_
          refine ev_iconst ?_
          refine g_ishrG (fun v30012 ev30012 lv30012 uv30012 => ?_)
          refine g_iorG (fun v30013 ev30013 lv30013 uv30013 => ?_)
          refine ev_bipush ?_
          refine g_iandB (b := 85) (by omega) (by omega) (by decide) (fun v30014 ev30014 lv30014 uv30014 => ?_)
          refine ev_iconst ?_
          refine ev_imul (r := (3 * v30014)) (by unfold w32; omega) ?_
          refine ev_ret rfl (by decide) (by decide) ?_
          show jEv _ _ _ _ _ _ _ (_, [(2, 1), (0, a1), (0, a2)], [(0, (3 * v30014)), (0, v30011)], _, _, _)
          refine g_iandB (b := 255) (by omega) (by omega) (by decide) (fun v30015 ev30015 lv30015 uv30015 => ?_)
          refine ev_iload_n rfl ?_
          refine ev_in (d := 3) (a := 0) (b := 0) (cd' := c162_0) (m := 1) (L0 := [(0, a2)]) (jcall_s (A := [(0, a2)]) (S' := [(0, v30015)]) (by decide) rfl (Nat.le_of_ble_eq_true rfl)) (by decide) ml162 pp162 (Nat.le_of_ble_eq_true rfl) rfl (by decide) (by decide) ?_
          refine ev_iload_n rfl ?_
          refine ev_iload_n rfl ?_
          refine ev_iconst ?_
          refine g_ishrG (fun v30016 ev30016 lv30016 uv30016 => ?_)
          refine g_iorG (fun v30017 ev30017 lv30017 uv30017 => ?_)
          refine ev_bipush ?_
          refine g_iandB (b := 85) (by omega) (by omega) (by decide) (fun v30018 ev30018 lv30018 uv30018 => ?_)
          refine ev_iconst ?_
          refine ev_imul (r := (3 * v30018)) (by unfold w32; omega) ?_
          refine ev_ret rfl (by decide) (by decide) ?_
          show jEv _ _ _ _ _ _ _ (_, [(2, 1), (0, a1), (0, a2)], [(0, (3 * v30018)), (0, v30015)], _, _, _)
          refine g_iandB (b := 255) (by omega) (by omega) (by decide) (fun v30019 ev30019 lv30019 uv30019 => ?_)
          refine ev_ifeq f163_20 (fun c30020 => ?_) (fun c30020 => ?_)
          · refine ev_aload_n rfl ?_
            refine ev_iload_n rfl ?_
            refine ev_iload_n rfl ?_
            refine g_iorG (fun v30021 ev30021 lv30021 uv30021 => ?_)
            refine ev_in (d := 3) (a := 0) (b := 0) (cd' := c161_0) (m := 2) (L0 := [(2, 1), (0, v30021)]) (jcall_v (A := [(0, v30021)]) (S' := []) (r := 1) rfl (g30008.lt ad1) (g30008.tg ad1) (Nat.le_of_ble_eq_true rfl)) (by decide) ml161 pp161 (Nat.le_of_ble_eq_true rfl) rfl (by decide) (by decide) ?_
            refine ev_iload_n rfl ?_
            refine ev_iflt f161_12 (fun c30022 => ?_) (fun c30022 => ?_)
            · refine ev_lconst ?_
              refine ev_goto f161_22 ?_
              refine ev_ret rfl (by decide) (by decide) ?_
              show jEv _ _ _ _ _ _ _ (_, [(2, 1), (0, a1), (0, a2)], [(1, 0)], _, _, _)
              refine ev_ret rfl (by decide) (by decide) ?_
              show jEv _ _ _ _ _ _ _ (_, [(2, 0), (0, a1), (0, a2), (0, a3)], [(1, 0)], _, _, _)
              refine ev_aload_n rfl ?_
              refine g_getp (r := 0) (c := 1) g30008 ad0 (by decide) (by decide) rf0_0 ft11_0 ?_
              refine ev_iload_n rfl ?_
              refine ev_in (d := 4) (a := 0) (b := 0) (cd' := c161_0) (m := 2) (L0 := [(2, 1), (0, a2)]) (jcall_v (A := [(0, a2)]) (S' := [(1, 0)]) (r := 1) rfl (g30008.lt ad1) (g30008.tg ad1) (Nat.le_of_ble_eq_true rfl)) (by decide) ml161 pp161 (Nat.le_of_ble_eq_true rfl) rfl (by decide) (by decide) ?_
              refine ev_iload_n rfl ?_
              refine ev_iflt f161_12 (fun c30023 => ?_) (fun c30023 => ?_)
              · refine ev_lconst ?_
                refine ev_goto f161_22 ?_
                refine ev_ret rfl (by decide) (by decide) ?_
                show jEv _ _ _ _ _ _ _ (_, [(2, 0), (0, a1), (0, a2), (0, a3)], [(1, 0), (1, 0)], _, _, _)
                refine ev_iload_n rfl ?_
                refine ev_call (jcall_s (A := [(0, a3), (1, 0), (1, 0)]) (S' := []) (by decide) rfl (Nat.le_of_ble_eq_true rfl)) (jOk_le (by decide) (s223 g30008 (by omega) (by omega) (by omega) (by omega) (by omega) (by omega))) (by decide) (by decide) (fun w30024 h30024 q30024 => ?_)
                obtain ⟨v30025, rfl, lv30025, uv30025, g30024, kk30024⟩ := q30024
                have k30024 := k30008.tr kk30024 (by decide)
                show jEv _ _ _ _ _ _ _ (_, [(2, 0), (0, a1), (0, a2), (0, a3)], [(1, v30025)], _, _, _)
                exact ev_ret rfl (by decide) (by decide) ⟨_, rfl, by omega, by omega, g30024, k30024⟩
              · refine ev_iload_n rfl ?_
                refine ev_aload_n rfl ?_
                refine ev_in (d := 3) (a := 0) (b := 0) (cd' := c157_0) (m := 1) (L0 := [(2, 1)]) (jcall_v (A := []) (S' := [(0, a2)]) (r := 1) rfl (g30008.lt ad1) (g30008.tg ad1) (Nat.le_of_ble_eq_true rfl)) (by decide) ml157 pp157 (Nat.le_of_ble_eq_true rfl) rfl (by decide) (by decide) ?_
                refine ev_iconst ?_
                refine ev_iconst ?_
                refine ev_aload_n rfl ?_
                obtain ⟨v30026, ev30026, lv30026, uv30026⟩ := g30008.rd ad1 (show 0 < 8 by decide) rf1_0
                refine g_getv (r := 1) (v := v30026) g30008 ad1 (by decide) ft10_0 ev30026 ?_
                refine ev_imul (r := (2 * v30026)) (by unfold w32; omega) ?_
                refine g_ishlB (a' := 1) (a := 1) (b := 8) (hi := 256) (by omega) (by omega) (by omega) (by omega) (by decide) (by decide) (fun v30027 ev30027 lv30027 uv30027 => ?_)
                refine ev_ret rfl (by decide) (by decide) ?_
                show jEv _ _ _ _ _ _ _ (_, [(2, 1), (0, a2)], [(0, v30027), (0, a2)], _, _, _)
                refine ev_icmplt f161_16 (fun c30028 => ?_) (fun c30028 => ?_)
                · refine ev_aload_n rfl ?_
                  refine g_getp (r := 1) (c := 6) g30008 ad1 (by decide) (by decide) rf1_7 ft10_7 ?_
                  refine ev_iload_n rfl ?_
                  refine g_lald g30008 ad6 rt6 (by omega) (by omega) (fun v30029 ev30029 lv30029 uv30029 => ?_)
                  refine ev_ret rfl (by decide) (by decide) ?_
                  show jEv _ _ _ _ _ _ _ (_, [(2, 0), (0, a1), (0, a2), (0, a3)], [(1, v30029), (1, 0)], _, _, _)
                  refine ev_iload_n rfl ?_
                  refine ev_call (jcall_s (A := [(0, a3), (1, v30029), (1, 0)]) (S' := []) (by decide) rfl (Nat.le_of_ble_eq_true rfl)) (jOk_le (by decide) (s223 g30008 (by omega) (by omega) (by omega) (by omega) (by omega) (by omega))) (by decide) (by decide) (fun w30030 h30030 q30030 => ?_)
                  obtain ⟨v30031, rfl, lv30031, uv30031, g30030, kk30030⟩ := q30030
                  have k30030 := k30008.tr kk30030 (by decide)
                  show jEv _ _ _ _ _ _ _ (_, [(2, 0), (0, a1), (0, a2), (0, a3)], [(1, v30031)], _, _, _)
                  exact ev_ret rfl (by decide) (by decide) ⟨_, rfl, by omega, by omega, g30030, k30030⟩
                · refine ev_lconst ?_
                  refine ev_goto f161_22 ?_
                  refine ev_ret rfl (by decide) (by decide) ?_
                  show jEv _ _ _ _ _ _ _ (_, [(2, 0), (0, a1), (0, a2), (0, a3)], [(1, 0), (1, 0)], _, _, _)
                  refine ev_iload_n rfl ?_
                  refine ev_call (jcall_s (A := [(0, a3), (1, 0), (1, 0)]) (S' := []) (by decide) rfl (Nat.le_of_ble_eq_true rfl)) (jOk_le (by decide) (s223 g30008 (by omega) (by omega) (by omega) (by omega) (by omega) (by omega))) (by decide) (by decide) (fun w30032 h30032 q30032 => ?_)
                  obtain ⟨v30033, rfl, lv30033, uv30033, g30032, kk30032⟩ := q30032
                  have k30032 := k30008.tr kk30032 (by decide)
                  show jEv _ _ _ _ _ _ _ (_, [(2, 0), (0, a1), (0, a2), (0, a3)], [(1, v30033)], _, _, _)
                  exact ev_ret rfl (by decide) (by decide) ⟨_, rfl, by omega, by omega, g30032, k30032⟩
            · refine ev_iload_n rfl ?_
              refine ev_aload_n rfl ?_
              refine ev_in (d := 2) (a := 0) (b := 0) (cd' := c157_0) (m := 1) (L0 := [(2, 1)]) (jcall_v (A := []) (S' := [(0, v30021)]) (r := 1) rfl (g30008.lt ad1) (g30008.tg ad1) (Nat.le_of_ble_eq_true rfl)) (by decide) ml157 pp157 (Nat.le_of_ble_eq_true rfl) rfl (by decide) (by decide) ?_
              refine ev_iconst ?_
              refine ev_iconst ?_
              refine ev_aload_n rfl ?_
              obtain ⟨v30034, ev30034, lv30034, uv30034⟩ := g30008.rd ad1 (show 0 < 8 by decide) rf1_0
              refine g_getv (r := 1) (v := v30034) g30008 ad1 (by decide) ft10_0 ev30034 ?_
              refine ev_imul (r := (2 * v30034)) (by unfold w32; omega) ?_
              refine g_ishlB (a' := 1) (a := 1) (b := 8) (hi := 256) (by omega) (by omega) (by omega) (by omega) (by decide) (by decide) (fun v30035 ev30035 lv30035 uv30035 => ?_)
              refine ev_ret rfl (by decide) (by decide) ?_
              show jEv _ _ _ _ _ _ _ (_, [(2, 1), (0, v30021)], [(0, v30035), (0, v30021)], _, _, _)
              refine ev_icmplt f161_16 (fun c30036 => ?_) (fun c30036 => ?_)
              · refine ev_aload_n rfl ?_
                refine g_getp (r := 1) (c := 6) g30008 ad1 (by decide) (by decide) rf1_7 ft10_7 ?_
                refine ev_iload_n rfl ?_
                refine g_lald g30008 ad6 rt6 (by omega) (by omega) (fun v30037 ev30037 lv30037 uv30037 => ?_)
                refine ev_ret rfl (by decide) (by decide) ?_
                show jEv _ _ _ _ _ _ _ (_, [(2, 1), (0, a1), (0, a2)], [(1, v30037)], _, _, _)
                refine ev_ret rfl (by decide) (by decide) ?_
                show jEv _ _ _ _ _ _ _ (_, [(2, 0), (0, a1), (0, a2), (0, a3)], [(1, v30037)], _, _, _)
                refine ev_aload_n rfl ?_
                refine g_getp (r := 0) (c := 1) g30008 ad0 (by decide) (by decide) rf0_0 ft11_0 ?_
                refine ev_iload_n rfl ?_
                refine ev_in (d := 4) (a := 0) (b := 0) (cd' := c161_0) (m := 2) (L0 := [(2, 1), (0, a2)]) (jcall_v (A := [(0, a2)]) (S' := [(1, v30037)]) (r := 1) rfl (g30008.lt ad1) (g30008.tg ad1) (Nat.le_of_ble_eq_true rfl)) (by decide) ml161 pp161 (Nat.le_of_ble_eq_true rfl) rfl (by decide) (by decide) ?_
                refine ev_iload_n rfl ?_
                refine ev_iflt f161_12 (fun c30038 => ?_) (fun c30038 => ?_)
                · refine ev_lconst ?_
                  refine ev_goto f161_22 ?_
                  refine ev_ret rfl (by decide) (by decide) ?_
                  show jEv _ _ _ _ _ _ _ (_, [(2, 0), (0, a1), (0, a2), (0, a3)], [(1, 0), (1, v30037)], _, _, _)
                  refine ev_iload_n rfl ?_
                  refine ev_call (jcall_s (A := [(0, a3), (1, 0), (1, v30037)]) (S' := []) (by decide) rfl (Nat.le_of_ble_eq_true rfl)) (jOk_le (by decide) (s223 g30008 (by omega) (by omega) (by omega) (by omega) (by omega) (by omega))) (by decide) (by decide) (fun w30039 h30039 q30039 => ?_)
                  obtain ⟨v30040, rfl, lv30040, uv30040, g30039, kk30039⟩ := q30039
                  have k30039 := k30008.tr kk30039 (by decide)
                  show jEv _ _ _ _ _ _ _ (_, [(2, 0), (0, a1), (0, a2), (0, a3)], [(1, v30040)], _, _, _)
                  exact ev_ret rfl (by decide) (by decide) ⟨_, rfl, by omega, by omega, g30039, k30039⟩
                · refine ev_iload_n rfl ?_
                  refine ev_aload_n rfl ?_
                  refine ev_in (d := 3) (a := 0) (b := 0) (cd' := c157_0) (m := 1) (L0 := [(2, 1)]) (jcall_v (A := []) (S' := [(0, a2)]) (r := 1) rfl (g30008.lt ad1) (g30008.tg ad1) (Nat.le_of_ble_eq_true rfl)) (by decide) ml157 pp157 (Nat.le_of_ble_eq_true rfl) rfl (by decide) (by decide) ?_
                  refine ev_iconst ?_
                  refine ev_iconst ?_
                  refine ev_aload_n rfl ?_
                  refine g_getv (r := 1) (v := v30034) g30008 ad1 (by decide) ft10_0 (ev30034) ?_
                  refine ev_imul (r := (2 * v30034)) (by unfold w32; omega) ?_
                  refine g_ishlB (a' := 1) (a := 1) (b := 8) (hi := 256) (by omega) (by omega) (by omega) (by omega) (by decide) (by decide) (fun v30041 ev30041 lv30041 uv30041 => ?_)
                  obtain rfl : v30035 = v30041 := by omega
                  refine ev_ret rfl (by decide) (by decide) ?_
                  show jEv _ _ _ _ _ _ _ (_, [(2, 1), (0, a2)], [(0, v30035), (0, a2)], _, _, _)
                  refine ev_icmplt f161_16 (fun c30042 => ?_) (fun c30042 => ?_)
                  · refine ev_aload_n rfl ?_
                    refine g_getp (r := 1) (c := 6) g30008 ad1 (by decide) (by decide) rf1_7 ft10_7 ?_
                    refine ev_iload_n rfl ?_
                    refine g_lald g30008 ad6 rt6 (by omega) (by omega) (fun v30043 ev30043 lv30043 uv30043 => ?_)
                    refine ev_ret rfl (by decide) (by decide) ?_
                    show jEv _ _ _ _ _ _ _ (_, [(2, 0), (0, a1), (0, a2), (0, a3)], [(1, v30043), (1, v30037)], _, _, _)
                    refine ev_iload_n rfl ?_
                    refine ev_call (jcall_s (A := [(0, a3), (1, v30043), (1, v30037)]) (S' := []) (by decide) rfl (Nat.le_of_ble_eq_true rfl)) (jOk_le (by decide) (s223 g30008 (by omega) (by omega) (by omega) (by omega) (by omega) (by omega))) (by decide) (by decide) (fun w30044 h30044 q30044 => ?_)
                    obtain ⟨v30045, rfl, lv30045, uv30045, g30044, kk30044⟩ := q30044
                    have k30044 := k30008.tr kk30044 (by decide)
                    show jEv _ _ _ _ _ _ _ (_, [(2, 0), (0, a1), (0, a2), (0, a3)], [(1, v30045)], _, _, _)
                    exact ev_ret rfl (by decide) (by decide) ⟨_, rfl, by omega, by omega, g30044, k30044⟩
                  · refine ev_lconst ?_
                    refine ev_goto f161_22 ?_
                    refine ev_ret rfl (by decide) (by decide) ?_
                    show jEv _ _ _ _ _ _ _ (_, [(2, 0), (0, a1), (0, a2), (0, a3)], [(1, 0), (1, v30037)], _, _, _)
                    refine ev_iload_n rfl ?_
                    refine ev_call (jcall_s (A := [(0, a3), (1, 0), (1, v30037)]) (S' := []) (by decide) rfl (Nat.le_of_ble_eq_true rfl)) (jOk_le (by decide) (s223 g30008 (by omega) (by omega) (by omega) (by omega) (by omega) (by omega))) (by decide) (by decide) (fun w30046 h30046 q30046 => ?_)
                    obtain ⟨v30047, rfl, lv30047, uv30047, g30046, kk30046⟩ := q30046
                    have k30046 := k30008.tr kk30046 (by decide)
                    show jEv _ _ _ _ _ _ _ (_, [(2, 0), (0, a1), (0, a2), (0, a3)], [(1, v30047)], _, _, _)
                    exact ev_ret rfl (by decide) (by decide) ⟨_, rfl, by omega, by omega, g30046, k30046⟩
              · refine ev_lconst ?_
                refine ev_goto f161_22 ?_
                refine ev_ret rfl (by decide) (by decide) ?_
                show jEv _ _ _ _ _ _ _ (_, [(2, 1), (0, a1), (0, a2)], [(1, 0)], _, _, _)
                refine ev_ret rfl (by decide) (by decide) ?_
                show jEv _ _ _ _ _ _ _ (_, [(2, 0), (0, a1), (0, a2), (0, a3)], [(1, 0)], _, _, _)
                refine ev_aload_n rfl ?_
                refine g_getp (r := 0) (c := 1) g30008 ad0 (by decide) (by decide) rf0_0 ft11_0 ?_
                refine ev_iload_n rfl ?_
                refine ev_in (d := 4) (a := 0) (b := 0) (cd' := c161_0) (m := 2) (L0 := [(2, 1), (0, a2)]) (jcall_v (A := [(0, a2)]) (S' := [(1, 0)]) (r := 1) rfl (g30008.lt ad1) (g30008.tg ad1) (Nat.le_of_ble_eq_true rfl)) (by decide) ml161 pp161 (Nat.le_of_ble_eq_true rfl) rfl (by decide) (by decide) ?_
                refine ev_iload_n rfl ?_
                refine ev_iflt f161_12 (fun c30048 => ?_) (fun c30048 => ?_)
                · refine ev_lconst ?_
                  refine ev_goto f161_22 ?_
                  refine ev_ret rfl (by decide) (by decide) ?_
                  show jEv _ _ _ _ _ _ _ (_, [(2, 0), (0, a1), (0, a2), (0, a3)], [(1, 0), (1, 0)], _, _, _)
                  refine ev_iload_n rfl ?_
                  refine ev_call (jcall_s (A := [(0, a3), (1, 0), (1, 0)]) (S' := []) (by decide) rfl (Nat.le_of_ble_eq_true rfl)) (jOk_le (by decide) (s223 g30008 (by omega) (by omega) (by omega) (by omega) (by omega) (by omega))) (by decide) (by decide) (fun w30049 h30049 q30049 => ?_)
                  obtain ⟨v30050, rfl, lv30050, uv30050, g30049, kk30049⟩ := q30049
                  have k30049 := k30008.tr kk30049 (by decide)
                  show jEv _ _ _ _ _ _ _ (_, [(2, 0), (0, a1), (0, a2), (0, a3)], [(1, v30050)], _, _, _)
                  exact ev_ret rfl (by decide) (by decide) ⟨_, rfl, by omega, by omega, g30049, k30049⟩
                · refine ev_iload_n rfl ?_
                  refine ev_aload_n rfl ?_
                  refine ev_in (d := 3) (a := 0) (b := 0) (cd' := c157_0) (m := 1) (L0 := [(2, 1)]) (jcall_v (A := []) (S' := [(0, a2)]) (r := 1) rfl (g30008.lt ad1) (g30008.tg ad1) (Nat.le_of_ble_eq_true rfl)) (by decide) ml157 pp157 (Nat.le_of_ble_eq_true rfl) rfl (by decide) (by decide) ?_
                  refine ev_iconst ?_
                  refine ev_iconst ?_
                  refine ev_aload_n rfl ?_
                  refine g_getv (r := 1) (v := v30034) g30008 ad1 (by decide) ft10_0 (ev30034) ?_
                  refine ev_imul (r := (2 * v30034)) (by unfold w32; omega) ?_
                  refine g_ishlB (a' := 1) (a := 1) (b := 8) (hi := 256) (by omega) (by omega) (by omega) (by omega) (by decide) (by decide) (fun v30051 ev30051 lv30051 uv30051 => ?_)
                  obtain rfl : v30035 = v30051 := by omega
                  refine ev_ret rfl (by decide) (by decide) ?_
                  show jEv _ _ _ _ _ _ _ (_, [(2, 1), (0, a2)], [(0, v30035), (0, a2)], _, _, _)
                  refine ev_icmplt f161_16 (fun c30052 => ?_) (fun c30052 => ?_)
                  · refine ev_aload_n rfl ?_
                    refine g_getp (r := 1) (c := 6) g30008 ad1 (by decide) (by decide) rf1_7 ft10_7 ?_
                    refine ev_iload_n rfl ?_
                    refine g_lald g30008 ad6 rt6 (by omega) (by omega) (fun v30053 ev30053 lv30053 uv30053 => ?_)
                    refine ev_ret rfl (by decide) (by decide) ?_
                    show jEv _ _ _ _ _ _ _ (_, [(2, 0), (0, a1), (0, a2), (0, a3)], [(1, v30053), (1, 0)], _, _, _)
                    refine ev_iload_n rfl ?_
                    refine ev_call (jcall_s (A := [(0, a3), (1, v30053), (1, 0)]) (S' := []) (by decide) rfl (Nat.le_of_ble_eq_true rfl)) (jOk_le (by decide) (s223 g30008 (by omega) (by omega) (by omega) (by omega) (by omega) (by omega))) (by decide) (by decide) (fun w30054 h30054 q30054 => ?_)
                    obtain ⟨v30055, rfl, lv30055, uv30055, g30054, kk30054⟩ := q30054
                    have k30054 := k30008.tr kk30054 (by decide)
                    show jEv _ _ _ _ _ _ _ (_, [(2, 0), (0, a1), (0, a2), (0, a3)], [(1, v30055)], _, _, _)
                    exact ev_ret rfl (by decide) (by decide) ⟨_, rfl, by omega, by omega, g30054, k30054⟩
                  · refine ev_lconst ?_
                    refine ev_goto f161_22 ?_
                    refine ev_ret rfl (by decide) (by decide) ?_
                    show jEv _ _ _ _ _ _ _ (_, [(2, 0), (0, a1), (0, a2), (0, a3)], [(1, 0), (1, 0)], _, _, _)
                    refine ev_iload_n rfl ?_
                    refine ev_call (jcall_s (A := [(0, a3), (1, 0), (1, 0)]) (S' := []) (by decide) rfl (Nat.le_of_ble_eq_true rfl)) (jOk_le (by decide) (s223 g30008 (by omega) (by omega) (by omega) (by omega) (by omega) (by omega))) (by decide) (by decide) (fun w30056 h30056 q30056 => ?_)
                    obtain ⟨v30057, rfl, lv30057, uv30057, g30056, kk30056⟩ := q30056
                    have k30056 := k30008.tr kk30056 (by decide)
                    show jEv _ _ _ _ _ _ _ (_, [(2, 0), (0, a1), (0, a2), (0, a3)], [(1, v30057)], _, _, _)
                    exact ev_ret rfl (by decide) (by decide) ⟨_, rfl, by omega, by omega, g30056, k30056⟩
          · refine ev_lconst ?_
            refine ev_goto f163_27 ?_
            refine ev_ret rfl (by decide) (by decide) ?_
            show jEv _ _ _ _ _ _ _ (_, [(2, 0), (0, a1), (0, a2), (0, a3)], [(1, 0)], _, _, _)
            refine ev_aload_n rfl ?_
            refine g_getp (r := 0) (c := 1) g30008 ad0 (by decide) (by decide) rf0_0 ft11_0 ?_
            refine ev_iload_n rfl ?_
            refine ev_in (d := 4) (a := 0) (b := 0) (cd' := c161_0) (m := 2) (L0 := [(2, 1), (0, a2)]) (jcall_v (A := [(0, a2)]) (S' := [(1, 0)]) (r := 1) rfl (g30008.lt ad1) (g30008.tg ad1) (Nat.le_of_ble_eq_true rfl)) (by decide) ml161 pp161 (Nat.le_of_ble_eq_true rfl) rfl (by decide) (by decide) ?_
            refine ev_iload_n rfl ?_
            refine ev_iflt f161_12 (fun c30058 => ?_) (fun c30058 => ?_)
            · refine ev_lconst ?_
              refine ev_goto f161_22 ?_
              refine ev_ret rfl (by decide) (by decide) ?_
              show jEv _ _ _ _ _ _ _ (_, [(2, 0), (0, a1), (0, a2), (0, a3)], [(1, 0), (1, 0)], _, _, _)
              refine ev_iload_n rfl ?_
              refine ev_call (jcall_s (A := [(0, a3), (1, 0), (1, 0)]) (S' := []) (by decide) rfl (Nat.le_of_ble_eq_true rfl)) (jOk_le (by decide) (s223 g30008 (by omega) (by omega) (by omega) (by omega) (by omega) (by omega))) (by decide) (by decide) (fun w30059 h30059 q30059 => ?_)
              obtain ⟨v30060, rfl, lv30060, uv30060, g30059, kk30059⟩ := q30059
              have k30059 := k30008.tr kk30059 (by decide)
              show jEv _ _ _ _ _ _ _ (_, [(2, 0), (0, a1), (0, a2), (0, a3)], [(1, v30060)], _, _, _)
              exact ev_ret rfl (by decide) (by decide) ⟨_, rfl, by omega, by omega, g30059, k30059⟩
            · refine ev_iload_n rfl ?_
              refine ev_aload_n rfl ?_
              refine ev_in (d := 3) (a := 0) (b := 0) (cd' := c157_0) (m := 1) (L0 := [(2, 1)]) (jcall_v (A := []) (S' := [(0, a2)]) (r := 1) rfl (g30008.lt ad1) (g30008.tg ad1) (Nat.le_of_ble_eq_true rfl)) (by decide) ml157 pp157 (Nat.le_of_ble_eq_true rfl) rfl (by decide) (by decide) ?_
              refine ev_iconst ?_
              refine ev_iconst ?_
              refine ev_aload_n rfl ?_
              obtain ⟨v30061, ev30061, lv30061, uv30061⟩ := g30008.rd ad1 (show 0 < 8 by decide) rf1_0
              refine g_getv (r := 1) (v := v30061) g30008 ad1 (by decide) ft10_0 ev30061 ?_
              refine ev_imul (r := (2 * v30061)) (by unfold w32; omega) ?_
              refine g_ishlB (a' := 1) (a := 1) (b := 8) (hi := 256) (by omega) (by omega) (by omega) (by omega) (by decide) (by decide) (fun v30062 ev30062 lv30062 uv30062 => ?_)
              refine ev_ret rfl (by decide) (by decide) ?_
              show jEv _ _ _ _ _ _ _ (_, [(2, 1), (0, a2)], [(0, v30062), (0, a2)], _, _, _)
              refine ev_icmplt f161_16 (fun c30063 => ?_) (fun c30063 => ?_)
              · refine ev_aload_n rfl ?_
                refine g_getp (r := 1) (c := 6) g30008 ad1 (by decide) (by decide) rf1_7 ft10_7 ?_
                refine ev_iload_n rfl ?_
                refine g_lald g30008 ad6 rt6 (by omega) (by omega) (fun v30064 ev30064 lv30064 uv30064 => ?_)
                refine ev_ret rfl (by decide) (by decide) ?_
                show jEv _ _ _ _ _ _ _ (_, [(2, 0), (0, a1), (0, a2), (0, a3)], [(1, v30064), (1, 0)], _, _, _)
                refine ev_iload_n rfl ?_
                refine ev_call (jcall_s (A := [(0, a3), (1, v30064), (1, 0)]) (S' := []) (by decide) rfl (Nat.le_of_ble_eq_true rfl)) (jOk_le (by decide) (s223 g30008 (by omega) (by omega) (by omega) (by omega) (by omega) (by omega))) (by decide) (by decide) (fun w30065 h30065 q30065 => ?_)
                obtain ⟨v30066, rfl, lv30066, uv30066, g30065, kk30065⟩ := q30065
                have k30065 := k30008.tr kk30065 (by decide)
                show jEv _ _ _ _ _ _ _ (_, [(2, 0), (0, a1), (0, a2), (0, a3)], [(1, v30066)], _, _, _)
                exact ev_ret rfl (by decide) (by decide) ⟨_, rfl, by omega, by omega, g30065, k30065⟩
              · refine ev_lconst ?_
                refine ev_goto f161_22 ?_
                refine ev_ret rfl (by decide) (by decide) ?_
                show jEv _ _ _ _ _ _ _ (_, [(2, 0), (0, a1), (0, a2), (0, a3)], [(1, 0), (1, 0)], _, _, _)
                refine ev_iload_n rfl ?_
                refine ev_call (jcall_s (A := [(0, a3), (1, 0), (1, 0)]) (S' := []) (by decide) rfl (Nat.le_of_ble_eq_true rfl)) (jOk_le (by decide) (s223 g30008 (by omega) (by omega) (by omega) (by omega) (by omega) (by omega))) (by decide) (by decide) (fun w30067 h30067 q30067 => ?_)
                obtain ⟨v30068, rfl, lv30068, uv30068, g30067, kk30067⟩ := q30067
                have k30067 := k30008.tr kk30067 (by decide)
                show jEv _ _ _ _ _ _ _ (_, [(2, 0), (0, a1), (0, a2), (0, a3)], [(1, v30068)], _, _, _)
                exact ev_ret rfl (by decide) (by decide) ⟨_, rfl, by omega, by omega, g30067, k30067⟩
        · refine ev_ldc2_w ?_
          exact ev_ret rfl (by decide) (by decide) ⟨_, rfl, by omega, by omega, g30008, k30008⟩
      · refine ev_iload_n rfl ?_
        refine ev_iconst ?_
        refine ev_icmpne f221_13 (fun c30069 => ?_) (fun c30069 => ?_)
        · refine ev_iconst ?_
          refine ev_ret rfl (by decide) (by decide) ?_
          show jEv _ _ _ _ _ _ _ (_, [(2, 0), (0, a1), (0, a2), (0, a3)], [(0, 0)], _, _, _)
          refine ev_ifne f171_33 (fun c30070 => absurd c30070 (by omega)) (fun c30070 => ?_)
          refine ev_ldc2_w ?_
          exact ev_ret rfl (by decide) (by decide) ⟨_, rfl, by omega, by omega, g30003, k30003⟩
        · refine ev_iconst ?_
          refine ev_goto f221_14 ?_
          refine ev_ret rfl (by decide) (by decide) ?_
          show jEv _ _ _ _ _ _ _ (_, [(2, 0), (0, a1), (0, a2), (0, a3)], [(0, 1)], _, _, _)
          refine ev_ifne f171_33 (fun c30071 => ?_) (fun c30071 => absurd c30071 (by omega))
          refine ev_aload_n rfl ?_
          refine g_getp (r := 0) (c := 1) g30003 ad0 (by decide) (by decide) rf0_0 ft11_0 ?_
          refine ev_call (jcall_v (A := []) (S' := []) (r := 1) rfl (g30003.lt ad1) (g30003.tg ad1) (Nat.le_of_ble_eq_true rfl)) (jOk_le (by decide) (s153 g30003 )) (by decide) (by decide) (fun w30072 h30072 q30072 => ?_)
          obtain ⟨v30073, rfl, lv30073, uv30073, g30072, kk30072⟩ := q30072
          have k30072 := k30003.tr kk30072 (by decide)
          show jEv _ _ _ _ _ _ _ (_, [(2, 0), (0, a1), (0, a2), (0, a3)], [(0, v30073)], _, _, _)
          refine ev_ifne f171_47 (fun c30074 => ?_) (fun c30074 => ?_)
          · refine ev_aload_n rfl ?_
            refine g_getp (r := 0) (c := 1) g30072 ad0 (by decide) (by decide) rf0_0 ft11_0 ?_
            refine ev_iload_n rfl ?_
            refine ev_iload_n rfl ?_
            refine ev_in (d := 4) (a := 0) (b := 0) (cd' := c163_0) (m := 3) (L0 := [(2, 1), (0, a1), (0, a2)]) (jcall_v (A := [(0, a2), (0, a1)]) (S' := []) (r := 1) rfl (g30072.lt ad1) (g30072.tg ad1) (Nat.le_of_ble_eq_true rfl)) (by decide) ml163 pp163 (Nat.le_of_ble_eq_true rfl) rfl (by decide) (by decide) ?_
            refine ev_iload_n rfl ?_
            refine ev_iload_n rfl ?_
            refine g_ixorG (fun v30075 ev30075 lv30075 uv30075 => ?_)
            refine ev_iload_n rfl ?_
            refine ev_in (d := 3) (a := 0) (b := 0) (cd' := c162_0) (m := 1) (L0 := [(0, a1)]) (jcall_s (A := [(0, a1)]) (S' := [(0, v30075)]) (by decide) rfl (Nat.le_of_ble_eq_true rfl)) (by decide) ml162 pp162 (Nat.le_of_ble_eq_true rfl) rfl (by decide) (by decide) ?_
            refine ev_iload_n rfl ?_
            refine ev_iload_n rfl ?_
            refine ev_iconst ?_
            refine g_ishrG (fun v30076 ev30076 lv30076 uv30076 => ?_)
            refine g_iorG (fun v30077 ev30077 lv30077 uv30077 => ?_)
            refine ev_bipush ?_
            refine g_iandB (b := 85) (by omega) (by omega) (by decide) (fun v30078 ev30078 lv30078 uv30078 => ?_)
            refine ev_iconst ?_
            refine ev_imul (r := (3 * v30078)) (by unfold w32; omega) ?_
            refine ev_ret rfl (by decide) (by decide) ?_
            show jEv _ _ _ _ _ _ _ (_, [(2, 1), (0, a1), (0, a2)], [(0, (3 * v30078)), (0, v30075)], _, _, _)
            refine g_iandB (b := 255) (by omega) (by omega) (by decide) (fun v30079 ev30079 lv30079 uv30079 => ?_)
            refine ev_iload_n rfl ?_
            refine ev_in (d := 3) (a := 0) (b := 0) (cd' := c162_0) (m := 1) (L0 := [(0, a2)]) (jcall_s (A := [(0, a2)]) (S' := [(0, v30079)]) (by decide) rfl (Nat.le_of_ble_eq_true rfl)) (by decide) ml162 pp162 (Nat.le_of_ble_eq_true rfl) rfl (by decide) (by decide) ?_
            refine ev_iload_n rfl ?_
            refine ev_iload_n rfl ?_
            refine ev_iconst ?_
            refine g_ishrG (fun v30080 ev30080 lv30080 uv30080 => ?_)
            refine g_iorG (fun v30081 ev30081 lv30081 uv30081 => ?_)
            refine ev_bipush ?_
            refine g_iandB (b := 85) (by omega) (by omega) (by decide) (fun v30082 ev30082 lv30082 uv30082 => ?_)
            refine ev_iconst ?_
            refine ev_imul (r := (3 * v30082)) (by unfold w32; omega) ?_
            refine ev_ret rfl (by decide) (by decide) ?_
            show jEv _ _ _ _ _ _ _ (_, [(2, 1), (0, a1), (0, a2)], [(0, (3 * v30082)), (0, v30079)], _, _, _)
            refine g_iandB (b := 255) (by omega) (by omega) (by decide) (fun v30083 ev30083 lv30083 uv30083 => ?_)
            refine ev_ifeq f163_20 (fun c30084 => ?_) (fun c30084 => ?_)
            · refine ev_aload_n rfl ?_
              refine ev_iload_n rfl ?_
              refine ev_iload_n rfl ?_
              refine g_iorG (fun v30085 ev30085 lv30085 uv30085 => ?_)
              refine ev_in (d := 3) (a := 0) (b := 0) (cd' := c161_0) (m := 2) (L0 := [(2, 1), (0, v30085)]) (jcall_v (A := [(0, v30085)]) (S' := []) (r := 1) rfl (g30072.lt ad1) (g30072.tg ad1) (Nat.le_of_ble_eq_true rfl)) (by decide) ml161 pp161 (Nat.le_of_ble_eq_true rfl) rfl (by decide) (by decide) ?_
              refine ev_iload_n rfl ?_
              refine ev_iflt f161_12 (fun c30086 => ?_) (fun c30086 => ?_)
              · refine ev_lconst ?_
                refine ev_goto f161_22 ?_
                refine ev_ret rfl (by decide) (by decide) ?_
                show jEv _ _ _ _ _ _ _ (_, [(2, 1), (0, a1), (0, a2)], [(1, 0)], _, _, _)
                refine ev_ret rfl (by decide) (by decide) ?_
                show jEv _ _ _ _ _ _ _ (_, [(2, 0), (0, a1), (0, a2), (0, a3)], [(1, 0)], _, _, _)
                refine ev_aload_n rfl ?_
                refine g_getp (r := 0) (c := 1) g30072 ad0 (by decide) (by decide) rf0_0 ft11_0 ?_
                refine ev_iload_n rfl ?_
                refine ev_in (d := 4) (a := 0) (b := 0) (cd' := c161_0) (m := 2) (L0 := [(2, 1), (0, a2)]) (jcall_v (A := [(0, a2)]) (S' := [(1, 0)]) (r := 1) rfl (g30072.lt ad1) (g30072.tg ad1) (Nat.le_of_ble_eq_true rfl)) (by decide) ml161 pp161 (Nat.le_of_ble_eq_true rfl) rfl (by decide) (by decide) ?_
                refine ev_iload_n rfl ?_
                refine ev_iflt f161_12 (fun c30087 => ?_) (fun c30087 => ?_)
                · refine ev_lconst ?_
                  refine ev_goto f161_22 ?_
                  refine ev_ret rfl (by decide) (by decide) ?_
                  show jEv _ _ _ _ _ _ _ (_, [(2, 0), (0, a1), (0, a2), (0, a3)], [(1, 0), (1, 0)], _, _, _)
                  refine ev_iload_n rfl ?_
                  refine ev_call (jcall_s (A := [(0, a3), (1, 0), (1, 0)]) (S' := []) (by decide) rfl (Nat.le_of_ble_eq_true rfl)) (jOk_le (by decide) (s223 g30072 (by omega) (by omega) (by omega) (by omega) (by omega) (by omega))) (by decide) (by decide) (fun w30088 h30088 q30088 => ?_)
                  obtain ⟨v30089, rfl, lv30089, uv30089, g30088, kk30088⟩ := q30088
                  have k30088 := k30072.tr kk30088 (by decide)
                  show jEv _ _ _ _ _ _ _ (_, [(2, 0), (0, a1), (0, a2), (0, a3)], [(1, v30089)], _, _, _)
                  exact ev_ret rfl (by decide) (by decide) ⟨_, rfl, by omega, by omega, g30088, k30088⟩
                · refine ev_iload_n rfl ?_
                  refine ev_aload_n rfl ?_
                  refine ev_in (d := 3) (a := 0) (b := 0) (cd' := c157_0) (m := 1) (L0 := [(2, 1)]) (jcall_v (A := []) (S' := [(0, a2)]) (r := 1) rfl (g30072.lt ad1) (g30072.tg ad1) (Nat.le_of_ble_eq_true rfl)) (by decide) ml157 pp157 (Nat.le_of_ble_eq_true rfl) rfl (by decide) (by decide) ?_
                  refine ev_iconst ?_
                  refine ev_iconst ?_
                  refine ev_aload_n rfl ?_
                  obtain ⟨v30090, ev30090, lv30090, uv30090⟩ := g30072.rd ad1 (show 0 < 8 by decide) rf1_0
                  refine g_getv (r := 1) (v := v30090) g30072 ad1 (by decide) ft10_0 ev30090 ?_
                  refine ev_imul (r := (2 * v30090)) (by unfold w32; omega) ?_
                  refine g_ishlB (a' := 1) (a := 1) (b := 8) (hi := 256) (by omega) (by omega) (by omega) (by omega) (by decide) (by decide) (fun v30091 ev30091 lv30091 uv30091 => ?_)
                  refine ev_ret rfl (by decide) (by decide) ?_
                  show jEv _ _ _ _ _ _ _ (_, [(2, 1), (0, a2)], [(0, v30091), (0, a2)], _, _, _)
                  refine ev_icmplt f161_16 (fun c30092 => ?_) (fun c30092 => ?_)
                  · refine ev_aload_n rfl ?_
                    refine g_getp (r := 1) (c := 6) g30072 ad1 (by decide) (by decide) rf1_7 ft10_7 ?_
                    refine ev_iload_n rfl ?_
                    refine g_lald g30072 ad6 rt6 (by omega) (by omega) (fun v30093 ev30093 lv30093 uv30093 => ?_)
                    refine ev_ret rfl (by decide) (by decide) ?_
                    show jEv _ _ _ _ _ _ _ (_, [(2, 0), (0, a1), (0, a2), (0, a3)], [(1, v30093), (1, 0)], _, _, _)
                    refine ev_iload_n rfl ?_
                    refine ev_call (jcall_s (A := [(0, a3), (1, v30093), (1, 0)]) (S' := []) (by decide) rfl (Nat.le_of_ble_eq_true rfl)) (jOk_le (by decide) (s223 g30072 (by omega) (by omega) (by omega) (by omega) (by omega) (by omega))) (by decide) (by decide) (fun w30094 h30094 q30094 => ?_)
                    obtain ⟨v30095, rfl, lv30095, uv30095, g30094, kk30094⟩ := q30094
                    have k30094 := k30072.tr kk30094 (by decide)
                    show jEv _ _ _ _ _ _ _ (_, [(2, 0), (0, a1), (0, a2), (0, a3)], [(1, v30095)], _, _, _)
                    exact ev_ret rfl (by decide) (by decide) ⟨_, rfl, by omega, by omega, g30094, k30094⟩
                  · refine ev_lconst ?_
                    refine ev_goto f161_22 ?_
                    refine ev_ret rfl (by decide) (by decide) ?_
                    show jEv _ _ _ _ _ _ _ (_, [(2, 0), (0, a1), (0, a2), (0, a3)], [(1, 0), (1, 0)], _, _, _)
                    refine ev_iload_n rfl ?_
                    refine ev_call (jcall_s (A := [(0, a3), (1, 0), (1, 0)]) (S' := []) (by decide) rfl (Nat.le_of_ble_eq_true rfl)) (jOk_le (by decide) (s223 g30072 (by omega) (by omega) (by omega) (by omega) (by omega) (by omega))) (by decide) (by decide) (fun w30096 h30096 q30096 => ?_)
                    obtain ⟨v30097, rfl, lv30097, uv30097, g30096, kk30096⟩ := q30096
                    have k30096 := k30072.tr kk30096 (by decide)
                    show jEv _ _ _ _ _ _ _ (_, [(2, 0), (0, a1), (0, a2), (0, a3)], [(1, v30097)], _, _, _)
                    exact ev_ret rfl (by decide) (by decide) ⟨_, rfl, by omega, by omega, g30096, k30096⟩
              · refine ev_iload_n rfl ?_
                refine ev_aload_n rfl ?_
                refine ev_in (d := 2) (a := 0) (b := 0) (cd' := c157_0) (m := 1) (L0 := [(2, 1)]) (jcall_v (A := []) (S' := [(0, v30085)]) (r := 1) rfl (g30072.lt ad1) (g30072.tg ad1) (Nat.le_of_ble_eq_true rfl)) (by decide) ml157 pp157 (Nat.le_of_ble_eq_true rfl) rfl (by decide) (by decide) ?_
                refine ev_iconst ?_
                refine ev_iconst ?_
                refine ev_aload_n rfl ?_
                obtain ⟨v30098, ev30098, lv30098, uv30098⟩ := g30072.rd ad1 (show 0 < 8 by decide) rf1_0
                refine g_getv (r := 1) (v := v30098) g30072 ad1 (by decide) ft10_0 ev30098 ?_
                refine ev_imul (r := (2 * v30098)) (by unfold w32; omega) ?_
                refine g_ishlB (a' := 1) (a := 1) (b := 8) (hi := 256) (by omega) (by omega) (by omega) (by omega) (by decide) (by decide) (fun v30099 ev30099 lv30099 uv30099 => ?_)
                refine ev_ret rfl (by decide) (by decide) ?_
                show jEv _ _ _ _ _ _ _ (_, [(2, 1), (0, v30085)], [(0, v30099), (0, v30085)], _, _, _)
                refine ev_icmplt f161_16 (fun c30100 => ?_) (fun c30100 => ?_)
                · refine ev_aload_n rfl ?_
                  refine g_getp (r := 1) (c := 6) g30072 ad1 (by decide) (by decide) rf1_7 ft10_7 ?_
                  refine ev_iload_n rfl ?_
                  refine g_lald g30072 ad6 rt6 (by omega) (by omega) (fun v30101 ev30101 lv30101 uv30101 => ?_)
                  refine ev_ret rfl (by decide) (by decide) ?_
                  show jEv _ _ _ _ _ _ _ (_, [(2, 1), (0, a1), (0, a2)], [(1, v30101)], _, _, _)
                  refine ev_ret rfl (by decide) (by decide) ?_
                  show jEv _ _ _ _ _ _ _ (_, [(2, 0), (0, a1), (0, a2), (0, a3)], [(1, v30101)], _, _, _)
                  refine ev_aload_n rfl ?_
                  refine g_getp (r := 0) (c := 1) g30072 ad0 (by decide) (by decide) rf0_0 ft11_0 ?_
                  refine ev_iload_n rfl ?_
                  refine ev_in (d := 4) (a := 0) (b := 0) (cd' := c161_0) (m := 2) (L0 := [(2, 1), (0, a2)]) (jcall_v (A := [(0, a2)]) (S' := [(1, v30101)]) (r := 1) rfl (g30072.lt ad1) (g30072.tg ad1) (Nat.le_of_ble_eq_true rfl)) (by decide) ml161 pp161 (Nat.le_of_ble_eq_true rfl) rfl (by decide) (by decide) ?_
                  refine ev_iload_n rfl ?_
                  refine ev_iflt f161_12 (fun c30102 => ?_) (fun c30102 => ?_)
                  · refine ev_lconst ?_
                    refine ev_goto f161_22 ?_
                    refine ev_ret rfl (by decide) (by decide) ?_
                    show jEv _ _ _ _ _ _ _ (_, [(2, 0), (0, a1), (0, a2), (0, a3)], [(1, 0), (1, v30101)], _, _, _)
                    refine ev_iload_n rfl ?_
                    refine ev_call (jcall_s (A := [(0, a3), (1, 0), (1, v30101)]) (S' := []) (by decide) rfl (Nat.le_of_ble_eq_true rfl)) (jOk_le (by decide) (s223 g30072 (by omega) (by omega) (by omega) (by omega) (by omega) (by omega))) (by decide) (by decide) (fun w30103 h30103 q30103 => ?_)
                    obtain ⟨v30104, rfl, lv30104, uv30104, g30103, kk30103⟩ := q30103
                    have k30103 := k30072.tr kk30103 (by decide)
                    show jEv _ _ _ _ _ _ _ (_, [(2, 0), (0, a1), (0, a2), (0, a3)], [(1, v30104)], _, _, _)
                    exact ev_ret rfl (by decide) (by decide) ⟨_, rfl, by omega, by omega, g30103, k30103⟩
                  · refine ev_iload_n rfl ?_
                    refine ev_aload_n rfl ?_
                    refine ev_in (d := 3) (a := 0) (b := 0) (cd' := c157_0) (m := 1) (L0 := [(2, 1)]) (jcall_v (A := []) (S' := [(0, a2)]) (r := 1) rfl (g30072.lt ad1) (g30072.tg ad1) (Nat.le_of_ble_eq_true rfl)) (by decide) ml157 pp157 (Nat.le_of_ble_eq_true rfl) rfl (by decide) (by decide) ?_
                    refine ev_iconst ?_
                    refine ev_iconst ?_
                    refine ev_aload_n rfl ?_
                    refine g_getv (r := 1) (v := v30098) g30072 ad1 (by decide) ft10_0 (ev30098) ?_
                    refine ev_imul (r := (2 * v30098)) (by unfold w32; omega) ?_
                    refine g_ishlB (a' := 1) (a := 1) (b := 8) (hi := 256) (by omega) (by omega) (by omega) (by omega) (by decide) (by decide) (fun v30105 ev30105 lv30105 uv30105 => ?_)
                    obtain rfl : v30099 = v30105 := by omega
                    refine ev_ret rfl (by decide) (by decide) ?_
                    show jEv _ _ _ _ _ _ _ (_, [(2, 1), (0, a2)], [(0, v30099), (0, a2)], _, _, _)
                    refine ev_icmplt f161_16 (fun c30106 => ?_) (fun c30106 => ?_)
                    · refine ev_aload_n rfl ?_
                      refine g_getp (r := 1) (c := 6) g30072 ad1 (by decide) (by decide) rf1_7 ft10_7 ?_
                      refine ev_iload_n rfl ?_
                      refine g_lald g30072 ad6 rt6 (by omega) (by omega) (fun v30107 ev30107 lv30107 uv30107 => ?_)
                      refine ev_ret rfl (by decide) (by decide) ?_
                      show jEv _ _ _ _ _ _ _ (_, [(2, 0), (0, a1), (0, a2), (0, a3)], [(1, v30107), (1, v30101)], _, _, _)
                      refine ev_iload_n rfl ?_
                      refine ev_call (jcall_s (A := [(0, a3), (1, v30107), (1, v30101)]) (S' := []) (by decide) rfl (Nat.le_of_ble_eq_true rfl)) (jOk_le (by decide) (s223 g30072 (by omega) (by omega) (by omega) (by omega) (by omega) (by omega))) (by decide) (by decide) (fun w30108 h30108 q30108 => ?_)
                      obtain ⟨v30109, rfl, lv30109, uv30109, g30108, kk30108⟩ := q30108
                      have k30108 := k30072.tr kk30108 (by decide)
                      show jEv _ _ _ _ _ _ _ (_, [(2, 0), (0, a1), (0, a2), (0, a3)], [(1, v30109)], _, _, _)
                      exact ev_ret rfl (by decide) (by decide) ⟨_, rfl, by omega, by omega, g30108, k30108⟩
                    · refine ev_lconst ?_
                      refine ev_goto f161_22 ?_
                      refine ev_ret rfl (by decide) (by decide) ?_
                      show jEv _ _ _ _ _ _ _ (_, [(2, 0), (0, a1), (0, a2), (0, a3)], [(1, 0), (1, v30101)], _, _, _)
                      refine ev_iload_n rfl ?_
                      refine ev_call (jcall_s (A := [(0, a3), (1, 0), (1, v30101)]) (S' := []) (by decide) rfl (Nat.le_of_ble_eq_true rfl)) (jOk_le (by decide) (s223 g30072 (by omega) (by omega) (by omega) (by omega) (by omega) (by omega))) (by decide) (by decide) (fun w30110 h30110 q30110 => ?_)
                      obtain ⟨v30111, rfl, lv30111, uv30111, g30110, kk30110⟩ := q30110
                      have k30110 := k30072.tr kk30110 (by decide)
                      show jEv _ _ _ _ _ _ _ (_, [(2, 0), (0, a1), (0, a2), (0, a3)], [(1, v30111)], _, _, _)
                      exact ev_ret rfl (by decide) (by decide) ⟨_, rfl, by omega, by omega, g30110, k30110⟩
                · refine ev_lconst ?_
                  refine ev_goto f161_22 ?_
                  refine ev_ret rfl (by decide) (by decide) ?_
                  show jEv _ _ _ _ _ _ _ (_, [(2, 1), (0, a1), (0, a2)], [(1, 0)], _, _, _)
                  refine ev_ret rfl (by decide) (by decide) ?_
                  show jEv _ _ _ _ _ _ _ (_, [(2, 0), (0, a1), (0, a2), (0, a3)], [(1, 0)], _, _, _)
                  refine ev_aload_n rfl ?_
                  refine g_getp (r := 0) (c := 1) g30072 ad0 (by decide) (by decide) rf0_0 ft11_0 ?_
                  refine ev_iload_n rfl ?_
                  refine ev_in (d := 4) (a := 0) (b := 0) (cd' := c161_0) (m := 2) (L0 := [(2, 1), (0, a2)]) (jcall_v (A := [(0, a2)]) (S' := [(1, 0)]) (r := 1) rfl (g30072.lt ad1) (g30072.tg ad1) (Nat.le_of_ble_eq_true rfl)) (by decide) ml161 pp161 (Nat.le_of_ble_eq_true rfl) rfl (by decide) (by decide) ?_
                  refine ev_iload_n rfl ?_
                  refine ev_iflt f161_12 (fun c30112 => ?_) (fun c30112 => ?_)
                  · refine ev_lconst ?_
                    refine ev_goto f161_22 ?_
                    refine ev_ret rfl (by decide) (by decide) ?_
                    show jEv _ _ _ _ _ _ _ (_, [(2, 0), (0, a1), (0, a2), (0, a3)], [(1, 0), (1, 0)], _, _, _)
                    refine ev_iload_n rfl ?_
                    refine ev_call (jcall_s (A := [(0, a3), (1, 0), (1, 0)]) (S' := []) (by decide) rfl (Nat.le_of_ble_eq_true rfl)) (jOk_le (by decide) (s223 g30072 (by omega) (by omega) (by omega) (by omega) (by omega) (by omega))) (by decide) (by decide) (fun w30113 h30113 q30113 => ?_)
                    obtain ⟨v30114, rfl, lv30114, uv30114, g30113, kk30113⟩ := q30113
                    have k30113 := k30072.tr kk30113 (by decide)
                    show jEv _ _ _ _ _ _ _ (_, [(2, 0), (0, a1), (0, a2), (0, a3)], [(1, v30114)], _, _, _)
                    exact ev_ret rfl (by decide) (by decide) ⟨_, rfl, by omega, by omega, g30113, k30113⟩
                  · refine ev_iload_n rfl ?_
                    refine ev_aload_n rfl ?_
                    refine ev_in (d := 3) (a := 0) (b := 0) (cd' := c157_0) (m := 1) (L0 := [(2, 1)]) (jcall_v (A := []) (S' := [(0, a2)]) (r := 1) rfl (g30072.lt ad1) (g30072.tg ad1) (Nat.le_of_ble_eq_true rfl)) (by decide) ml157 pp157 (Nat.le_of_ble_eq_true rfl) rfl (by decide) (by decide) ?_
                    refine ev_iconst ?_
                    refine ev_iconst ?_
                    refine ev_aload_n rfl ?_
                    refine g_getv (r := 1) (v := v30098) g30072 ad1 (by decide) ft10_0 (ev30098) ?_
                    refine ev_imul (r := (2 * v30098)) (by unfold w32; omega) ?_
                    refine g_ishlB (a' := 1) (a := 1) (b := 8) (hi := 256) (by omega) (by omega) (by omega) (by omega) (by decide) (by decide) (fun v30115 ev30115 lv30115 uv30115 => ?_)
                    obtain rfl : v30099 = v30115 := by omega
                    refine ev_ret rfl (by decide) (by decide) ?_
                    show jEv _ _ _ _ _ _ _ (_, [(2, 1), (0, a2)], [(0, v30099), (0, a2)], _, _, _)
                    refine ev_icmplt f161_16 (fun c30116 => ?_) (fun c30116 => ?_)
                    · refine ev_aload_n rfl ?_
                      refine g_getp (r := 1) (c := 6) g30072 ad1 (by decide) (by decide) rf1_7 ft10_7 ?_
                      refine ev_iload_n rfl ?_
                      refine g_lald g30072 ad6 rt6 (by omega) (by omega) (fun v30117 ev30117 lv30117 uv30117 => ?_)
                      refine ev_ret rfl (by decide) (by decide) ?_
                      show jEv _ _ _ _ _ _ _ (_, [(2, 0), (0, a1), (0, a2), (0, a3)], [(1, v30117), (1, 0)], _, _, _)
                      refine ev_iload_n rfl ?_
                      refine ev_call (jcall_s (A := [(0, a3), (1, v30117), (1, 0)]) (S' := []) (by decide) rfl (Nat.le_of_ble_eq_true rfl)) (jOk_le (by decide) (s223 g30072 (by omega) (by omega) (by omega) (by omega) (by omega) (by omega))) (by decide) (by decide) (fun w30118 h30118 q30118 => ?_)
                      obtain ⟨v30119, rfl, lv30119, uv30119, g30118, kk30118⟩ := q30118
                      have k30118 := k30072.tr kk30118 (by decide)
                      show jEv _ _ _ _ _ _ _ (_, [(2, 0), (0, a1), (0, a2), (0, a3)], [(1, v30119)], _, _, _)
                      exact ev_ret rfl (by decide) (by decide) ⟨_, rfl, by omega, by omega, g30118, k30118⟩
                    · refine ev_lconst ?_
                      refine ev_goto f161_22 ?_
                      refine ev_ret rfl (by decide) (by decide) ?_
                      show jEv _ _ _ _ _ _ _ (_, [(2, 0), (0, a1), (0, a2), (0, a3)], [(1, 0), (1, 0)], _, _, _)
                      refine ev_iload_n rfl ?_
                      refine ev_call (jcall_s (A := [(0, a3), (1, 0), (1, 0)]) (S' := []) (by decide) rfl (Nat.le_of_ble_eq_true rfl)) (jOk_le (by decide) (s223 g30072 (by omega) (by omega) (by omega) (by omega) (by omega) (by omega))) (by decide) (by decide) (fun w30120 h30120 q30120 => ?_)
                      obtain ⟨v30121, rfl, lv30121, uv30121, g30120, kk30120⟩ := q30120
                      have k30120 := k30072.tr kk30120 (by decide)
                      show jEv _ _ _ _ _ _ _ (_, [(2, 0), (0, a1), (0, a2), (0, a3)], [(1, v30121)], _, _, _)
                      exact ev_ret rfl (by decide) (by decide) ⟨_, rfl, by omega, by omega, g30120, k30120⟩
            · refine ev_lconst ?_
              refine ev_goto f163_27 ?_
              refine ev_ret rfl (by decide) (by decide) ?_
              show jEv _ _ _ _ _ _ _ (_, [(2, 0), (0, a1), (0, a2), (0, a3)], [(1, 0)], _, _, _)
              refine ev_aload_n rfl ?_
              refine g_getp (r := 0) (c := 1) g30072 ad0 (by decide) (by decide) rf0_0 ft11_0 ?_
              refine ev_iload_n rfl ?_
              refine ev_in (d := 4) (a := 0) (b := 0) (cd' := c161_0) (m := 2) (L0 := [(2, 1), (0, a2)]) (jcall_v (A := [(0, a2)]) (S' := [(1, 0)]) (r := 1) rfl (g30072.lt ad1) (g30072.tg ad1) (Nat.le_of_ble_eq_true rfl)) (by decide) ml161 pp161 (Nat.le_of_ble_eq_true rfl) rfl (by decide) (by decide) ?_
              refine ev_iload_n rfl ?_
              refine ev_iflt f161_12 (fun c30122 => ?_) (fun c30122 => ?_)
              · refine ev_lconst ?_
                refine ev_goto f161_22 ?_
                refine ev_ret rfl (by decide) (by decide) ?_
                show jEv _ _ _ _ _ _ _ (_, [(2, 0), (0, a1), (0, a2), (0, a3)], [(1, 0), (1, 0)], _, _, _)
                refine ev_iload_n rfl ?_
                refine ev_call (jcall_s (A := [(0, a3), (1, 0), (1, 0)]) (S' := []) (by decide) rfl (Nat.le_of_ble_eq_true rfl)) (jOk_le (by decide) (s223 g30072 (by omega) (by omega) (by omega) (by omega) (by omega) (by omega))) (by decide) (by decide) (fun w30123 h30123 q30123 => ?_)
                obtain ⟨v30124, rfl, lv30124, uv30124, g30123, kk30123⟩ := q30123
                have k30123 := k30072.tr kk30123 (by decide)
                show jEv _ _ _ _ _ _ _ (_, [(2, 0), (0, a1), (0, a2), (0, a3)], [(1, v30124)], _, _, _)
                exact ev_ret rfl (by decide) (by decide) ⟨_, rfl, by omega, by omega, g30123, k30123⟩
              · refine ev_iload_n rfl ?_
                refine ev_aload_n rfl ?_
                refine ev_in (d := 3) (a := 0) (b := 0) (cd' := c157_0) (m := 1) (L0 := [(2, 1)]) (jcall_v (A := []) (S' := [(0, a2)]) (r := 1) rfl (g30072.lt ad1) (g30072.tg ad1) (Nat.le_of_ble_eq_true rfl)) (by decide) ml157 pp157 (Nat.le_of_ble_eq_true rfl) rfl (by decide) (by decide) ?_
                refine ev_iconst ?_
                refine ev_iconst ?_
                refine ev_aload_n rfl ?_
                obtain ⟨v30125, ev30125, lv30125, uv30125⟩ := g30072.rd ad1 (show 0 < 8 by decide) rf1_0
                refine g_getv (r := 1) (v := v30125) g30072 ad1 (by decide) ft10_0 ev30125 ?_
                refine ev_imul (r := (2 * v30125)) (by unfold w32; omega) ?_
                refine g_ishlB (a' := 1) (a := 1) (b := 8) (hi := 256) (by omega) (by omega) (by omega) (by omega) (by decide) (by decide) (fun v30126 ev30126 lv30126 uv30126 => ?_)
                refine ev_ret rfl (by decide) (by decide) ?_
                show jEv _ _ _ _ _ _ _ (_, [(2, 1), (0, a2)], [(0, v30126), (0, a2)], _, _, _)
                refine ev_icmplt f161_16 (fun c30127 => ?_) (fun c30127 => ?_)
                · refine ev_aload_n rfl ?_
                  refine g_getp (r := 1) (c := 6) g30072 ad1 (by decide) (by decide) rf1_7 ft10_7 ?_
                  refine ev_iload_n rfl ?_
                  refine g_lald g30072 ad6 rt6 (by omega) (by omega) (fun v30128 ev30128 lv30128 uv30128 => ?_)
                  refine ev_ret rfl (by decide) (by decide) ?_
                  show jEv _ _ _ _ _ _ _ (_, [(2, 0), (0, a1), (0, a2), (0, a3)], [(1, v30128), (1, 0)], _, _, _)
                  refine ev_iload_n rfl ?_
                  refine ev_call (jcall_s (A := [(0, a3), (1, v30128), (1, 0)]) (S' := []) (by decide) rfl (Nat.le_of_ble_eq_true rfl)) (jOk_le (by decide) (s223 g30072 (by omega) (by omega) (by omega) (by omega) (by omega) (by omega))) (by decide) (by decide) (fun w30129 h30129 q30129 => ?_)
                  obtain ⟨v30130, rfl, lv30130, uv30130, g30129, kk30129⟩ := q30129
                  have k30129 := k30072.tr kk30129 (by decide)
                  show jEv _ _ _ _ _ _ _ (_, [(2, 0), (0, a1), (0, a2), (0, a3)], [(1, v30130)], _, _, _)
                  exact ev_ret rfl (by decide) (by decide) ⟨_, rfl, by omega, by omega, g30129, k30129⟩
                · refine ev_lconst ?_
                  refine ev_goto f161_22 ?_
                  refine ev_ret rfl (by decide) (by decide) ?_
                  show jEv _ _ _ _ _ _ _ (_, [(2, 0), (0, a1), (0, a2), (0, a3)], [(1, 0), (1, 0)], _, _, _)
                  refine ev_iload_n rfl ?_
                  refine ev_call (jcall_s (A := [(0, a3), (1, 0), (1, 0)]) (S' := []) (by decide) rfl (Nat.le_of_ble_eq_true rfl)) (jOk_le (by decide) (s223 g30072 (by omega) (by omega) (by omega) (by omega) (by omega) (by omega))) (by decide) (by decide) (fun w30131 h30131 q30131 => ?_)
                  obtain ⟨v30132, rfl, lv30132, uv30132, g30131, kk30131⟩ := q30131
                  have k30131 := k30072.tr kk30131 (by decide)
                  show jEv _ _ _ _ _ _ _ (_, [(2, 0), (0, a1), (0, a2), (0, a3)], [(1, v30132)], _, _, _)
                  exact ev_ret rfl (by decide) (by decide) ⟨_, rfl, by omega, by omega, g30131, k30131⟩
          · refine ev_ldc2_w ?_
            exact ev_ret rfl (by decide) (by decide) ⟨_, rfl, by omega, by omega, g30072, k30072⟩
/-! 172 feed -/
set_option maxHeartbeats 4000000 in
theorem s172 {G : GH} {h : JH} (g : Gd G h) {a1 : Int} (la1 : (-2147483648) ≤ a1) (ua1 : a1 ≤ 2147483647) {a2 : Int} (la2 : (-2147483648) ≤ a2) (ua2 : a2 ≤ 2147483647) : jOk 2 0 0 172 [(2, 0), (0, a1), (0, a2)] h (PI G [(7, 1), (8, 0)] h 0 (-3) 200) := by
  refine ⟨by decide, by rw [ml172]; exact Nat.le_of_ble_eq_true rfl, ?_⟩
  rw [ml172, pp172]
  show jEv _ none _ c172_0 0 0 _ (c172_0, [(2, 0), (0, a1), (0, a2)], [], h, 0, 0)
  have k0 := Kp.rf [(7, 1), (8, 0)] h
  refine ev_iload_n rfl ?_
  refine ev_iconst ?_
  refine ev_icmplt f172_10 (fun c30149 => ?_) (fun c30149 => ?_)
  · refine ev_iconst ?_
    exact ev_ret rfl (by decide) (by decide) ⟨_, rfl, by omega, by omega, g, k0⟩
  · refine ev_iload_n rfl ?_
    refine ev_iconst ?_
    refine ev_icmple f172_12 (fun c30150 => ?_) (fun c30150 => ?_)
    · refine ev_aload_n rfl ?_
      refine g_getp (r := 0) (c := 7) g ad0 (by decide) (by decide) rf0_1 ft11_1 ?_
      refine ev_iload_n rfl ?_
      refine ev_in (d := 0) (a := 0) (b := 0) (cd' := c63_0) (m := 2) (L0 := [(2, 7), (0, a1)]) (jcall_v (A := [(0, a1)]) (S' := []) (r := 7) rfl (g.lt ad7) (g.tg ad7) (Nat.le_of_ble_eq_true rfl)) (by decide) ml63 pp63 (Nat.le_of_ble_eq_true rfl) rfl (by decide) (by decide) ?_
      refine ev_iload_n rfl ?_
      refine ev_sipush ?_
      refine ev_aload_n rfl ?_
      obtain ⟨v30151, ev30151, lv30151, uv30151⟩ := g.rd ad7 (show 0 < 15 by decide) rf7_0
      refine g_getv (r := 7) (v := v30151) g ad7 (by decide) ft5_0 ev30151 ?_
      refine ev_isub (r := ((-v30151) + 200)) (by unfold w32; omega) ?_
      refine ev_icmpgt f63_16 (fun c30152 => ?_) (fun c30152 => ?_)
      · refine ev_iconst ?_
        refine ev_ret rfl (by decide) (by decide) ?_
        show jEv _ _ _ _ _ _ _ (_, [(2, 0), (0, a1), (0, a2)], [(0, 0)], _, _, _)
        refine ev_ifeq f172_35 (fun c30153 => ?_) (fun c30153 => absurd c30153 (by omega))
        refine ev_bipush ?_
        exact ev_ret rfl (by decide) (by decide) ⟨_, rfl, by omega, by omega, g, k0⟩
      · refine ev_iconst ?_
        refine ev_goto f63_17 ?_
        refine ev_ret rfl (by decide) (by decide) ?_
        show jEv _ _ _ _ _ _ _ (_, [(2, 0), (0, a1), (0, a2)], [(0, 1)], _, _, _)
        refine ev_ifeq f172_35 (fun c30154 => absurd c30154 (by omega)) (fun c30154 => ?_)
        refine ev_aload_n rfl ?_
        refine g_getp (r := 0) (c := 7) g ad0 (by decide) (by decide) rf0_1 ft11_1 ?_
        refine ev_iload_n rfl ?_
        refine ev_iload_n rfl ?_
        refine ev_call (jcall_v (A := [(0, a2), (0, a1)]) (S' := []) (r := 7) rfl (g.lt ad7) (g.tg ad7) (Nat.le_of_ble_eq_true rfl)) (jOk_le (by decide) (s64 g (by omega) (by omega) (by omega) (by omega))) (by decide) (by decide) (fun w30155 h30155 q30155 => ?_)
        obtain ⟨v30156, rfl, lv30156, uv30156, g30155, kk30155⟩ := q30155
        have k30155 := k0.tr kk30155 (by decide)
        show jEv _ _ _ _ _ _ _ (_, [(2, 0), (0, a1), (0, a2)], [(0, v30156)], _, _, _)
        refine ev_goto f172_37 ?_
        exact ev_ret rfl (by decide) (by decide) ⟨_, rfl, by omega, by omega, g30155, k30155⟩
    · refine ev_iconst ?_
      exact ev_ret rfl (by decide) (by decide) ⟨_, rfl, by omega, by omega, g, k0⟩
/-! 174 node -/
set_option maxHeartbeats 4000000 in
theorem s174 {G : GH} {h : JH} (g : Gd G h) {a1 : Int} (la1 : (-2147483648) ≤ a1) (ua1 : a1 ≤ 2147483647) {a2 : Int} (la2 : (-2147483648) ≤ a2) (ua2 : a2 ≤ 2147483647) {a3 : Int} (la3 : (-2147483648) ≤ a3) (ua3 : a3 ≤ 2147483647) : jOk 4 0 0 174 [(2, 0), (0, a1), (0, a2), (0, a3)] h (PI G [] h 0 (-2147483648) 2147483647) := by
  refine ⟨by decide, by rw [ml174]; exact Nat.le_of_ble_eq_true rfl, ?_⟩
  rw [ml174, pp174]
  show jEv _ none _ c174_0 0 0 _ (c174_0, [(2, 0), (0, a1), (0, a2), (0, a3), (9, 0)], [], h, 0, 0)
  have k0 := Kp.rf [] h
  refine ev_aload_n rfl ?_
  refine ev_iload_n rfl ?_
  refine ev_in (d := 2) (a := 0) (b := 0) (cd' := c219_0) (m := 2) (L0 := [(2, 0), (0, a1)]) (jcall_v (A := [(0, a1)]) (S' := []) (r := 0) rfl (g.lt ad0) (g.tg ad0) (Nat.le_of_ble_eq_true rfl)) (by decide) ml219 pp219 (Nat.le_of_ble_eq_true rfl) rfl (by decide) (by decide) ?_
  refine ev_iload_n rfl ?_
  refine ev_iflt f219_12 (fun c30281 => ?_) (fun c30281 => ?_)
  · refine ev_aconst_null ?_
    refine ev_goto f219_22 ?_
    refine ev_ret rfl (by decide) (by decide) ?_
    show jEv _ _ _ _ _ _ _ (_, [(2, 0), (0, a1), (0, a2), (0, a3), (9, 0)], [(2, (-1))], _, _, _)
    refine ev_astore (L' := [(2, 0), (0, a1), (0, a2), (0, a3), (2, (-1))]) (Nat.le_of_ble_eq_true rfl) rfl ?_
    refine ev_aload rfl ?_
    refine ev_ifnonnull f174_15 (fun c30282 => absurd c30282 (by decide)) (fun c30282 => ?_)
    refine ev_ldc ?_
    exact ev_ret rfl (by decide) (by decide) ⟨_, rfl, by omega, by omega, g, k0⟩
  · refine ev_iload_n rfl ?_
    refine ev_aload_n rfl ?_
    obtain ⟨v30283, ev30283, lv30283, uv30283⟩ := g.rd ad0 (show 3 < 17 by decide) rf0_3
    refine g_getv (r := 0) (v := v30283) g ad0 (by decide) ft11_3 ev30283 ?_
    refine ev_icmplt f219_16 (fun c30284 => ?_) (fun c30284 => ?_)
    · refine ev_aload_n rfl ?_
      refine g_getp (r := 0) (c := 18) g ad0 (by decide) (by decide) rf0_2 ft11_2 ?_
      refine ev_iload_n rfl ?_
      refine g_qaald (g) (i := a1) (ev30283) (by omega) (by omega) (fun r30285 m30286 qr30285 => ?_)
      have wr30285 := g.qb qr30285
      have zr30285 := qr30285.1
      refine ev_ret rfl (by decide) (by decide) ?_
      show jEv _ _ _ _ _ _ _ (_, [(2, 0), (0, a1), (0, a2), (0, a3), (9, 0)], [(2, (r30285 : Int))], _, _, _)
      refine ev_astore (L' := [(2, 0), (0, a1), (0, a2), (0, a3), (2, (r30285 : Int))]) (Nat.le_of_ble_eq_true rfl) rfl ?_
      refine ev_aload rfl ?_
      refine ev_ifnonnull f174_15 (fun c30287 => ?_) (fun c30287 => absurd c30287 (by omega))
      refine ev_iload_n rfl ?_
      refine ev_iconst ?_
      refine ev_icmpne f174_26 (fun c30288 => ?_) (fun c30288 => ?_)
      · refine ev_aload rfl ?_
        refine ev_iload_n rfl ?_
        refine ev_in (d := 2) (a := 0) (b := 0) (cd' := c24_0) (m := 2) (L0 := [(2, (r30285 : Int)), (0, a2)]) (jcall_v (A := [(0, a2)]) (S' := []) (r := r30285) rfl (g.qlt qr30285) (g.qtg qr30285) (Nat.le_of_ble_eq_true rfl)) (by decide) ml24 pp24 (Nat.le_of_ble_eq_true rfl) rfl (by decide) (by decide) ?_
        refine ev_iload_n rfl ?_
        refine ev_iflt f24_16 (fun c30289 => ?_) (fun c30289 => ?_)
        · refine ev_iconst ?_
          refine ev_ret rfl (by decide) (by decide) ?_
          show jEv _ _ _ _ _ _ _ (_, [(2, 0), (0, a1), (0, a2), (0, a3), (2, (r30285 : Int))], [(0, 0)], _, _, _)
          refine ev_ifne f174_38 (fun c30290 => absurd c30290 (by omega)) (fun c30290 => ?_)
          refine ev_ldc ?_
          exact ev_ret rfl (by decide) (by decide) ⟨_, rfl, by omega, by omega, g, k0⟩
        · refine ev_iload_n rfl ?_
          refine ev_aload_n rfl ?_
          obtain ⟨v30291, ev30291, lv30291, uv30291⟩ := g.q0 qr30285
          refine g_qgetv (v := v30291) g qr30285 ft4_0 ev30291 ?_
          refine ev_icmpge f24_16 (fun c30292 => ?_) (fun c30292 => ?_)
          · refine ev_iconst ?_
            refine ev_ret rfl (by decide) (by decide) ?_
            show jEv _ _ _ _ _ _ _ (_, [(2, 0), (0, a1), (0, a2), (0, a3), (2, (r30285 : Int))], [(0, 0)], _, _, _)
            refine ev_ifne f174_38 (fun c30293 => absurd c30293 (by omega)) (fun c30293 => ?_)
            refine ev_ldc ?_
            exact ev_ret rfl (by decide) (by decide) ⟨_, rfl, by omega, by omega, g, k0⟩
          · refine ev_iconst ?_
            refine ev_goto f24_17 ?_
            refine ev_ret rfl (by decide) (by decide) ?_
            show jEv _ _ _ _ _ _ _ (_, [(2, 0), (0, a1), (0, a2), (0, a3), (2, (r30285 : Int))], [(0, 1)], _, _, _)
            refine ev_ifne f174_38 (fun c30294 => ?_) (fun c30294 => absurd c30294 (by omega))
            refine ev_iload_n rfl ?_
            refine ev_ifne f174_49 (fun c30295 => ?_) (fun c30295 => ?_)
            · refine ev_iload_n rfl ?_
              refine ev_iconst ?_
              refine ev_icmpne f174_80 (fun c30296 => ?_) (fun c30296 => ?_)
              · refine ev_iload_n rfl ?_
                refine ev_bipush ?_
                refine ev_icmplt f174_110 (fun c30297 => ?_) (fun c30297 => ?_)
                · refine ev_iload_n rfl ?_
                  refine ev_bipush ?_
                  refine ev_icmplt f174_142 (fun c30298 => ?_) (fun c30298 => ?_)
                  · refine ev_ldc ?_
                    exact ev_ret rfl (by decide) (by decide) ⟨_, rfl, by omega, by omega, g, k0⟩
                  · refine ev_aload rfl ?_
                    refine ev_iload_n rfl ?_
                    refine ev_iload_n rfl ?_
                    refine ev_bipush ?_
                    refine ev_isub (r := (a3 - 10)) (by unfold w32; omega) ?_
                    refine ev_in (d := 2) (a := 0) (b := 0) (cd' := c25_0) (m := 3) (L0 := [(2, (r30285 : Int)), (0, a2), (0, (a3 - 10))]) (jcall_v (A := [(0, (a3 - 10)), (0, a2)]) (S' := []) (r := r30285) rfl (g.qlt qr30285) (g.qtg qr30285) (Nat.le_of_ble_eq_true rfl)) (by decide) ml25 pp25 (Nat.le_of_ble_eq_true rfl) rfl (by decide) (by decide) ?_
                    refine ev_aload_n rfl ?_
                    refine ev_iload_n rfl ?_
                    refine ev_in (d := 1) (a := 0) (b := 0) (cd' := c24_0) (m := 2) (L0 := [(2, (r30285 : Int)), (0, a2)]) (jcall_v (A := [(0, a2)]) (S' := []) (r := r30285) rfl (g.qlt qr30285) (g.qtg qr30285) (Nat.le_of_ble_eq_true rfl)) (by decide) ml24 pp24 (Nat.le_of_ble_eq_true rfl) rfl (by decide) (by decide) ?_
                    refine ev_iload_n rfl ?_
                    refine ev_iflt f24_16 (fun c30299 => absurd c30299 (by omega)) (fun c30299 => ?_)
                    refine ev_iload_n rfl ?_
                    refine ev_aload_n rfl ?_
                    refine g_qgetv (v := v30291) g qr30285 ft4_0 (ev30291) ?_
                    refine ev_icmpge f24_16 (fun c30300 => absurd c30300 (by omega)) (fun c30300 => ?_)
                    refine ev_iconst ?_
                    refine ev_goto f24_17 ?_
                    refine ev_ret rfl (by decide) (by decide) ?_
                    show jEv _ _ _ _ _ _ _ (_, [(2, (r30285 : Int)), (0, a2), (0, (a3 - 10))], [(0, 1)], _, _, _)
                    refine ev_ifeq f25_26 (fun c30301 => absurd c30301 (by omega)) (fun c30301 => ?_)
                    refine ev_iload_n rfl ?_
                    refine ev_iflt f25_26 (fun c30302 => absurd c30302 (by omega)) (fun c30302 => ?_)
                    refine ev_iload_n rfl ?_
                    refine ev_aload_n rfl ?_
                    refine g_qgetp g qr30285 (c := 4) (by decide) (by decide) ft4_4 ?_
                    refine ev_iload_n rfl ?_
                    refine g_qiald g qr30285 (c := 4) (by decide) (by decide) (by decide) (by omega) (by show a2 < m30286; omega) rfl (fun v30303 ev30303 lv30303 uv30303 => ?_)
                    refine ev_icmpge f25_26 (fun c30304 => ?_) (fun c30304 => ?_)
                    · refine ev_iconst ?_
                      refine ev_ret rfl (by decide) (by decide) ?_
                      show jEv _ _ _ _ _ _ _ (_, [(2, 0), (0, a1), (0, a2), (0, a3), (2, (r30285 : Int))], [(0, 0)], _, _, _)
                      refine ev_ifeq f174_142 (fun c30305 => ?_) (fun c30305 => absurd c30305 (by omega))
                      refine ev_ldc ?_
                      exact ev_ret rfl (by decide) (by decide) ⟨_, rfl, by omega, by omega, g, k0⟩
                    · refine ev_iconst ?_
                      refine ev_goto f25_27 ?_
                      refine ev_ret rfl (by decide) (by decide) ?_
                      show jEv _ _ _ _ _ _ _ (_, [(2, 0), (0, a1), (0, a2), (0, a3), (2, (r30285 : Int))], [(0, 1)], _, _, _)
                      refine ev_ifeq f174_142 (fun c30306 => absurd c30306 (by omega)) (fun c30306 => ?_)
                      refine ev_aload rfl ?_
                      refine ev_iload_n rfl ?_
                      refine ev_iload_n rfl ?_
                      refine ev_bipush ?_
                      refine ev_isub (r := (a3 - 10)) (by unfold w32; omega) ?_
                      refine ev_in (d := 2) (a := 0) (b := 0) (cd' := c30_0) (m := 3) (L0 := [(2, (r30285 : Int)), (0, a2), (0, (a3 - 10))]) (jcall_v (A := [(0, (a3 - 10)), (0, a2)]) (S' := []) (r := r30285) rfl (g.qlt qr30285) (g.qtg qr30285) (Nat.le_of_ble_eq_true rfl)) (by decide) ml30 pp30 (Nat.le_of_ble_eq_true rfl) rfl (by decide) (by decide) ?_
                      refine ev_aload_n rfl ?_
                      refine g_qgetp g qr30285 (c := 5) (by decide) (by decide) ft4_5 ?_
                      refine ev_iconst ?_
                      refine ev_iload_n rfl ?_
                      refine ev_imul (r := (4 * a2)) (by unfold w32; omega) ?_
                      refine ev_iload_n rfl ?_
                      refine ev_iadd (r := (4 * a2 + a3 - 10)) (by unfold w32; omega) ?_
                      refine g_qiald g qr30285 (c := 5) (by decide) (by decide) (by decide) (by omega) (by show (4 * a2 + a3 - 10) < 4 * m30286; omega) rfl (fun v30307 ev30307 lv30307 uv30307 => ?_)
                      refine ev_ret rfl (by decide) (by decide) ?_
                      show jEv _ _ _ _ _ _ _ (_, [(2, 0), (0, a1), (0, a2), (0, a3), (2, (r30285 : Int))], [(0, v30307)], _, _, _)
                      refine ev_goto f174_144 ?_
                      exact ev_ret rfl (by decide) (by decide) ⟨_, rfl, by omega, by omega, g, k0⟩
                · refine ev_aload rfl ?_
                  refine ev_iload_n rfl ?_
                  refine ev_iload_n rfl ?_
                  refine ev_bipush ?_
                  refine ev_isub (r := (a3 - 20)) (by unfold w32; omega) ?_
                  refine ev_in (d := 2) (a := 0) (b := 0) (cd' := c26_0) (m := 3) (L0 := [(2, (r30285 : Int)), (0, a2), (0, (a3 - 20))]) (jcall_v (A := [(0, (a3 - 20)), (0, a2)]) (S' := []) (r := r30285) rfl (g.qlt qr30285) (g.qtg qr30285) (Nat.le_of_ble_eq_true rfl)) (by decide) ml26 pp26 (Nat.le_of_ble_eq_true rfl) rfl (by decide) (by decide) ?_
                  refine ev_aload_n rfl ?_
                  refine ev_iload_n rfl ?_
                  refine ev_iload_n rfl ?_
                  refine ev_in (d := 1) (a := 0) (b := 0) (cd' := c25_0) (m := 3) (L0 := [(2, (r30285 : Int)), (0, a2), (0, (a3 - 20))]) (jcall_v (A := [(0, (a3 - 20)), (0, a2)]) (S' := []) (r := r30285) rfl (g.qlt qr30285) (g.qtg qr30285) (Nat.le_of_ble_eq_true rfl)) (by decide) ml25 pp25 (Nat.le_of_ble_eq_true rfl) rfl (by decide) (by decide) ?_
                  refine ev_aload_n rfl ?_
                  refine ev_iload_n rfl ?_
                  refine ev_in (d := 0) (a := 0) (b := 0) (cd' := c24_0) (m := 2) (L0 := [(2, (r30285 : Int)), (0, a2)]) (jcall_v (A := [(0, a2)]) (S' := []) (r := r30285) rfl (g.qlt qr30285) (g.qtg qr30285) (Nat.le_of_ble_eq_true rfl)) (by decide) ml24 pp24 (Nat.le_of_ble_eq_true rfl) rfl (by decide) (by decide) ?_
                  refine ev_iload_n rfl ?_
                  refine ev_iflt f24_16 (fun c30308 => absurd c30308 (by omega)) (fun c30308 => ?_)
                  refine ev_iload_n rfl ?_
                  refine ev_aload_n rfl ?_
                  refine g_qgetv (v := v30291) g qr30285 ft4_0 (ev30291) ?_
                  refine ev_icmpge f24_16 (fun c30309 => absurd c30309 (by omega)) (fun c30309 => ?_)
                  refine ev_iconst ?_
                  refine ev_goto f24_17 ?_
                  refine ev_ret rfl (by decide) (by decide) ?_
                  show jEv _ _ _ _ _ _ _ (_, [(2, (r30285 : Int)), (0, a2), (0, (a3 - 20))], [(0, 1)], _, _, _)
                  refine ev_ifeq f25_26 (fun c30310 => absurd c30310 (by omega)) (fun c30310 => ?_)
                  refine ev_iload_n rfl ?_
                  refine ev_iflt f25_26 (fun c30311 => absurd c30311 (by omega)) (fun c30311 => ?_)
                  refine ev_iload_n rfl ?_
                  refine ev_aload_n rfl ?_
                  refine g_qgetp g qr30285 (c := 4) (by decide) (by decide) ft4_4 ?_
                  refine ev_iload_n rfl ?_
                  refine g_qiald g qr30285 (c := 4) (by decide) (by decide) (by decide) (by omega) (by show a2 < m30286; omega) rfl (fun v30312 ev30312 lv30312 uv30312 => ?_)
                  refine ev_icmpge f25_26 (fun c30313 => ?_) (fun c30313 => ?_)
                  · refine ev_iconst ?_
                    refine ev_ret rfl (by decide) (by decide) ?_
                    show jEv _ _ _ _ _ _ _ (_, [(2, (r30285 : Int)), (0, a2), (0, (a3 - 20))], [(0, 0)], _, _, _)
                    refine ev_ifeq f26_23 (fun c30314 => ?_) (fun c30314 => absurd c30314 (by omega))
                    refine ev_iconst ?_
                    refine ev_ret rfl (by decide) (by decide) ?_
                    show jEv _ _ _ _ _ _ _ (_, [(2, 0), (0, a1), (0, a2), (0, a3), (2, (r30285 : Int))], [(0, 0)], _, _, _)
                    refine ev_ifeq f174_110 (fun c30315 => ?_) (fun c30315 => absurd c30315 (by omega))
                    refine ev_iload_n rfl ?_
                    refine ev_bipush ?_
                    refine ev_icmplt f174_142 (fun c30316 => absurd c30316 (by omega)) (fun c30316 => ?_)
                    refine ev_aload rfl ?_
                    refine ev_iload_n rfl ?_
                    refine ev_iload_n rfl ?_
                    refine ev_bipush ?_
                    refine ev_isub (r := (a3 - 10)) (by unfold w32; omega) ?_
                    refine ev_in (d := 2) (a := 0) (b := 0) (cd' := c25_0) (m := 3) (L0 := [(2, (r30285 : Int)), (0, a2), (0, (a3 - 10))]) (jcall_v (A := [(0, (a3 - 10)), (0, a2)]) (S' := []) (r := r30285) rfl (g.qlt qr30285) (g.qtg qr30285) (Nat.le_of_ble_eq_true rfl)) (by decide) ml25 pp25 (Nat.le_of_ble_eq_true rfl) rfl (by decide) (by decide) ?_
                    refine ev_aload_n rfl ?_
                    refine ev_iload_n rfl ?_
                    refine ev_in (d := 1) (a := 0) (b := 0) (cd' := c24_0) (m := 2) (L0 := [(2, (r30285 : Int)), (0, a2)]) (jcall_v (A := [(0, a2)]) (S' := []) (r := r30285) rfl (g.qlt qr30285) (g.qtg qr30285) (Nat.le_of_ble_eq_true rfl)) (by decide) ml24 pp24 (Nat.le_of_ble_eq_true rfl) rfl (by decide) (by decide) ?_
                    refine ev_iload_n rfl ?_
                    refine ev_iflt f24_16 (fun c30317 => absurd c30317 (by omega)) (fun c30317 => ?_)
                    refine ev_iload_n rfl ?_
                    refine ev_aload_n rfl ?_
                    refine g_qgetv (v := v30291) g qr30285 ft4_0 (ev30291) ?_
                    refine ev_icmpge f24_16 (fun c30318 => absurd c30318 (by omega)) (fun c30318 => ?_)
                    refine ev_iconst ?_
                    refine ev_goto f24_17 ?_
                    refine ev_ret rfl (by decide) (by decide) ?_
                    show jEv _ _ _ _ _ _ _ (_, [(2, (r30285 : Int)), (0, a2), (0, (a3 - 10))], [(0, 1)], _, _, _)
                    refine ev_ifeq f25_26 (fun c30319 => absurd c30319 (by omega)) (fun c30319 => ?_)
                    refine ev_iload_n rfl ?_
                    refine ev_iflt f25_26 (fun c30320 => absurd c30320 (by omega)) (fun c30320 => ?_)
                    refine ev_iload_n rfl ?_
                    refine ev_aload_n rfl ?_
                    refine g_qgetp g qr30285 (c := 4) (by decide) (by decide) ft4_4 ?_
                    refine ev_iload_n rfl ?_
                    refine g_qialdv (v := v30312) g qr30285 (c := 4) (by decide) (by decide) (by decide) (by omega) (by show a2 < m30286; omega) (ev30312) ?_
                    refine ev_icmpge f25_26 (fun c30321 => ?_) (fun c30321 => absurd c30321 (by omega))
                    refine ev_iconst ?_
                    refine ev_ret rfl (by decide) (by decide) ?_
                    show jEv _ _ _ _ _ _ _ (_, [(2, 0), (0, a1), (0, a2), (0, a3), (2, (r30285 : Int))], [(0, 0)], _, _, _)
                    refine ev_ifeq f174_142 (fun c30322 => ?_) (fun c30322 => absurd c30322 (by omega))
                    refine ev_ldc ?_
                    exact ev_ret rfl (by decide) (by decide) ⟨_, rfl, by omega, by omega, g, k0⟩
                  · refine ev_iconst ?_
                    refine ev_goto f25_27 ?_
                    refine ev_ret rfl (by decide) (by decide) ?_
                    show jEv _ _ _ _ _ _ _ (_, [(2, (r30285 : Int)), (0, a2), (0, (a3 - 20))], [(0, 1)], _, _, _)
                    refine ev_ifeq f26_23 (fun c30323 => absurd c30323 (by omega)) (fun c30323 => ?_)
                    refine ev_aload_n rfl ?_
                    refine g_qgetp g qr30285 (c := 2) (by decide) (by decide) ft4_2 ?_
                    refine ev_iload_n rfl ?_
                    refine g_qiald g qr30285 (c := 2) (by decide) (by decide) (by decide) (by omega) (by show a2 < m30286; omega) rfl (fun v30324 ev30324 lv30324 uv30324 => ?_)
                    refine ev_iconst ?_
                    refine ev_icmpne f26_23 (fun c30325 => ?_) (fun c30325 => ?_)
                    · refine ev_iconst ?_
                      refine ev_ret rfl (by decide) (by decide) ?_
                      show jEv _ _ _ _ _ _ _ (_, [(2, 0), (0, a1), (0, a2), (0, a3), (2, (r30285 : Int))], [(0, 0)], _, _, _)
                      refine ev_ifeq f174_110 (fun c30326 => ?_) (fun c30326 => absurd c30326 (by omega))
                      refine ev_iload_n rfl ?_
                      refine ev_bipush ?_
                      refine ev_icmplt f174_142 (fun c30327 => absurd c30327 (by omega)) (fun c30327 => ?_)
                      refine ev_aload rfl ?_
                      refine ev_iload_n rfl ?_
                      refine ev_iload_n rfl ?_
                      refine ev_bipush ?_
                      refine ev_isub (r := (a3 - 10)) (by unfold w32; omega) ?_
                      refine ev_in (d := 2) (a := 0) (b := 0) (cd' := c25_0) (m := 3) (L0 := [(2, (r30285 : Int)), (0, a2), (0, (a3 - 10))]) (jcall_v (A := [(0, (a3 - 10)), (0, a2)]) (S' := []) (r := r30285) rfl (g.qlt qr30285) (g.qtg qr30285) (Nat.le_of_ble_eq_true rfl)) (by decide) ml25 pp25 (Nat.le_of_ble_eq_true rfl) rfl (by decide) (by decide) ?_
                      refine ev_aload_n rfl ?_
                      refine ev_iload_n rfl ?_
                      refine ev_in (d := 1) (a := 0) (b := 0) (cd' := c24_0) (m := 2) (L0 := [(2, (r30285 : Int)), (0, a2)]) (jcall_v (A := [(0, a2)]) (S' := []) (r := r30285) rfl (g.qlt qr30285) (g.qtg qr30285) (Nat.le_of_ble_eq_true rfl)) (by decide) ml24 pp24 (Nat.le_of_ble_eq_true rfl) rfl (by decide) (by decide) ?_
                      refine ev_iload_n rfl ?_
                      refine ev_iflt f24_16 (fun c30328 => absurd c30328 (by omega)) (fun c30328 => ?_)
                      refine ev_iload_n rfl ?_
                      refine ev_aload_n rfl ?_
                      refine g_qgetv (v := v30291) g qr30285 ft4_0 (ev30291) ?_
                      refine ev_icmpge f24_16 (fun c30329 => absurd c30329 (by omega)) (fun c30329 => ?_)
                      refine ev_iconst ?_
                      refine ev_goto f24_17 ?_
                      refine ev_ret rfl (by decide) (by decide) ?_
                      show jEv _ _ _ _ _ _ _ (_, [(2, (r30285 : Int)), (0, a2), (0, (a3 - 10))], [(0, 1)], _, _, _)
                      refine ev_ifeq f25_26 (fun c30330 => absurd c30330 (by omega)) (fun c30330 => ?_)
                      refine ev_iload_n rfl ?_
                      refine ev_iflt f25_26 (fun c30331 => absurd c30331 (by omega)) (fun c30331 => ?_)
                      refine ev_iload_n rfl ?_
                      refine ev_aload_n rfl ?_
                      refine g_qgetp g qr30285 (c := 4) (by decide) (by decide) ft4_4 ?_
                      refine ev_iload_n rfl ?_
                      refine g_qialdv (v := v30312) g qr30285 (c := 4) (by decide) (by decide) (by decide) (by omega) (by show a2 < m30286; omega) (ev30312) ?_
                      refine ev_icmpge f25_26 (fun c30332 => ?_) (fun c30332 => absurd c30332 (by omega))
                      refine ev_iconst ?_
                      refine ev_ret rfl (by decide) (by decide) ?_
                      show jEv _ _ _ _ _ _ _ (_, [(2, 0), (0, a1), (0, a2), (0, a3), (2, (r30285 : Int))], [(0, 0)], _, _, _)
                      refine ev_ifeq f174_142 (fun c30333 => ?_) (fun c30333 => absurd c30333 (by omega))
                      refine ev_ldc ?_
                      exact ev_ret rfl (by decide) (by decide) ⟨_, rfl, by omega, by omega, g, k0⟩
                    · refine ev_iconst ?_
                      refine ev_goto f26_24 ?_
                      refine ev_ret rfl (by decide) (by decide) ?_
                      show jEv _ _ _ _ _ _ _ (_, [(2, 0), (0, a1), (0, a2), (0, a3), (2, (r30285 : Int))], [(0, 1)], _, _, _)
                      refine ev_ifeq f174_110 (fun c30334 => absurd c30334 (by omega)) (fun c30334 => ?_)
                      refine ev_aload rfl ?_
                      refine ev_iload_n rfl ?_
                      refine ev_iload_n rfl ?_
                      refine ev_bipush ?_
                      refine ev_isub (r := (a3 - 20)) (by unfold w32; omega) ?_
                      refine ev_in (d := 2) (a := 0) (b := 0) (cd' := c31_0) (m := 3) (L0 := [(2, (r30285 : Int)), (0, a2), (0, (a3 - 20))]) (jcall_v (A := [(0, (a3 - 20)), (0, a2)]) (S' := []) (r := r30285) rfl (g.qlt qr30285) (g.qtg qr30285) (Nat.le_of_ble_eq_true rfl)) (by decide) ml31 pp31 (Nat.le_of_ble_eq_true rfl) rfl (by decide) (by decide) ?_
                      refine ev_aload_n rfl ?_
                      refine g_qgetp g qr30285 (c := 6) (by decide) (by decide) ft4_6 ?_
                      refine ev_iconst ?_
                      refine ev_iload_n rfl ?_
                      refine ev_imul (r := (4 * a2)) (by unfold w32; omega) ?_
                      refine ev_iload_n rfl ?_
                      refine ev_iadd (r := (4 * a2 + a3 - 20)) (by unfold w32; omega) ?_
                      refine g_qiald g qr30285 (c := 6) (by decide) (by decide) (by decide) (by omega) (by show (4 * a2 + a3 - 20) < 4 * m30286; omega) rfl (fun v30335 ev30335 lv30335 uv30335 => ?_)
                      refine ev_ret rfl (by decide) (by decide) ?_
                      show jEv _ _ _ _ _ _ _ (_, [(2, 0), (0, a1), (0, a2), (0, a3), (2, (r30285 : Int))], [(0, v30335)], _, _, _)
                      exact ev_ret rfl (by decide) (by decide) ⟨_, rfl, by omega, by omega, g, k0⟩
              · refine ev_aload rfl ?_
                refine ev_iload_n rfl ?_
                refine ev_in (d := 2) (a := 0) (b := 0) (cd' := c27_0) (m := 2) (L0 := [(2, (r30285 : Int)), (0, a2)]) (jcall_v (A := [(0, a2)]) (S' := []) (r := r30285) rfl (g.qlt qr30285) (g.qtg qr30285) (Nat.le_of_ble_eq_true rfl)) (by decide) ml27 pp27 (Nat.le_of_ble_eq_true rfl) rfl (by decide) (by decide) ?_
                refine ev_aload_n rfl ?_
                refine g_qgetp g qr30285 (c := 2) (by decide) (by decide) ft4_2 ?_
                refine ev_iload_n rfl ?_
                refine g_qiald g qr30285 (c := 2) (by decide) (by decide) (by decide) (by omega) (by show a2 < m30286; omega) rfl (fun v30336 ev30336 lv30336 uv30336 => ?_)
                refine ev_ret rfl (by decide) (by decide) ?_
                show jEv _ _ _ _ _ _ _ (_, [(2, 0), (0, a1), (0, a2), (0, a3), (2, (r30285 : Int))], [(0, v30336)], _, _, _)
                refine ev_iconst ?_
                refine ev_icmpne f174_73 (fun c30337 => ?_) (fun c30337 => ?_)
                · refine ev_aload rfl ?_
                  refine ev_iload_n rfl ?_
                  refine ev_in (d := 2) (a := 0) (b := 0) (cd' := c28_0) (m := 2) (L0 := [(2, (r30285 : Int)), (0, a2)]) (jcall_v (A := [(0, a2)]) (S' := []) (r := r30285) rfl (g.qlt qr30285) (g.qtg qr30285) (Nat.le_of_ble_eq_true rfl)) (by decide) ml28 pp28 (Nat.le_of_ble_eq_true rfl) rfl (by decide) (by decide) ?_
                  refine ev_aload_n rfl ?_
                  refine g_qgetp g qr30285 (c := 3) (by decide) (by decide) ft4_3 ?_
                  refine ev_iload_n rfl ?_
                  refine g_qiald g qr30285 (c := 3) (by decide) (by decide) (by decide) (by omega) (by show a2 < m30286; omega) rfl (fun v30338 ev30338 lv30338 uv30338 => ?_)
                  refine ev_ret rfl (by decide) (by decide) ?_
                  show jEv _ _ _ _ _ _ _ (_, [(2, 0), (0, a1), (0, a2), (0, a3), (2, (r30285 : Int))], [(0, v30338)], _, _, _)
                  exact ev_ret rfl (by decide) (by decide) ⟨_, rfl, by omega, by omega, g, k0⟩
                · refine ev_aload rfl ?_
                  refine ev_iload_n rfl ?_
                  refine ev_in (d := 2) (a := 0) (b := 0) (cd' := c29_0) (m := 2) (L0 := [(2, (r30285 : Int)), (0, a2)]) (jcall_v (A := [(0, a2)]) (S' := []) (r := r30285) rfl (g.qlt qr30285) (g.qtg qr30285) (Nat.le_of_ble_eq_true rfl)) (by decide) ml29 pp29 (Nat.le_of_ble_eq_true rfl) rfl (by decide) (by decide) ?_
                  refine ev_aload_n rfl ?_
                  refine g_qgetp g qr30285 (c := 4) (by decide) (by decide) ft4_4 ?_
                  refine ev_iload_n rfl ?_
                  refine g_qiald g qr30285 (c := 4) (by decide) (by decide) (by decide) (by omega) (by show a2 < m30286; omega) rfl (fun v30339 ev30339 lv30339 uv30339 => ?_)
                  refine ev_ret rfl (by decide) (by decide) ?_
                  show jEv _ _ _ _ _ _ _ (_, [(2, 0), (0, a1), (0, a2), (0, a3), (2, (r30285 : Int))], [(0, v30339)], _, _, _)
                  refine ev_goto f174_79 ?_
                  exact ev_ret rfl (by decide) (by decide) ⟨_, rfl, by omega, by omega, g, k0⟩
            · refine ev_aload rfl ?_
              refine ev_iload_n rfl ?_
              refine ev_in (d := 2) (a := 0) (b := 0) (cd' := c27_0) (m := 2) (L0 := [(2, (r30285 : Int)), (0, a2)]) (jcall_v (A := [(0, a2)]) (S' := []) (r := r30285) rfl (g.qlt qr30285) (g.qtg qr30285) (Nat.le_of_ble_eq_true rfl)) (by decide) ml27 pp27 (Nat.le_of_ble_eq_true rfl) rfl (by decide) (by decide) ?_
              refine ev_aload_n rfl ?_
              refine g_qgetp g qr30285 (c := 2) (by decide) (by decide) ft4_2 ?_
              refine ev_iload_n rfl ?_
              refine g_qiald g qr30285 (c := 2) (by decide) (by decide) (by decide) (by omega) (by show a2 < m30286; omega) rfl (fun v30340 ev30340 lv30340 uv30340 => ?_)
              refine ev_ret rfl (by decide) (by decide) ?_
              show jEv _ _ _ _ _ _ _ (_, [(2, 0), (0, a1), (0, a2), (0, a3), (2, (r30285 : Int))], [(0, v30340)], _, _, _)
              exact ev_ret rfl (by decide) (by decide) ⟨_, rfl, by omega, by omega, g, k0⟩
      · refine ev_aload rfl ?_
        obtain ⟨v30341, ev30341, lv30341, uv30341⟩ := g.q0 qr30285
        refine g_qgetv (v := v30341) g qr30285 ft4_0 ev30341 ?_
        exact ev_ret rfl (by decide) (by decide) ⟨_, rfl, by omega, by omega, g, k0⟩
    · refine ev_aconst_null ?_
      refine ev_goto f219_22 ?_
      refine ev_ret rfl (by decide) (by decide) ?_
      show jEv _ _ _ _ _ _ _ (_, [(2, 0), (0, a1), (0, a2), (0, a3), (9, 0)], [(2, (-1))], _, _, _)
      refine ev_astore (L' := [(2, 0), (0, a1), (0, a2), (0, a3), (2, (-1))]) (Nat.le_of_ble_eq_true rfl) rfl ?_
      refine ev_aload rfl ?_
      refine ev_ifnonnull f174_15 (fun c30342 => absurd c30342 (by decide)) (fun c30342 => ?_)
      refine ev_ldc ?_
      exact ev_ret rfl (by decide) (by decide) ⟨_, rfl, by omega, by omega, g, k0⟩
/-! 175 change -/
set_option maxHeartbeats 4000000 in
theorem s175 {G : GH} {h : JH} (g : Gd G h) {a1 : Int} (la1 : (-2147483648) ≤ a1) (ua1 : a1 ≤ 2147483647) {a2 : Int} (la2 : (-2147483648) ≤ a2) (ua2 : a2 ≤ 2147483647) {a3 : Int} (la3 : (-2147483648) ≤ a3) (ua3 : a3 ≤ 2147483647) {a4 : Int} (la4 : (-2147483648) ≤ a4) (ua4 : a4 ≤ 2147483647) : jOk 5 0 0 175 [(2, 0), (0, a1), (0, a2), (0, a3), (0, a4)] h (PI G [(1000000, 0), (25, 0), (0, 10), (0, 11)] h 0 (-2147483648) 2147483647) := by
  refine ⟨by decide, by rw [ml175]; exact Nat.le_of_ble_eq_true rfl, ?_⟩
  rw [ml175, pp175]
  show jEv _ none _ c175_0 0 0 _ (c175_0, [(2, 0), (0, a1), (0, a2), (0, a3), (0, a4), (9, 0), (9, 0)], [], h, 0, 0)
  have k0 := Kp.rf [(1000000, 0), (25, 0), (0, 10), (0, 11)] h
  refine ev_aload_n rfl ?_
  refine ev_iload_n rfl ?_
  refine ev_in (d := 3) (a := 0) (b := 0) (cd' := c219_0) (m := 2) (L0 := [(2, 0), (0, a1)]) (jcall_v (A := [(0, a1)]) (S' := []) (r := 0) rfl (g.lt ad0) (g.tg ad0) (Nat.le_of_ble_eq_true rfl)) (by decide) ml219 pp219 (Nat.le_of_ble_eq_true rfl) rfl (by decide) (by decide) ?_
  refine ev_iload_n rfl ?_
  refine ev_iflt f219_12 (fun c30473 => ?_) (fun c30473 => ?_)
  · refine ev_aconst_null ?_
    refine ev_goto f219_22 ?_
    refine ev_ret rfl (by decide) (by decide) ?_
    show jEv _ _ _ _ _ _ _ (_, [(2, 0), (0, a1), (0, a2), (0, a3), (0, a4), (9, 0), (9, 0)], [(2, (-1))], _, _, _)
    refine ev_astore (L' := [(2, 0), (0, a1), (0, a2), (0, a3), (0, a4), (2, (-1)), (9, 0)]) (Nat.le_of_ble_eq_true rfl) rfl ?_
    refine ev_aload rfl ?_
    refine ev_ifnull f175_33 (fun c30474 => ?_) (fun c30474 => absurd c30474 (by decide))
    refine ev_ldc ?_
    exact ev_ret rfl (by decide) (by decide) ⟨_, rfl, by omega, by omega, g, k0⟩
  · refine ev_iload_n rfl ?_
    refine ev_aload_n rfl ?_
    obtain ⟨v30475, ev30475, lv30475, uv30475⟩ := g.rd ad0 (show 3 < 17 by decide) rf0_3
    refine g_getv (r := 0) (v := v30475) g ad0 (by decide) ft11_3 ev30475 ?_
    refine ev_icmplt f219_16 (fun c30476 => ?_) (fun c30476 => ?_)
    · refine ev_aload_n rfl ?_
      refine g_getp (r := 0) (c := 18) g ad0 (by decide) (by decide) rf0_2 ft11_2 ?_
      refine ev_iload_n rfl ?_
      refine g_qaald (g) (i := a1) (ev30475) (by omega) (by omega) (fun r30477 m30478 qr30477 => ?_)
      have wr30477 := g.qb qr30477
      have zr30477 := qr30477.1
      refine ev_ret rfl (by decide) (by decide) ?_
      show jEv _ _ _ _ _ _ _ (_, [(2, 0), (0, a1), (0, a2), (0, a3), (0, a4), (9, 0), (9, 0)], [(2, (r30477 : Int))], _, _, _)
      refine ev_astore (L' := [(2, 0), (0, a1), (0, a2), (0, a3), (0, a4), (2, (r30477 : Int)), (9, 0)]) (Nat.le_of_ble_eq_true rfl) rfl ?_
      refine ev_aload rfl ?_
      refine ev_ifnull f175_33 (fun c30479 => absurd c30479 (by omega)) (fun c30479 => ?_)
      refine ev_aload rfl ?_
      refine ev_iload_n rfl ?_
      refine ev_iload_n rfl ?_
      refine ev_in (d := 3) (a := 0) (b := 0) (cd' := c32_0) (m := 3) (L0 := [(2, (r30477 : Int)), (0, a2), (0, a3)]) (jcall_v (A := [(0, a3), (0, a2)]) (S' := []) (r := r30477) rfl (g.qlt qr30477) (g.qtg qr30477) (Nat.le_of_ble_eq_true rfl)) (by decide) ml32 pp32 (Nat.le_of_ble_eq_true rfl) rfl (by decide) (by decide) ?_
      refine ev_iload_n rfl ?_
      refine ev_iconst ?_
      refine ev_icmpne f32_30 (fun c30480 => ?_) (fun c30480 => ?_)
      · refine ev_aload_n rfl ?_
        refine ev_iload_n rfl ?_
        refine ev_iload_n rfl ?_
        refine ev_in (d := 2) (a := 0) (b := 0) (cd' := c26_0) (m := 3) (L0 := [(2, (r30477 : Int)), (0, a2), (0, a3)]) (jcall_v (A := [(0, a3), (0, a2)]) (S' := []) (r := r30477) rfl (g.qlt qr30477) (g.qtg qr30477) (Nat.le_of_ble_eq_true rfl)) (by decide) ml26 pp26 (Nat.le_of_ble_eq_true rfl) rfl (by decide) (by decide) ?_
        refine ev_aload_n rfl ?_
        refine ev_iload_n rfl ?_
        refine ev_iload_n rfl ?_
        refine ev_in (d := 1) (a := 0) (b := 0) (cd' := c25_0) (m := 3) (L0 := [(2, (r30477 : Int)), (0, a2), (0, a3)]) (jcall_v (A := [(0, a3), (0, a2)]) (S' := []) (r := r30477) rfl (g.qlt qr30477) (g.qtg qr30477) (Nat.le_of_ble_eq_true rfl)) (by decide) ml25 pp25 (Nat.le_of_ble_eq_true rfl) rfl (by decide) (by decide) ?_
        refine ev_aload_n rfl ?_
        refine ev_iload_n rfl ?_
        refine ev_in (d := 0) (a := 0) (b := 0) (cd' := c24_0) (m := 2) (L0 := [(2, (r30477 : Int)), (0, a2)]) (jcall_v (A := [(0, a2)]) (S' := []) (r := r30477) rfl (g.qlt qr30477) (g.qtg qr30477) (Nat.le_of_ble_eq_true rfl)) (by decide) ml24 pp24 (Nat.le_of_ble_eq_true rfl) rfl (by decide) (by decide) ?_
        refine ev_iload_n rfl ?_
        refine ev_iflt f24_16 (fun c30481 => ?_) (fun c30481 => ?_)
        · refine ev_iconst ?_
          refine ev_ret rfl (by decide) (by decide) ?_
          show jEv _ _ _ _ _ _ _ (_, [(2, (r30477 : Int)), (0, a2), (0, a3)], [(0, 0)], _, _, _)
          refine ev_ifeq f25_26 (fun c30482 => ?_) (fun c30482 => absurd c30482 (by omega))
          refine ev_iconst ?_
          refine ev_ret rfl (by decide) (by decide) ?_
          show jEv _ _ _ _ _ _ _ (_, [(2, (r30477 : Int)), (0, a2), (0, a3)], [(0, 0)], _, _, _)
          refine ev_ifeq f26_23 (fun c30483 => ?_) (fun c30483 => absurd c30483 (by omega))
          refine ev_iconst ?_
          refine ev_ret rfl (by decide) (by decide) ?_
          show jEv _ _ _ _ _ _ _ (_, [(2, (r30477 : Int)), (0, a2), (0, a3)], [(0, 0)], _, _, _)
          refine ev_ret rfl (by decide) (by decide) ?_
          show jEv _ _ _ _ _ _ _ (_, [(2, 0), (0, a1), (0, a2), (0, a3), (0, a4), (2, (r30477 : Int)), (9, 0)], [(0, 0)], _, _, _)
          refine ev_ifeq f175_33 (fun c30484 => ?_) (fun c30484 => absurd c30484 (by omega))
          refine ev_ldc ?_
          exact ev_ret rfl (by decide) (by decide) ⟨_, rfl, by omega, by omega, g, k0⟩
        · refine ev_iload_n rfl ?_
          refine ev_aload_n rfl ?_
          obtain ⟨v30485, ev30485, lv30485, uv30485⟩ := g.q0 qr30477
          refine g_qgetv (v := v30485) g qr30477 ft4_0 ev30485 ?_
          refine ev_icmpge f24_16 (fun c30486 => ?_) (fun c30486 => ?_)
          · refine ev_iconst ?_
            refine ev_ret rfl (by decide) (by decide) ?_
            show jEv _ _ _ _ _ _ _ (_, [(2, (r30477 : Int)), (0, a2), (0, a3)], [(0, 0)], _, _, _)
            refine ev_ifeq f25_26 (fun c30487 => ?_) (fun c30487 => absurd c30487 (by omega))
            refine ev_iconst ?_
            refine ev_ret rfl (by decide) (by decide) ?_
            show jEv _ _ _ _ _ _ _ (_, [(2, (r30477 : Int)), (0, a2), (0, a3)], [(0, 0)], _, _, _)
            refine ev_ifeq f26_23 (fun c30488 => ?_) (fun c30488 => absurd c30488 (by omega))
            refine ev_iconst ?_
            refine ev_ret rfl (by decide) (by decide) ?_
            show jEv _ _ _ _ _ _ _ (_, [(2, (r30477 : Int)), (0, a2), (0, a3)], [(0, 0)], _, _, _)
            refine ev_ret rfl (by decide) (by decide) ?_
            show jEv _ _ _ _ _ _ _ (_, [(2, 0), (0, a1), (0, a2), (0, a3), (0, a4), (2, (r30477 : Int)), (9, 0)], [(0, 0)], _, _, _)
            refine ev_ifeq f175_33 (fun c30489 => ?_) (fun c30489 => absurd c30489 (by omega))
            refine ev_ldc ?_
            exact ev_ret rfl (by decide) (by decide) ⟨_, rfl, by omega, by omega, g, k0⟩
          · refine ev_iconst ?_
            refine ev_goto f24_17 ?_
            refine ev_ret rfl (by decide) (by decide) ?_
            show jEv _ _ _ _ _ _ _ (_, [(2, (r30477 : Int)), (0, a2), (0, a3)], [(0, 1)], _, _, _)
            refine ev_ifeq f25_26 (fun c30490 => absurd c30490 (by omega)) (fun c30490 => ?_)
            refine ev_iload_n rfl ?_
            refine ev_iflt f25_26 (fun c30491 => ?_) (fun c30491 => ?_)
            · refine ev_iconst ?_
              refine ev_ret rfl (by decide) (by decide) ?_
              show jEv _ _ _ _ _ _ _ (_, [(2, (r30477 : Int)), (0, a2), (0, a3)], [(0, 0)], _, _, _)
              refine ev_ifeq f26_23 (fun c30492 => ?_) (fun c30492 => absurd c30492 (by omega))
              refine ev_iconst ?_
              refine ev_ret rfl (by decide) (by decide) ?_
              show jEv _ _ _ _ _ _ _ (_, [(2, (r30477 : Int)), (0, a2), (0, a3)], [(0, 0)], _, _, _)
              refine ev_ret rfl (by decide) (by decide) ?_
              show jEv _ _ _ _ _ _ _ (_, [(2, 0), (0, a1), (0, a2), (0, a3), (0, a4), (2, (r30477 : Int)), (9, 0)], [(0, 0)], _, _, _)
              refine ev_ifeq f175_33 (fun c30493 => ?_) (fun c30493 => absurd c30493 (by omega))
              refine ev_ldc ?_
              exact ev_ret rfl (by decide) (by decide) ⟨_, rfl, by omega, by omega, g, k0⟩
            · refine ev_iload_n rfl ?_
              refine ev_aload_n rfl ?_
              refine g_qgetp g qr30477 (c := 4) (by decide) (by decide) ft4_4 ?_
              refine ev_iload_n rfl ?_
              refine g_qiald g qr30477 (c := 4) (by decide) (by decide) (by decide) (by omega) (by show a2 < m30478; omega) rfl (fun v30494 ev30494 lv30494 uv30494 => ?_)
              refine ev_icmpge f25_26 (fun c30495 => ?_) (fun c30495 => ?_)
              · refine ev_iconst ?_
                refine ev_ret rfl (by decide) (by decide) ?_
                show jEv _ _ _ _ _ _ _ (_, [(2, (r30477 : Int)), (0, a2), (0, a3)], [(0, 0)], _, _, _)
                refine ev_ifeq f26_23 (fun c30496 => ?_) (fun c30496 => absurd c30496 (by omega))
                refine ev_iconst ?_
                refine ev_ret rfl (by decide) (by decide) ?_
                show jEv _ _ _ _ _ _ _ (_, [(2, (r30477 : Int)), (0, a2), (0, a3)], [(0, 0)], _, _, _)
                refine ev_ret rfl (by decide) (by decide) ?_
                show jEv _ _ _ _ _ _ _ (_, [(2, 0), (0, a1), (0, a2), (0, a3), (0, a4), (2, (r30477 : Int)), (9, 0)], [(0, 0)], _, _, _)
                refine ev_ifeq f175_33 (fun c30497 => ?_) (fun c30497 => absurd c30497 (by omega))
                refine ev_ldc ?_
                exact ev_ret rfl (by decide) (by decide) ⟨_, rfl, by omega, by omega, g, k0⟩
              · refine ev_iconst ?_
                refine ev_goto f25_27 ?_
                refine ev_ret rfl (by decide) (by decide) ?_
                show jEv _ _ _ _ _ _ _ (_, [(2, (r30477 : Int)), (0, a2), (0, a3)], [(0, 1)], _, _, _)
                refine ev_ifeq f26_23 (fun c30498 => absurd c30498 (by omega)) (fun c30498 => ?_)
                refine ev_aload_n rfl ?_
                refine g_qgetp g qr30477 (c := 2) (by decide) (by decide) ft4_2 ?_
                refine ev_iload_n rfl ?_
                refine g_qiald g qr30477 (c := 2) (by decide) (by decide) (by decide) (by omega) (by show a2 < m30478; omega) rfl (fun v30499 ev30499 lv30499 uv30499 => ?_)
                refine ev_iconst ?_
                refine ev_icmpne f26_23 (fun c30500 => ?_) (fun c30500 => ?_)
                · refine ev_iconst ?_
                  refine ev_ret rfl (by decide) (by decide) ?_
                  show jEv _ _ _ _ _ _ _ (_, [(2, (r30477 : Int)), (0, a2), (0, a3)], [(0, 0)], _, _, _)
                  refine ev_ret rfl (by decide) (by decide) ?_
                  show jEv _ _ _ _ _ _ _ (_, [(2, 0), (0, a1), (0, a2), (0, a3), (0, a4), (2, (r30477 : Int)), (9, 0)], [(0, 0)], _, _, _)
                  refine ev_ifeq f175_33 (fun c30501 => ?_) (fun c30501 => absurd c30501 (by omega))
                  refine ev_ldc ?_
                  exact ev_ret rfl (by decide) (by decide) ⟨_, rfl, by omega, by omega, g, k0⟩
                · refine ev_iconst ?_
                  refine ev_goto f26_24 ?_
                  refine ev_ret rfl (by decide) (by decide) ?_
                  show jEv _ _ _ _ _ _ _ (_, [(2, (r30477 : Int)), (0, a2), (0, a3)], [(0, 1)], _, _, _)
                  refine ev_ret rfl (by decide) (by decide) ?_
                  show jEv _ _ _ _ _ _ _ (_, [(2, 0), (0, a1), (0, a2), (0, a3), (0, a4), (2, (r30477 : Int)), (9, 0)], [(0, 1)], _, _, _)
                  refine ev_ifeq f175_33 (fun c30502 => absurd c30502 (by omega)) (fun c30502 => ?_)
                  refine ev_aload rfl ?_
                  refine ev_iload_n rfl ?_
                  refine ev_iload rfl ?_
                  refine ev_in (d := 3) (a := 0) (b := 0) (cd' := c33_0) (m := 3) (L0 := [(2, (r30477 : Int)), (0, a3), (0, a4)]) (jcall_v (A := [(0, a4), (0, a3)]) (S' := []) (r := r30477) rfl (g.qlt qr30477) (g.qtg qr30477) (Nat.le_of_ble_eq_true rfl)) (by decide) ml33 pp33 (Nat.le_of_ble_eq_true rfl) rfl (by decide) (by decide) ?_
                  refine ev_iload_n rfl ?_
                  refine ev_iconst ?_
                  refine ev_icmpne f33_27 (fun c30503 => ?_) (fun c30503 => absurd c30503 (by omega))
                  refine ev_iload_n rfl ?_
                  refine ev_iflt f33_41 (fun c30504 => ?_) (fun c30504 => ?_)
                  · refine ev_iconst ?_
                    refine ev_ret rfl (by decide) (by decide) ?_
                    show jEv _ _ _ _ _ _ _ (_, [(2, 0), (0, a1), (0, a2), (0, a3), (0, a4), (2, (r30477 : Int)), (9, 0)], [(0, 0)], _, _, _)
                    refine ev_ifne f175_36 (fun c30505 => absurd c30505 (by omega)) (fun c30505 => ?_)
                    refine ev_ldc ?_
                    exact ev_ret rfl (by decide) (by decide) ⟨_, rfl, by omega, by omega, g, k0⟩
                  · refine ev_iload_n rfl ?_
                    refine ev_bipush ?_
                    refine ev_icmpgt f33_41 (fun c30506 => ?_) (fun c30506 => ?_)
                    · refine ev_iconst ?_
                      refine ev_ret rfl (by decide) (by decide) ?_
                      show jEv _ _ _ _ _ _ _ (_, [(2, 0), (0, a1), (0, a2), (0, a3), (0, a4), (2, (r30477 : Int)), (9, 0)], [(0, 0)], _, _, _)
                      refine ev_ifne f175_36 (fun c30507 => absurd c30507 (by omega)) (fun c30507 => ?_)
                      refine ev_ldc ?_
                      exact ev_ret rfl (by decide) (by decide) ⟨_, rfl, by omega, by omega, g, k0⟩
                    · refine ev_iconst ?_
                      refine ev_goto f33_42 ?_
                      refine ev_ret rfl (by decide) (by decide) ?_
                      show jEv _ _ _ _ _ _ _ (_, [(2, 0), (0, a1), (0, a2), (0, a3), (0, a4), (2, (r30477 : Int)), (9, 0)], [(0, 1)], _, _, _)
                      refine ev_ifne f175_36 (fun c30508 => ?_) (fun c30508 => absurd c30508 (by omega))
                      refine ev_aload rfl ?_
                      refine ev_iload_n rfl ?_
                      refine ev_iload_n rfl ?_
                      refine ev_in (d := 3) (a := 0) (b := 0) (cd' := c34_0) (m := 3) (L0 := [(2, (r30477 : Int)), (0, a2), (0, a3)]) (jcall_v (A := [(0, a3), (0, a2)]) (S' := []) (r := r30477) rfl (g.qlt qr30477) (g.qtg qr30477) (Nat.le_of_ble_eq_true rfl)) (by decide) ml34 pp34 (Nat.le_of_ble_eq_true rfl) rfl (by decide) (by decide) ?_
                      refine ev_iload_n rfl ?_
                      refine ev_iconst ?_
                      refine ev_icmpne f34_14 (fun c30509 => ?_) (fun c30509 => absurd c30509 (by omega))
                      refine ev_aload_n rfl ?_
                      refine ev_iload_n rfl ?_
                      refine ev_iload_n rfl ?_
                      refine ev_in (d := 2) (a := 0) (b := 0) (cd' := c31_0) (m := 3) (L0 := [(2, (r30477 : Int)), (0, a2), (0, a3)]) (jcall_v (A := [(0, a3), (0, a2)]) (S' := []) (r := r30477) rfl (g.qlt qr30477) (g.qtg qr30477) (Nat.le_of_ble_eq_true rfl)) (by decide) ml31 pp31 (Nat.le_of_ble_eq_true rfl) rfl (by decide) (by decide) ?_
                      refine ev_aload_n rfl ?_
                      refine g_qgetp g qr30477 (c := 6) (by decide) (by decide) ft4_6 ?_
                      refine ev_iconst ?_
                      refine ev_iload_n rfl ?_
                      refine ev_imul (r := (4 * a2)) (by unfold w32; omega) ?_
                      refine ev_iload_n rfl ?_
                      refine ev_iadd (r := (4 * a2 + a3)) (by unfold w32; omega) ?_
                      refine g_qiald g qr30477 (c := 6) (by decide) (by decide) (by decide) (by omega) (by show (4 * a2 + a3) < 4 * m30478; omega) rfl (fun v30510 ev30510 lv30510 uv30510 => ?_)
                      refine ev_ret rfl (by decide) (by decide) ?_
                      show jEv _ _ _ _ _ _ _ (_, [(2, (r30477 : Int)), (0, a2), (0, a3)], [(0, v30510)], _, _, _)
                      refine ev_ret rfl (by decide) (by decide) ?_
                      show jEv _ _ _ _ _ _ _ (_, [(2, 0), (0, a1), (0, a2), (0, a3), (0, a4), (2, (r30477 : Int)), (9, 0)], [(0, v30510)], _, _, _)
                      refine ev_istore (L' := [(2, 0), (0, a1), (0, a2), (0, a3), (0, a4), (2, (r30477 : Int)), (0, v30510)]) (Nat.le_of_ble_eq_true rfl) rfl ?_
                      refine ev_aload rfl ?_
                      refine ev_iload_n rfl ?_
                      refine ev_iload_n rfl ?_
                      refine ev_iload rfl ?_
                      refine ev_in (d := 3) (a := 0) (b := 0) (cd' := c35_0) (m := 4) (L0 := [(2, (r30477 : Int)), (0, a2), (0, a3), (0, a4)]) (jcall_v (A := [(0, a4), (0, a3), (0, a2)]) (S' := []) (r := r30477) rfl (g.qlt qr30477) (g.qtg qr30477) (Nat.le_of_ble_eq_true rfl)) (by decide) ml35 pp35 (Nat.le_of_ble_eq_true rfl) rfl (by decide) (by decide) ?_
                      refine ev_iload_n rfl ?_
                      refine ev_iconst ?_
                      refine ev_icmpne f35_15 (fun c30511 => ?_) (fun c30511 => absurd c30511 (by omega))
                      refine ev_aload_n rfl ?_
                      refine g_qgetp g qr30477 (c := 6) (by decide) (by decide) ft4_6 ?_
                      refine ev_iconst ?_
                      refine ev_iload_n rfl ?_
                      refine ev_imul (r := (4 * a2)) (by unfold w32; omega) ?_
                      refine ev_iload_n rfl ?_
                      refine ev_iadd (r := (4 * a2 + a3)) (by unfold w32; omega) ?_
                      refine ev_iload_n rfl ?_
                      refine g_qiast g qr30477 (c := 6) (by decide) (by decide) (by decide) (by omega) (by show (4 * a2 + a3) < 4 * m30478; omega) rfl (by omega) (by omega) (fun h30512 e30512 g30512 => ?_)
                      have k30512 := k0.wr e30512 (inW_dyn rfl (by have := qr30477.1; omega))
                      refine ev_ret rfl (by decide) (by decide) ?_
                      show jEv _ _ _ _ _ _ _ (_, [(2, 0), (0, a1), (0, a2), (0, a3), (0, a4), (2, (r30477 : Int)), (0, v30510)], [], _, _, _)
                      refine ev_aload_n rfl ?_
                      refine ev_iload_n rfl ?_
                      refine ev_iload_n rfl ?_
                      refine ev_iload_n rfl ?_
                      refine ev_in (d := 3) (a := 0) (b := 0) (cd' := c228_0) (m := 3) (L0 := [(0, a1), (0, a2), (0, a3)]) (jcall_s (A := [(0, a3), (0, a2), (0, a1)]) (S' := [(2, 0)]) (by decide) rfl (Nat.le_of_ble_eq_true rfl)) (by decide) ml228 pp228 (Nat.le_of_ble_eq_true rfl) rfl (by decide) (by decide) ?_
                      refine ev_bipush ?_
                      refine ev_iload_n rfl ?_
                      refine ev_bipush ?_
                      refine ev_imul (r := (100 * a1)) (by unfold w32; omega) ?_
                      refine ev_iload_n rfl ?_
                      refine ev_iadd (r := (100 * a1 + a2)) (by unfold w32; omega) ?_
                      refine ev_iconst ?_
                      refine ev_imul (r := (500 * a1 + 5 * a2)) (by unfold w32; omega) ?_
                      refine ev_iadd (r := (500 * a1 + 5 * a2 + 36)) (by unfold w32; omega) ?_
                      refine ev_iload_n rfl ?_
                      refine ev_iadd (r := (500 * a1 + 5 * a2 + a3 + 36)) (by unfold w32; omega) ?_
                      refine ev_iconst ?_
                      refine ev_iadd (r := (500 * a1 + 5 * a2 + a3 + 37)) (by unfold w32; omega) ?_
                      refine ev_ret rfl (by decide) (by decide) ?_
                      show jEv _ _ _ _ _ _ _ (_, [(2, 0), (0, a1), (0, a2), (0, a3), (0, a4), (2, (r30477 : Int)), (0, v30510)], [(0, (500 * a1 + 5 * a2 + a3 + 37)), (2, 0)], _, _, _)
                      refine ev_iload rfl ?_
                      refine ev_iload rfl ?_
                      refine ev_call (jcall_v (A := [(0, a4), (0, v30510), (0, (500 * a1 + 5 * a2 + a3 + 37))]) (S' := []) (r := 0) rfl (g30512.lt ad0) (g30512.tg ad0) (Nat.le_of_ble_eq_true rfl)) (jOk_le (by decide) (s229 g30512 (by omega) (by omega) (by omega) (by omega) (by omega) (by omega))) (by decide) (by decide) (fun w30513 h30513 q30513 => ?_)
                      obtain ⟨rfl, g30513, kk30513⟩ := q30513
                      have k30513 := k30512.tr kk30513 (by decide)
                      show jEv _ _ _ _ _ _ _ (_, [(2, 0), (0, a1), (0, a2), (0, a3), (0, a4), (2, (r30477 : Int)), (0, v30510)], [], _, _, _)
                      refine ev_iload rfl ?_
                      exact ev_ret rfl (by decide) (by decide) ⟨_, rfl, by omega, by omega, g30513, k30513⟩
      · refine ev_aload_n rfl ?_
        refine ev_iload_n rfl ?_
        refine ev_in (d := 2) (a := 0) (b := 0) (cd' := c24_0) (m := 2) (L0 := [(2, (r30477 : Int)), (0, a2)]) (jcall_v (A := [(0, a2)]) (S' := []) (r := r30477) rfl (g.qlt qr30477) (g.qtg qr30477) (Nat.le_of_ble_eq_true rfl)) (by decide) ml24 pp24 (Nat.le_of_ble_eq_true rfl) rfl (by decide) (by decide) ?_
        refine ev_iload_n rfl ?_
        refine ev_iflt f24_16 (fun c30514 => ?_) (fun c30514 => ?_)
        · refine ev_iconst ?_
          refine ev_ret rfl (by decide) (by decide) ?_
          show jEv _ _ _ _ _ _ _ (_, [(2, (r30477 : Int)), (0, a2), (0, a3)], [(0, 0)], _, _, _)
          refine ev_ifeq f32_26 (fun c30515 => ?_) (fun c30515 => absurd c30515 (by omega))
          refine ev_iconst ?_
          refine ev_goto f32_36 ?_
          refine ev_ret rfl (by decide) (by decide) ?_
          show jEv _ _ _ _ _ _ _ (_, [(2, 0), (0, a1), (0, a2), (0, a3), (0, a4), (2, (r30477 : Int)), (9, 0)], [(0, 0)], _, _, _)
          refine ev_ifeq f175_33 (fun c30516 => ?_) (fun c30516 => absurd c30516 (by omega))
          refine ev_ldc ?_
          exact ev_ret rfl (by decide) (by decide) ⟨_, rfl, by omega, by omega, g, k0⟩
        · refine ev_iload_n rfl ?_
          refine ev_aload_n rfl ?_
          obtain ⟨v30517, ev30517, lv30517, uv30517⟩ := g.q0 qr30477
          refine g_qgetv (v := v30517) g qr30477 ft4_0 ev30517 ?_
          refine ev_icmpge f24_16 (fun c30518 => ?_) (fun c30518 => ?_)
          · refine ev_iconst ?_
            refine ev_ret rfl (by decide) (by decide) ?_
            show jEv _ _ _ _ _ _ _ (_, [(2, (r30477 : Int)), (0, a2), (0, a3)], [(0, 0)], _, _, _)
            refine ev_ifeq f32_26 (fun c30519 => ?_) (fun c30519 => absurd c30519 (by omega))
            refine ev_iconst ?_
            refine ev_goto f32_36 ?_
            refine ev_ret rfl (by decide) (by decide) ?_
            show jEv _ _ _ _ _ _ _ (_, [(2, 0), (0, a1), (0, a2), (0, a3), (0, a4), (2, (r30477 : Int)), (9, 0)], [(0, 0)], _, _, _)
            refine ev_ifeq f175_33 (fun c30520 => ?_) (fun c30520 => absurd c30520 (by omega))
            refine ev_ldc ?_
            exact ev_ret rfl (by decide) (by decide) ⟨_, rfl, by omega, by omega, g, k0⟩
          · refine ev_iconst ?_
            refine ev_goto f24_17 ?_
            refine ev_ret rfl (by decide) (by decide) ?_
            show jEv _ _ _ _ _ _ _ (_, [(2, (r30477 : Int)), (0, a2), (0, a3)], [(0, 1)], _, _, _)
            refine ev_ifeq f32_26 (fun c30521 => absurd c30521 (by omega)) (fun c30521 => ?_)
            refine ev_aload_n rfl ?_
            refine g_qgetp g qr30477 (c := 2) (by decide) (by decide) ft4_2 ?_
            refine ev_iload_n rfl ?_
            refine g_qiald g qr30477 (c := 2) (by decide) (by decide) (by decide) (by omega) (by show a2 < m30478; omega) rfl (fun v30522 ev30522 lv30522 uv30522 => ?_)
            refine ev_ifne f32_26 (fun c30523 => ?_) (fun c30523 => ?_)
            · refine ev_iconst ?_
              refine ev_goto f32_36 ?_
              refine ev_ret rfl (by decide) (by decide) ?_
              show jEv _ _ _ _ _ _ _ (_, [(2, 0), (0, a1), (0, a2), (0, a3), (0, a4), (2, (r30477 : Int)), (9, 0)], [(0, 0)], _, _, _)
              refine ev_ifeq f175_33 (fun c30524 => ?_) (fun c30524 => absurd c30524 (by omega))
              refine ev_ldc ?_
              exact ev_ret rfl (by decide) (by decide) ⟨_, rfl, by omega, by omega, g, k0⟩
            · refine ev_iconst ?_
              refine ev_goto f32_36 ?_
              refine ev_ret rfl (by decide) (by decide) ?_
              show jEv _ _ _ _ _ _ _ (_, [(2, 0), (0, a1), (0, a2), (0, a3), (0, a4), (2, (r30477 : Int)), (9, 0)], [(0, 1)], _, _, _)
              refine ev_ifeq f175_33 (fun c30525 => absurd c30525 (by omega)) (fun c30525 => ?_)
              refine ev_aload rfl ?_
              refine ev_iload_n rfl ?_
              refine ev_iload rfl ?_
              refine ev_in (d := 3) (a := 0) (b := 0) (cd' := c33_0) (m := 3) (L0 := [(2, (r30477 : Int)), (0, a3), (0, a4)]) (jcall_v (A := [(0, a4), (0, a3)]) (S' := []) (r := r30477) rfl (g.qlt qr30477) (g.qtg qr30477) (Nat.le_of_ble_eq_true rfl)) (by decide) ml33 pp33 (Nat.le_of_ble_eq_true rfl) rfl (by decide) (by decide) ?_
              refine ev_iload_n rfl ?_
              refine ev_iconst ?_
              refine ev_icmpne f33_27 (fun c30526 => absurd c30526 (by omega)) (fun c30526 => ?_)
              refine ev_iload_n rfl ?_
              refine ev_sipush ?_
              refine ev_icmplt f33_23 (fun c30527 => ?_) (fun c30527 => ?_)
              · refine ev_iconst ?_
                refine ev_goto f33_42 ?_
                refine ev_ret rfl (by decide) (by decide) ?_
                show jEv _ _ _ _ _ _ _ (_, [(2, 0), (0, a1), (0, a2), (0, a3), (0, a4), (2, (r30477 : Int)), (9, 0)], [(0, 0)], _, _, _)
                refine ev_ifne f175_36 (fun c30528 => absurd c30528 (by omega)) (fun c30528 => ?_)
                refine ev_ldc ?_
                exact ev_ret rfl (by decide) (by decide) ⟨_, rfl, by omega, by omega, g, k0⟩
              · refine ev_iload_n rfl ?_
                refine ev_sipush ?_
                refine ev_icmpgt f33_23 (fun c30529 => ?_) (fun c30529 => ?_)
                · refine ev_iconst ?_
                  refine ev_goto f33_42 ?_
                  refine ev_ret rfl (by decide) (by decide) ?_
                  show jEv _ _ _ _ _ _ _ (_, [(2, 0), (0, a1), (0, a2), (0, a3), (0, a4), (2, (r30477 : Int)), (9, 0)], [(0, 0)], _, _, _)
                  refine ev_ifne f175_36 (fun c30530 => absurd c30530 (by omega)) (fun c30530 => ?_)
                  refine ev_ldc ?_
                  exact ev_ret rfl (by decide) (by decide) ⟨_, rfl, by omega, by omega, g, k0⟩
                · refine ev_iconst ?_
                  refine ev_goto f33_42 ?_
                  refine ev_ret rfl (by decide) (by decide) ?_
                  show jEv _ _ _ _ _ _ _ (_, [(2, 0), (0, a1), (0, a2), (0, a3), (0, a4), (2, (r30477 : Int)), (9, 0)], [(0, 1)], _, _, _)
                  refine ev_ifne f175_36 (fun c30531 => ?_) (fun c30531 => absurd c30531 (by omega))
                  refine ev_aload rfl ?_
                  refine ev_iload_n rfl ?_
                  refine ev_iload_n rfl ?_
                  refine ev_in (d := 3) (a := 0) (b := 0) (cd' := c34_0) (m := 3) (L0 := [(2, (r30477 : Int)), (0, a2), (0, a3)]) (jcall_v (A := [(0, a3), (0, a2)]) (S' := []) (r := r30477) rfl (g.qlt qr30477) (g.qtg qr30477) (Nat.le_of_ble_eq_true rfl)) (by decide) ml34 pp34 (Nat.le_of_ble_eq_true rfl) rfl (by decide) (by decide) ?_
                  refine ev_iload_n rfl ?_
                  refine ev_iconst ?_
                  refine ev_icmpne f34_14 (fun c30532 => absurd c30532 (by omega)) (fun c30532 => ?_)
                  refine ev_aload_n rfl ?_
                  refine g_qgetp g qr30477 (c := 3) (by decide) (by decide) ft4_3 ?_
                  refine ev_iload_n rfl ?_
                  refine g_qiald g qr30477 (c := 3) (by decide) (by decide) (by decide) (by omega) (by show a2 < m30478; omega) rfl (fun v30533 ev30533 lv30533 uv30533 => ?_)
                  refine ev_goto f34_20 ?_
                  refine ev_ret rfl (by decide) (by decide) ?_
                  show jEv _ _ _ _ _ _ _ (_, [(2, 0), (0, a1), (0, a2), (0, a3), (0, a4), (2, (r30477 : Int)), (9, 0)], [(0, v30533)], _, _, _)
                  refine ev_istore (L' := [(2, 0), (0, a1), (0, a2), (0, a3), (0, a4), (2, (r30477 : Int)), (0, v30533)]) (Nat.le_of_ble_eq_true rfl) rfl ?_
                  refine ev_aload rfl ?_
                  refine ev_iload_n rfl ?_
                  refine ev_iload_n rfl ?_
                  refine ev_iload rfl ?_
                  refine ev_in (d := 3) (a := 0) (b := 0) (cd' := c35_0) (m := 4) (L0 := [(2, (r30477 : Int)), (0, a2), (0, a3), (0, a4)]) (jcall_v (A := [(0, a4), (0, a3), (0, a2)]) (S' := []) (r := r30477) rfl (g.qlt qr30477) (g.qtg qr30477) (Nat.le_of_ble_eq_true rfl)) (by decide) ml35 pp35 (Nat.le_of_ble_eq_true rfl) rfl (by decide) (by decide) ?_
                  refine ev_iload_n rfl ?_
                  refine ev_iconst ?_
                  refine ev_icmpne f35_15 (fun c30534 => absurd c30534 (by omega)) (fun c30534 => ?_)
                  refine ev_aload_n rfl ?_
                  refine g_qgetp g qr30477 (c := 3) (by decide) (by decide) ft4_3 ?_
                  refine ev_iload_n rfl ?_
                  refine ev_iload_n rfl ?_
                  refine g_qiast g qr30477 (c := 3) (by decide) (by decide) (by decide) (by omega) (by show a2 < m30478; omega) rfl (by omega) (by omega) (fun h30535 e30535 g30535 => ?_)
                  have k30535 := k0.wr e30535 (inW_dyn rfl (by have := qr30477.1; omega))
                  refine ev_goto f35_26 ?_
                  refine ev_ret rfl (by decide) (by decide) ?_
                  show jEv _ _ _ _ _ _ _ (_, [(2, 0), (0, a1), (0, a2), (0, a3), (0, a4), (2, (r30477 : Int)), (0, v30533)], [], _, _, _)
                  refine ev_aload_n rfl ?_
                  refine ev_iload_n rfl ?_
                  refine ev_iload_n rfl ?_
                  refine ev_iload_n rfl ?_
                  refine ev_in (d := 3) (a := 0) (b := 0) (cd' := c228_0) (m := 3) (L0 := [(0, a1), (0, a2), (0, a3)]) (jcall_s (A := [(0, a3), (0, a2), (0, a1)]) (S' := [(2, 0)]) (by decide) rfl (Nat.le_of_ble_eq_true rfl)) (by decide) ml228 pp228 (Nat.le_of_ble_eq_true rfl) rfl (by decide) (by decide) ?_
                  refine ev_bipush ?_
                  refine ev_iload_n rfl ?_
                  refine ev_bipush ?_
                  refine ev_imul (r := (100 * a1)) (by unfold w32; omega) ?_
                  refine ev_iload_n rfl ?_
                  refine ev_iadd (r := (100 * a1 + a2)) (by unfold w32; omega) ?_
                  refine ev_iconst ?_
                  refine ev_imul (r := (500 * a1 + 5 * a2)) (by unfold w32; omega) ?_
                  refine ev_iadd (r := (500 * a1 + 5 * a2 + 36)) (by unfold w32; omega) ?_
                  refine ev_iload_n rfl ?_
                  refine ev_iadd (r := (500 * a1 + 5 * a2 + a3 + 36)) (by unfold w32; omega) ?_
                  refine ev_iconst ?_
                  refine ev_iadd (r := (500 * a1 + 5 * a2 + a3 + 37)) (by unfold w32; omega) ?_
                  refine ev_ret rfl (by decide) (by decide) ?_
                  show jEv _ _ _ _ _ _ _ (_, [(2, 0), (0, a1), (0, a2), (0, a3), (0, a4), (2, (r30477 : Int)), (0, v30533)], [(0, (500 * a1 + 5 * a2 + a3 + 37)), (2, 0)], _, _, _)
                  refine ev_iload rfl ?_
                  refine ev_iload rfl ?_
                  refine ev_call (jcall_v (A := [(0, a4), (0, v30533), (0, (500 * a1 + 5 * a2 + a3 + 37))]) (S' := []) (r := 0) rfl (g30535.lt ad0) (g30535.tg ad0) (Nat.le_of_ble_eq_true rfl)) (jOk_le (by decide) (s229 g30535 (by omega) (by omega) (by omega) (by omega) (by omega) (by omega))) (by decide) (by decide) (fun w30536 h30536 q30536 => ?_)
                  obtain ⟨rfl, g30536, kk30536⟩ := q30536
                  have k30536 := k30535.tr kk30536 (by decide)
                  show jEv _ _ _ _ _ _ _ (_, [(2, 0), (0, a1), (0, a2), (0, a3), (0, a4), (2, (r30477 : Int)), (0, v30533)], [], _, _, _)
                  refine ev_iload rfl ?_
                  exact ev_ret rfl (by decide) (by decide) ⟨_, rfl, by omega, by omega, g30536, k30536⟩
    · refine ev_aconst_null ?_
      refine ev_goto f219_22 ?_
      refine ev_ret rfl (by decide) (by decide) ?_
      show jEv _ _ _ _ _ _ _ (_, [(2, 0), (0, a1), (0, a2), (0, a3), (0, a4), (9, 0), (9, 0)], [(2, (-1))], _, _, _)
      refine ev_astore (L' := [(2, 0), (0, a1), (0, a2), (0, a3), (0, a4), (2, (-1)), (9, 0)]) (Nat.le_of_ble_eq_true rfl) rfl ?_
      refine ev_aload rfl ?_
      refine ev_ifnull f175_33 (fun c30537 => ?_) (fun c30537 => absurd c30537 (by decide))
      refine ev_ldc ?_
      exact ev_ret rfl (by decide) (by decide) ⟨_, rfl, by omega, by omega, g, k0⟩
/-! 176 undo -/
set_option maxHeartbeats 4000000 in
theorem s176 {G : GH} {h : JH} (g : Gd G h)  : jOk 6 0 0 176 [(2, 0)] h (PI G [(4, 0), (1, 3), (0, 10), (0, 11), (1000000, 0)] h 0 (-5) 39) := by
  refine ⟨by decide, by rw [ml176]; exact Nat.le_of_ble_eq_true rfl, ?_⟩
  rw [ml176, pp176]
  show jEv _ none _ c176_0 0 0 _ (c176_0, [(2, 0)], [], h, 0, 0)
  have k0 := Kp.rf [(4, 0), (1, 3), (0, 10), (0, 11), (1000000, 0)] h
  refine ev_aload_n rfl ?_
  obtain ⟨v30556, ev30556, lv30556, uv30556⟩ := g.rd ad0 (show 9 < 17 by decide) rf0_9
  refine g_getv (r := 0) (v := v30556) g ad0 (by decide) ft11_9 ev30556 ?_
  refine ev_ifne f176_10 (fun c30557 => ?_) (fun c30557 => ?_)
  · refine ev_aload_n rfl ?_
    refine ev_dup (by decide) ?_
    refine g_getv (r := 0) (v := v30556) g ad0 (by decide) ft11_9 (ev30556) ?_
    refine ev_iconst ?_
    refine ev_isub (r := (v30556 - 1)) (by unfold w32; omega) ?_
    refine g_putf (r := 0) g ad0 (by decide) ft11_9 (by decide) (fun e => absurd e nz11_9) rf0_9 (by decide) (by omega) (by omega) (fun h30558 e30558 g30558 => ?_)
    have k30558 := k0.wr e30558 rfl
    refine ev_aload_n rfl ?_
    refine ev_dup (by decide) ?_
    obtain ⟨v30559, ev30559, lv30559, uv30559⟩ := g30558.rd ad0 (show 10 < 17 by decide) rf0_10
    refine g_getv (r := 0) (v := v30559) g30558 ad0 (by decide) ft11_10 ev30559 ?_
    refine ev_iconst ?_
    refine g_iaddG (fun v30560 ev30560 lv30560 uv30560 => ?_)
    refine g_putf (r := 0) g30558 ad0 (by decide) ft11_10 (by decide) (fun e => absurd e nz11_10) rf0_10 (by decide) (by omega) (by omega) (fun h30561 e30561 g30561 => ?_)
    have k30561 := k30558.wr e30561 rfl
    refine ev_aload_n rfl ?_
    refine ev_aload_n rfl ?_
    refine g_getp (r := 0) (c := 25) g30561 ad0 (by decide) (by decide) rf0_8 ft11_8 ?_
    refine ev_iconst ?_
    refine ev_aload_n rfl ?_
    refine g_getv (r := 0) (v := (v30556 - 1)) g30561 ad0 (by decide) ft11_9 (((jw_ne e30561 (Or.inr (by decide))).trans (jw_eq e30558))) ?_
    refine ev_imul (r := (3 * v30556 - 3)) (by unfold w32; omega) ?_
    refine g_iald g30561 ad25 rt25 (by omega) (by omega) (fun v30562 ev30562 lv30562 uv30562 => ?_)
    refine ev_aload_n rfl ?_
    refine g_getp (r := 0) (c := 25) g30561 ad0 (by decide) (by decide) rf0_8 ft11_8 ?_
    refine ev_iconst ?_
    refine ev_aload_n rfl ?_
    refine g_getv (r := 0) (v := (v30556 - 1)) g30561 ad0 (by decide) ft11_9 (((jw_ne e30561 (Or.inr (by decide))).trans (jw_eq e30558))) ?_
    refine ev_imul (r := (3 * v30556 - 3)) (by unfold w32; omega) ?_
    refine ev_iconst ?_
    refine ev_iadd (r := (3 * v30556 - 2)) (by unfold w32; omega) ?_
    refine g_iald g30561 ad25 rt25 (by omega) (by omega) (fun v30563 ev30563 lv30563 uv30563 => ?_)
    refine ev_call (jcall_v (A := [(0, v30563), (0, v30562)]) (S' := []) (r := 0) rfl (g30561.lt ad0) (g30561.tg ad0) (Nat.le_of_ble_eq_true rfl)) (jOk_le (by decide) (s230 g30561 (by omega) (by omega) (by omega) (by omega))) (by decide) (by decide) (fun w30564 h30564 q30564 => ?_)
    obtain ⟨rfl, g30564, kk30564⟩ := q30564
    have k30564 := k30561.tr kk30564 (by decide)
    show jEv _ _ _ _ _ _ _ (_, [(2, 0)], [], _, _, _)
    refine ev_aload_n rfl ?_
    refine g_getv (r := 0) (v := (v30556 - 1)) g30564 ad0 (by decide) ft11_9 (((kk30564.v (by decide)).trans ((jw_ne e30561 (Or.inr (by decide))).trans (jw_eq e30558)))) ?_
    exact ev_ret rfl (by decide) (by decide) ⟨_, rfl, by omega, by omega, g30564, k30564⟩
  · refine ev_bipush ?_
    exact ev_ret rfl (by decide) (by decide) ⟨_, rfl, by omega, by omega, g, k0⟩
/-! 177 redo -/
set_option maxHeartbeats 4000000 in
theorem s177 {G : GH} {h : JH} (g : Gd G h)  : jOk 6 0 0 177 [(2, 0)] h (PI G [(4, 0), (1, 3), (0, 10), (0, 11), (1000000, 0)] h 0 (-2147483648) 2147483647) := by
  refine ⟨by decide, by rw [ml177]; exact Nat.le_of_ble_eq_true rfl, ?_⟩
  rw [ml177, pp177]
  show jEv _ none _ c177_0 0 0 _ (c177_0, [(2, 0)], [], h, 0, 0)
  have k0 := Kp.rf [(4, 0), (1, 3), (0, 10), (0, 11), (1000000, 0)] h
  refine ev_aload_n rfl ?_
  obtain ⟨v30585, ev30585, lv30585, uv30585⟩ := g.rd ad0 (show 10 < 17 by decide) rf0_10
  refine g_getv (r := 0) (v := v30585) g ad0 (by decide) ft11_10 ev30585 ?_
  refine ev_ifeq f177_16 (fun c30586 => ?_) (fun c30586 => ?_)
  · refine ev_bipush ?_
    exact ev_ret rfl (by decide) (by decide) ⟨_, rfl, by omega, by omega, g, k0⟩
  · refine ev_aload_n rfl ?_
    obtain ⟨v30587, ev30587, lv30587, uv30587⟩ := g.rd ad0 (show 9 < 17 by decide) rf0_9
    refine g_getv (r := 0) (v := v30587) g ad0 (by decide) ft11_9 ev30587 ?_
    refine ev_bipush ?_
    refine ev_icmplt f177_19 (fun c30588 => ?_) (fun c30588 => ?_)
    · refine ev_aload_n rfl ?_
      refine ev_aload_n rfl ?_
      refine g_getp (r := 0) (c := 25) g ad0 (by decide) (by decide) rf0_8 ft11_8 ?_
      refine ev_iconst ?_
      refine ev_aload_n rfl ?_
      refine g_getv (r := 0) (v := v30587) g ad0 (by decide) ft11_9 (ev30587) ?_
      refine ev_imul (r := (3 * v30587)) (by unfold w32; omega) ?_
      refine g_iald g ad25 rt25 (by omega) (by omega) (fun v30589 ev30589 lv30589 uv30589 => ?_)
      refine ev_aload_n rfl ?_
      refine g_getp (r := 0) (c := 25) g ad0 (by decide) (by decide) rf0_8 ft11_8 ?_
      refine ev_iconst ?_
      refine ev_aload_n rfl ?_
      refine g_getv (r := 0) (v := v30587) g ad0 (by decide) ft11_9 (ev30587) ?_
      refine ev_imul (r := (3 * v30587)) (by unfold w32; omega) ?_
      refine ev_iconst ?_
      refine ev_iadd (r := (3 * v30587 + 2)) (by unfold w32; omega) ?_
      refine g_iald g ad25 rt25 (by omega) (by omega) (fun v30590 ev30590 lv30590 uv30590 => ?_)
      refine ev_call (jcall_v (A := [(0, v30590), (0, v30589)]) (S' := []) (r := 0) rfl (g.lt ad0) (g.tg ad0) (Nat.le_of_ble_eq_true rfl)) (jOk_le (by decide) (s230 g (by omega) (by omega) (by omega) (by omega))) (by decide) (by decide) (fun w30591 h30591 q30591 => ?_)
      obtain ⟨rfl, g30591, kk30591⟩ := q30591
      have k30591 := k0.tr kk30591 (by decide)
      show jEv _ _ _ _ _ _ _ (_, [(2, 0)], [], _, _, _)
      refine ev_aload_n rfl ?_
      refine ev_dup (by decide) ?_
      refine g_getv (r := 0) (v := v30587) g30591 ad0 (by decide) ft11_9 (((kk30591.v (by decide)).trans ev30587)) ?_
      refine ev_iconst ?_
      refine ev_iadd (r := (v30587 + 1)) (by unfold w32; omega) ?_
      refine g_putf (r := 0) g30591 ad0 (by decide) ft11_9 (by decide) (fun e => absurd e nz11_9) rf0_9 (by decide) (by omega) (by omega) (fun h30592 e30592 g30592 => ?_)
      have k30592 := k30591.wr e30592 rfl
      refine ev_aload_n rfl ?_
      refine ev_dup (by decide) ?_
      refine g_getv (r := 0) (v := v30585) g30592 ad0 (by decide) ft11_10 (((jw_ne e30592 (Or.inr (by decide))).trans ((kk30591.v (by decide)).trans ev30585))) ?_
      refine ev_iconst ?_
      refine g_isubG (fun v30593 ev30593 lv30593 uv30593 => ?_)
      refine g_putf (r := 0) g30592 ad0 (by decide) ft11_10 (by decide) (fun e => absurd e nz11_10) rf0_10 (by decide) (by omega) (by omega) (fun h30594 e30594 g30594 => ?_)
      have k30594 := k30592.wr e30594 rfl
      refine ev_aload_n rfl ?_
      refine g_getv (r := 0) (v := v30593) g30594 ad0 (by decide) ft11_10 ((jw_eq e30594)) ?_
      exact ev_ret rfl (by decide) (by decide) ⟨_, rfl, by omega, by omega, g30594, k30594⟩
    · refine ev_bipush ?_
      exact ev_ret rfl (by decide) (by decide) ⟨_, rfl, by omega, by omega, g, k0⟩
/-! 180 counts -/
set_option maxHeartbeats 4000000 in
theorem s180 {G : GH} {h : JH} (g : Gd G h) {a1 : Int} (la1 : (-2147483648) ≤ a1) (ua1 : a1 ≤ 2147483647) {a2 : Int} (la2 : (-2147483648) ≤ a2) (ua2 : a2 ≤ 2147483647) : jOk 4 0 0 180 [(2, 0), (0, a1), (0, a2)] h (PI G [] h 0 (-2147483648) 2147483647) := by
  refine ⟨by decide, by rw [ml180]; exact Nat.le_of_ble_eq_true rfl, ?_⟩
  rw [ml180, pp180]
  show jEv _ none _ c180_0 0 0 _ (c180_0, [(2, 0), (0, a1), (0, a2), (9, 0)], [], h, 0, 0)
  have k0 := Kp.rf [] h
  refine ev_aload_n rfl ?_
  refine ev_iload_n rfl ?_
  refine ev_in (d := 2) (a := 0) (b := 0) (cd' := c220_0) (m := 2) (L0 := [(2, 0), (0, a1)]) (jcall_v (A := [(0, a1)]) (S' := []) (r := 0) rfl (g.lt ad0) (g.tg ad0) (Nat.le_of_ble_eq_true rfl)) (by decide) ml220 pp220 (Nat.le_of_ble_eq_true rfl) rfl (by decide) (by decide) ?_
  refine ev_iload_n rfl ?_
  refine ev_iflt f220_12 (fun c30617 => ?_) (fun c30617 => ?_)
  · refine ev_aconst_null ?_
    refine ev_goto f220_22 ?_
    refine ev_ret rfl (by decide) (by decide) ?_
    show jEv _ _ _ _ _ _ _ (_, [(2, 0), (0, a1), (0, a2), (9, 0)], [(2, (-1))], _, _, _)
    refine ev_astore_n (L' := [(2, 0), (0, a1), (0, a2), (2, (-1))]) (Nat.le_of_ble_eq_true rfl) rfl ?_
    refine ev_aload_n rfl ?_
    refine ev_ifnull f180_24 (fun c30618 => ?_) (fun c30618 => absurd c30618 (by decide))
    refine ev_ldc ?_
    exact ev_ret rfl (by decide) (by decide) ⟨_, rfl, by omega, by omega, g, k0⟩
  · refine ev_iload_n rfl ?_
    refine ev_aload_n rfl ?_
    obtain ⟨v30619, ev30619, lv30619, uv30619⟩ := g.rd ad0 (show 7 < 17 by decide) rf0_7
    refine g_getv (r := 0) (v := v30619) g ad0 (by decide) ft11_7 ev30619 ?_
    refine ev_icmplt f220_16 (fun c30620 => ?_) (fun c30620 => ?_)
    · refine ev_aload_n rfl ?_
      refine g_getp (r := 0) (c := 24) g ad0 (by decide) (by decide) rf0_6 ft11_6 ?_
      refine ev_iload_n rfl ?_
      refine g_faald (g) (i := a1) (ev30619) (by omega) (by omega) (fun f30621 qf30621 => ?_)
      refine ev_ret rfl (by decide) (by decide) ?_
      show jEv _ _ _ _ _ _ _ (_, [(2, 0), (0, a1), (0, a2), (9, 0)], [(2, (f30621 : Int))], _, _, _)
      refine ev_astore_n (L' := [(2, 0), (0, a1), (0, a2), (2, (f30621 : Int))]) (Nat.le_of_ble_eq_true rfl) rfl ?_
      refine ev_aload_n rfl ?_
      refine ev_ifnull f180_24 (fun c30622 => absurd c30622 (by omega)) (fun c30622 => ?_)
      refine ev_iload_n rfl ?_
      refine ev_sipush ?_
      refine ev_icmplt f180_24 (fun c30623 => ?_) (fun c30623 => ?_)
      · refine ev_ldc ?_
        exact ev_ret rfl (by decide) (by decide) ⟨_, rfl, by omega, by omega, g, k0⟩
      · refine ev_iload_n rfl ?_
        refine ev_sipush ?_
        refine ev_icmple f180_27 (fun c30624 => ?_) (fun c30624 => ?_)
        · refine ev_aload_n rfl ?_
          refine ev_iload_n rfl ?_
          refine ev_callF (A := [(0, a2)]) (S' := []) (r := f30621) rfl (g.flt qf30621) (g.ffam qf30621) (Nat.le_of_ble_eq_true rfl) (famL (by decide) (fam_measure g qf30621 (by omega) (by omega))) (by decide) (by decide) (fun w30625 h30625 q30625 => ?_)
          obtain ⟨v30626, rfl, lv30626, uv30626, g30625, kk30625⟩ := q30625
          have k30625 := k0.tr kk30625 (by decide)
          show jEv _ _ _ _ _ _ _ (_, [(2, 0), (0, a1), (0, a2), (2, (f30621 : Int))], [(0, v30626)], _, _, _)
          exact ev_ret rfl (by decide) (by decide) ⟨_, rfl, by omega, by omega, g30625, k30625⟩
        · refine ev_ldc ?_
          exact ev_ret rfl (by decide) (by decide) ⟨_, rfl, by omega, by omega, g, k0⟩
    · refine ev_aconst_null ?_
      refine ev_goto f220_22 ?_
      refine ev_ret rfl (by decide) (by decide) ?_
      show jEv _ _ _ _ _ _ _ (_, [(2, 0), (0, a1), (0, a2), (9, 0)], [(2, (-1))], _, _, _)
      refine ev_astore_n (L' := [(2, 0), (0, a1), (0, a2), (2, (-1))]) (Nat.le_of_ble_eq_true rfl) rfl ?_
      refine ev_aload_n rfl ?_
      refine ev_ifnull f180_24 (fun c30627 => ?_) (fun c30627 => absurd c30627 (by decide))
      refine ev_ldc ?_
      exact ev_ret rfl (by decide) (by decide) ⟨_, rfl, by omega, by omega, g, k0⟩
/-! 227 worthOf -/
set_option maxHeartbeats 4000000 in
theorem s227 {G : GH} {h : JH} (g : Gd G h) {r1 : Nat} {m1 : Int} (q1 : IsQ G r1 m1) {f2 : Nat} (q2 : IsF G f2) {a3 : Int} (la3 : (-9223372036854775808) ≤ a3) (ua3 : a3 ≤ 9223372036854775807) {a4 : Int} (la4 : (-2147483648) ≤ a4) (ua4 : a4 ≤ 2147483647) : jOk 5 0 0 227 [(2, 0), (2, (r1 : Int)), (2, (f2 : Int)), (1, a3), (0, a4)] h (PI G [(1000000, 0)] h 1 (-9223372036854775808) 9223372036854775807) := by
  refine ⟨by decide, by rw [ml227]; exact Nat.le_of_ble_eq_true rfl, ?_⟩
  rw [ml227, pp227]
  show jEv _ none _ c227_0 0 0 _ (c227_0, [(2, 0), (2, (r1 : Int)), (2, (f2 : Int)), (1, a3), (9, 0), (0, a4), (9, 0), (9, 0)], [], h, 0, 0)
  have k0 := Kp.rf [(1000000, 0)] h
  have wr1 := g.qb q1
  have zr1 := q1.1
  refine ev_aload_n rfl ?_
  refine ev_callF (A := []) (S' := []) (r := f2) rfl (g.flt q2) (g.ffam q2) (Nat.le_of_ble_eq_true rfl) (famL (by decide) (fam_fearsWorst g q2)) (by decide) (by decide) (fun w30666 h30666 q30666 => ?_)
  obtain ⟨v30667, rfl, lv30667, uv30667, g30666, kk30666⟩ := q30666
  have k30666 := k0.tr kk30666 (by decide)
  show jEv _ _ _ _ _ _ _ (_, [(2, 0), (2, (r1 : Int)), (2, (f2 : Int)), (1, a3), (9, 0), (0, a4), (9, 0), (9, 0)], [(0, v30667)], _, _, _)
  refine ev_ifeq f227_17 (fun c30668 => ?_) (fun c30668 => ?_)
  · refine ev_aload_n rfl ?_
    refine ev_callF (A := []) (S' := []) (r := f2) rfl (g30666.flt q2) (g30666.ffam q2) (Nat.le_of_ble_eq_true rfl) (famL (by decide) (fam_regrets g30666 q2)) (by decide) (by decide) (fun w30669 h30669 q30669 => ?_)
    obtain ⟨v30670, rfl, lv30670, uv30670, g30669, kk30669⟩ := q30669
    have k30669 := k30666.tr kk30669 (by decide)
    show jEv _ _ _ _ _ _ _ (_, [(2, 0), (2, (r1 : Int)), (2, (f2 : Int)), (1, a3), (9, 0), (0, a4), (9, 0), (9, 0)], [(0, v30670)], _, _, _)
    refine ev_ifeq f227_36 (fun c30671 => ?_) (fun c30671 => ?_)
    · refine ev_lconst ?_
      refine ev_lstore (L' := [(2, 0), (2, (r1 : Int)), (2, (f2 : Int)), (1, a3), (9, 0), (0, a4), (1, 0), (9, 0)]) (Nat.le_of_ble_eq_true rfl) rfl ?_
      refine ev_lload_n rfl ?_
      refine ev_lload rfl ?_
      refine ev_lsub (r := a3) (by unfold w64; omega) ?_
      refine ev_ldc2_w ?_
      refine ev_aload_n rfl ?_
      refine g_getp (r := 0) (c := 1) g30669 ad0 (by decide) (by decide) rf0_0 ft11_0 ?_
      obtain ⟨v30672, ev30672, lv30672, uv30672⟩ := g30669.rd ad1 (show 1 < 8 by decide) rf1_1
      refine g_getv (r := 1) (v := v30672) g30669 ad1 (by decide) ft10_1 ev30672 ?_
      refine g_lmulG (fun v30673 ev30673 lv30673 uv30673 => ?_)
      refine ev_iload rfl ?_
      refine ev_call (jcall_s (A := [(0, a4), (1, v30673), (1, a3)]) (S' := []) (by decide) rfl (Nat.le_of_ble_eq_true rfl)) (jOk_le (by decide) (s223 g30669 (by omega) (by omega) (by omega) (by omega) (by omega) (by omega))) (by decide) (by decide) (fun w30674 h30674 q30674 => ?_)
      obtain ⟨v30675, rfl, lv30675, uv30675, g30674, kk30674⟩ := q30674
      have k30674 := k30669.tr kk30674 (by decide)
      show jEv _ _ _ _ _ _ _ (_, [(2, 0), (2, (r1 : Int)), (2, (f2 : Int)), (1, a3), (9, 0), (0, a4), (1, 0), (9, 0)], [(1, v30675)], _, _, _)
      exact ev_ret rfl (by decide) (by decide) ⟨_, rfl, by omega, by omega, g30674, k30674⟩
    · refine ev_aload_n rfl ?_
      refine ev_aload_n rfl ?_
      refine g_getp (r := 0) (c := 1) g30669 ad0 (by decide) (by decide) rf0_0 ft11_0 ?_
      refine ev_aload_n rfl ?_
      refine ev_call (jcall_v (A := [(2, (f2 : Int)), (2, 1)]) (S' := []) (r := r1) rfl (g30669.qlt q1) (g30669.qtg q1) (Nat.le_of_ble_eq_true rfl)) (jOk_le (by decide) (s51 g30669 q1 q2)) (by decide) (by decide) (fun w30676 h30676 q30676 => ?_)
      obtain ⟨v30677, rfl, lv30677, uv30677, g30676, kk30676⟩ := q30676
      have k30676 := k30669.tr kk30676 (by decide)
      show jEv _ _ _ _ _ _ _ (_, [(2, 0), (2, (r1 : Int)), (2, (f2 : Int)), (1, a3), (9, 0), (0, a4), (9, 0), (9, 0)], [(1, v30677)], _, _, _)
      refine ev_goto f227_37 ?_
      refine ev_lstore (L' := [(2, 0), (2, (r1 : Int)), (2, (f2 : Int)), (1, a3), (9, 0), (0, a4), (1, v30677), (9, 0)]) (Nat.le_of_ble_eq_true rfl) rfl ?_
      refine ev_lload_n rfl ?_
      refine ev_lload rfl ?_
      refine g_lsubG (fun v30678 ev30678 lv30678 uv30678 => ?_)
      refine ev_ldc2_w ?_
      refine ev_aload_n rfl ?_
      refine g_getp (r := 0) (c := 1) g30676 ad0 (by decide) (by decide) rf0_0 ft11_0 ?_
      obtain ⟨v30679, ev30679, lv30679, uv30679⟩ := g30676.rd ad1 (show 1 < 8 by decide) rf1_1
      refine g_getv (r := 1) (v := v30679) g30676 ad1 (by decide) ft10_1 ev30679 ?_
      refine g_lmulG (fun v30680 ev30680 lv30680 uv30680 => ?_)
      refine ev_iload rfl ?_
      refine ev_call (jcall_s (A := [(0, a4), (1, v30680), (1, v30678)]) (S' := []) (by decide) rfl (Nat.le_of_ble_eq_true rfl)) (jOk_le (by decide) (s223 g30676 (by omega) (by omega) (by omega) (by omega) (by omega) (by omega))) (by decide) (by decide) (fun w30681 h30681 q30681 => ?_)
      obtain ⟨v30682, rfl, lv30682, uv30682, g30681, kk30681⟩ := q30681
      have k30681 := k30676.tr kk30681 (by decide)
      show jEv _ _ _ _ _ _ _ (_, [(2, 0), (2, (r1 : Int)), (2, (f2 : Int)), (1, a3), (9, 0), (0, a4), (1, v30677), (9, 0)], [(1, v30682)], _, _, _)
      exact ev_ret rfl (by decide) (by decide) ⟨_, rfl, by omega, by omega, g30681, k30681⟩
  · refine ev_lload_n rfl ?_
    refine ev_ldc2_w ?_
    refine ev_iload rfl ?_
    refine ev_call (jcall_s (A := [(0, a4), (1, 100), (1, a3)]) (S' := []) (by decide) rfl (Nat.le_of_ble_eq_true rfl)) (jOk_le (by decide) (s223 g30666 (by omega) (by omega) (by omega) (by omega) (by omega) (by omega))) (by decide) (by decide) (fun w30683 h30683 q30683 => ?_)
    obtain ⟨v30684, rfl, lv30684, uv30684, g30683, kk30683⟩ := q30683
    have k30683 := k30666.tr kk30683 (by decide)
    show jEv _ _ _ _ _ _ _ (_, [(2, 0), (2, (r1 : Int)), (2, (f2 : Int)), (1, a3), (9, 0), (0, a4), (9, 0), (9, 0)], [(1, v30684)], _, _, _)
    exact ev_ret rfl (by decide) (by decide) ⟨_, rfl, by omega, by omega, g30683, k30683⟩
/-! 181 best -/
set_option maxHeartbeats 4000000 in
theorem s181 {G : GH} {h : JH} (g : Gd G h) {a1 : Int} (la1 : (-2147483648) ≤ a1) (ua1 : a1 ≤ 2147483647) {a2 : Int} (la2 : (-2147483648) ≤ a2) (ua2 : a2 ≤ 2147483647) {a3 : Int} (la3 : (-2147483648) ≤ a3) (ua3 : a3 ≤ 2147483647) : jOk 6 0 0 181 [(2, 0), (0, a1), (0, a2), (0, a3)] h (PI G [(1, 2), (1, 3), (5, 0), (6, 0), (1000000, 0)] h 1 (-9223372036854775808) 9223372036854775807) := by
  refine ⟨by decide, by rw [ml181]; exact Nat.le_of_ble_eq_true rfl, ?_⟩
  rw [ml181, pp181]
  show jEv _ none _ c181_0 0 0 _ (c181_0, [(2, 0), (0, a1), (0, a2), (0, a3), (9, 0), (9, 0), (9, 0), (9, 0)], [], h, 0, 0)
  have k0 := Kp.rf [(1, 2), (1, 3), (5, 0), (6, 0), (1000000, 0)] h
  refine ev_aload_n rfl ?_
  refine ev_iload_n rfl ?_
  refine ev_in (d := 4) (a := 0) (b := 0) (cd' := c219_0) (m := 2) (L0 := [(2, 0), (0, a1)]) (jcall_v (A := [(0, a1)]) (S' := []) (r := 0) rfl (g.lt ad0) (g.tg ad0) (Nat.le_of_ble_eq_true rfl)) (by decide) ml219 pp219 (Nat.le_of_ble_eq_true rfl) rfl (by decide) (by decide) ?_
  refine ev_iload_n rfl ?_
  refine ev_iflt f219_12 (fun c30765 => ?_) (fun c30765 => ?_)
  · refine ev_aconst_null ?_
    refine ev_goto f219_22 ?_
    refine ev_ret rfl (by decide) (by decide) ?_
    show jEv _ _ _ _ _ _ _ (_, [(2, 0), (0, a1), (0, a2), (0, a3), (9, 0), (9, 0), (9, 0), (9, 0)], [(2, (-1))], _, _, _)
    refine ev_astore (L' := [(2, 0), (0, a1), (0, a2), (0, a3), (2, (-1)), (9, 0), (9, 0), (9, 0)]) (Nat.le_of_ble_eq_true rfl) rfl ?_
    refine ev_aload_n rfl ?_
    refine ev_iload_n rfl ?_
    refine ev_in (d := 4) (a := 0) (b := 0) (cd' := c220_0) (m := 2) (L0 := [(2, 0), (0, a2)]) (jcall_v (A := [(0, a2)]) (S' := []) (r := 0) rfl (g.lt ad0) (g.tg ad0) (Nat.le_of_ble_eq_true rfl)) (by decide) ml220 pp220 (Nat.le_of_ble_eq_true rfl) rfl (by decide) (by decide) ?_
    refine ev_iload_n rfl ?_
    refine ev_iflt f220_12 (fun c30766 => ?_) (fun c30766 => ?_)
    · refine ev_aconst_null ?_
      refine ev_goto f220_22 ?_
      refine ev_ret rfl (by decide) (by decide) ?_
      show jEv _ _ _ _ _ _ _ (_, [(2, 0), (0, a1), (0, a2), (0, a3), (2, (-1)), (9, 0), (9, 0), (9, 0)], [(2, (-1))], _, _, _)
      refine ev_astore (L' := [(2, 0), (0, a1), (0, a2), (0, a3), (2, (-1)), (2, (-1)), (9, 0), (9, 0)]) (Nat.le_of_ble_eq_true rfl) rfl ?_
      refine ev_aload rfl ?_
      refine ev_ifnull f181_43 (fun c30767 => ?_) (fun c30767 => absurd c30767 (by decide))
      refine ev_ldc2_w ?_
      exact ev_ret rfl (by decide) (by decide) ⟨_, rfl, by omega, by omega, g, k0⟩
    · refine ev_iload_n rfl ?_
      refine ev_aload_n rfl ?_
      obtain ⟨v30768, ev30768, lv30768, uv30768⟩ := g.rd ad0 (show 7 < 17 by decide) rf0_7
      refine g_getv (r := 0) (v := v30768) g ad0 (by decide) ft11_7 ev30768 ?_
      refine ev_icmplt f220_16 (fun c30769 => ?_) (fun c30769 => ?_)
      · refine ev_aload_n rfl ?_
        refine g_getp (r := 0) (c := 24) g ad0 (by decide) (by decide) rf0_6 ft11_6 ?_
        refine ev_iload_n rfl ?_
        refine g_faald (g) (i := a2) (ev30768) (by omega) (by omega) (fun f30770 qf30770 => ?_)
        refine ev_ret rfl (by decide) (by decide) ?_
        show jEv _ _ _ _ _ _ _ (_, [(2, 0), (0, a1), (0, a2), (0, a3), (2, (-1)), (9, 0), (9, 0), (9, 0)], [(2, (f30770 : Int))], _, _, _)
        refine ev_astore (L' := [(2, 0), (0, a1), (0, a2), (0, a3), (2, (-1)), (2, (f30770 : Int)), (9, 0), (9, 0)]) (Nat.le_of_ble_eq_true rfl) rfl ?_
        refine ev_aload rfl ?_
        refine ev_ifnull f181_43 (fun c30771 => ?_) (fun c30771 => absurd c30771 (by decide))
        refine ev_ldc2_w ?_
        exact ev_ret rfl (by decide) (by decide) ⟨_, rfl, by omega, by omega, g, k0⟩
      · refine ev_aconst_null ?_
        refine ev_goto f220_22 ?_
        refine ev_ret rfl (by decide) (by decide) ?_
        show jEv _ _ _ _ _ _ _ (_, [(2, 0), (0, a1), (0, a2), (0, a3), (2, (-1)), (9, 0), (9, 0), (9, 0)], [(2, (-1))], _, _, _)
        refine ev_astore (L' := [(2, 0), (0, a1), (0, a2), (0, a3), (2, (-1)), (2, (-1)), (9, 0), (9, 0)]) (Nat.le_of_ble_eq_true rfl) rfl ?_
        refine ev_aload rfl ?_
        refine ev_ifnull f181_43 (fun c30772 => ?_) (fun c30772 => absurd c30772 (by decide))
        refine ev_ldc2_w ?_
        exact ev_ret rfl (by decide) (by decide) ⟨_, rfl, by omega, by omega, g, k0⟩
  · refine ev_iload_n rfl ?_
    refine ev_aload_n rfl ?_
    obtain ⟨v30773, ev30773, lv30773, uv30773⟩ := g.rd ad0 (show 3 < 17 by decide) rf0_3
    refine g_getv (r := 0) (v := v30773) g ad0 (by decide) ft11_3 ev30773 ?_
    refine ev_icmplt f219_16 (fun c30774 => ?_) (fun c30774 => ?_)
    · refine ev_aload_n rfl ?_
      refine g_getp (r := 0) (c := 18) g ad0 (by decide) (by decide) rf0_2 ft11_2 ?_
      refine ev_iload_n rfl ?_
      refine g_qaald (g) (i := a1) (ev30773) (by omega) (by omega) (fun r30775 m30776 qr30775 => ?_)
      have wr30775 := g.qb qr30775
      have zr30775 := qr30775.1
      refine ev_ret rfl (by decide) (by decide) ?_
      show jEv _ _ _ _ _ _ _ (_, [(2, 0), (0, a1), (0, a2), (0, a3), (9, 0), (9, 0), (9, 0), (9, 0)], [(2, (r30775 : Int))], _, _, _)
      refine ev_astore (L' := [(2, 0), (0, a1), (0, a2), (0, a3), (2, (r30775 : Int)), (9, 0), (9, 0), (9, 0)]) (Nat.le_of_ble_eq_true rfl) rfl ?_
      refine ev_aload_n rfl ?_
      refine ev_iload_n rfl ?_
      refine ev_in (d := 4) (a := 0) (b := 0) (cd' := c220_0) (m := 2) (L0 := [(2, 0), (0, a2)]) (jcall_v (A := [(0, a2)]) (S' := []) (r := 0) rfl (g.lt ad0) (g.tg ad0) (Nat.le_of_ble_eq_true rfl)) (by decide) ml220 pp220 (Nat.le_of_ble_eq_true rfl) rfl (by decide) (by decide) ?_
      refine ev_iload_n rfl ?_
      refine ev_iflt f220_12 (fun c30777 => ?_) (fun c30777 => ?_)
      · refine ev_aconst_null ?_
        refine ev_goto f220_22 ?_
        refine ev_ret rfl (by decide) (by decide) ?_
        show jEv _ _ _ _ _ _ _ (_, [(2, 0), (0, a1), (0, a2), (0, a3), (2, (r30775 : Int)), (9, 0), (9, 0), (9, 0)], [(2, (-1))], _, _, _)
        refine ev_astore (L' := [(2, 0), (0, a1), (0, a2), (0, a3), (2, (r30775 : Int)), (2, (-1)), (9, 0), (9, 0)]) (Nat.le_of_ble_eq_true rfl) rfl ?_
        refine ev_aload rfl ?_
        refine ev_ifnull f181_43 (fun c30778 => absurd c30778 (by omega)) (fun c30778 => ?_)
        refine ev_aload rfl ?_
        refine ev_ifnull f181_43 (fun c30779 => ?_) (fun c30779 => absurd c30779 (by decide))
        refine ev_ldc2_w ?_
        exact ev_ret rfl (by decide) (by decide) ⟨_, rfl, by omega, by omega, g, k0⟩
      · refine ev_iload_n rfl ?_
        refine ev_aload_n rfl ?_
        obtain ⟨v30780, ev30780, lv30780, uv30780⟩ := g.rd ad0 (show 7 < 17 by decide) rf0_7
        refine g_getv (r := 0) (v := v30780) g ad0 (by decide) ft11_7 ev30780 ?_
        refine ev_icmplt f220_16 (fun c30781 => ?_) (fun c30781 => ?_)
        · refine ev_aload_n rfl ?_
          refine g_getp (r := 0) (c := 24) g ad0 (by decide) (by decide) rf0_6 ft11_6 ?_
          refine ev_iload_n rfl ?_
          refine g_faald (g) (i := a2) (ev30780) (by omega) (by omega) (fun f30782 qf30782 => ?_)
          refine ev_ret rfl (by decide) (by decide) ?_
          show jEv _ _ _ _ _ _ _ (_, [(2, 0), (0, a1), (0, a2), (0, a3), (2, (r30775 : Int)), (9, 0), (9, 0), (9, 0)], [(2, (f30782 : Int))], _, _, _)
          refine ev_astore (L' := [(2, 0), (0, a1), (0, a2), (0, a3), (2, (r30775 : Int)), (2, (f30782 : Int)), (9, 0), (9, 0)]) (Nat.le_of_ble_eq_true rfl) rfl ?_
          refine ev_aload rfl ?_
          refine ev_ifnull f181_43 (fun c30783 => absurd c30783 (by omega)) (fun c30783 => ?_)
          refine ev_aload rfl ?_
          refine ev_ifnull f181_43 (fun c30784 => absurd c30784 (by omega)) (fun c30784 => ?_)
          refine ev_iload_n rfl ?_
          refine ev_iflt f181_43 (fun c30785 => ?_) (fun c30785 => ?_)
          · refine ev_ldc2_w ?_
            exact ev_ret rfl (by decide) (by decide) ⟨_, rfl, by omega, by omega, g, k0⟩
          · refine ev_iload_n rfl ?_
            refine ev_iconst ?_
            refine ev_icmpgt f181_43 (fun c30786 => ?_) (fun c30786 => ?_)
            · refine ev_ldc2_w ?_
              exact ev_ret rfl (by decide) (by decide) ⟨_, rfl, by omega, by omega, g, k0⟩
            · refine ev_aload_n rfl ?_
              refine g_getp (r := 0) (c := 1) g ad0 (by decide) (by decide) rf0_0 ft11_0 ?_
              refine ev_call (jcall_v (A := []) (S' := []) (r := 1) rfl (g.lt ad1) (g.tg ad1) (Nat.le_of_ble_eq_true rfl)) (jOk_le (by decide) (s153 g )) (by decide) (by decide) (fun w30787 h30787 q30787 => ?_)
              obtain ⟨v30788, rfl, lv30788, uv30788, g30787, kk30787⟩ := q30787
              have k30787 := k0.tr kk30787 (by decide)
              show jEv _ _ _ _ _ _ _ (_, [(2, 0), (0, a1), (0, a2), (0, a3), (2, (r30775 : Int)), (2, (f30782 : Int)), (9, 0), (9, 0)], [(0, v30788)], _, _, _)
              refine ev_ifne f181_47 (fun c30789 => ?_) (fun c30789 => ?_)
              · refine ev_aload rfl ?_
                refine ev_aload_n rfl ?_
                refine g_getp (r := 0) (c := 1) g30787 ad0 (by decide) (by decide) rf0_0 ft11_0 ?_
                refine ev_aload rfl ?_
                refine ev_iconst ?_
                refine ev_call (jcall_v (A := [(0, 0), (2, (f30782 : Int)), (2, 1)]) (S' := []) (r := r30775) rfl (g30787.qlt qr30775) (g30787.qtg qr30775) (Nat.le_of_ble_eq_true rfl)) (jOk_le (by decide) (s47 g30787 qr30775 qf30782 (by omega) (by omega))) (by decide) (by decide) (fun w30790 h30790 q30790 => ?_)
                obtain ⟨v30791, rfl, lv30791, uv30791, g30790, kk30790⟩ := q30790
                have k30790 := k30787.tr kk30790 (by decide)
                show jEv _ _ _ _ _ _ _ (_, [(2, 0), (0, a1), (0, a2), (0, a3), (2, (r30775 : Int)), (2, (f30782 : Int)), (9, 0), (9, 0)], [(1, v30791)], _, _, _)
                refine ev_lstore (L' := [(2, 0), (0, a1), (0, a2), (0, a3), (2, (r30775 : Int)), (2, (f30782 : Int)), (1, v30791), (9, 0)]) (Nat.le_of_ble_eq_true rfl) rfl ?_
                refine ev_iload_n rfl ?_
                refine ev_iconst ?_
                refine ev_icmpne f181_73 (fun c30792 => ?_) (fun c30792 => ?_)
                · refine ev_aload_n rfl ?_
                  refine ev_aload rfl ?_
                  refine ev_aload rfl ?_
                  refine ev_lload rfl ?_
                  refine ev_iload_n rfl ?_
                  refine ev_call (jcall_v (A := [(0, a3), (1, v30791), (2, (f30782 : Int)), (2, (r30775 : Int))]) (S' := []) (r := 0) rfl (g30790.lt ad0) (g30790.tg ad0) (Nat.le_of_ble_eq_true rfl)) (jOk_le (by decide) (s227 g30790 qr30775 qf30782 (by omega) (by omega) (by omega) (by omega))) (by decide) (by decide) (fun w30793 h30793 q30793 => ?_)
                  obtain ⟨v30794, rfl, lv30794, uv30794, g30793, kk30793⟩ := q30793
                  have k30793 := k30790.tr kk30793 (by decide)
                  show jEv _ _ _ _ _ _ _ (_, [(2, 0), (0, a1), (0, a2), (0, a3), (2, (r30775 : Int)), (2, (f30782 : Int)), (1, v30791), (9, 0)], [(1, v30794)], _, _, _)
                  exact ev_ret rfl (by decide) (by decide) ⟨_, rfl, by omega, by omega, g30793, k30793⟩
                · refine ev_aload rfl ?_
                  refine ev_call (jcall_v (A := []) (S' := []) (r := r30775) rfl (g30790.qlt qr30775) (g30790.qtg qr30775) (Nat.le_of_ble_eq_true rfl)) (jOk_le (by decide) (s39 g30790 qr30775)) (by decide) (by decide) (fun w30795 h30795 q30795 => ?_)
                  obtain ⟨rfl, g30795, kk30795⟩ := q30795
                  have k30795 := k30790.tr kk30795 (by decide)
                  show jEv _ _ _ _ _ _ _ (_, [(2, 0), (0, a1), (0, a2), (0, a3), (2, (r30775 : Int)), (2, (f30782 : Int)), (1, v30791), (9, 0)], [], _, _, _)
                  refine ev_lconst ?_
                  exact ev_ret rfl (by decide) (by decide) ⟨_, rfl, by omega, by omega, g30795, k30795⟩
              · refine ev_ldc2_w ?_
                exact ev_ret rfl (by decide) (by decide) ⟨_, rfl, by omega, by omega, g30787, k30787⟩
        · refine ev_aconst_null ?_
          refine ev_goto f220_22 ?_
          refine ev_ret rfl (by decide) (by decide) ?_
          show jEv _ _ _ _ _ _ _ (_, [(2, 0), (0, a1), (0, a2), (0, a3), (2, (r30775 : Int)), (9, 0), (9, 0), (9, 0)], [(2, (-1))], _, _, _)
          refine ev_astore (L' := [(2, 0), (0, a1), (0, a2), (0, a3), (2, (r30775 : Int)), (2, (-1)), (9, 0), (9, 0)]) (Nat.le_of_ble_eq_true rfl) rfl ?_
          refine ev_aload rfl ?_
          refine ev_ifnull f181_43 (fun c30796 => absurd c30796 (by omega)) (fun c30796 => ?_)
          refine ev_aload rfl ?_
          refine ev_ifnull f181_43 (fun c30797 => ?_) (fun c30797 => absurd c30797 (by decide))
          refine ev_ldc2_w ?_
          exact ev_ret rfl (by decide) (by decide) ⟨_, rfl, by omega, by omega, g, k0⟩
    · refine ev_aconst_null ?_
      refine ev_goto f219_22 ?_
      refine ev_ret rfl (by decide) (by decide) ?_
      show jEv _ _ _ _ _ _ _ (_, [(2, 0), (0, a1), (0, a2), (0, a3), (9, 0), (9, 0), (9, 0), (9, 0)], [(2, (-1))], _, _, _)
      refine ev_astore (L' := [(2, 0), (0, a1), (0, a2), (0, a3), (2, (-1)), (9, 0), (9, 0), (9, 0)]) (Nat.le_of_ble_eq_true rfl) rfl ?_
      refine ev_aload_n rfl ?_
      refine ev_iload_n rfl ?_
      refine ev_in (d := 4) (a := 0) (b := 0) (cd' := c220_0) (m := 2) (L0 := [(2, 0), (0, a2)]) (jcall_v (A := [(0, a2)]) (S' := []) (r := 0) rfl (g.lt ad0) (g.tg ad0) (Nat.le_of_ble_eq_true rfl)) (by decide) ml220 pp220 (Nat.le_of_ble_eq_true rfl) rfl (by decide) (by decide) ?_
      refine ev_iload_n rfl ?_
      refine ev_iflt f220_12 (fun c30798 => ?_) (fun c30798 => ?_)
      · refine ev_aconst_null ?_
        refine ev_goto f220_22 ?_
        refine ev_ret rfl (by decide) (by decide) ?_
        show jEv _ _ _ _ _ _ _ (_, [(2, 0), (0, a1), (0, a2), (0, a3), (2, (-1)), (9, 0), (9, 0), (9, 0)], [(2, (-1))], _, _, _)
        refine ev_astore (L' := [(2, 0), (0, a1), (0, a2), (0, a3), (2, (-1)), (2, (-1)), (9, 0), (9, 0)]) (Nat.le_of_ble_eq_true rfl) rfl ?_
        refine ev_aload rfl ?_
        refine ev_ifnull f181_43 (fun c30799 => ?_) (fun c30799 => absurd c30799 (by decide))
        refine ev_ldc2_w ?_
        exact ev_ret rfl (by decide) (by decide) ⟨_, rfl, by omega, by omega, g, k0⟩
      · refine ev_iload_n rfl ?_
        refine ev_aload_n rfl ?_
        obtain ⟨v30800, ev30800, lv30800, uv30800⟩ := g.rd ad0 (show 7 < 17 by decide) rf0_7
        refine g_getv (r := 0) (v := v30800) g ad0 (by decide) ft11_7 ev30800 ?_
        refine ev_icmplt f220_16 (fun c30801 => ?_) (fun c30801 => ?_)
        · refine ev_aload_n rfl ?_
          refine g_getp (r := 0) (c := 24) g ad0 (by decide) (by decide) rf0_6 ft11_6 ?_
          refine ev_iload_n rfl ?_
          refine g_faald (g) (i := a2) (ev30800) (by omega) (by omega) (fun f30802 qf30802 => ?_)
          refine ev_ret rfl (by decide) (by decide) ?_
          show jEv _ _ _ _ _ _ _ (_, [(2, 0), (0, a1), (0, a2), (0, a3), (2, (-1)), (9, 0), (9, 0), (9, 0)], [(2, (f30802 : Int))], _, _, _)
          refine ev_astore (L' := [(2, 0), (0, a1), (0, a2), (0, a3), (2, (-1)), (2, (f30802 : Int)), (9, 0), (9, 0)]) (Nat.le_of_ble_eq_true rfl) rfl ?_
          refine ev_aload rfl ?_
          refine ev_ifnull f181_43 (fun c30803 => ?_) (fun c30803 => absurd c30803 (by decide))
          refine ev_ldc2_w ?_
          exact ev_ret rfl (by decide) (by decide) ⟨_, rfl, by omega, by omega, g, k0⟩
        · refine ev_aconst_null ?_
          refine ev_goto f220_22 ?_
          refine ev_ret rfl (by decide) (by decide) ?_
          show jEv _ _ _ _ _ _ _ (_, [(2, 0), (0, a1), (0, a2), (0, a3), (2, (-1)), (9, 0), (9, 0), (9, 0)], [(2, (-1))], _, _, _)
          refine ev_astore (L' := [(2, 0), (0, a1), (0, a2), (0, a3), (2, (-1)), (2, (-1)), (9, 0), (9, 0)]) (Nat.le_of_ble_eq_true rfl) rfl ?_
          refine ev_aload rfl ?_
          refine ev_ifnull f181_43 (fun c30804 => ?_) (fun c30804 => absurd c30804 (by decide))
          refine ev_ldc2_w ?_
          exact ev_ret rfl (by decide) (by decide) ⟨_, rfl, by omega, by omega, g, k0⟩
/-! 182 plan -/
set_option maxHeartbeats 4000000 in
theorem s182 {G : GH} {h : JH} (g : Gd G h) {a1 : Int} (la1 : (-2147483648) ≤ a1) (ua1 : a1 ≤ 2147483647) {a2 : Int} (la2 : (-2147483648) ≤ a2) (ua2 : a2 ≤ 2147483647) {a3 : Int} (la3 : (-2147483648) ≤ a3) (ua3 : a3 ≤ 2147483647) : jOk 4 0 0 182 [(2, 0), (0, a1), (0, a2), (0, a3)] h (PI G [(1000000, 0)] h 0 (-1) 3) := by
  refine ⟨by decide, by rw [ml182]; exact Nat.le_of_ble_eq_true rfl, ?_⟩
  rw [ml182, pp182]
  show jEv _ none _ c182_0 0 0 _ (c182_0, [(2, 0), (0, a1), (0, a2), (0, a3), (9, 0), (9, 0)], [], h, 0, 0)
  have k0 := Kp.rf [(1000000, 0)] h
  refine ev_aload_n rfl ?_
  refine ev_iload_n rfl ?_
  refine ev_in (d := 2) (a := 0) (b := 0) (cd' := c219_0) (m := 2) (L0 := [(2, 0), (0, a1)]) (jcall_v (A := [(0, a1)]) (S' := []) (r := 0) rfl (g.lt ad0) (g.tg ad0) (Nat.le_of_ble_eq_true rfl)) (by decide) ml219 pp219 (Nat.le_of_ble_eq_true rfl) rfl (by decide) (by decide) ?_
  refine ev_iload_n rfl ?_
  refine ev_iflt f219_12 (fun c30915 => ?_) (fun c30915 => ?_)
  · refine ev_aconst_null ?_
    refine ev_goto f219_22 ?_
    refine ev_ret rfl (by decide) (by decide) ?_
    show jEv _ _ _ _ _ _ _ (_, [(2, 0), (0, a1), (0, a2), (0, a3), (9, 0), (9, 0)], [(2, (-1))], _, _, _)
    refine ev_astore (L' := [(2, 0), (0, a1), (0, a2), (0, a3), (2, (-1)), (9, 0)]) (Nat.le_of_ble_eq_true rfl) rfl ?_
    refine ev_aload rfl ?_
    refine ev_ifnull f182_35 (fun c30916 => ?_) (fun c30916 => absurd c30916 (by decide))
    refine ev_iconst ?_
    exact ev_ret rfl (by decide) (by decide) ⟨_, rfl, by omega, by omega, g, k0⟩
  · refine ev_iload_n rfl ?_
    refine ev_aload_n rfl ?_
    obtain ⟨v30917, ev30917, lv30917, uv30917⟩ := g.rd ad0 (show 3 < 17 by decide) rf0_3
    refine g_getv (r := 0) (v := v30917) g ad0 (by decide) ft11_3 ev30917 ?_
    refine ev_icmplt f219_16 (fun c30918 => ?_) (fun c30918 => ?_)
    · refine ev_aload_n rfl ?_
      refine g_getp (r := 0) (c := 18) g ad0 (by decide) (by decide) rf0_2 ft11_2 ?_
      refine ev_iload_n rfl ?_
      refine g_qaald (g) (i := a1) (ev30917) (by omega) (by omega) (fun r30919 m30920 qr30919 => ?_)
      have wr30919 := g.qb qr30919
      have zr30919 := qr30919.1
      refine ev_ret rfl (by decide) (by decide) ?_
      show jEv _ _ _ _ _ _ _ (_, [(2, 0), (0, a1), (0, a2), (0, a3), (9, 0), (9, 0)], [(2, (r30919 : Int))], _, _, _)
      refine ev_astore (L' := [(2, 0), (0, a1), (0, a2), (0, a3), (2, (r30919 : Int)), (9, 0)]) (Nat.le_of_ble_eq_true rfl) rfl ?_
      refine ev_aload rfl ?_
      refine ev_ifnull f182_35 (fun c30921 => absurd c30921 (by omega)) (fun c30921 => ?_)
      refine ev_iload_n rfl ?_
      refine ev_iconst ?_
      refine ev_icmplt f182_35 (fun c30922 => ?_) (fun c30922 => ?_)
      · refine ev_iconst ?_
        exact ev_ret rfl (by decide) (by decide) ⟨_, rfl, by omega, by omega, g, k0⟩
      · refine ev_aload rfl ?_
        refine ev_iload_n rfl ?_
        refine ev_iload_n rfl ?_
        refine ev_ifge f182_28 (fun c30923 => ?_) (fun c30923 => ?_)
        · refine ev_iload_n rfl ?_
          refine ev_in (d := 2) (a := 0) (b := 0) (cd' := c26_0) (m := 3) (L0 := [(2, (r30919 : Int)), (0, a2), (0, a3)]) (jcall_v (A := [(0, a3), (0, a2)]) (S' := []) (r := r30919) rfl (g.qlt qr30919) (g.qtg qr30919) (Nat.le_of_ble_eq_true rfl)) (by decide) ml26 pp26 (Nat.le_of_ble_eq_true rfl) rfl (by decide) (by decide) ?_
          refine ev_aload_n rfl ?_
          refine ev_iload_n rfl ?_
          refine ev_iload_n rfl ?_
          refine ev_in (d := 1) (a := 0) (b := 0) (cd' := c25_0) (m := 3) (L0 := [(2, (r30919 : Int)), (0, a2), (0, a3)]) (jcall_v (A := [(0, a3), (0, a2)]) (S' := []) (r := r30919) rfl (g.qlt qr30919) (g.qtg qr30919) (Nat.le_of_ble_eq_true rfl)) (by decide) ml25 pp25 (Nat.le_of_ble_eq_true rfl) rfl (by decide) (by decide) ?_
          refine ev_aload_n rfl ?_
          refine ev_iload_n rfl ?_
          refine ev_in (d := 0) (a := 0) (b := 0) (cd' := c24_0) (m := 2) (L0 := [(2, (r30919 : Int)), (0, a2)]) (jcall_v (A := [(0, a2)]) (S' := []) (r := r30919) rfl (g.qlt qr30919) (g.qtg qr30919) (Nat.le_of_ble_eq_true rfl)) (by decide) ml24 pp24 (Nat.le_of_ble_eq_true rfl) rfl (by decide) (by decide) ?_
          refine ev_iload_n rfl ?_
          refine ev_iflt f24_16 (fun c30924 => ?_) (fun c30924 => ?_)
          · refine ev_iconst ?_
            refine ev_ret rfl (by decide) (by decide) ?_
            show jEv _ _ _ _ _ _ _ (_, [(2, (r30919 : Int)), (0, a2), (0, a3)], [(0, 0)], _, _, _)
            refine ev_ifeq f25_26 (fun c30925 => ?_) (fun c30925 => absurd c30925 (by omega))
            refine ev_iconst ?_
            refine ev_ret rfl (by decide) (by decide) ?_
            show jEv _ _ _ _ _ _ _ (_, [(2, (r30919 : Int)), (0, a2), (0, a3)], [(0, 0)], _, _, _)
            refine ev_ifeq f26_23 (fun c30926 => ?_) (fun c30926 => absurd c30926 (by omega))
            refine ev_iconst ?_
            refine ev_ret rfl (by decide) (by decide) ?_
            show jEv _ _ _ _ _ _ _ (_, [(2, 0), (0, a1), (0, a2), (0, a3), (2, (r30919 : Int)), (9, 0)], [(0, 0)], _, _, _)
            refine ev_ifne f182_37 (fun c30927 => absurd c30927 (by omega)) (fun c30927 => ?_)
            refine ev_iconst ?_
            exact ev_ret rfl (by decide) (by decide) ⟨_, rfl, by omega, by omega, g, k0⟩
          · refine ev_iload_n rfl ?_
            refine ev_aload_n rfl ?_
            obtain ⟨v30928, ev30928, lv30928, uv30928⟩ := g.q0 qr30919
            refine g_qgetv (v := v30928) g qr30919 ft4_0 ev30928 ?_
            refine ev_icmpge f24_16 (fun c30929 => ?_) (fun c30929 => ?_)
            · refine ev_iconst ?_
              refine ev_ret rfl (by decide) (by decide) ?_
              show jEv _ _ _ _ _ _ _ (_, [(2, (r30919 : Int)), (0, a2), (0, a3)], [(0, 0)], _, _, _)
              refine ev_ifeq f25_26 (fun c30930 => ?_) (fun c30930 => absurd c30930 (by omega))
              refine ev_iconst ?_
              refine ev_ret rfl (by decide) (by decide) ?_
              show jEv _ _ _ _ _ _ _ (_, [(2, (r30919 : Int)), (0, a2), (0, a3)], [(0, 0)], _, _, _)
              refine ev_ifeq f26_23 (fun c30931 => ?_) (fun c30931 => absurd c30931 (by omega))
              refine ev_iconst ?_
              refine ev_ret rfl (by decide) (by decide) ?_
              show jEv _ _ _ _ _ _ _ (_, [(2, 0), (0, a1), (0, a2), (0, a3), (2, (r30919 : Int)), (9, 0)], [(0, 0)], _, _, _)
              refine ev_ifne f182_37 (fun c30932 => absurd c30932 (by omega)) (fun c30932 => ?_)
              refine ev_iconst ?_
              exact ev_ret rfl (by decide) (by decide) ⟨_, rfl, by omega, by omega, g, k0⟩
            · refine ev_iconst ?_
              refine ev_goto f24_17 ?_
              refine ev_ret rfl (by decide) (by decide) ?_
              show jEv _ _ _ _ _ _ _ (_, [(2, (r30919 : Int)), (0, a2), (0, a3)], [(0, 1)], _, _, _)
              refine ev_ifeq f25_26 (fun c30933 => absurd c30933 (by omega)) (fun c30933 => ?_)
              refine ev_iload_n rfl ?_
              refine ev_iflt f25_26 (fun c30934 => absurd c30934 (by omega)) (fun c30934 => ?_)
              refine ev_iload_n rfl ?_
              refine ev_aload_n rfl ?_
              refine g_qgetp g qr30919 (c := 4) (by decide) (by decide) ft4_4 ?_
              refine ev_iload_n rfl ?_
              refine g_qiald g qr30919 (c := 4) (by decide) (by decide) (by decide) (by omega) (by show a2 < m30920; omega) rfl (fun v30935 ev30935 lv30935 uv30935 => ?_)
              refine ev_icmpge f25_26 (fun c30936 => ?_) (fun c30936 => ?_)
              · refine ev_iconst ?_
                refine ev_ret rfl (by decide) (by decide) ?_
                show jEv _ _ _ _ _ _ _ (_, [(2, (r30919 : Int)), (0, a2), (0, a3)], [(0, 0)], _, _, _)
                refine ev_ifeq f26_23 (fun c30937 => ?_) (fun c30937 => absurd c30937 (by omega))
                refine ev_iconst ?_
                refine ev_ret rfl (by decide) (by decide) ?_
                show jEv _ _ _ _ _ _ _ (_, [(2, 0), (0, a1), (0, a2), (0, a3), (2, (r30919 : Int)), (9, 0)], [(0, 0)], _, _, _)
                refine ev_ifne f182_37 (fun c30938 => absurd c30938 (by omega)) (fun c30938 => ?_)
                refine ev_iconst ?_
                exact ev_ret rfl (by decide) (by decide) ⟨_, rfl, by omega, by omega, g, k0⟩
              · refine ev_iconst ?_
                refine ev_goto f25_27 ?_
                refine ev_ret rfl (by decide) (by decide) ?_
                show jEv _ _ _ _ _ _ _ (_, [(2, (r30919 : Int)), (0, a2), (0, a3)], [(0, 1)], _, _, _)
                refine ev_ifeq f26_23 (fun c30939 => absurd c30939 (by omega)) (fun c30939 => ?_)
                refine ev_aload_n rfl ?_
                refine g_qgetp g qr30919 (c := 2) (by decide) (by decide) ft4_2 ?_
                refine ev_iload_n rfl ?_
                refine g_qiald g qr30919 (c := 2) (by decide) (by decide) (by decide) (by omega) (by show a2 < m30920; omega) rfl (fun v30940 ev30940 lv30940 uv30940 => ?_)
                refine ev_iconst ?_
                refine ev_icmpne f26_23 (fun c30941 => ?_) (fun c30941 => ?_)
                · refine ev_iconst ?_
                  refine ev_ret rfl (by decide) (by decide) ?_
                  show jEv _ _ _ _ _ _ _ (_, [(2, 0), (0, a1), (0, a2), (0, a3), (2, (r30919 : Int)), (9, 0)], [(0, 0)], _, _, _)
                  refine ev_ifne f182_37 (fun c30942 => absurd c30942 (by omega)) (fun c30942 => ?_)
                  refine ev_iconst ?_
                  exact ev_ret rfl (by decide) (by decide) ⟨_, rfl, by omega, by omega, g, k0⟩
                · refine ev_iconst ?_
                  refine ev_goto f26_24 ?_
                  refine ev_ret rfl (by decide) (by decide) ?_
                  show jEv _ _ _ _ _ _ _ (_, [(2, 0), (0, a1), (0, a2), (0, a3), (2, (r30919 : Int)), (9, 0)], [(0, 1)], _, _, _)
                  refine ev_ifne f182_37 (fun c30943 => ?_) (fun c30943 => absurd c30943 (by omega))
                  refine ev_aload rfl ?_
                  refine ev_iload_n rfl ?_
                  refine ev_in (d := 2) (a := 0) (b := 0) (cd' := c36_0) (m := 2) (L0 := [(2, (r30919 : Int)), (0, a2)]) (jcall_v (A := [(0, a2)]) (S' := []) (r := r30919) rfl (g.qlt qr30919) (g.qtg qr30919) (Nat.le_of_ble_eq_true rfl)) (by decide) ml36 pp36 (Nat.le_of_ble_eq_true rfl) rfl (by decide) (by decide) ?_
                  refine ev_aload_n rfl ?_
                  refine g_qgetp g qr30919 (c := 9) (by decide) (by decide) ft4_9 ?_
                  refine ev_iload_n rfl ?_
                  refine g_qiald g qr30919 (c := 9) (by decide) (by decide) (by decide) (by omega) (by show a2 < m30920; omega) rfl (fun v30944 ev30944 lv30944 uv30944 => ?_)
                  refine ev_ret rfl (by decide) (by decide) ?_
                  show jEv _ _ _ _ _ _ _ (_, [(2, 0), (0, a1), (0, a2), (0, a3), (2, (r30919 : Int)), (9, 0)], [(0, v30944)], _, _, _)
                  refine ev_istore (L' := [(2, 0), (0, a1), (0, a2), (0, a3), (2, (r30919 : Int)), (0, v30944)]) (Nat.le_of_ble_eq_true rfl) rfl ?_
                  refine ev_iload_n rfl ?_
                  refine ev_iflt f182_56 (fun c30945 => absurd c30945 (by omega)) (fun c30945 => ?_)
                  refine ev_aload rfl ?_
                  refine ev_iload_n rfl ?_
                  refine ev_iload_n rfl ?_
                  refine ev_in (d := 2) (a := 0) (b := 0) (cd' := c37_0) (m := 3) (L0 := [(2, (r30919 : Int)), (0, a2), (0, a3)]) (jcall_v (A := [(0, a3), (0, a2)]) (S' := []) (r := r30919) rfl (g.qlt qr30919) (g.qtg qr30919) (Nat.le_of_ble_eq_true rfl)) (by decide) ml37 pp37 (Nat.le_of_ble_eq_true rfl) rfl (by decide) (by decide) ?_
                  refine ev_aload_n rfl ?_
                  refine g_qgetp g qr30919 (c := 9) (by decide) (by decide) ft4_9 ?_
                  refine ev_iload_n rfl ?_
                  refine ev_iload_n rfl ?_
                  refine g_qiast g qr30919 (c := 9) (by decide) (by decide) (by decide) (by omega) (by show a2 < m30920; omega) rfl (by omega) (by omega) (fun h30946 e30946 g30946 => ?_)
                  have k30946 := k0.wr e30946 (inW_dyn rfl (by have := qr30919.1; omega))
                  refine ev_ret rfl (by decide) (by decide) ?_
                  show jEv _ _ _ _ _ _ _ (_, [(2, 0), (0, a1), (0, a2), (0, a3), (2, (r30919 : Int)), (0, v30944)], [], _, _, _)
                  refine ev_iload rfl ?_
                  exact ev_ret rfl (by decide) (by decide) ⟨_, rfl, by omega, by omega, g30946, k30946⟩
        · refine ev_iconst ?_
          refine ev_goto f182_29 ?_
          refine ev_in (d := 2) (a := 0) (b := 0) (cd' := c26_0) (m := 3) (L0 := [(2, (r30919 : Int)), (0, a2), (0, 0)]) (jcall_v (A := [(0, 0), (0, a2)]) (S' := []) (r := r30919) rfl (g.qlt qr30919) (g.qtg qr30919) (Nat.le_of_ble_eq_true rfl)) (by decide) ml26 pp26 (Nat.le_of_ble_eq_true rfl) rfl (by decide) (by decide) ?_
          refine ev_aload_n rfl ?_
          refine ev_iload_n rfl ?_
          refine ev_iload_n rfl ?_
          refine ev_in (d := 1) (a := 0) (b := 0) (cd' := c25_0) (m := 3) (L0 := [(2, (r30919 : Int)), (0, a2), (0, 0)]) (jcall_v (A := [(0, 0), (0, a2)]) (S' := []) (r := r30919) rfl (g.qlt qr30919) (g.qtg qr30919) (Nat.le_of_ble_eq_true rfl)) (by decide) ml25 pp25 (Nat.le_of_ble_eq_true rfl) rfl (by decide) (by decide) ?_
          refine ev_aload_n rfl ?_
          refine ev_iload_n rfl ?_
          refine ev_in (d := 0) (a := 0) (b := 0) (cd' := c24_0) (m := 2) (L0 := [(2, (r30919 : Int)), (0, a2)]) (jcall_v (A := [(0, a2)]) (S' := []) (r := r30919) rfl (g.qlt qr30919) (g.qtg qr30919) (Nat.le_of_ble_eq_true rfl)) (by decide) ml24 pp24 (Nat.le_of_ble_eq_true rfl) rfl (by decide) (by decide) ?_
          refine ev_iload_n rfl ?_
          refine ev_iflt f24_16 (fun c30947 => ?_) (fun c30947 => ?_)
          · refine ev_iconst ?_
            refine ev_ret rfl (by decide) (by decide) ?_
            show jEv _ _ _ _ _ _ _ (_, [(2, (r30919 : Int)), (0, a2), (0, 0)], [(0, 0)], _, _, _)
            refine ev_ifeq f25_26 (fun c30948 => ?_) (fun c30948 => absurd c30948 (by omega))
            refine ev_iconst ?_
            refine ev_ret rfl (by decide) (by decide) ?_
            show jEv _ _ _ _ _ _ _ (_, [(2, (r30919 : Int)), (0, a2), (0, 0)], [(0, 0)], _, _, _)
            refine ev_ifeq f26_23 (fun c30949 => ?_) (fun c30949 => absurd c30949 (by omega))
            refine ev_iconst ?_
            refine ev_ret rfl (by decide) (by decide) ?_
            show jEv _ _ _ _ _ _ _ (_, [(2, 0), (0, a1), (0, a2), (0, a3), (2, (r30919 : Int)), (9, 0)], [(0, 0)], _, _, _)
            refine ev_ifne f182_37 (fun c30950 => absurd c30950 (by omega)) (fun c30950 => ?_)
            refine ev_iconst ?_
            exact ev_ret rfl (by decide) (by decide) ⟨_, rfl, by omega, by omega, g, k0⟩
          · refine ev_iload_n rfl ?_
            refine ev_aload_n rfl ?_
            obtain ⟨v30951, ev30951, lv30951, uv30951⟩ := g.q0 qr30919
            refine g_qgetv (v := v30951) g qr30919 ft4_0 ev30951 ?_
            refine ev_icmpge f24_16 (fun c30952 => ?_) (fun c30952 => ?_)
            · refine ev_iconst ?_
              refine ev_ret rfl (by decide) (by decide) ?_
              show jEv _ _ _ _ _ _ _ (_, [(2, (r30919 : Int)), (0, a2), (0, 0)], [(0, 0)], _, _, _)
              refine ev_ifeq f25_26 (fun c30953 => ?_) (fun c30953 => absurd c30953 (by omega))
              refine ev_iconst ?_
              refine ev_ret rfl (by decide) (by decide) ?_
              show jEv _ _ _ _ _ _ _ (_, [(2, (r30919 : Int)), (0, a2), (0, 0)], [(0, 0)], _, _, _)
              refine ev_ifeq f26_23 (fun c30954 => ?_) (fun c30954 => absurd c30954 (by omega))
              refine ev_iconst ?_
              refine ev_ret rfl (by decide) (by decide) ?_
              show jEv _ _ _ _ _ _ _ (_, [(2, 0), (0, a1), (0, a2), (0, a3), (2, (r30919 : Int)), (9, 0)], [(0, 0)], _, _, _)
              refine ev_ifne f182_37 (fun c30955 => absurd c30955 (by omega)) (fun c30955 => ?_)
              refine ev_iconst ?_
              exact ev_ret rfl (by decide) (by decide) ⟨_, rfl, by omega, by omega, g, k0⟩
            · refine ev_iconst ?_
              refine ev_goto f24_17 ?_
              refine ev_ret rfl (by decide) (by decide) ?_
              show jEv _ _ _ _ _ _ _ (_, [(2, (r30919 : Int)), (0, a2), (0, 0)], [(0, 1)], _, _, _)
              refine ev_ifeq f25_26 (fun c30956 => absurd c30956 (by omega)) (fun c30956 => ?_)
              refine ev_iload_n rfl ?_
              refine ev_iflt f25_26 (fun c30957 => absurd c30957 (by omega)) (fun c30957 => ?_)
              refine ev_iload_n rfl ?_
              refine ev_aload_n rfl ?_
              refine g_qgetp g qr30919 (c := 4) (by decide) (by decide) ft4_4 ?_
              refine ev_iload_n rfl ?_
              refine g_qiald g qr30919 (c := 4) (by decide) (by decide) (by decide) (by omega) (by show a2 < m30920; omega) rfl (fun v30958 ev30958 lv30958 uv30958 => ?_)
              refine ev_icmpge f25_26 (fun c30959 => ?_) (fun c30959 => ?_)
              · refine ev_iconst ?_
                refine ev_ret rfl (by decide) (by decide) ?_
                show jEv _ _ _ _ _ _ _ (_, [(2, (r30919 : Int)), (0, a2), (0, 0)], [(0, 0)], _, _, _)
                refine ev_ifeq f26_23 (fun c30960 => ?_) (fun c30960 => absurd c30960 (by omega))
                refine ev_iconst ?_
                refine ev_ret rfl (by decide) (by decide) ?_
                show jEv _ _ _ _ _ _ _ (_, [(2, 0), (0, a1), (0, a2), (0, a3), (2, (r30919 : Int)), (9, 0)], [(0, 0)], _, _, _)
                refine ev_ifne f182_37 (fun c30961 => absurd c30961 (by omega)) (fun c30961 => ?_)
                refine ev_iconst ?_
                exact ev_ret rfl (by decide) (by decide) ⟨_, rfl, by omega, by omega, g, k0⟩
              · refine ev_iconst ?_
                refine ev_goto f25_27 ?_
                refine ev_ret rfl (by decide) (by decide) ?_
                show jEv _ _ _ _ _ _ _ (_, [(2, (r30919 : Int)), (0, a2), (0, 0)], [(0, 1)], _, _, _)
                refine ev_ifeq f26_23 (fun c30962 => absurd c30962 (by omega)) (fun c30962 => ?_)
                refine ev_aload_n rfl ?_
                refine g_qgetp g qr30919 (c := 2) (by decide) (by decide) ft4_2 ?_
                refine ev_iload_n rfl ?_
                refine g_qiald g qr30919 (c := 2) (by decide) (by decide) (by decide) (by omega) (by show a2 < m30920; omega) rfl (fun v30963 ev30963 lv30963 uv30963 => ?_)
                refine ev_iconst ?_
                refine ev_icmpne f26_23 (fun c30964 => ?_) (fun c30964 => ?_)
                · refine ev_iconst ?_
                  refine ev_ret rfl (by decide) (by decide) ?_
                  show jEv _ _ _ _ _ _ _ (_, [(2, 0), (0, a1), (0, a2), (0, a3), (2, (r30919 : Int)), (9, 0)], [(0, 0)], _, _, _)
                  refine ev_ifne f182_37 (fun c30965 => absurd c30965 (by omega)) (fun c30965 => ?_)
                  refine ev_iconst ?_
                  exact ev_ret rfl (by decide) (by decide) ⟨_, rfl, by omega, by omega, g, k0⟩
                · refine ev_iconst ?_
                  refine ev_goto f26_24 ?_
                  refine ev_ret rfl (by decide) (by decide) ?_
                  show jEv _ _ _ _ _ _ _ (_, [(2, 0), (0, a1), (0, a2), (0, a3), (2, (r30919 : Int)), (9, 0)], [(0, 1)], _, _, _)
                  refine ev_ifne f182_37 (fun c30966 => ?_) (fun c30966 => absurd c30966 (by omega))
                  refine ev_aload rfl ?_
                  refine ev_iload_n rfl ?_
                  refine ev_in (d := 2) (a := 0) (b := 0) (cd' := c36_0) (m := 2) (L0 := [(2, (r30919 : Int)), (0, a2)]) (jcall_v (A := [(0, a2)]) (S' := []) (r := r30919) rfl (g.qlt qr30919) (g.qtg qr30919) (Nat.le_of_ble_eq_true rfl)) (by decide) ml36 pp36 (Nat.le_of_ble_eq_true rfl) rfl (by decide) (by decide) ?_
                  refine ev_aload_n rfl ?_
                  refine g_qgetp g qr30919 (c := 9) (by decide) (by decide) ft4_9 ?_
                  refine ev_iload_n rfl ?_
                  refine g_qiald g qr30919 (c := 9) (by decide) (by decide) (by decide) (by omega) (by show a2 < m30920; omega) rfl (fun v30967 ev30967 lv30967 uv30967 => ?_)
                  refine ev_ret rfl (by decide) (by decide) ?_
                  show jEv _ _ _ _ _ _ _ (_, [(2, 0), (0, a1), (0, a2), (0, a3), (2, (r30919 : Int)), (9, 0)], [(0, v30967)], _, _, _)
                  refine ev_istore (L' := [(2, 0), (0, a1), (0, a2), (0, a3), (2, (r30919 : Int)), (0, v30967)]) (Nat.le_of_ble_eq_true rfl) rfl ?_
                  refine ev_iload_n rfl ?_
                  refine ev_iflt f182_56 (fun c30968 => ?_) (fun c30968 => absurd c30968 (by omega))
                  refine ev_iload rfl ?_
                  exact ev_ret rfl (by decide) (by decide) ⟨_, rfl, by omega, by omega, g, k0⟩
    · refine ev_aconst_null ?_
      refine ev_goto f219_22 ?_
      refine ev_ret rfl (by decide) (by decide) ?_
      show jEv _ _ _ _ _ _ _ (_, [(2, 0), (0, a1), (0, a2), (0, a3), (9, 0), (9, 0)], [(2, (-1))], _, _, _)
      refine ev_astore (L' := [(2, 0), (0, a1), (0, a2), (0, a3), (2, (-1)), (9, 0)]) (Nat.le_of_ble_eq_true rfl) rfl ?_
      refine ev_aload rfl ?_
      refine ev_ifnull f182_35 (fun c30969 => ?_) (fun c30969 => absurd c30969 (by decide))
      refine ev_iconst ?_
      exact ev_ret rfl (by decide) (by decide) ⟨_, rfl, by omega, by omega, g, k0⟩
/-! 183 judge -/
set_option maxHeartbeats 4000000 in
theorem s183 {G : GH} {h : JH} (g : Gd G h) {a1 : Int} (la1 : (-2147483648) ≤ a1) (ua1 : a1 ≤ 2147483647) {a2 : Int} (la2 : (-2147483648) ≤ a2) (ua2 : a2 ≤ 2147483647) {a3 : Int} (la3 : (-2147483648) ≤ a3) (ua3 : a3 ≤ 2147483647) : jOk 6 0 0 183 [(2, 0), (0, a1), (0, a2), (0, a3)] h (PI G [(1, 2), (1, 3), (5, 0), (6, 0), (1000000, 0)] h 1 (-9223372036854775808) 9223372036854775807) := by
  refine ⟨by decide, by rw [ml183]; exact Nat.le_of_ble_eq_true rfl, ?_⟩
  rw [ml183, pp183]
  show jEv _ none _ c183_0 0 0 _ (c183_0, [(2, 0), (0, a1), (0, a2), (0, a3), (9, 0), (9, 0)], [], h, 0, 0)
  have k0 := Kp.rf [(1, 2), (1, 3), (5, 0), (6, 0), (1000000, 0)] h
  refine ev_aload_n rfl ?_
  refine ev_iload_n rfl ?_
  refine ev_in (d := 4) (a := 0) (b := 0) (cd' := c219_0) (m := 2) (L0 := [(2, 0), (0, a1)]) (jcall_v (A := [(0, a1)]) (S' := []) (r := 0) rfl (g.lt ad0) (g.tg ad0) (Nat.le_of_ble_eq_true rfl)) (by decide) ml219 pp219 (Nat.le_of_ble_eq_true rfl) rfl (by decide) (by decide) ?_
  refine ev_iload_n rfl ?_
  refine ev_iflt f219_12 (fun c31066 => ?_) (fun c31066 => ?_)
  · refine ev_aconst_null ?_
    refine ev_goto f219_22 ?_
    refine ev_ret rfl (by decide) (by decide) ?_
    show jEv _ _ _ _ _ _ _ (_, [(2, 0), (0, a1), (0, a2), (0, a3), (9, 0), (9, 0)], [(2, (-1))], _, _, _)
    refine ev_astore (L' := [(2, 0), (0, a1), (0, a2), (0, a3), (2, (-1)), (9, 0)]) (Nat.le_of_ble_eq_true rfl) rfl ?_
    refine ev_aload_n rfl ?_
    refine ev_iload_n rfl ?_
    refine ev_in (d := 4) (a := 0) (b := 0) (cd' := c220_0) (m := 2) (L0 := [(2, 0), (0, a2)]) (jcall_v (A := [(0, a2)]) (S' := []) (r := 0) rfl (g.lt ad0) (g.tg ad0) (Nat.le_of_ble_eq_true rfl)) (by decide) ml220 pp220 (Nat.le_of_ble_eq_true rfl) rfl (by decide) (by decide) ?_
    refine ev_iload_n rfl ?_
    refine ev_iflt f220_12 (fun c31067 => ?_) (fun c31067 => ?_)
    · refine ev_aconst_null ?_
      refine ev_goto f220_22 ?_
      refine ev_ret rfl (by decide) (by decide) ?_
      show jEv _ _ _ _ _ _ _ (_, [(2, 0), (0, a1), (0, a2), (0, a3), (2, (-1)), (9, 0)], [(2, (-1))], _, _, _)
      refine ev_astore (L' := [(2, 0), (0, a1), (0, a2), (0, a3), (2, (-1)), (2, (-1))]) (Nat.le_of_ble_eq_true rfl) rfl ?_
      refine ev_aload rfl ?_
      refine ev_ifnull f183_41 (fun c31068 => ?_) (fun c31068 => absurd c31068 (by decide))
      refine ev_ldc2_w ?_
      exact ev_ret rfl (by decide) (by decide) ⟨_, rfl, by omega, by omega, g, k0⟩
    · refine ev_iload_n rfl ?_
      refine ev_aload_n rfl ?_
      obtain ⟨v31069, ev31069, lv31069, uv31069⟩ := g.rd ad0 (show 7 < 17 by decide) rf0_7
      refine g_getv (r := 0) (v := v31069) g ad0 (by decide) ft11_7 ev31069 ?_
      refine ev_icmplt f220_16 (fun c31070 => ?_) (fun c31070 => ?_)
      · refine ev_aload_n rfl ?_
        refine g_getp (r := 0) (c := 24) g ad0 (by decide) (by decide) rf0_6 ft11_6 ?_
        refine ev_iload_n rfl ?_
        refine g_faald (g) (i := a2) (ev31069) (by omega) (by omega) (fun f31071 qf31071 => ?_)
        refine ev_ret rfl (by decide) (by decide) ?_
        show jEv _ _ _ _ _ _ _ (_, [(2, 0), (0, a1), (0, a2), (0, a3), (2, (-1)), (9, 0)], [(2, (f31071 : Int))], _, _, _)
        refine ev_astore (L' := [(2, 0), (0, a1), (0, a2), (0, a3), (2, (-1)), (2, (f31071 : Int))]) (Nat.le_of_ble_eq_true rfl) rfl ?_
        refine ev_aload rfl ?_
        refine ev_ifnull f183_41 (fun c31072 => ?_) (fun c31072 => absurd c31072 (by decide))
        refine ev_ldc2_w ?_
        exact ev_ret rfl (by decide) (by decide) ⟨_, rfl, by omega, by omega, g, k0⟩
      · refine ev_aconst_null ?_
        refine ev_goto f220_22 ?_
        refine ev_ret rfl (by decide) (by decide) ?_
        show jEv _ _ _ _ _ _ _ (_, [(2, 0), (0, a1), (0, a2), (0, a3), (2, (-1)), (9, 0)], [(2, (-1))], _, _, _)
        refine ev_astore (L' := [(2, 0), (0, a1), (0, a2), (0, a3), (2, (-1)), (2, (-1))]) (Nat.le_of_ble_eq_true rfl) rfl ?_
        refine ev_aload rfl ?_
        refine ev_ifnull f183_41 (fun c31073 => ?_) (fun c31073 => absurd c31073 (by decide))
        refine ev_ldc2_w ?_
        exact ev_ret rfl (by decide) (by decide) ⟨_, rfl, by omega, by omega, g, k0⟩
  · refine ev_iload_n rfl ?_
    refine ev_aload_n rfl ?_
    obtain ⟨v31074, ev31074, lv31074, uv31074⟩ := g.rd ad0 (show 3 < 17 by decide) rf0_3
    refine g_getv (r := 0) (v := v31074) g ad0 (by decide) ft11_3 ev31074 ?_
    refine ev_icmplt f219_16 (fun c31075 => ?_) (fun c31075 => ?_)
    · refine ev_aload_n rfl ?_
      refine g_getp (r := 0) (c := 18) g ad0 (by decide) (by decide) rf0_2 ft11_2 ?_
      refine ev_iload_n rfl ?_
      refine g_qaald (g) (i := a1) (ev31074) (by omega) (by omega) (fun r31076 m31077 qr31076 => ?_)
      have wr31076 := g.qb qr31076
      have zr31076 := qr31076.1
      refine ev_ret rfl (by decide) (by decide) ?_
      show jEv _ _ _ _ _ _ _ (_, [(2, 0), (0, a1), (0, a2), (0, a3), (9, 0), (9, 0)], [(2, (r31076 : Int))], _, _, _)
      refine ev_astore (L' := [(2, 0), (0, a1), (0, a2), (0, a3), (2, (r31076 : Int)), (9, 0)]) (Nat.le_of_ble_eq_true rfl) rfl ?_
      refine ev_aload_n rfl ?_
      refine ev_iload_n rfl ?_
      refine ev_in (d := 4) (a := 0) (b := 0) (cd' := c220_0) (m := 2) (L0 := [(2, 0), (0, a2)]) (jcall_v (A := [(0, a2)]) (S' := []) (r := 0) rfl (g.lt ad0) (g.tg ad0) (Nat.le_of_ble_eq_true rfl)) (by decide) ml220 pp220 (Nat.le_of_ble_eq_true rfl) rfl (by decide) (by decide) ?_
      refine ev_iload_n rfl ?_
      refine ev_iflt f220_12 (fun c31078 => ?_) (fun c31078 => ?_)
      · refine ev_aconst_null ?_
        refine ev_goto f220_22 ?_
        refine ev_ret rfl (by decide) (by decide) ?_
        show jEv _ _ _ _ _ _ _ (_, [(2, 0), (0, a1), (0, a2), (0, a3), (2, (r31076 : Int)), (9, 0)], [(2, (-1))], _, _, _)
        refine ev_astore (L' := [(2, 0), (0, a1), (0, a2), (0, a3), (2, (r31076 : Int)), (2, (-1))]) (Nat.le_of_ble_eq_true rfl) rfl ?_
        refine ev_aload rfl ?_
        refine ev_ifnull f183_41 (fun c31079 => absurd c31079 (by omega)) (fun c31079 => ?_)
        refine ev_aload rfl ?_
        refine ev_ifnull f183_41 (fun c31080 => ?_) (fun c31080 => absurd c31080 (by decide))
        refine ev_ldc2_w ?_
        exact ev_ret rfl (by decide) (by decide) ⟨_, rfl, by omega, by omega, g, k0⟩
      · refine ev_iload_n rfl ?_
        refine ev_aload_n rfl ?_
        obtain ⟨v31081, ev31081, lv31081, uv31081⟩ := g.rd ad0 (show 7 < 17 by decide) rf0_7
        refine g_getv (r := 0) (v := v31081) g ad0 (by decide) ft11_7 ev31081 ?_
        refine ev_icmplt f220_16 (fun c31082 => ?_) (fun c31082 => ?_)
        · refine ev_aload_n rfl ?_
          refine g_getp (r := 0) (c := 24) g ad0 (by decide) (by decide) rf0_6 ft11_6 ?_
          refine ev_iload_n rfl ?_
          refine g_faald (g) (i := a2) (ev31081) (by omega) (by omega) (fun f31083 qf31083 => ?_)
          refine ev_ret rfl (by decide) (by decide) ?_
          show jEv _ _ _ _ _ _ _ (_, [(2, 0), (0, a1), (0, a2), (0, a3), (2, (r31076 : Int)), (9, 0)], [(2, (f31083 : Int))], _, _, _)
          refine ev_astore (L' := [(2, 0), (0, a1), (0, a2), (0, a3), (2, (r31076 : Int)), (2, (f31083 : Int))]) (Nat.le_of_ble_eq_true rfl) rfl ?_
          refine ev_aload rfl ?_
          refine ev_ifnull f183_41 (fun c31084 => absurd c31084 (by omega)) (fun c31084 => ?_)
          refine ev_aload rfl ?_
          refine ev_ifnull f183_41 (fun c31085 => absurd c31085 (by omega)) (fun c31085 => ?_)
          refine ev_iload_n rfl ?_
          refine ev_in (d := 4) (a := 0) (b := 0) (cd' := c221_0) (m := 1) (L0 := [(0, a3)]) (jcall_s (A := [(0, a3)]) (S' := []) (by decide) rfl (Nat.le_of_ble_eq_true rfl)) (by decide) ml221 pp221 (Nat.le_of_ble_eq_true rfl) rfl (by decide) (by decide) ?_
          refine ev_iload_n rfl ?_
          refine ev_ifeq f221_9 (fun c31086 => ?_) (fun c31086 => ?_)
          · refine ev_iconst ?_
            refine ev_goto f221_14 ?_
            refine ev_ret rfl (by decide) (by decide) ?_
            show jEv _ _ _ _ _ _ _ (_, [(2, 0), (0, a1), (0, a2), (0, a3), (2, (r31076 : Int)), (2, (f31083 : Int))], [(0, 1)], _, _, _)
            refine ev_ifeq f183_41 (fun c31087 => absurd c31087 (by omega)) (fun c31087 => ?_)
            refine ev_aload_n rfl ?_
            refine g_getp (r := 0) (c := 1) g ad0 (by decide) (by decide) rf0_0 ft11_0 ?_
            refine ev_call (jcall_v (A := []) (S' := []) (r := 1) rfl (g.lt ad1) (g.tg ad1) (Nat.le_of_ble_eq_true rfl)) (jOk_le (by decide) (s153 g )) (by decide) (by decide) (fun w31088 h31088 q31088 => ?_)
            obtain ⟨v31089, rfl, lv31089, uv31089, g31088, kk31088⟩ := q31088
            have k31088 := k0.tr kk31088 (by decide)
            show jEv _ _ _ _ _ _ _ (_, [(2, 0), (0, a1), (0, a2), (0, a3), (2, (r31076 : Int)), (2, (f31083 : Int))], [(0, v31089)], _, _, _)
            refine ev_ifne f183_45 (fun c31090 => ?_) (fun c31090 => ?_)
            · refine ev_aload_n rfl ?_
              refine ev_aload rfl ?_
              refine ev_aload rfl ?_
              refine ev_aload rfl ?_
              refine ev_aload_n rfl ?_
              refine g_getp (r := 0) (c := 1) g31088 ad0 (by decide) (by decide) rf0_0 ft11_0 ?_
              refine ev_aload rfl ?_
              refine ev_call (jcall_v (A := [(2, (f31083 : Int)), (2, 1)]) (S' := [(2, (f31083 : Int)), (2, (r31076 : Int)), (2, 0)]) (r := r31076) rfl (g31088.qlt qr31076) (g31088.qtg qr31076) (Nat.le_of_ble_eq_true rfl)) (jOk_le (by decide) (s48 g31088 qr31076 qf31083)) (by decide) (by decide) (fun w31091 h31091 q31091 => ?_)
              obtain ⟨v31092, rfl, lv31092, uv31092, g31091, kk31091⟩ := q31091
              have k31091 := k31088.tr kk31091 (by decide)
              show jEv _ _ _ _ _ _ _ (_, [(2, 0), (0, a1), (0, a2), (0, a3), (2, (r31076 : Int)), (2, (f31083 : Int))], [(1, v31092), (2, (f31083 : Int)), (2, (r31076 : Int)), (2, 0)], _, _, _)
              refine ev_iload_n rfl ?_
              refine ev_call (jcall_v (A := [(0, a3), (1, v31092), (2, (f31083 : Int)), (2, (r31076 : Int))]) (S' := []) (r := 0) rfl (g31091.lt ad0) (g31091.tg ad0) (Nat.le_of_ble_eq_true rfl)) (jOk_le (by decide) (s227 g31091 qr31076 qf31083 (by omega) (by omega) (by omega) (by omega))) (by decide) (by decide) (fun w31093 h31093 q31093 => ?_)
              obtain ⟨v31094, rfl, lv31094, uv31094, g31093, kk31093⟩ := q31093
              have k31093 := k31091.tr kk31093 (by decide)
              show jEv _ _ _ _ _ _ _ (_, [(2, 0), (0, a1), (0, a2), (0, a3), (2, (r31076 : Int)), (2, (f31083 : Int))], [(1, v31094)], _, _, _)
              exact ev_ret rfl (by decide) (by decide) ⟨_, rfl, by omega, by omega, g31093, k31093⟩
            · refine ev_ldc2_w ?_
              exact ev_ret rfl (by decide) (by decide) ⟨_, rfl, by omega, by omega, g31088, k31088⟩
          · refine ev_iload_n rfl ?_
            refine ev_iconst ?_
            refine ev_icmpne f221_13 (fun c31095 => ?_) (fun c31095 => ?_)
            · refine ev_iconst ?_
              refine ev_ret rfl (by decide) (by decide) ?_
              show jEv _ _ _ _ _ _ _ (_, [(2, 0), (0, a1), (0, a2), (0, a3), (2, (r31076 : Int)), (2, (f31083 : Int))], [(0, 0)], _, _, _)
              refine ev_ifeq f183_41 (fun c31096 => ?_) (fun c31096 => absurd c31096 (by omega))
              refine ev_ldc2_w ?_
              exact ev_ret rfl (by decide) (by decide) ⟨_, rfl, by omega, by omega, g, k0⟩
            · refine ev_iconst ?_
              refine ev_goto f221_14 ?_
              refine ev_ret rfl (by decide) (by decide) ?_
              show jEv _ _ _ _ _ _ _ (_, [(2, 0), (0, a1), (0, a2), (0, a3), (2, (r31076 : Int)), (2, (f31083 : Int))], [(0, 1)], _, _, _)
              refine ev_ifeq f183_41 (fun c31097 => absurd c31097 (by omega)) (fun c31097 => ?_)
              refine ev_aload_n rfl ?_
              refine g_getp (r := 0) (c := 1) g ad0 (by decide) (by decide) rf0_0 ft11_0 ?_
              refine ev_call (jcall_v (A := []) (S' := []) (r := 1) rfl (g.lt ad1) (g.tg ad1) (Nat.le_of_ble_eq_true rfl)) (jOk_le (by decide) (s153 g )) (by decide) (by decide) (fun w31098 h31098 q31098 => ?_)
              obtain ⟨v31099, rfl, lv31099, uv31099, g31098, kk31098⟩ := q31098
              have k31098 := k0.tr kk31098 (by decide)
              show jEv _ _ _ _ _ _ _ (_, [(2, 0), (0, a1), (0, a2), (0, a3), (2, (r31076 : Int)), (2, (f31083 : Int))], [(0, v31099)], _, _, _)
              refine ev_ifne f183_45 (fun c31100 => ?_) (fun c31100 => ?_)
              · refine ev_aload_n rfl ?_
                refine ev_aload rfl ?_
                refine ev_aload rfl ?_
                refine ev_aload rfl ?_
                refine ev_aload_n rfl ?_
                refine g_getp (r := 0) (c := 1) g31098 ad0 (by decide) (by decide) rf0_0 ft11_0 ?_
                refine ev_aload rfl ?_
                refine ev_call (jcall_v (A := [(2, (f31083 : Int)), (2, 1)]) (S' := [(2, (f31083 : Int)), (2, (r31076 : Int)), (2, 0)]) (r := r31076) rfl (g31098.qlt qr31076) (g31098.qtg qr31076) (Nat.le_of_ble_eq_true rfl)) (jOk_le (by decide) (s48 g31098 qr31076 qf31083)) (by decide) (by decide) (fun w31101 h31101 q31101 => ?_)
                obtain ⟨v31102, rfl, lv31102, uv31102, g31101, kk31101⟩ := q31101
                have k31101 := k31098.tr kk31101 (by decide)
                show jEv _ _ _ _ _ _ _ (_, [(2, 0), (0, a1), (0, a2), (0, a3), (2, (r31076 : Int)), (2, (f31083 : Int))], [(1, v31102), (2, (f31083 : Int)), (2, (r31076 : Int)), (2, 0)], _, _, _)
                refine ev_iload_n rfl ?_
                refine ev_call (jcall_v (A := [(0, a3), (1, v31102), (2, (f31083 : Int)), (2, (r31076 : Int))]) (S' := []) (r := 0) rfl (g31101.lt ad0) (g31101.tg ad0) (Nat.le_of_ble_eq_true rfl)) (jOk_le (by decide) (s227 g31101 qr31076 qf31083 (by omega) (by omega) (by omega) (by omega))) (by decide) (by decide) (fun w31103 h31103 q31103 => ?_)
                obtain ⟨v31104, rfl, lv31104, uv31104, g31103, kk31103⟩ := q31103
                have k31103 := k31101.tr kk31103 (by decide)
                show jEv _ _ _ _ _ _ _ (_, [(2, 0), (0, a1), (0, a2), (0, a3), (2, (r31076 : Int)), (2, (f31083 : Int))], [(1, v31104)], _, _, _)
                exact ev_ret rfl (by decide) (by decide) ⟨_, rfl, by omega, by omega, g31103, k31103⟩
              · refine ev_ldc2_w ?_
                exact ev_ret rfl (by decide) (by decide) ⟨_, rfl, by omega, by omega, g31098, k31098⟩
        · refine ev_aconst_null ?_
          refine ev_goto f220_22 ?_
          refine ev_ret rfl (by decide) (by decide) ?_
          show jEv _ _ _ _ _ _ _ (_, [(2, 0), (0, a1), (0, a2), (0, a3), (2, (r31076 : Int)), (9, 0)], [(2, (-1))], _, _, _)
          refine ev_astore (L' := [(2, 0), (0, a1), (0, a2), (0, a3), (2, (r31076 : Int)), (2, (-1))]) (Nat.le_of_ble_eq_true rfl) rfl ?_
          refine ev_aload rfl ?_
          refine ev_ifnull f183_41 (fun c31105 => absurd c31105 (by omega)) (fun c31105 => ?_)
          refine ev_aload rfl ?_
          refine ev_ifnull f183_41 (fun c31106 => ?_) (fun c31106 => absurd c31106 (by decide))
          refine ev_ldc2_w ?_
          exact ev_ret rfl (by decide) (by decide) ⟨_, rfl, by omega, by omega, g, k0⟩
    · refine ev_aconst_null ?_
      refine ev_goto f219_22 ?_
      refine ev_ret rfl (by decide) (by decide) ?_
      show jEv _ _ _ _ _ _ _ (_, [(2, 0), (0, a1), (0, a2), (0, a3), (9, 0), (9, 0)], [(2, (-1))], _, _, _)
      refine ev_astore (L' := [(2, 0), (0, a1), (0, a2), (0, a3), (2, (-1)), (9, 0)]) (Nat.le_of_ble_eq_true rfl) rfl ?_
      refine ev_aload_n rfl ?_
      refine ev_iload_n rfl ?_
      refine ev_in (d := 4) (a := 0) (b := 0) (cd' := c220_0) (m := 2) (L0 := [(2, 0), (0, a2)]) (jcall_v (A := [(0, a2)]) (S' := []) (r := 0) rfl (g.lt ad0) (g.tg ad0) (Nat.le_of_ble_eq_true rfl)) (by decide) ml220 pp220 (Nat.le_of_ble_eq_true rfl) rfl (by decide) (by decide) ?_
      refine ev_iload_n rfl ?_
      refine ev_iflt f220_12 (fun c31107 => ?_) (fun c31107 => ?_)
      · refine ev_aconst_null ?_
        refine ev_goto f220_22 ?_
        refine ev_ret rfl (by decide) (by decide) ?_
        show jEv _ _ _ _ _ _ _ (_, [(2, 0), (0, a1), (0, a2), (0, a3), (2, (-1)), (9, 0)], [(2, (-1))], _, _, _)
        refine ev_astore (L' := [(2, 0), (0, a1), (0, a2), (0, a3), (2, (-1)), (2, (-1))]) (Nat.le_of_ble_eq_true rfl) rfl ?_
        refine ev_aload rfl ?_
        refine ev_ifnull f183_41 (fun c31108 => ?_) (fun c31108 => absurd c31108 (by decide))
        refine ev_ldc2_w ?_
        exact ev_ret rfl (by decide) (by decide) ⟨_, rfl, by omega, by omega, g, k0⟩
      · refine ev_iload_n rfl ?_
        refine ev_aload_n rfl ?_
        obtain ⟨v31109, ev31109, lv31109, uv31109⟩ := g.rd ad0 (show 7 < 17 by decide) rf0_7
        refine g_getv (r := 0) (v := v31109) g ad0 (by decide) ft11_7 ev31109 ?_
        refine ev_icmplt f220_16 (fun c31110 => ?_) (fun c31110 => ?_)
        · refine ev_aload_n rfl ?_
          refine g_getp (r := 0) (c := 24) g ad0 (by decide) (by decide) rf0_6 ft11_6 ?_
          refine ev_iload_n rfl ?_
          refine g_faald (g) (i := a2) (ev31109) (by omega) (by omega) (fun f31111 qf31111 => ?_)
          refine ev_ret rfl (by decide) (by decide) ?_
          show jEv _ _ _ _ _ _ _ (_, [(2, 0), (0, a1), (0, a2), (0, a3), (2, (-1)), (9, 0)], [(2, (f31111 : Int))], _, _, _)
          refine ev_astore (L' := [(2, 0), (0, a1), (0, a2), (0, a3), (2, (-1)), (2, (f31111 : Int))]) (Nat.le_of_ble_eq_true rfl) rfl ?_
          refine ev_aload rfl ?_
          refine ev_ifnull f183_41 (fun c31112 => ?_) (fun c31112 => absurd c31112 (by decide))
          refine ev_ldc2_w ?_
          exact ev_ret rfl (by decide) (by decide) ⟨_, rfl, by omega, by omega, g, k0⟩
        · refine ev_aconst_null ?_
          refine ev_goto f220_22 ?_
          refine ev_ret rfl (by decide) (by decide) ?_
          show jEv _ _ _ _ _ _ _ (_, [(2, 0), (0, a1), (0, a2), (0, a3), (2, (-1)), (9, 0)], [(2, (-1))], _, _, _)
          refine ev_astore (L' := [(2, 0), (0, a1), (0, a2), (0, a3), (2, (-1)), (2, (-1))]) (Nat.le_of_ble_eq_true rfl) rfl ?_
          refine ev_aload rfl ?_
          refine ev_ifnull f183_41 (fun c31113 => ?_) (fun c31113 => absurd c31113 (by decide))
          refine ev_ldc2_w ?_
          exact ev_ret rfl (by decide) (by decide) ⟨_, rfl, by omega, by omega, g, k0⟩
