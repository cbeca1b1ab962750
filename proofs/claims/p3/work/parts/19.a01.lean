set_option maxHeartbeats 4000000 in
theorem t79_s_l {G : GH} {h : JH} {a2 : Int} (la2 : 0 ≤ a2) (ua2 : a2 ≤ 12) {a3 : Int} (la3 : 0 ≤ a3) (ua3 : a3 ≤ 15) {w0 : Int} (ew0 : h.2.2 7 0 = w0) (lw0 : 0 ≤ w0) (uw0 : w0 ≤ 200) {w1 : Int} (ew1 : h.2.2 7 2 = w1) (lw1 : 0 ≤ w1) (uw1 : w1 ≤ 200) (ew2 : h.2.2 7 1 = (-1)) {w3 : Int} (ew3 : h.2.2 7 3 = w3) (lw3 : 0 ≤ w3) (uw3 : w3 ≤ 200) {w4 : Int} (ew4 : h.2.2 7 4 = w4) (lw4 : 0 ≤ w4) (uw4 : w4 ≤ 6) (F0 : ((-w1) + w3) ≤ 0) (F1 : ((-w0) + w1) ≤ (-1)) {K : Int → Int × Int × Int} {q : Nat} (hK : KoC h w4 K) (hq : 13 - a2 = q) (hb : bC h w1 = 33) {M : Int} (hM : M = a2) {d : Nat} (hd : 2 ≤ d) (rih : ∀ {G : GH} {h : JH} (g : Gd G h) {a2 : Int} (la2 : 0 ≤ a2) (ua2 : a2 ≤ 12) {a3 : Int} (la3 : 0 ≤ a3) (ua3 : a3 ≤ 15) {w0 : Int} (ew0 : h.2.2 7 0 = w0) (lw0 : 0 ≤ w0) (uw0 : w0 ≤ 200) {w1 : Int} (ew1 : h.2.2 7 2 = w1) (lw1 : 0 ≤ w1) (uw1 : w1 ≤ 200) (ew2 : h.2.2 7 1 = (-1)) {w3 : Int} (ew3 : h.2.2 7 3 = w3) (lw3 : 0 ≤ w3) (uw3 : w3 ≤ 200) {w4 : Int} (ew4 : h.2.2 7 4 = w4) (lw4 : 0 ≤ w4) (uw4 : w4 ≤ 6) (F0 : ((-w1) + w3) ≤ 0) {K : Int → Int × Int × Int} {q : Nat} (hK : KoC h w4 K) (hq : 13 - a2 = q) (hm : M + 1 ≤ a2), jOk d 0 0 74 [(2, 7), (2, 1), (0, a2), (0, a3)] h (fun v h' => ∃ r : Int, v = some (0, r) ∧ Gd G h' ∧ Kp [(7, 2), (7, 3), (7, 4), (10, 0), (11, 0), (12, 0), (13, 0), (14, 0), (15, 0), (16, 0), (17, 0)] h h' ∧ (-1) ≤ r ∧ r ≤ 199 ∧ Rp h h' w3 (RC h w4 K q a3 a2 w1) r)) : ∀ N : Nat, (∀ (h1 : JH) (x4 x5 x6 y0 y1 y2 y3 y4 : Int), Gd G h1 → Kp [(7, 2), (7, 3), (7, 4), (10, 0), (11, 0), (12, 0), (13, 0), (14, 0), (15, 0), (16, 0), (17, 0)] h h1 → 0 ≤ a2 → a2 ≤ 12 → 0 ≤ a3 → a3 ≤ 15 → 0 ≤ x4 → x4 ≤ 3 → 0 ≤ x5 → x5 ≤ 198 → 0 ≤ x6 → x6 ≤ 3 → (x6 + (-y3)) ≤ 0 → ((-x6)) ≤ 0 → (w3 + (-y2)) ≤ 0 → (a2 + (-y0)) ≤ 12 → ((-x4)) ≤ 0 → (x4 + (-y4)) ≤ (-1) → h1.2.2 7 1 = y0 → (-1) ≤ y0 → y0 ≤ 200 → h1.2.2 7 2 = y1 → 0 ≤ y1 → y1 ≤ 200 → h1.2.2 7 3 = y2 → 0 ≤ y2 → y2 ≤ 200 → h1.2.2 2 (x4).toNat = y3 → 2 ≤ y3 → y3 ≤ 3 → h1.2.2 1 0 = y4 → 0 ≤ y4 → y4 ≤ 4 → Tj (bC h) (RC h w4 K (q - 1) (jor a3 (jshl 1 x4)) (a2 + 1)) h1 (tuN (bC h) (h.2.2 1 0) (yC h) (fun t => RC h w4 K (q - 1) t (a2 + 1)) a3 a2 w1) (tuL (bC h) (RC h w4 K (q - 1) (jor a3 (jshl 1 x4)) (a2 + 1)) (y3).toNat (w1 + 3) 0 0 1) x4 y3 w3 x5 x6 y0 y1 y2 → FrN h h1 w3 → ((-x6) + 3) < N → jEv (jOk (d + 3)) none (fun _ => 0) c79_0 0 0 (fun v h' => ∃ r : Int, v = some (0, r) ∧ Gd G h' ∧ Kp [(7, 2), (7, 3), (7, 4), (10, 0), (11, 0), (12, 0), (13, 0), (14, 0), (15, 0), (16, 0), (17, 0)] h h' ∧ (-1) ≤ r ∧ r ≤ 199 ∧ Rp h h' w3 (tuN (bC h) (h.2.2 1 0) (yC h) (fun t => RC h w4 K (q - 1) t (a2 + 1)) a3 a2 w1) r) (c79_68, [(2, 7), (2, 1), (0, a2), (0, a3), (0, x4), (0, x5), (0, x6)], [], h1, 0, 0)) := by
  intro N
  induction N with
  | zero => exact fun h1 x4 x5 x6 y0 y1 y2 y3 y4 g1 k1 b0 b1 b2 b3 b4 b5 b6 b7 b8 b9 b10 b11 b12 b13 b14 b15 b16 b17 b18 b19 b20 b21 b22 b23 b24 b25 b26 b27 b28 b29 b30 b31 b32 hm => absurd hm (by omega)
  | succ N ih =>
    show _
    intro h1 x4 x5 x6 y0 y1 y2 y3 y4 g1 k1 b0 b1 b2 b3 b4 b5 b6 b7 b8 b9 b10 b11 b12 b13 b14 b15 ey0 ly0 uy0 ey1 ly1 uy1 ey2 ly2 uy2 ey3 ly3 uy3 ey4 ly4 uy4 H0 H1 hm
    refine ev_iload rfl ?_
    refine ev_aload_n rfl ?_
    refine ev_iload rfl ?_
    refine ev_in (d := (d + 2)) (a := 0) (b := 0) (cd' := c141_0) (m := 2) (L0 := [(2, 1), (0, x4)]) (jcall_v (A := [(0, x4)]) (S' := [(0, x6)]) (r := 1) rfl (g1.lt ad1) (g1.tg ad1) (Nat.le_of_ble_eq_true rfl)) (by decide) ml141 pp141 (Nat.le_of_ble_eq_true rfl) rfl (by decide) (by decide) ?_
    refine ev_aload_n rfl ?_
    refine ev_iload_n rfl ?_
    refine ev_in (d := (d + 1)) (a := 0) (b := 0) (cd' := c140_0) (m := 2) (L0 := [(2, 1), (0, x4)]) (jcall_v (A := [(0, x4)]) (S' := []) (r := 1) rfl (g1.lt ad1) (g1.tg ad1) (Nat.le_of_ble_eq_true rfl)) (by decide) ml140 pp140 (Nat.le_of_ble_eq_true rfl) rfl (by decide) (by decide) ?_
    refine ev_iload_n rfl ?_
    refine ev_iflt f140_16 (fun c77969 => absurd c77969 (by omega)) (fun c77969 => ?_)
    refine ev_iload_n rfl ?_
    refine ev_aload_n rfl ?_
    refine g_getv (r := 1) (v := y4) g1 ad1 (by decide) ft10_0 (ey4) ?_
    refine ev_icmpge f140_16 (fun c77970 => absurd c77970 (by omega)) (fun c77970 => ?_)
    refine ev_iconst ?_
    refine ev_goto f140_17 ?_
    refine ev_ret rfl (by decide) (by decide) ?_
    show jEv _ _ _ _ _ _ _ (_, [(2, 1), (0, x4)], [(0, 1)], _, _, _)
    refine ev_ifeq f141_17 (fun c77971 => absurd c77971 (by omega)) (fun c77971 => ?_)
    refine ev_aload_n rfl ?_
    refine g_getp (r := 1) (c := 2) g1 ad1 (by decide) (by decide) rf1_3 ft10_3 ?_
    refine ev_iload_n rfl ?_
    refine g_ialdv (v := y3) g1 ad2 (by omega) (by omega) (ey3) ?_
    refine ev_goto f141_18 ?_
    refine ev_ret rfl (by decide) (by decide) ?_
    show jEv _ _ _ _ _ _ _ (_, [(2, 7), (2, 1), (0, a2), (0, a3), (0, x4), (0, x5), (0, x6)], [(0, y3), (0, x6)], _, _, _)
    refine ev_icmpge f79_126 (fun c77972 => ?_) (fun c77972 => ?_)
    · rcases Int.lt_or_le (y0) 0 with c77973 | c77973
      · obtain ⟨k177974, k977974, k277974, k377974, k477974, v77975, lv77975, s277974, s377974, s477974, s577974, sT77974⟩ := H0.resolve_left (fun z => absurd z.1 (by omega))
        obtain ⟨v77976, ev77976, lv77976, uv77976⟩ := g1.rd ad15 (show (x5).toNat < 200 by omega) (rt15 _)
        obtain ⟨v77977, ev77977, lv77977, uv77977⟩ := g1.rd ad16 (show (x5).toNat < 200 by omega) (rt16 _)
        obtain ⟨v77978, ev77978, lv77978, uv77978⟩ := g1.rd ad17 (show (x5).toNat < 200 by omega) (rt17 _)
        rw [ev77976, ev77977] at sT77974
        rw [ev77978] at s277974
        rw [ev77976] at s377974 s477974
        rw [ev77977] at s577974
        have s677974 : 1 ≤ v77978 ∧ v77978 ≤ 1000 := by rw [s277974]; unfold mn; split <;> omega
        refine ev_aload_n rfl ?_
        refine ev_bipush ?_
        refine ev_in (d := (d + 2)) (a := 0) (b := 0) (cd' := c71_0) (m := 2) (L0 := [(2, 7), (0, 41)]) (jcall_v (A := [(0, 41)]) (S' := []) (r := 7) rfl (g1.lt ad7) (g1.tg ad7) (Nat.le_of_ble_eq_true rfl)) (by decide) ml71 pp71 (Nat.le_of_ble_eq_true rfl) rfl (by decide) (by decide) ?_
        refine ev_aload_n rfl ?_
        refine g_getv (r := 7) (v := y0) g1 ad7 (by decide) ft5_1 (ey0) ?_
        refine ev_iflt f71_8 (fun c77979 => ?_) (fun c77979 => absurd c77979 (by omega))
        refine ev_aload_n rfl ?_
        refine ev_in (d := (d + 1)) (a := 0) (b := 0) (cd' := c68_0) (m := 1) (L0 := [(2, 7)]) (jcall_v (A := []) (S' := []) (r := 7) rfl (g1.lt ad7) (g1.tg ad7) (Nat.le_of_ble_eq_true rfl)) (by decide) ml68 pp68 (Nat.le_of_ble_eq_true rfl) rfl (by decide) (by decide) ?_
        refine ev_aload_n rfl ?_
        refine g_getv (r := 7) (v := y1) g1 ad7 (by decide) ft5_2 (ey1) ?_
        refine ev_aload_n rfl ?_
        refine g_getv (r := 7) (v := w0) g1 ad7 (by decide) ft5_0 (((k1.v (by decide)).trans ew0)) ?_
        refine ev_icmpge f68_27 (fun c77980 => ?_) (fun c77980 => ?_)
        · refine ev_iconst ?_
          refine ev_ret rfl (by decide) (by decide) ?_
          show jEv _ _ _ _ _ _ _ (_, [(2, 7), (0, 41)], [(0, (-1))], _, _, _)
          refine ev_iload_n rfl ?_
          refine ev_icmpne f71_29 (fun c77981 => ?_) (fun c77981 => absurd c77981 (by omega))
          refine ev_aload_n rfl ?_
          refine ev_in (d := (d + 1)) (a := 0) (b := 0) (cd' := c70_0) (m := 1) (L0 := [(2, 7)]) (jcall_v (A := []) (S' := []) (r := 7) rfl (g1.lt ad7) (g1.tg ad7) (Nat.le_of_ble_eq_true rfl)) (by decide) ml70 pp70 (Nat.le_of_ble_eq_true rfl) rfl (by decide) (by decide) ?_
          refine ev_aload_n rfl ?_
          refine g_getv (r := 7) (v := y0) g1 ad7 (by decide) ft5_1 (ey0) ?_
          refine ev_ifge f70_15 (fun c77982 => absurd c77982 (by omega)) (fun c77982 => ?_)
          refine ev_aload_n rfl ?_
          refine ev_aload_n rfl ?_
          refine g_getv (r := 7) (v := y1) g1 ad7 (by decide) ft5_2 (ey1) ?_
          refine g_putf (r := 7) g1 ad7 (by decide) ft5_1 (by decide) (fun e => absurd e nz5_1) rf7_1 (by decide) (by omega) (by omega) (fun h77983 e77983 g77983 => ?_)
          have k77983 := k1.wr e77983 rfl
          refine ev_ret rfl (by decide) (by decide) ?_
          show jEv _ _ _ _ _ _ _ (_, [(2, 7), (0, 41)], [], _, _, _)
          refine ev_ret rfl (by decide) (by decide) ?_
          show jEv _ _ _ _ _ _ _ (_, [(2, 7), (2, 1), (0, a2), (0, a3), (0, x4), (0, x5), (0, x6)], [], _, _, _)
          refine ev_aload_n rfl ?_
          refine g_getv (r := 7) (v := y1) g77983 ad7 (by decide) ft5_1 ((jw_eq e77983)) ?_
          refine ev_ifge f79_144 (fun c77984 => ?_) (fun c77984 => absurd c77984 (by omega))
          refine ev_iconst ?_
          exact ev_ret rfl (by decide) (by decide) ⟨_, rfl, g77983, k77983, by omega, by omega, Rp.bad2 (H1.wn e77983 (by decide)) (((jw_ne e77983 (Or.inr (by decide))).trans ey2)) (by omega) (show ((tuN (bC h) (h.2.2 1 0) (yC h) (fun t => RC h w4 K (q - 1) t (a2 + 1)) a3 a2 w1)).1 = -1 - y1 by rw [k977974, tuE_n (by rw [((sT77974.resolve_left (fun z => by omega)).resolve_left (fun z => by omega)).2.2, if_neg (fun z => absurd ((bC_end (p := y1) ew0 (by omega)).symm.trans z) (by omega))]; exact rF_n (by omega)), ((sT77974.resolve_left (fun z => by omega)).resolve_left (fun z => by omega)).2.2, if_neg (fun z => absurd ((bC_end (p := y1) ew0 (by omega)).symm.trans z) (by omega))]; rfl) (by omega) ((jw_eq e77983)) (by omega)⟩
        · refine ev_aload_n rfl ?_
          refine g_getp (r := 7) (c := 8) g1 ad7 (by decide) (by decide) rf7_5 ft5_5 ?_
          refine ev_aload_n rfl ?_
          refine g_getv (r := 7) (v := y1) g1 ad7 (by decide) ft5_2 (ey1) ?_
          refine g_bald g1 ad8 rt8 (by omega) (by omega) (fun v77985 ev77985 lv77985 uv77985 => ?_)
          refine ev_sipush ?_
          refine g_iandB (b := 255) (by omega) (by omega) (by decide) (fun v77986 ev77986 lv77986 uv77986 => ?_)
          have zv77986 := sgn ev77986 (by omega) (by omega)
          refine ev_goto f68_28 ?_
          refine ev_ret rfl (by decide) (by decide) ?_
          show jEv _ _ _ _ _ _ _ (_, [(2, 7), (0, 41)], [(0, v77986)], _, _, _)
          refine ev_iload_n rfl ?_
          refine ev_icmpne f71_29 (fun c77987 => ?_) (fun c77987 => ?_)
          · refine ev_aload_n rfl ?_
            refine ev_in (d := (d + 1)) (a := 0) (b := 0) (cd' := c70_0) (m := 1) (L0 := [(2, 7)]) (jcall_v (A := []) (S' := []) (r := 7) rfl (g1.lt ad7) (g1.tg ad7) (Nat.le_of_ble_eq_true rfl)) (by decide) ml70 pp70 (Nat.le_of_ble_eq_true rfl) rfl (by decide) (by decide) ?_
            refine ev_aload_n rfl ?_
            refine g_getv (r := 7) (v := y0) g1 ad7 (by decide) ft5_1 (ey0) ?_
            refine ev_ifge f70_15 (fun c77988 => absurd c77988 (by omega)) (fun c77988 => ?_)
            refine ev_aload_n rfl ?_
            refine ev_aload_n rfl ?_
            refine g_getv (r := 7) (v := y1) g1 ad7 (by decide) ft5_2 (ey1) ?_
            refine g_putf (r := 7) g1 ad7 (by decide) ft5_1 (by decide) (fun e => absurd e nz5_1) rf7_1 (by decide) (by omega) (by omega) (fun h77989 e77989 g77989 => ?_)
            have k77989 := k1.wr e77989 rfl
            refine ev_ret rfl (by decide) (by decide) ?_
            show jEv _ _ _ _ _ _ _ (_, [(2, 7), (0, 41)], [], _, _, _)
            refine ev_ret rfl (by decide) (by decide) ?_
            show jEv _ _ _ _ _ _ _ (_, [(2, 7), (2, 1), (0, a2), (0, a3), (0, x4), (0, x5), (0, x6)], [], _, _, _)
            refine ev_aload_n rfl ?_
            refine g_getv (r := 7) (v := y1) g77989 ad7 (by decide) ft5_1 ((jw_eq e77989)) ?_
            refine ev_ifge f79_144 (fun c77990 => ?_) (fun c77990 => absurd c77990 (by omega))
            refine ev_iconst ?_
            exact ev_ret rfl (by decide) (by decide) ⟨_, rfl, g77989, k77989, by omega, by omega, Rp.bad2 (H1.wn e77989 (by decide)) (((jw_ne e77989 (Or.inr (by decide))).trans ey2)) (by omega) (show ((tuN (bC h) (h.2.2 1 0) (yC h) (fun t => RC h w4 K (q - 1) t (a2 + 1)) a3 a2 w1)).1 = -1 - y1 by rw [k977974, tuE_n (by rw [((sT77974.resolve_left (fun z => by omega)).resolve_left (fun z => by omega)).2.2, if_neg (fun z => absurd ((bC_at (p := y1) k77989 (fun _ => rfl) ew0 (((jw_ne e77989 (Or.inl (by decide))).trans ev77985)) (by omega) (by omega)).symm.trans z) (by omega))]; exact rF_n (by omega)), ((sT77974.resolve_left (fun z => by omega)).resolve_left (fun z => by omega)).2.2, if_neg (fun z => absurd ((bC_at (p := y1) k77989 (fun _ => rfl) ew0 (((jw_ne e77989 (Or.inl (by decide))).trans ev77985)) (by omega) (by omega)).symm.trans z) (by omega))]; rfl) (by omega) ((jw_eq e77989)) (by omega)⟩
          · refine ev_aload_n rfl ?_
            refine ev_dup (by decide) ?_
            refine g_getv (r := 7) (v := y1) g1 ad7 (by decide) ft5_2 (ey1) ?_
            refine ev_iconst ?_
            refine ev_iadd (r := (y1 + 1)) (by unfold w32; omega) ?_
            refine g_putf (r := 7) g1 ad7 (by decide) ft5_2 (by decide) (fun e => absurd e nz5_2) rf7_2 (by decide) (by omega) (by omega) (fun h77991 e77991 g77991 => ?_)
            have k77991 := k1.wr e77991 rfl
            refine ev_goto f71_33 ?_
            refine ev_ret rfl (by decide) (by decide) ?_
            show jEv _ _ _ _ _ _ _ (_, [(2, 7), (2, 1), (0, a2), (0, a3), (0, x4), (0, x5), (0, x6)], [], _, _, _)
            refine ev_aload_n rfl ?_
            refine g_getv (r := 7) (v := y0) g77991 ad7 (by decide) ft5_1 (((jw_ne e77991 (Or.inr (by decide))).trans ey0)) ?_
            refine ev_ifge f79_144 (fun c77992 => absurd c77992 (by omega)) (fun c77992 => ?_)
            refine ev_iload rfl ?_
            refine ev_ifge f79_146 (fun c77993 => ?_) (fun c77993 => absurd c77993 (by omega))
            refine ev_aload_n rfl ?_
            refine g_getp (r := 7) (c := 11) g77991 ad7 (by decide) (by decide) rf7_8 ft5_8 ?_
            refine ev_iload rfl ?_
            refine ev_iload rfl ?_
            refine g_iast g77991 ad11 rt11 (fun _ => rfl) (by omega) (by omega) (by omega) (by omega) (fun h77994 e77994 g77994 => ?_)
            have k77994 := k77991.wr e77994 rfl
            refine ev_aload_n rfl ?_
            refine g_getp (r := 7) (c := 15) g77994 ad7 (by decide) (by decide) rf7_12 ft5_12 ?_
            refine ev_iload rfl ?_
            refine ev_dup2 (by decide) (by decide) ?_
            refine g_ialdv (v := v77976) g77994 ad15 (by omega) (by omega) (((jw_ne e77994 (Or.inl (by decide))).trans ((jw_ne e77991 (Or.inl (by decide))).trans ev77976))) ?_
            refine ev_iconst ?_
            refine ev_iload rfl ?_
            refine g_ishlB (a' := 1) (a := 1) (b := 3) (hi := 8) (by omega) (by omega) (by omega) (by omega) (by decide) (by decide) (fun v77995 ev77995 lv77995 uv77995 => ?_)
            refine g_iorB (k := 4) (hi := 15) (by decide) (by decide) (by omega) (by omega) (by omega) (by omega) (fun v77996 ev77996 lv77996 uv77996 => ?_)
            refine g_iast g77994 ad15 rt15 (fun _ => rfl) (by omega) (by omega) (by omega) (by omega) (fun h77997 e77997 g77997 => ?_)
            have k77997 := k77994.wr e77997 rfl
            refine ev_iload rfl ?_
            exact ev_ret rfl (by decide) (by decide) ⟨_, rfl, g77997, k77997, by omega, by omega, Rp.good (FrN.wr (i := x5) ((H1.wn e77991 (by decide)).wn e77994 (by decide)) e77997 (Or.inr (by omega))) (((jw_ne e77997 (Or.inl (by decide))).trans ((jw_ne e77994 (Or.inl (by decide))).trans ((jw_ne e77991 (Or.inr (by decide))).trans ey2)))) (by omega) (show (tuN (bC h) (h.2.2 1 0) (yC h) (fun t => RC h w4 K (q - 1) t (a2 + 1)) a3 a2 w1) = (y1 + 1, jor v77976 (jshl 1 x4), v77977, v77975) by rw [k977974, ((sT77974.resolve_left (fun z => by omega)).resolve_left (fun z => by omega)).2.2, if_pos ((bC_at (p := y1) k77997 (fun _ => rfl) ew0 (((jw_ne e77997 (Or.inl (by decide))).trans ((jw_ne e77994 (Or.inl (by decide))).trans ((jw_ne e77991 (Or.inl (by decide))).trans ev77985)))) (by omega) (by omega)).trans (by omega))]; unfold tuE; rw [if_neg (show ¬ (y1 + 1 : Int) < 0 by omega)]) (by omega) (((((jw_ne e77997 (Or.inl (by decide))).trans ((jw_ne e77994 (Or.inl (by decide))).trans ((jw_ne e77991 (Or.inr (by decide))).trans ey0))))).trans (by omega)) (((jw_ne e77997 (Or.inl (by decide))).trans ((jw_ne e77994 (Or.inl (by decide))).trans (jw_eq e77991)))) (by omega) (by omega) (by omega) (by omega) ((jw_eq e77997)) (by rw [ev77995]; exact (ev77996).symm) (((jw_ne e77997 (Or.inl (by decide))).trans ((jw_ne e77994 (Or.inl (by decide))).trans ((jw_ne e77991 (Or.inl (by decide))).trans ev77977)))) rfl (((jw_ne e77997 (Or.inl (by decide))).trans ((jw_ne e77994 (Or.inl (by decide))).trans ((jw_ne e77991 (Or.inl (by decide))).trans ev77978)))) s277974⟩
      · refine ev_aload_n rfl ?_
        refine ev_bipush ?_
        refine ev_in (d := (d + 2)) (a := 0) (b := 0) (cd' := c71_0) (m := 2) (L0 := [(2, 7), (0, 41)]) (jcall_v (A := [(0, 41)]) (S' := []) (r := 7) rfl (g1.lt ad7) (g1.tg ad7) (Nat.le_of_ble_eq_true rfl)) (by decide) ml71 pp71 (Nat.le_of_ble_eq_true rfl) rfl (by decide) (by decide) ?_
        refine ev_aload_n rfl ?_
        refine g_getv (r := 7) (v := y0) g1 ad7 (by decide) ft5_1 (ey0) ?_
        refine ev_iflt f71_8 (fun c77998 => absurd c77998 (by omega)) (fun c77998 => ?_)
        refine ev_ret rfl (by decide) (by decide) ?_
        show jEv _ _ _ _ _ _ _ (_, [(2, 7), (2, 1), (0, a2), (0, a3), (0, x4), (0, x5), (0, x6)], [], _, _, _)
        refine ev_aload_n rfl ?_
        refine g_getv (r := 7) (v := y0) g1 ad7 (by decide) ft5_1 (ey0) ?_
        refine ev_ifge f79_144 (fun c77999 => ?_) (fun c77999 => absurd c77999 (by omega))
        refine ev_iconst ?_
        exact ev_ret rfl (by decide) (by decide) ⟨_, rfl, g1, k1, by omega, by omega, Rp.bad2 H1 (ey2) (by omega) (H0.resolve_right (fun z => absurd z.1 (by omega))).2 (by omega) (ey0) (by omega)⟩
    · refine ev_aload_n rfl ?_
      refine g_getv (r := 7) (v := y0) g1 ad7 (by decide) ft5_1 (ey0) ?_
      refine ev_ifge f79_126 (fun c78000 => ?_) (fun c78000 => ?_)
      · refine ev_aload_n rfl ?_
        refine ev_bipush ?_
        refine ev_in (d := (d + 2)) (a := 0) (b := 0) (cd' := c71_0) (m := 2) (L0 := [(2, 7), (0, 41)]) (jcall_v (A := [(0, 41)]) (S' := []) (r := 7) rfl (g1.lt ad7) (g1.tg ad7) (Nat.le_of_ble_eq_true rfl)) (by decide) ml71 pp71 (Nat.le_of_ble_eq_true rfl) rfl (by decide) (by decide) ?_
        refine ev_aload_n rfl ?_
        refine g_getv (r := 7) (v := y0) g1 ad7 (by decide) ft5_1 (ey0) ?_
        refine ev_iflt f71_8 (fun c78001 => absurd c78001 (by omega)) (fun c78001 => ?_)
        refine ev_ret rfl (by decide) (by decide) ?_
        show jEv _ _ _ _ _ _ _ (_, [(2, 7), (2, 1), (0, a2), (0, a3), (0, x4), (0, x5), (0, x6)], [], _, _, _)
        refine ev_aload_n rfl ?_
        refine g_getv (r := 7) (v := y0) g1 ad7 (by decide) ft5_1 (ey0) ?_
        refine ev_ifge f79_144 (fun c78002 => ?_) (fun c78002 => absurd c78002 (by omega))
        refine ev_iconst ?_
        exact ev_ret rfl (by decide) (by decide) ⟨_, rfl, g1, k1, by omega, by omega, Rp.bad2 H1 (ey2) (by omega) (H0.resolve_right (fun z => absurd z.1 (by omega))).2 (by omega) (ey0) (by omega)⟩
      · obtain ⟨k178003, k978003, k278003, k378003, k478003, v78004, lv78004, s278003, s378003, s478003, s578003, sT78003⟩ := H0.resolve_left (fun z => absurd z.1 (by omega))
        obtain ⟨v78005, ev78005, lv78005, uv78005⟩ := g1.rd ad15 (show (x5).toNat < 200 by omega) (rt15 _)
        obtain ⟨v78006, ev78006, lv78006, uv78006⟩ := g1.rd ad16 (show (x5).toNat < 200 by omega) (rt16 _)
        obtain ⟨v78007, ev78007, lv78007, uv78007⟩ := g1.rd ad17 (show (x5).toNat < 200 by omega) (rt17 _)
        rw [ev78005, ev78006] at sT78003
        rw [ev78007] at s278003
        rw [ev78005] at s378003 s478003
        rw [ev78006] at s578003
        have s678003 : 1 ≤ v78007 ∧ v78007 ≤ 1000 := by rw [s278003]; unfold mn; split <;> omega
        refine ev_iload rfl ?_
        refine ev_ifle f79_97 (fun c78008 => ?_) (fun c78008 => ?_)
        · refine ev_aload_n rfl ?_
          refine ev_iload rfl ?_
          refine ev_iload rfl ?_
          refine ev_iconst ?_
          refine ev_aload_n rfl ?_
          refine ev_aload_n rfl ?_
          refine ev_iload_n rfl ?_
          refine ev_iconst ?_
          refine ev_iadd (r := (a2 + 1)) (by unfold w32; omega) ?_
          refine ev_iload_n rfl ?_
          refine ev_iconst ?_
          refine ev_iload rfl ?_
          refine g_ishlB (a' := 1) (a := 1) (b := 3) (hi := 8) (by omega) (by omega) (by omega) (by omega) (by decide) (by decide) (fun v78009 ev78009 lv78009 uv78009 => ?_)
          refine g_iorB (k := 4) (hi := 15) (by decide) (by decide) (by omega) (by omega) (by omega) (by omega) (fun v78010 ev78010 lv78010 uv78010 => ?_)
          refine ev_call (jcall_v (A := [(0, v78010), (0, (a2 + 1)), (2, 1)]) (S' := [(0, 0), (0, x6), (0, x5), (2, 7)]) (r := 7) rfl (g1.lt ad7) (g1.tg ad7) (Nat.le_of_ble_eq_true rfl)) (jOk_le (by omega) (rih g1 (by omega) (by omega) (by omega) (by omega) (((k1.v (by decide)).trans ew0)) (by omega) (by omega) (ey1) (by omega) (by omega) (by rw [(ey0)]; omega) (ey2) (by omega) (by omega) (((k1.v (by decide)).trans ew4)) (by omega) (by omega) (by omega) (K := K) (q := q - 1) (hK.go H1 ew3 (by rw [(ey2)]; omega) (fun _ => k1.v rfl)) (by omega) (by omega))) (by decide) (by decide) (fun w78011 h78011 q78011 => ?_)
          obtain ⟨v78012, rfl, g78011, kk78011, lv78012, uv78012, X78011⟩ := q78011
          have k78011 := k1.tr kk78011 (by decide)
          show jEv _ _ _ _ _ _ _ (_, [(2, 7), (2, 1), (0, a2), (0, a3), (0, x4), (0, x5), (0, x6)], [(0, v78012), (0, 0), (0, x6), (0, x5), (2, 7)], _, _, _)
          have X78013 := X78011
          rw [RC_kp k1 (fun _ => rfl) rfl (fun _ => rfl) rfl] at X78013
          obtain ⟨Q78013, eQ78013⟩ : ∃ R : RS, RC h w4 K (q - 1) v78010 (a2 + 1) y1 = R := ⟨_, rfl⟩
          rw [eQ78013] at X78013
          rcases X78013.2.2 with ⟨c178013, c278013, c378013, c478013, d178013, d278013, d378013, d478013, d578013⟩ | ⟨c178013, c278013⟩
          · have G78013 := rd_g (B := bC h) (Y := yC h) (by have z := (g78011.rg ad1 (i := 0) (by decide) rf1_0).2; rw [k78011.v (by decide)] at z; omega) hK.1 (q - 1) v78010 (a2 + 1) (by omega) (by omega) (by omega) (by omega) y1 (by omega) (by show 0 ≤ (RC h w4 K (q - 1) _ (a2 + 1) _).1; rw [eQ78013]; exact c178013)
            rw [show rd (bC h) (h.2.2 1 0) (yC h) w4 K (q - 1) v78010 (a2 + 1) y1 = Q78013 from eQ78013] at G78013
            obtain ⟨v78014, v78015, v78016, v78017⟩ := Q78013
            simp only [] at c178013 c378013 c478013 d378013 d478013 d578013 G78013
            obtain ⟨G178013, G278013, G378013, G478013, G578013, G678013, G778013⟩ := G78013
            have bv78014 := g78011.rg ad7 (i := 2) (by decide) rf7_2
            rw [c378013] at bv78014
            obtain ⟨v78018, ev78018⟩ : ∃ z : Int, mn v78017 = z := ⟨_, rfl⟩
            rw [ev78018] at d578013
            have fv78018 : 1 ≤ v78018 ∧ v78018 ≤ 1000 := by rw [← ev78018]; unfold mn; split <;> omega
            obtain ⟨v78020, ev78020, lv78020, uv78020⟩ := g78011.rd ad7 (show 3 < 15 by decide) rf7_3
            have m78013 := c478013
            have m278013 := d278013
            have m378013 := X78013.2.1
            rw [ev78020] at m78013 m278013 m378013
            refine ev_in (d := (d + 2)) (a := 0) (b := 0) (cd' := c80_0) (m := 5) (L0 := [(2, 7), (0, x5), (0, x6), (0, 0), (0, v78012)]) (jcall_v (A := [(0, v78012), (0, 0), (0, x6), (0, x5)]) (S' := []) (r := 7) rfl (g78011.lt ad7) (g78011.tg ad7) (Nat.le_of_ble_eq_true rfl)) (by decide) ml80 pp80 (Nat.le_of_ble_eq_true rfl) rfl (by decide) (by decide) ?_
            refine ev_aload_n rfl ?_
            refine g_getv (r := 7) (v := (-1)) g78011 ad7 (by decide) ft5_1 (c278013) ?_
            refine ev_ifge f80_21 (fun c78021 => absurd c78021 (by omega)) (fun c78021 => ?_)
            refine ev_iload_n rfl ?_
            refine ev_iflt f80_21 (fun c78022 => absurd c78022 (by omega)) (fun c78022 => ?_)
            refine ev_iload rfl ?_
            refine ev_iflt f80_21 (fun c78023 => absurd c78023 (by omega)) (fun c78023 => ?_)
            refine ev_iload_n rfl ?_
            refine ev_iconst ?_
            refine ev_icmplt f80_22 (fun c78024 => ?_) (fun c78024 => absurd c78024 (by omega))
            refine ev_aload_n rfl ?_
            refine g_getp (r := 7) (c := 13) g78011 ad7 (by decide) (by decide) rf7_10 ft5_10 ?_
            refine ev_iconst ?_
            refine ev_iload_n rfl ?_
            refine ev_imul (r := (4 * x5)) (by unfold w32; omega) ?_
            refine ev_iload_n rfl ?_
            refine ev_iadd (r := (4 * x5 + x6)) (by unfold w32; omega) ?_
            refine ev_iload rfl ?_
            refine g_iast g78011 ad13 rt13 (fun _ => rfl) (by omega) (by omega) (by omega) (by omega) (fun h78025 e78025 g78025 => ?_)
            have k78025 := k78011.wr e78025 rfl
            refine ev_aload_n rfl ?_
            refine g_getp (r := 7) (c := 14) g78025 ad7 (by decide) (by decide) rf7_11 ft5_11 ?_
            refine ev_iconst ?_
            refine ev_iload_n rfl ?_
            refine ev_imul (r := (4 * x5)) (by unfold w32; omega) ?_
            refine ev_iload_n rfl ?_
            refine ev_iadd (r := (4 * x5 + x6)) (by unfold w32; omega) ?_
            refine ev_iload_n rfl ?_
            refine g_iast g78025 ad14 rt14 (fun _ => rfl) (by omega) (by omega) (by omega) (by omega) (fun h78026 e78026 g78026 => ?_)
            have k78026 := k78025.wr e78026 rfl
            refine ev_aload_n rfl ?_
            refine g_getp (r := 7) (c := 12) g78026 ad7 (by decide) (by decide) rf7_9 ft5_9 ?_
            refine ev_iload_n rfl ?_
            refine ev_iload_n rfl ?_
            refine ev_iconst ?_
            refine ev_iadd (r := (x6 + 1)) (by unfold w32; omega) ?_
            refine g_iast g78026 ad12 rt12 (fun _ => rfl) (by omega) (by omega) (by omega) (by omega) (fun h78027 e78027 g78027 => ?_)
            have k78027 := k78026.wr e78027 rfl
            refine ev_aload_n rfl ?_
            refine g_getp (r := 7) (c := 15) g78027 ad7 (by decide) (by decide) rf7_12 ft5_12 ?_
            refine ev_iload_n rfl ?_
            refine ev_dup2 (by decide) (by decide) ?_
            refine g_ialdv (v := v78005) g78027 ad15 (by omega) (by omega) (((jw_ne e78027 (Or.inl (by decide))).trans ((jw_ne e78026 (Or.inl (by decide))).trans ((jw_ne e78025 (Or.inl (by decide))).trans ((X78013.1 (x5).toNat (by omega)).1.trans (ev78005)))))) ?_
            refine ev_aload_n rfl ?_
            refine g_getp (r := 7) (c := 15) g78027 ad7 (by decide) (by decide) rf7_12 ft5_12 ?_
            refine ev_iload rfl ?_
            refine g_ialdv (v := v78015) g78027 ad15 (by omega) (by omega) (((jw_ne e78027 (Or.inl (by decide))).trans ((jw_ne e78026 (Or.inl (by decide))).trans ((jw_ne e78025 (Or.inl (by decide))).trans d378013)))) ?_
            refine g_iorB (k := 4) (hi := 15) (by decide) (by decide) (by omega) (by omega) (by omega) (by omega) (fun v78028 ev78028 lv78028 uv78028 => ?_)
            refine g_iast g78027 ad15 rt15 (fun _ => rfl) (by omega) (by omega) (by omega) (by omega) (fun h78029 e78029 g78029 => ?_)
            have k78029 := k78027.wr e78029 rfl
            refine ev_aload_n rfl ?_
            refine g_getp (r := 7) (c := 16) g78029 ad7 (by decide) (by decide) rf7_13 ft5_13 ?_
            refine ev_iload_n rfl ?_
            refine ev_aload_n rfl ?_
            refine g_getp (r := 7) (c := 16) g78029 ad7 (by decide) (by decide) rf7_13 ft5_13 ?_
            refine ev_iload_n rfl ?_
            refine g_ialdv (v := v78006) g78029 ad16 (by omega) (by omega) (((jw_ne e78029 (Or.inl (by decide))).trans ((jw_ne e78027 (Or.inl (by decide))).trans ((jw_ne e78026 (Or.inl (by decide))).trans ((jw_ne e78025 (Or.inl (by decide))).trans ((X78013.1 (x5).toNat (by omega)).2.1.trans (ev78006))))))) ?_
            refine ev_iconst ?_
            refine ev_aload_n rfl ?_
            refine g_getp (r := 7) (c := 16) g78029 ad7 (by decide) (by decide) rf7_13 ft5_13 ?_
            refine ev_iload rfl ?_
            refine g_ialdv (v := v78016) g78029 ad16 (by omega) (by omega) (((jw_ne e78029 (Or.inl (by decide))).trans ((jw_ne e78027 (Or.inl (by decide))).trans ((jw_ne e78026 (Or.inl (by decide))).trans ((jw_ne e78025 (Or.inl (by decide))).trans d478013))))) ?_
            refine ev_iadd (r := (v78016 + 1)) (by unfold w32; omega) ?_
            refine ev_in (d := (d + 1)) (a := 0) (b := 0) (cd' := c379_0) (m := 2) (L0 := [(0, v78006), (0, (v78016 + 1))]) (jcall_s (A := [(0, (v78016 + 1)), (0, v78006)]) (S' := [(0, x5), (2, 16)]) (by decide) rfl (Nat.le_of_ble_eq_true rfl)) (by decide) ml379 pp379 (Nat.le_of_ble_eq_true rfl) rfl (by decide) (by decide) ?_
            refine ev_iload_n rfl ?_
            refine ev_iload_n rfl ?_
            refine ev_icmplt f379_9 (fun c78030 => ?_) (fun c78030 => ?_)
            · refine ev_iload_n rfl ?_
              refine ev_ret rfl (by decide) (by decide) ?_
              show jEv _ _ _ _ _ _ _ (_, [(2, 7), (0, x5), (0, x6), (0, 0), (0, v78012)], [(0, (v78016 + 1)), (0, x5), (2, 16)], _, _, _)
              refine g_iast g78029 ad16 rt16 (fun _ => rfl) (by omega) (by omega) (by omega) (by omega) (fun h78031 e78031 g78031 => ?_)
              have k78031 := k78029.wr e78031 rfl
              refine ev_aload_n rfl ?_
              refine g_getp (r := 7) (c := 17) g78031 ad7 (by decide) (by decide) rf7_14 ft5_14 ?_
              refine ev_iload_n rfl ?_
              refine ev_sipush ?_
              refine ev_aload_n rfl ?_
              refine g_getp (r := 7) (c := 17) g78031 ad7 (by decide) (by decide) rf7_14 ft5_14 ?_
              refine ev_iload_n rfl ?_
              refine g_ialdv (v := v78007) g78031 ad17 (by omega) (by omega) (((jw_ne e78031 (Or.inl (by decide))).trans ((jw_ne e78029 (Or.inl (by decide))).trans ((jw_ne e78027 (Or.inl (by decide))).trans ((jw_ne e78026 (Or.inl (by decide))).trans ((jw_ne e78025 (Or.inl (by decide))).trans ((X78013.1 (x5).toNat (by omega)).2.2.trans (ev78007)))))))) ?_
              refine ev_aload_n rfl ?_
              refine g_getp (r := 7) (c := 17) g78031 ad7 (by decide) (by decide) rf7_14 ft5_14 ?_
              refine ev_iload rfl ?_
              refine g_ialdv (v := v78018) g78031 ad17 (by omega) (by omega) (((jw_ne e78031 (Or.inl (by decide))).trans ((jw_ne e78029 (Or.inl (by decide))).trans ((jw_ne e78027 (Or.inl (by decide))).trans ((jw_ne e78026 (Or.inl (by decide))).trans ((jw_ne e78025 (Or.inl (by decide))).trans d578013)))))) ?_
              refine ev_iadd (r := (v78007 + v78018)) (by unfold w32; omega) ?_
              refine ev_in (d := (d + 1)) (a := 0) (b := 0) (cd' := c381_0) (m := 2) (L0 := [(0, 1000), (0, (v78007 + v78018))]) (jcall_s (A := [(0, (v78007 + v78018)), (0, 1000)]) (S' := [(0, x5), (2, 17)]) (by decide) rfl (Nat.le_of_ble_eq_true rfl)) (by decide) ml381 pp381 (Nat.le_of_ble_eq_true rfl) rfl (by decide) (by decide) ?_
              refine ev_iload_n rfl ?_
              refine ev_iload_n rfl ?_
              refine ev_icmpgt f381_9 (fun c78032 => ?_) (fun c78032 => ?_)
              · refine ev_iload_n rfl ?_
                refine ev_ret rfl (by decide) (by decide) ?_
                show jEv _ _ _ _ _ _ _ (_, [(2, 7), (0, x5), (0, x6), (0, 0), (0, v78012)], [(0, (v78007 + v78018)), (0, x5), (2, 17)], _, _, _)
                refine g_iast g78031 ad17 rt17 (fun _ => rfl) (by omega) (by omega) (by omega) (by omega) (fun h78033 e78033 g78033 => ?_)
                have k78033 := k78031.wr e78033 rfl
                refine ev_ret rfl (by decide) (by decide) ?_
                show jEv _ _ _ _ _ _ _ (_, [(2, 7), (2, 1), (0, a2), (0, a3), (0, x4), (0, x5), (0, x6)], [], _, _, _)
                refine ev_iinc (w := (x6 + 1)) (L' := [(2, 7), (2, 1), (0, a2), (0, a3), (0, x4), (0, x5), (0, (x6 + 1))]) rfl (by unfold w32; omega) rfl ?_
                refine ev_goto f79_68 ?_
                exact ih _ _ _ _ _ _ _ _ _ g78033 k78033 (by omega) (by omega) (by omega) (by omega) (by omega) (by omega) (by omega) (by omega) (by omega) (by omega) (by omega) (by omega) (by omega) (by omega) (by omega) (by omega) (((jw_ne e78033 (Or.inl (by decide))).trans ((jw_ne e78031 (Or.inl (by decide))).trans ((jw_ne e78029 (Or.inl (by decide))).trans ((jw_ne e78027 (Or.inl (by decide))).trans ((jw_ne e78026 (Or.inl (by decide))).trans ((jw_ne e78025 (Or.inl (by decide))).trans c278013))))))) (by omega) (by omega) (((jw_ne e78033 (Or.inl (by decide))).trans ((jw_ne e78031 (Or.inl (by decide))).trans ((jw_ne e78029 (Or.inl (by decide))).trans ((jw_ne e78027 (Or.inl (by decide))).trans ((jw_ne e78026 (Or.inl (by decide))).trans ((jw_ne e78025 (Or.inl (by decide))).trans c378013))))))) (by omega) (by omega) (((jw_ne e78033 (Or.inl (by decide))).trans ((jw_ne e78031 (Or.inl (by decide))).trans ((jw_ne e78029 (Or.inl (by decide))).trans ((jw_ne e78027 (Or.inl (by decide))).trans ((jw_ne e78026 (Or.inl (by decide))).trans ((jw_ne e78025 (Or.inl (by decide))).trans ev78020))))))) (by omega) (by omega) (((jw_ne e78033 (Or.inl (by decide))).trans ((jw_ne e78031 (Or.inl (by decide))).trans ((jw_ne e78029 (Or.inl (by decide))).trans ((jw_ne e78027 (Or.inl (by decide))).trans ((jw_ne e78026 (Or.inl (by decide))).trans ((jw_ne e78025 (Or.inl (by decide))).trans ((kk78011.v rfl).trans ey3)))))))) (by omega) (by omega) (((jw_ne e78033 (Or.inl (by decide))).trans ((jw_ne e78031 (Or.inl (by decide))).trans ((jw_ne e78029 (Or.inl (by decide))).trans ((jw_ne e78027 (Or.inl (by decide))).trans ((jw_ne e78026 (Or.inl (by decide))).trans ((jw_ne e78025 (Or.inl (by decide))).trans ((kk78011.v (by decide)).trans ey4)))))))) (by omega) (by omega) (tj_ok (p := y1) (c := v78017) k978003 ((sT78003.resolve_right (fun z => by rcases z with z | z <;> omega)).2.trans (by rw [show (y3).toNat = (y3 - x6).toNat by omega])) (by omega) (by omega) (by rw [show jor a3 (jshl 1 x4) = v78010 by rw [ev78009]; exact ev78010]; exact eQ78013) (by omega) (by omega) (by omega) (by omega) (by omega) (((jw_ne e78033 (Or.inl (by decide))).trans ((jw_ne e78031 (Or.inl (by decide))).trans (jw_eq e78029)))) (ev78028).symm (((jw_ne e78033 (Or.inl (by decide))).trans (jw_eq e78031))) (by unfold mxD; split <;> omega) ((jw_eq e78033)) (mn_of s278003 ev78018 (by omega) (by omega) (by omega)) (by omega) (by omega) (by omega)) (FrN.wr (i := x5) (FrN.wr (i := x5) (FrN.wr (i := x5) ((((FrN.tr H1 X78013.1 (by omega)).wn e78025 (by decide)).wn e78026 (by decide)).wn e78027 (by decide)) e78029 (Or.inr (by omega))) e78031 (Or.inr (by omega))) e78033 (Or.inr (by omega))) (by omega)
              · refine ev_iload_n rfl ?_
                refine ev_goto f381_10 ?_
                refine ev_ret rfl (by decide) (by decide) ?_
                show jEv _ _ _ _ _ _ _ (_, [(2, 7), (0, x5), (0, x6), (0, 0), (0, v78012)], [(0, 1000), (0, x5), (2, 17)], _, _, _)
                refine g_iast g78031 ad17 rt17 (fun _ => rfl) (by omega) (by omega) (by omega) (by omega) (fun h78034 e78034 g78034 => ?_)
                have k78034 := k78031.wr e78034 rfl
                refine ev_ret rfl (by decide) (by decide) ?_
                show jEv _ _ _ _ _ _ _ (_, [(2, 7), (2, 1), (0, a2), (0, a3), (0, x4), (0, x5), (0, x6)], [], _, _, _)
                refine ev_iinc (w := (x6 + 1)) (L' := [(2, 7), (2, 1), (0, a2), (0, a3), (0, x4), (0, x5), (0, (x6 + 1))]) rfl (by unfold w32; omega) rfl ?_
                refine ev_goto f79_68 ?_
                exact ih _ _ _ _ _ _ _ _ _ g78034 k78034 (by omega) (by omega) (by omega) (by omega) (by omega) (by omega) (by omega) (by omega) (by omega) (by omega) (by omega) (by omega) (by omega) (by omega) (by omega) (by omega) (((jw_ne e78034 (Or.inl (by decide))).trans ((jw_ne e78031 (Or.inl (by decide))).trans ((jw_ne e78029 (Or.inl (by decide))).trans ((jw_ne e78027 (Or.inl (by decide))).trans ((jw_ne e78026 (Or.inl (by decide))).trans ((jw_ne e78025 (Or.inl (by decide))).trans c278013))))))) (by omega) (by omega) (((jw_ne e78034 (Or.inl (by decide))).trans ((jw_ne e78031 (Or.inl (by decide))).trans ((jw_ne e78029 (Or.inl (by decide))).trans ((jw_ne e78027 (Or.inl (by decide))).trans ((jw_ne e78026 (Or.inl (by decide))).trans ((jw_ne e78025 (Or.inl (by decide))).trans c378013))))))) (by omega) (by omega) (((jw_ne e78034 (Or.inl (by decide))).trans ((jw_ne e78031 (Or.inl (by decide))).trans ((jw_ne e78029 (Or.inl (by decide))).trans ((jw_ne e78027 (Or.inl (by decide))).trans ((jw_ne e78026 (Or.inl (by decide))).trans ((jw_ne e78025 (Or.inl (by decide))).trans ev78020))))))) (by omega) (by omega) (((jw_ne e78034 (Or.inl (by decide))).trans ((jw_ne e78031 (Or.inl (by decide))).trans ((jw_ne e78029 (Or.inl (by decide))).trans ((jw_ne e78027 (Or.inl (by decide))).trans ((jw_ne e78026 (Or.inl (by decide))).trans ((jw_ne e78025 (Or.inl (by decide))).trans ((kk78011.v rfl).trans ey3)))))))) (by omega) (by omega) (((jw_ne e78034 (Or.inl (by decide))).trans ((jw_ne e78031 (Or.inl (by decide))).trans ((jw_ne e78029 (Or.inl (by decide))).trans ((jw_ne e78027 (Or.inl (by decide))).trans ((jw_ne e78026 (Or.inl (by decide))).trans ((jw_ne e78025 (Or.inl (by decide))).trans ((kk78011.v (by decide)).trans ey4)))))))) (by omega) (by omega) (tj_ok (p := y1) (c := v78017) k978003 ((sT78003.resolve_right (fun z => by rcases z with z | z <;> omega)).2.trans (by rw [show (y3).toNat = (y3 - x6).toNat by omega])) (by omega) (by omega) (by rw [show jor a3 (jshl 1 x4) = v78010 by rw [ev78009]; exact ev78010]; exact eQ78013) (by omega) (by omega) (by omega) (by omega) (by omega) (((jw_ne e78034 (Or.inl (by decide))).trans ((jw_ne e78031 (Or.inl (by decide))).trans (jw_eq e78029)))) (ev78028).symm (((jw_ne e78034 (Or.inl (by decide))).trans (jw_eq e78031))) (by unfold mxD; split <;> omega) ((jw_eq e78034)) (mn_of s278003 ev78018 (by omega) (by omega) (by omega)) (by omega) (by omega) (by omega)) (FrN.wr (i := x5) (FrN.wr (i := x5) (FrN.wr (i := x5) ((((FrN.tr H1 X78013.1 (by omega)).wn e78025 (by decide)).wn e78026 (by decide)).wn e78027 (by decide)) e78029 (Or.inr (by omega))) e78031 (Or.inr (by omega))) e78034 (Or.inr (by omega))) (by omega)
            · refine ev_iload_n rfl ?_
              refine ev_goto f379_10 ?_
              refine ev_ret rfl (by decide) (by decide) ?_
              show jEv _ _ _ _ _ _ _ (_, [(2, 7), (0, x5), (0, x6), (0, 0), (0, v78012)], [(0, v78006), (0, x5), (2, 16)], _, _, _)
              refine g_iast g78029 ad16 rt16 (fun _ => rfl) (by omega) (by omega) (by omega) (by omega) (fun h78035 e78035 g78035 => ?_)
              have k78035 := k78029.wr e78035 rfl
              refine ev_aload_n rfl ?_
              refine g_getp (r := 7) (c := 17) g78035 ad7 (by decide) (by decide) rf7_14 ft5_14 ?_
              refine ev_iload_n rfl ?_
              refine ev_sipush ?_
              refine ev_aload_n rfl ?_
              refine g_getp (r := 7) (c := 17) g78035 ad7 (by decide) (by decide) rf7_14 ft5_14 ?_
              refine ev_iload_n rfl ?_
              refine g_ialdv (v := v78007) g78035 ad17 (by omega) (by omega) (((jw_ne e78035 (Or.inl (by decide))).trans ((jw_ne e78029 (Or.inl (by decide))).trans ((jw_ne e78027 (Or.inl (by decide))).trans ((jw_ne e78026 (Or.inl (by decide))).trans ((jw_ne e78025 (Or.inl (by decide))).trans ((X78013.1 (x5).toNat (by omega)).2.2.trans (ev78007)))))))) ?_
              refine ev_aload_n rfl ?_
              refine g_getp (r := 7) (c := 17) g78035 ad7 (by decide) (by decide) rf7_14 ft5_14 ?_
              refine ev_iload rfl ?_
              refine g_ialdv (v := v78018) g78035 ad17 (by omega) (by omega) (((jw_ne e78035 (Or.inl (by decide))).trans ((jw_ne e78029 (Or.inl (by decide))).trans ((jw_ne e78027 (Or.inl (by decide))).trans ((jw_ne e78026 (Or.inl (by decide))).trans ((jw_ne e78025 (Or.inl (by decide))).trans d578013)))))) ?_
              refine ev_iadd (r := (v78007 + v78018)) (by unfold w32; omega) ?_
              refine ev_in (d := (d + 1)) (a := 0) (b := 0) (cd' := c381_0) (m := 2) (L0 := [(0, 1000), (0, (v78007 + v78018))]) (jcall_s (A := [(0, (v78007 + v78018)), (0, 1000)]) (S' := [(0, x5), (2, 17)]) (by decide) rfl (Nat.le_of_ble_eq_true rfl)) (by decide) ml381 pp381 (Nat.le_of_ble_eq_true rfl) rfl (by decide) (by decide) ?_
              refine ev_iload_n rfl ?_
              refine ev_iload_n rfl ?_
              refine ev_icmpgt f381_9 (fun c78036 => ?_) (fun c78036 => ?_)
              · refine ev_iload_n rfl ?_
                refine ev_ret rfl (by decide) (by decide) ?_
                show jEv _ _ _ _ _ _ _ (_, [(2, 7), (0, x5), (0, x6), (0, 0), (0, v78012)], [(0, (v78007 + v78018)), (0, x5), (2, 17)], _, _, _)
                refine g_iast g78035 ad17 rt17 (fun _ => rfl) (by omega) (by omega) (by omega) (by omega) (fun h78037 e78037 g78037 => ?_)
                have k78037 := k78035.wr e78037 rfl
                refine ev_ret rfl (by decide) (by decide) ?_
                show jEv _ _ _ _ _ _ _ (_, [(2, 7), (2, 1), (0, a2), (0, a3), (0, x4), (0, x5), (0, x6)], [], _, _, _)
                refine ev_iinc (w := (x6 + 1)) (L' := [(2, 7), (2, 1), (0, a2), (0, a3), (0, x4), (0, x5), (0, (x6 + 1))]) rfl (by unfold w32; omega) rfl ?_
                refine ev_goto f79_68 ?_
                exact ih _ _ _ _ _ _ _ _ _ g78037 k78037 (by omega) (by omega) (by omega) (by omega) (by omega) (by omega) (by omega) (by omega) (by omega) (by omega) (by omega) (by omega) (by omega) (by omega) (by omega) (by omega) (((jw_ne e78037 (Or.inl (by decide))).trans ((jw_ne e78035 (Or.inl (by decide))).trans ((jw_ne e78029 (Or.inl (by decide))).trans ((jw_ne e78027 (Or.inl (by decide))).trans ((jw_ne e78026 (Or.inl (by decide))).trans ((jw_ne e78025 (Or.inl (by decide))).trans c278013))))))) (by omega) (by omega) (((jw_ne e78037 (Or.inl (by decide))).trans ((jw_ne e78035 (Or.inl (by decide))).trans ((jw_ne e78029 (Or.inl (by decide))).trans ((jw_ne e78027 (Or.inl (by decide))).trans ((jw_ne e78026 (Or.inl (by decide))).trans ((jw_ne e78025 (Or.inl (by decide))).trans c378013))))))) (by omega) (by omega) (((jw_ne e78037 (Or.inl (by decide))).trans ((jw_ne e78035 (Or.inl (by decide))).trans ((jw_ne e78029 (Or.inl (by decide))).trans ((jw_ne e78027 (Or.inl (by decide))).trans ((jw_ne e78026 (Or.inl (by decide))).trans ((jw_ne e78025 (Or.inl (by decide))).trans ev78020))))))) (by omega) (by omega) (((jw_ne e78037 (Or.inl (by decide))).trans ((jw_ne e78035 (Or.inl (by decide))).trans ((jw_ne e78029 (Or.inl (by decide))).trans ((jw_ne e78027 (Or.inl (by decide))).trans ((jw_ne e78026 (Or.inl (by decide))).trans ((jw_ne e78025 (Or.inl (by decide))).trans ((kk78011.v rfl).trans ey3)))))))) (by omega) (by omega) (((jw_ne e78037 (Or.inl (by decide))).trans ((jw_ne e78035 (Or.inl (by decide))).trans ((jw_ne e78029 (Or.inl (by decide))).trans ((jw_ne e78027 (Or.inl (by decide))).trans ((jw_ne e78026 (Or.inl (by decide))).trans ((jw_ne e78025 (Or.inl (by decide))).trans ((kk78011.v (by decide)).trans ey4)))))))) (by omega) (by omega) (tj_ok (p := y1) (c := v78017) k978003 ((sT78003.resolve_right (fun z => by rcases z with z | z <;> omega)).2.trans (by rw [show (y3).toNat = (y3 - x6).toNat by omega])) (by omega) (by omega) (by rw [show jor a3 (jshl 1 x4) = v78010 by rw [ev78009]; exact ev78010]; exact eQ78013) (by omega) (by omega) (by omega) (by omega) (by omega) (((jw_ne e78037 (Or.inl (by decide))).trans ((jw_ne e78035 (Or.inl (by decide))).trans (jw_eq e78029)))) (ev78028).symm (((jw_ne e78037 (Or.inl (by decide))).trans (jw_eq e78035))) (by unfold mxD; split <;> omega) ((jw_eq e78037)) (mn_of s278003 ev78018 (by omega) (by omega) (by omega)) (by omega) (by omega) (by omega)) (FrN.wr (i := x5) (FrN.wr (i := x5) (FrN.wr (i := x5) ((((FrN.tr H1 X78013.1 (by omega)).wn e78025 (by decide)).wn e78026 (by decide)).wn e78027 (by decide)) e78029 (Or.inr (by omega))) e78035 (Or.inr (by omega))) e78037 (Or.inr (by omega))) (by omega)
              · refine ev_iload_n rfl ?_
                refine ev_goto f381_10 ?_
                refine ev_ret rfl (by decide) (by decide) ?_
                show jEv _ _ _ _ _ _ _ (_, [(2, 7), (0, x5), (0, x6), (0, 0), (0, v78012)], [(0, 1000), (0, x5), (2, 17)], _, _, _)
                refine g_iast g78035 ad17 rt17 (fun _ => rfl) (by omega) (by omega) (by omega) (by omega) (fun h78038 e78038 g78038 => ?_)
                have k78038 := k78035.wr e78038 rfl
                refine ev_ret rfl (by decide) (by decide) ?_
                show jEv _ _ _ _ _ _ _ (_, [(2, 7), (2, 1), (0, a2), (0, a3), (0, x4), (0, x5), (0, x6)], [], _, _, _)
                refine ev_iinc (w := (x6 + 1)) (L' := [(2, 7), (2, 1), (0, a2), (0, a3), (0, x4), (0, x5), (0, (x6 + 1))]) rfl (by unfold w32; omega) rfl ?_
                refine ev_goto f79_68 ?_
                exact ih _ _ _ _ _ _ _ _ _ g78038 k78038 (by omega) (by omega) (by omega) (by omega) (by omega) (by omega) (by omega) (by omega) (by omega) (by omega) (by omega) (by omega) (by omega) (by omega) (by omega) (by omega) (((jw_ne e78038 (Or.inl (by decide))).trans ((jw_ne e78035 (Or.inl (by decide))).trans ((jw_ne e78029 (Or.inl (by decide))).trans ((jw_ne e78027 (Or.inl (by decide))).trans ((jw_ne e78026 (Or.inl (by decide))).trans ((jw_ne e78025 (Or.inl (by decide))).trans c278013))))))) (by omega) (by omega) (((jw_ne e78038 (Or.inl (by decide))).trans ((jw_ne e78035 (Or.inl (by decide))).trans ((jw_ne e78029 (Or.inl (by decide))).trans ((jw_ne e78027 (Or.inl (by decide))).trans ((jw_ne e78026 (Or.inl (by decide))).trans ((jw_ne e78025 (Or.inl (by decide))).trans c378013))))))) (by omega) (by omega) (((jw_ne e78038 (Or.inl (by decide))).trans ((jw_ne e78035 (Or.inl (by decide))).trans ((jw_ne e78029 (Or.inl (by decide))).trans ((jw_ne e78027 (Or.inl (by decide))).trans ((jw_ne e78026 (Or.inl (by decide))).trans ((jw_ne e78025 (Or.inl (by decide))).trans ev78020))))))) (by omega) (by omega) (((jw_ne e78038 (Or.inl (by decide))).trans ((jw_ne e78035 (Or.inl (by decide))).trans ((jw_ne e78029 (Or.inl (by decide))).trans ((jw_ne e78027 (Or.inl (by decide))).trans ((jw_ne e78026 (Or.inl (by decide))).trans ((jw_ne e78025 (Or.inl (by decide))).trans ((kk78011.v rfl).trans ey3)))))))) (by omega) (by omega) (((jw_ne e78038 (Or.inl (by decide))).trans ((jw_ne e78035 (Or.inl (by decide))).trans ((jw_ne e78029 (Or.inl (by decide))).trans ((jw_ne e78027 (Or.inl (by decide))).trans ((jw_ne e78026 (Or.inl (by decide))).trans ((jw_ne e78025 (Or.inl (by decide))).trans ((kk78011.v (by decide)).trans ey4)))))))) (by omega) (by omega) (tj_ok (p := y1) (c := v78017) k978003 ((sT78003.resolve_right (fun z => by rcases z with z | z <;> omega)).2.trans (by rw [show (y3).toNat = (y3 - x6).toNat by omega])) (by omega) (by omega) (by rw [show jor a3 (jshl 1 x4) = v78010 by rw [ev78009]; exact ev78010]; exact eQ78013) (by omega) (by omega) (by omega) (by omega) (by omega) (((jw_ne e78038 (Or.inl (by decide))).trans ((jw_ne e78035 (Or.inl (by decide))).trans (jw_eq e78029)))) (ev78028).symm (((jw_ne e78038 (Or.inl (by decide))).trans (jw_eq e78035))) (by unfold mxD; split <;> omega) ((jw_eq e78038)) (mn_of s278003 ev78018 (by omega) (by omega) (by omega)) (by omega) (by omega) (by omega)) (FrN.wr (i := x5) (FrN.wr (i := x5) (FrN.wr (i := x5) ((((FrN.tr H1 X78013.1 (by omega)).wn e78025 (by decide)).wn e78026 (by decide)).wn e78027 (by decide)) e78029 (Or.inr (by omega))) e78035 (Or.inr (by omega))) e78038 (Or.inr (by omega))) (by omega)
          · obtain ⟨v78019, ev78019⟩ : ∃ z : Int, -1 - Q78013.1 = z := ⟨_, rfl⟩
            rw [ev78019] at c278013
            have bv78019 := g78011.rg ad7 (i := 1) (by decide) rf7_1
            rw [c278013] at bv78019
            obtain ⟨v78039, ev78039, lv78039, uv78039⟩ := g78011.rd ad7 (show 3 < 15 by decide) rf7_3
            have m378013 := X78013.2.1
            rw [ev78039] at m378013
            refine ev_in (d := (d + 2)) (a := 0) (b := 0) (cd' := c80_0) (m := 5) (L0 := [(2, 7), (0, x5), (0, x6), (0, 0), (0, v78012)]) (jcall_v (A := [(0, v78012), (0, 0), (0, x6), (0, x5)]) (S' := []) (r := 7) rfl (g78011.lt ad7) (g78011.tg ad7) (Nat.le_of_ble_eq_true rfl)) (by decide) ml80 pp80 (Nat.le_of_ble_eq_true rfl) rfl (by decide) (by decide) ?_
            refine ev_aload_n rfl ?_
            refine g_getv (r := 7) (v := v78019) g78011 ad7 (by decide) ft5_1 (c278013) ?_
            refine ev_ifge f80_21 (fun c78040 => ?_) (fun c78040 => absurd c78040 (by omega))
            refine ev_ret rfl (by decide) (by decide) ?_
            show jEv _ _ _ _ _ _ _ (_, [(2, 7), (2, 1), (0, a2), (0, a3), (0, x4), (0, x5), (0, x6)], [], _, _, _)
            refine ev_iinc (w := (x6 + 1)) (L' := [(2, 7), (2, 1), (0, a2), (0, a3), (0, x4), (0, x5), (0, (x6 + 1))]) rfl (by unfold w32; omega) rfl ?_
            refine ev_goto f79_68 ?_
            obtain ⟨v78041, ev78041, lv78041, uv78041⟩ := g78011.rd ad7 (show 2 < 15 by decide) rf7_2
            exact ih _ _ _ _ _ _ _ _ _ g78011 k78011 (by omega) (by omega) (by omega) (by omega) (by omega) (by omega) (by omega) (by omega) (by omega) (by omega) (by omega) (by omega) (by omega) (by omega) (by omega) (by omega) (c278013) (by omega) (by omega) ev78041 (by omega) (by omega) (ev78039) (by omega) (by omega) (((kk78011.v rfl).trans ey3)) (by omega) (by omega) (((kk78011.v (by decide)).trans ey4)) (by omega) (by omega) (tj_bad (R' := (Q78013.1, 0, 0, 0)) k978003 (((sT78003.resolve_right (fun z => by rcases z with z | z <;> omega)).2.trans (by rw [show (y3).toNat = (y3 - x6).toNat by omega])).trans ((tuL_f (by omega) (by rw [show (RC h w4 K (q - 1) (jor a3 (jshl 1 x4)) (a2 + 1)) _ = Q78013 from (by rw [show jor a3 (jshl 1 x4) = v78010 by rw [ev78009]; exact ev78010]; exact eQ78013)]; exact c178013)).trans (by rw [show (RC h w4 K (q - 1) (jor a3 (jshl 1 x4)) (a2 + 1)) _ = Q78013 from (by rw [show jor a3 (jshl 1 x4) = v78010 by rw [ev78009]; exact ev78010]; exact eQ78013)]))) (by omega) (by show Q78013.1 = _; omega)) (FrN.tr H1 X78013.1 (by omega)) (by omega)
        · refine ev_aload_n rfl ?_
          refine ev_bipush ?_
          refine ev_in (d := (d + 2)) (a := 0) (b := 0) (cd' := c71_0) (m := 2) (L0 := [(2, 7), (0, 44)]) (jcall_v (A := [(0, 44)]) (S' := []) (r := 7) rfl (g1.lt ad7) (g1.tg ad7) (Nat.le_of_ble_eq_true rfl)) (by decide) ml71 pp71 (Nat.le_of_ble_eq_true rfl) rfl (by decide) (by decide) ?_
          refine ev_aload_n rfl ?_
          refine g_getv (r := 7) (v := y0) g1 ad7 (by decide) ft5_1 (ey0) ?_
          refine ev_iflt f71_8 (fun c78042 => ?_) (fun c78042 => absurd c78042 (by omega))
          refine ev_aload_n rfl ?_
          refine ev_in (d := (d + 1)) (a := 0) (b := 0) (cd' := c68_0) (m := 1) (L0 := [(2, 7)]) (jcall_v (A := []) (S' := []) (r := 7) rfl (g1.lt ad7) (g1.tg ad7) (Nat.le_of_ble_eq_true rfl)) (by decide) ml68 pp68 (Nat.le_of_ble_eq_true rfl) rfl (by decide) (by decide) ?_
          refine ev_aload_n rfl ?_
          refine g_getv (r := 7) (v := y1) g1 ad7 (by decide) ft5_2 (ey1) ?_
          refine ev_aload_n rfl ?_
          refine g_getv (r := 7) (v := w0) g1 ad7 (by decide) ft5_0 (((k1.v (by decide)).trans ew0)) ?_
          refine ev_icmpge f68_27 (fun c78043 => ?_) (fun c78043 => ?_)
          · refine ev_iconst ?_
            refine ev_ret rfl (by decide) (by decide) ?_
            show jEv _ _ _ _ _ _ _ (_, [(2, 7), (0, 44)], [(0, (-1))], _, _, _)
            refine ev_iload_n rfl ?_
            refine ev_icmpne f71_29 (fun c78044 => ?_) (fun c78044 => absurd c78044 (by omega))
            refine ev_aload_n rfl ?_
            refine ev_in (d := (d + 1)) (a := 0) (b := 0) (cd' := c70_0) (m := 1) (L0 := [(2, 7)]) (jcall_v (A := []) (S' := []) (r := 7) rfl (g1.lt ad7) (g1.tg ad7) (Nat.le_of_ble_eq_true rfl)) (by decide) ml70 pp70 (Nat.le_of_ble_eq_true rfl) rfl (by decide) (by decide) ?_
            refine ev_aload_n rfl ?_
            refine g_getv (r := 7) (v := y0) g1 ad7 (by decide) ft5_1 (ey0) ?_
            refine ev_ifge f70_15 (fun c78045 => absurd c78045 (by omega)) (fun c78045 => ?_)
            refine ev_aload_n rfl ?_
            refine ev_aload_n rfl ?_
            refine g_getv (r := 7) (v := y1) g1 ad7 (by decide) ft5_2 (ey1) ?_
            refine g_putf (r := 7) g1 ad7 (by decide) ft5_1 (by decide) (fun e => absurd e nz5_1) rf7_1 (by decide) (by omega) (by omega) (fun h78046 e78046 g78046 => ?_)
            have k78046 := k1.wr e78046 rfl
            refine ev_ret rfl (by decide) (by decide) ?_
            show jEv _ _ _ _ _ _ _ (_, [(2, 7), (0, 44)], [], _, _, _)
            refine ev_ret rfl (by decide) (by decide) ?_
            show jEv _ _ _ _ _ _ _ (_, [(2, 7), (2, 1), (0, a2), (0, a3), (0, x4), (0, x5), (0, x6)], [], _, _, _)
            refine ev_aload_n rfl ?_
            refine ev_iload rfl ?_
            refine ev_iload rfl ?_
            refine ev_iconst ?_
            refine ev_aload_n rfl ?_
            refine ev_aload_n rfl ?_
            refine ev_iload_n rfl ?_
            refine ev_iconst ?_
            refine ev_iadd (r := (a2 + 1)) (by unfold w32; omega) ?_
            refine ev_iload_n rfl ?_
            refine ev_iconst ?_
            refine ev_iload rfl ?_
            refine g_ishlB (a' := 1) (a := 1) (b := 3) (hi := 8) (by omega) (by omega) (by omega) (by omega) (by decide) (by decide) (fun v78047 ev78047 lv78047 uv78047 => ?_)
            refine g_iorB (k := 4) (hi := 15) (by decide) (by decide) (by omega) (by omega) (by omega) (by omega) (fun v78048 ev78048 lv78048 uv78048 => ?_)
            refine ev_call (jcall_v (A := [(0, v78048), (0, (a2 + 1)), (2, 1)]) (S' := [(0, 0), (0, x6), (0, x5), (2, 7)]) (r := 7) rfl (g78046.lt ad7) (g78046.tg ad7) (Nat.le_of_ble_eq_true rfl)) (jOk_le (by omega) (t74z g78046 (by omega) (by omega) (by omega) (by omega) ((jw_eq e78046)) (by omega) (by omega))) (by decide) (by decide) (fun w78049 h78049 q78049 => ?_)
            obtain ⟨v78050, rfl, g78049, kk78049, lv78050, uv78050, X78049⟩ := q78049
            have k78049 := k78046.tr kk78049 (by decide)
            show jEv _ _ _ _ _ _ _ (_, [(2, 7), (2, 1), (0, a2), (0, a3), (0, x4), (0, x5), (0, x6)], [(0, v78050), (0, 0), (0, x6), (0, x5), (2, 7)], _, _, _)
            refine ev_in (d := (d + 2)) (a := 0) (b := 0) (cd' := c80_0) (m := 5) (L0 := [(2, 7), (0, x5), (0, x6), (0, 0), (0, v78050)]) (jcall_v (A := [(0, v78050), (0, 0), (0, x6), (0, x5)]) (S' := []) (r := 7) rfl (g78049.lt ad7) (g78049.tg ad7) (Nat.le_of_ble_eq_true rfl)) (by decide) ml80 pp80 (Nat.le_of_ble_eq_true rfl) rfl (by decide) (by decide) ?_
            refine ev_aload_n rfl ?_
            refine g_getv (r := 7) (v := y1) g78049 ad7 (by decide) ft5_1 (((kk78049.v (by decide)).trans (jw_eq e78046))) ?_
            refine ev_ifge f80_21 (fun c78051 => ?_) (fun c78051 => absurd c78051 (by omega))
            refine ev_ret rfl (by decide) (by decide) ?_
            show jEv _ _ _ _ _ _ _ (_, [(2, 7), (2, 1), (0, a2), (0, a3), (0, x4), (0, x5), (0, x6)], [], _, _, _)
            refine ev_iinc (w := (x6 + 1)) (L' := [(2, 7), (2, 1), (0, a2), (0, a3), (0, x4), (0, x5), (0, (x6 + 1))]) rfl (by unfold w32; omega) rfl ?_
            refine ev_goto f79_68 ?_
            exact ih _ _ _ _ _ _ _ _ _ g78049 k78049 (by omega) (by omega) (by omega) (by omega) (by omega) (by omega) (by omega) (by omega) (by omega) (by omega) (by omega) (by omega) (by omega) (by omega) (by omega) (by omega) (((kk78049.v (by decide)).trans (jw_eq e78046))) (by omega) (by omega) (((kk78049.v (by decide)).trans ((jw_ne e78046 (Or.inr (by decide))).trans ey1))) (by omega) (by omega) (((kk78049.v (by decide)).trans ((jw_ne e78046 (Or.inr (by decide))).trans ey2))) (by omega) (by omega) (((kk78049.v rfl).trans ((jw_ne e78046 (Or.inl (by decide))).trans ey3))) (by omega) (by omega) (((kk78049.v (by decide)).trans ((jw_ne e78046 (Or.inl (by decide))).trans ey4))) (by omega) (by omega) (tj_bad k978003 (((sT78003.resolve_left (fun z => by omega)).resolve_right (fun z => by omega)).2.2.trans (if_neg (fun z => absurd ((bC_end (p := y1) ew0 (by omega)).symm.trans z) (by omega)))) (by omega) (by show -1 - _ = _; omega)) ((H1.wn e78046 (by decide)).kp kk78049 (fun _ => rfl) (fun _ => rfl) (fun _ => rfl)) (by omega)
          · refine ev_aload_n rfl ?_
            refine g_getp (r := 7) (c := 8) g1 ad7 (by decide) (by decide) rf7_5 ft5_5 ?_
            refine ev_aload_n rfl ?_
            refine g_getv (r := 7) (v := y1) g1 ad7 (by decide) ft5_2 (ey1) ?_
            refine g_bald g1 ad8 rt8 (by omega) (by omega) (fun v78052 ev78052 lv78052 uv78052 => ?_)
            refine ev_sipush ?_
            refine g_iandB (b := 255) (by omega) (by omega) (by decide) (fun v78053 ev78053 lv78053 uv78053 => ?_)
            have zv78053 := sgn ev78053 (by omega) (by omega)
            refine ev_goto f68_28 ?_
            refine ev_ret rfl (by decide) (by decide) ?_
            show jEv _ _ _ _ _ _ _ (_, [(2, 7), (0, 44)], [(0, v78053)], _, _, _)
            refine ev_iload_n rfl ?_
            refine ev_icmpne f71_29 (fun c78054 => ?_) (fun c78054 => ?_)
            · refine ev_aload_n rfl ?_
              refine ev_in (d := (d + 1)) (a := 0) (b := 0) (cd' := c70_0) (m := 1) (L0 := [(2, 7)]) (jcall_v (A := []) (S' := []) (r := 7) rfl (g1.lt ad7) (g1.tg ad7) (Nat.le_of_ble_eq_true rfl)) (by decide) ml70 pp70 (Nat.le_of_ble_eq_true rfl) rfl (by decide) (by decide) ?_
              refine ev_aload_n rfl ?_
              refine g_getv (r := 7) (v := y0) g1 ad7 (by decide) ft5_1 (ey0) ?_
              refine ev_ifge f70_15 (fun c78055 => absurd c78055 (by omega)) (fun c78055 => ?_)
              refine ev_aload_n rfl ?_
              refine ev_aload_n rfl ?_
              refine g_getv (r := 7) (v := y1) g1 ad7 (by decide) ft5_2 (ey1) ?_
              refine g_putf (r := 7) g1 ad7 (by decide) ft5_1 (by decide) (fun e => absurd e nz5_1) rf7_1 (by decide) (by omega) (by omega) (fun h78056 e78056 g78056 => ?_)
              have k78056 := k1.wr e78056 rfl
              refine ev_ret rfl (by decide) (by decide) ?_
              show jEv _ _ _ _ _ _ _ (_, [(2, 7), (0, 44)], [], _, _, _)
              refine ev_ret rfl (by decide) (by decide) ?_
              show jEv _ _ _ _ _ _ _ (_, [(2, 7), (2, 1), (0, a2), (0, a3), (0, x4), (0, x5), (0, x6)], [], _, _, _)
              refine ev_aload_n rfl ?_
              refine ev_iload rfl ?_
              refine ev_iload rfl ?_
              refine ev_iconst ?_
              refine ev_aload_n rfl ?_
              refine ev_aload_n rfl ?_
              refine ev_iload_n rfl ?_
              refine ev_iconst ?_
              refine ev_iadd (r := (a2 + 1)) (by unfold w32; omega) ?_
              refine ev_iload_n rfl ?_
              refine ev_iconst ?_
              refine ev_iload rfl ?_
              refine g_ishlB (a' := 1) (a := 1) (b := 3) (hi := 8) (by omega) (by omega) (by omega) (by omega) (by decide) (by decide) (fun v78057 ev78057 lv78057 uv78057 => ?_)
              refine g_iorB (k := 4) (hi := 15) (by decide) (by decide) (by omega) (by omega) (by omega) (by omega) (fun v78058 ev78058 lv78058 uv78058 => ?_)
              refine ev_call (jcall_v (A := [(0, v78058), (0, (a2 + 1)), (2, 1)]) (S' := [(0, 0), (0, x6), (0, x5), (2, 7)]) (r := 7) rfl (g78056.lt ad7) (g78056.tg ad7) (Nat.le_of_ble_eq_true rfl)) (jOk_le (by omega) (t74z g78056 (by omega) (by omega) (by omega) (by omega) ((jw_eq e78056)) (by omega) (by omega))) (by decide) (by decide) (fun w78059 h78059 q78059 => ?_)
              obtain ⟨v78060, rfl, g78059, kk78059, lv78060, uv78060, X78059⟩ := q78059
              have k78059 := k78056.tr kk78059 (by decide)
              show jEv _ _ _ _ _ _ _ (_, [(2, 7), (2, 1), (0, a2), (0, a3), (0, x4), (0, x5), (0, x6)], [(0, v78060), (0, 0), (0, x6), (0, x5), (2, 7)], _, _, _)
              refine ev_in (d := (d + 2)) (a := 0) (b := 0) (cd' := c80_0) (m := 5) (L0 := [(2, 7), (0, x5), (0, x6), (0, 0), (0, v78060)]) (jcall_v (A := [(0, v78060), (0, 0), (0, x6), (0, x5)]) (S' := []) (r := 7) rfl (g78059.lt ad7) (g78059.tg ad7) (Nat.le_of_ble_eq_true rfl)) (by decide) ml80 pp80 (Nat.le_of_ble_eq_true rfl) rfl (by decide) (by decide) ?_
              refine ev_aload_n rfl ?_
              refine g_getv (r := 7) (v := y1) g78059 ad7 (by decide) ft5_1 (((kk78059.v (by decide)).trans (jw_eq e78056))) ?_
              refine ev_ifge f80_21 (fun c78061 => ?_) (fun c78061 => absurd c78061 (by omega))
              refine ev_ret rfl (by decide) (by decide) ?_
              show jEv _ _ _ _ _ _ _ (_, [(2, 7), (2, 1), (0, a2), (0, a3), (0, x4), (0, x5), (0, x6)], [], _, _, _)
              refine ev_iinc (w := (x6 + 1)) (L' := [(2, 7), (2, 1), (0, a2), (0, a3), (0, x4), (0, x5), (0, (x6 + 1))]) rfl (by unfold w32; omega) rfl ?_
              refine ev_goto f79_68 ?_
              exact ih _ _ _ _ _ _ _ _ _ g78059 k78059 (by omega) (by omega) (by omega) (by omega) (by omega) (by omega) (by omega) (by omega) (by omega) (by omega) (by omega) (by omega) (by omega) (by omega) (by omega) (by omega) (((kk78059.v (by decide)).trans (jw_eq e78056))) (by omega) (by omega) (((kk78059.v (by decide)).trans ((jw_ne e78056 (Or.inr (by decide))).trans ey1))) (by omega) (by omega) (((kk78059.v (by decide)).trans ((jw_ne e78056 (Or.inr (by decide))).trans ey2))) (by omega) (by omega) (((kk78059.v rfl).trans ((jw_ne e78056 (Or.inl (by decide))).trans ey3))) (by omega) (by omega) (((kk78059.v (by decide)).trans ((jw_ne e78056 (Or.inl (by decide))).trans ey4))) (by omega) (by omega) (tj_bad k978003 (((sT78003.resolve_left (fun z => by omega)).resolve_right (fun z => by omega)).2.2.trans (if_neg (fun z => absurd ((bC_at (p := y1) k78059 (fun _ => rfl) ew0 (((kk78059.v rfl).trans ((jw_ne e78056 (Or.inl (by decide))).trans ev78052))) (by omega) (by omega)).symm.trans z) (by omega)))) (by omega) (by show -1 - _ = _; omega)) ((H1.wn e78056 (by decide)).kp kk78059 (fun _ => rfl) (fun _ => rfl) (fun _ => rfl)) (by omega)
            · refine ev_aload_n rfl ?_
              refine ev_dup (by decide) ?_
              refine g_getv (r := 7) (v := y1) g1 ad7 (by decide) ft5_2 (ey1) ?_
              refine ev_iconst ?_
              refine ev_iadd (r := (y1 + 1)) (by unfold w32; omega) ?_
              refine g_putf (r := 7) g1 ad7 (by decide) ft5_2 (by decide) (fun e => absurd e nz5_2) rf7_2 (by decide) (by omega) (by omega) (fun h78062 e78062 g78062 => ?_)
              have k78062 := k1.wr e78062 rfl
              refine ev_goto f71_33 ?_
              refine ev_ret rfl (by decide) (by decide) ?_
              show jEv _ _ _ _ _ _ _ (_, [(2, 7), (2, 1), (0, a2), (0, a3), (0, x4), (0, x5), (0, x6)], [], _, _, _)
              refine ev_aload_n rfl ?_
              refine ev_iload rfl ?_
              refine ev_iload rfl ?_
              refine ev_iconst ?_
              refine ev_aload_n rfl ?_
              refine ev_aload_n rfl ?_
              refine ev_iload_n rfl ?_
              refine ev_iconst ?_
              refine ev_iadd (r := (a2 + 1)) (by unfold w32; omega) ?_
              refine ev_iload_n rfl ?_
              refine ev_iconst ?_
              refine ev_iload rfl ?_
              refine g_ishlB (a' := 1) (a := 1) (b := 3) (hi := 8) (by omega) (by omega) (by omega) (by omega) (by decide) (by decide) (fun v78063 ev78063 lv78063 uv78063 => ?_)
              refine g_iorB (k := 4) (hi := 15) (by decide) (by decide) (by omega) (by omega) (by omega) (by omega) (fun v78064 ev78064 lv78064 uv78064 => ?_)
              refine ev_call (jcall_v (A := [(0, v78064), (0, (a2 + 1)), (2, 1)]) (S' := [(0, 0), (0, x6), (0, x5), (2, 7)]) (r := 7) rfl (g78062.lt ad7) (g78062.tg ad7) (Nat.le_of_ble_eq_true rfl)) (jOk_le (by omega) (rih g78062 (by omega) (by omega) (by omega) (by omega) (((jw_ne e78062 (Or.inr (by decide))).trans ((k1.v (by decide)).trans ew0))) (by omega) (by omega) ((jw_eq e78062)) (by omega) (by omega) (by rw [(((jw_ne e78062 (Or.inr (by decide))).trans ey0))]; omega) (((jw_ne e78062 (Or.inr (by decide))).trans ey2)) (by omega) (by omega) (((jw_ne e78062 (Or.inr (by decide))).trans ((k1.v (by decide)).trans ew4))) (by omega) (by omega) (by omega) (K := K) (q := q - 1) (hK.go (H1.wn e78062 (by decide)) ew3 (by rw [(((jw_ne e78062 (Or.inr (by decide))).trans ey2))]; omega) (fun _ => k78062.v rfl)) (by omega) (by omega))) (by decide) (by decide) (fun w78065 h78065 q78065 => ?_)
              obtain ⟨v78066, rfl, g78065, kk78065, lv78066, uv78066, X78065⟩ := q78065
              have k78065 := k78062.tr kk78065 (by decide)
              show jEv _ _ _ _ _ _ _ (_, [(2, 7), (2, 1), (0, a2), (0, a3), (0, x4), (0, x5), (0, x6)], [(0, v78066), (0, 0), (0, x6), (0, x5), (2, 7)], _, _, _)
              have X78067 := X78065
              rw [RC_kp k78062 (fun _ => rfl) rfl (fun _ => rfl) rfl] at X78067
              obtain ⟨Q78067, eQ78067⟩ : ∃ R : RS, RC h w4 K (q - 1) v78064 (a2 + 1) (y1 + 1) = R := ⟨_, rfl⟩
              rw [eQ78067] at X78067
              rcases X78067.2.2 with ⟨c178067, c278067, c378067, c478067, d178067, d278067, d378067, d478067, d578067⟩ | ⟨c178067, c278067⟩
              · have G78067 := rd_g (B := bC h) (Y := yC h) (by have z := (g78065.rg ad1 (i := 0) (by decide) rf1_0).2; rw [k78065.v (by decide)] at z; omega) hK.1 (q - 1) v78064 (a2 + 1) (by omega) (by omega) (by omega) (by omega) (y1 + 1) (by omega) (by show 0 ≤ (RC h w4 K (q - 1) _ (a2 + 1) _).1; rw [eQ78067]; exact c178067)
                rw [show rd (bC h) (h.2.2 1 0) (yC h) w4 K (q - 1) v78064 (a2 + 1) (y1 + 1) = Q78067 from eQ78067] at G78067
                obtain ⟨v78068, v78069, v78070, v78071⟩ := Q78067
                simp only [] at c178067 c378067 c478067 d378067 d478067 d578067 G78067
                obtain ⟨G178067, G278067, G378067, G478067, G578067, G678067, G778067⟩ := G78067
                have bv78068 := g78065.rg ad7 (i := 2) (by decide) rf7_2
                rw [c378067] at bv78068
                obtain ⟨v78072, ev78072⟩ : ∃ z : Int, mn v78071 = z := ⟨_, rfl⟩
                rw [ev78072] at d578067
                have fv78072 : 1 ≤ v78072 ∧ v78072 ≤ 1000 := by rw [← ev78072]; unfold mn; split <;> omega
                obtain ⟨v78074, ev78074, lv78074, uv78074⟩ := g78065.rd ad7 (show 3 < 15 by decide) rf7_3
                have m78067 := c478067
                have m278067 := d278067
                have m378067 := X78067.2.1
                rw [ev78074] at m78067 m278067 m378067
                refine ev_in (d := (d + 2)) (a := 0) (b := 0) (cd' := c80_0) (m := 5) (L0 := [(2, 7), (0, x5), (0, x6), (0, 0), (0, v78066)]) (jcall_v (A := [(0, v78066), (0, 0), (0, x6), (0, x5)]) (S' := []) (r := 7) rfl (g78065.lt ad7) (g78065.tg ad7) (Nat.le_of_ble_eq_true rfl)) (by decide) ml80 pp80 (Nat.le_of_ble_eq_true rfl) rfl (by decide) (by decide) ?_
                refine ev_aload_n rfl ?_
                refine g_getv (r := 7) (v := (-1)) g78065 ad7 (by decide) ft5_1 (c278067) ?_
                refine ev_ifge f80_21 (fun c78075 => absurd c78075 (by omega)) (fun c78075 => ?_)
                refine ev_iload_n rfl ?_
                refine ev_iflt f80_21 (fun c78076 => absurd c78076 (by omega)) (fun c78076 => ?_)
                refine ev_iload rfl ?_
                refine ev_iflt f80_21 (fun c78077 => absurd c78077 (by omega)) (fun c78077 => ?_)
                refine ev_iload_n rfl ?_
                refine ev_iconst ?_
                refine ev_icmplt f80_22 (fun c78078 => ?_) (fun c78078 => absurd c78078 (by omega))
                refine ev_aload_n rfl ?_
                refine g_getp (r := 7) (c := 13) g78065 ad7 (by decide) (by decide) rf7_10 ft5_10 ?_
                refine ev_iconst ?_
                refine ev_iload_n rfl ?_
                refine ev_imul (r := (4 * x5)) (by unfold w32; omega) ?_
                refine ev_iload_n rfl ?_
                refine ev_iadd (r := (4 * x5 + x6)) (by unfold w32; omega) ?_
                refine ev_iload rfl ?_
                refine g_iast g78065 ad13 rt13 (fun _ => rfl) (by omega) (by omega) (by omega) (by omega) (fun h78079 e78079 g78079 => ?_)
                have k78079 := k78065.wr e78079 rfl
                refine ev_aload_n rfl ?_
                refine g_getp (r := 7) (c := 14) g78079 ad7 (by decide) (by decide) rf7_11 ft5_11 ?_
                refine ev_iconst ?_
                refine ev_iload_n rfl ?_
                refine ev_imul (r := (4 * x5)) (by unfold w32; omega) ?_
                refine ev_iload_n rfl ?_
                refine ev_iadd (r := (4 * x5 + x6)) (by unfold w32; omega) ?_
                refine ev_iload_n rfl ?_
                refine g_iast g78079 ad14 rt14 (fun _ => rfl) (by omega) (by omega) (by omega) (by omega) (fun h78080 e78080 g78080 => ?_)
                have k78080 := k78079.wr e78080 rfl
                refine ev_aload_n rfl ?_
                refine g_getp (r := 7) (c := 12) g78080 ad7 (by decide) (by decide) rf7_9 ft5_9 ?_
                refine ev_iload_n rfl ?_
                refine ev_iload_n rfl ?_
                refine ev_iconst ?_
                refine ev_iadd (r := (x6 + 1)) (by unfold w32; omega) ?_
                refine g_iast g78080 ad12 rt12 (fun _ => rfl) (by omega) (by omega) (by omega) (by omega) (fun h78081 e78081 g78081 => ?_)
                have k78081 := k78080.wr e78081 rfl
                refine ev_aload_n rfl ?_
                refine g_getp (r := 7) (c := 15) g78081 ad7 (by decide) (by decide) rf7_12 ft5_12 ?_
                refine ev_iload_n rfl ?_
                refine ev_dup2 (by decide) (by decide) ?_
                refine g_ialdv (v := v78005) g78081 ad15 (by omega) (by omega) (((jw_ne e78081 (Or.inl (by decide))).trans ((jw_ne e78080 (Or.inl (by decide))).trans ((jw_ne e78079 (Or.inl (by decide))).trans ((X78067.1 (x5).toNat (by omega)).1.trans (((jw_ne e78062 (Or.inl (by decide))).trans ev78005))))))) ?_
                refine ev_aload_n rfl ?_
                refine g_getp (r := 7) (c := 15) g78081 ad7 (by decide) (by decide) rf7_12 ft5_12 ?_
                refine ev_iload rfl ?_
                refine g_ialdv (v := v78069) g78081 ad15 (by omega) (by omega) (((jw_ne e78081 (Or.inl (by decide))).trans ((jw_ne e78080 (Or.inl (by decide))).trans ((jw_ne e78079 (Or.inl (by decide))).trans d378067)))) ?_
                refine g_iorB (k := 4) (hi := 15) (by decide) (by decide) (by omega) (by omega) (by omega) (by omega) (fun v78082 ev78082 lv78082 uv78082 => ?_)
                refine g_iast g78081 ad15 rt15 (fun _ => rfl) (by omega) (by omega) (by omega) (by omega) (fun h78083 e78083 g78083 => ?_)
                have k78083 := k78081.wr e78083 rfl
                refine ev_aload_n rfl ?_
                refine g_getp (r := 7) (c := 16) g78083 ad7 (by decide) (by decide) rf7_13 ft5_13 ?_
                refine ev_iload_n rfl ?_
                refine ev_aload_n rfl ?_
                refine g_getp (r := 7) (c := 16) g78083 ad7 (by decide) (by decide) rf7_13 ft5_13 ?_
                refine ev_iload_n rfl ?_
                refine g_ialdv (v := v78006) g78083 ad16 (by omega) (by omega) (((jw_ne e78083 (Or.inl (by decide))).trans ((jw_ne e78081 (Or.inl (by decide))).trans ((jw_ne e78080 (Or.inl (by decide))).trans ((jw_ne e78079 (Or.inl (by decide))).trans ((X78067.1 (x5).toNat (by omega)).2.1.trans (((jw_ne e78062 (Or.inl (by decide))).trans ev78006)))))))) ?_
                refine ev_iconst ?_
                refine ev_aload_n rfl ?_
                refine g_getp (r := 7) (c := 16) g78083 ad7 (by decide) (by decide) rf7_13 ft5_13 ?_
                refine ev_iload rfl ?_
                refine g_ialdv (v := v78070) g78083 ad16 (by omega) (by omega) (((jw_ne e78083 (Or.inl (by decide))).trans ((jw_ne e78081 (Or.inl (by decide))).trans ((jw_ne e78080 (Or.inl (by decide))).trans ((jw_ne e78079 (Or.inl (by decide))).trans d478067))))) ?_
                refine ev_iadd (r := (v78070 + 1)) (by unfold w32; omega) ?_
                refine ev_in (d := (d + 1)) (a := 0) (b := 0) (cd' := c379_0) (m := 2) (L0 := [(0, v78006), (0, (v78070 + 1))]) (jcall_s (A := [(0, (v78070 + 1)), (0, v78006)]) (S' := [(0, x5), (2, 16)]) (by decide) rfl (Nat.le_of_ble_eq_true rfl)) (by decide) ml379 pp379 (Nat.le_of_ble_eq_true rfl) rfl (by decide) (by decide) ?_
                refine ev_iload_n rfl ?_
                refine ev_iload_n rfl ?_
                refine ev_icmplt f379_9 (fun c78084 => ?_) (fun c78084 => ?_)
                · refine ev_iload_n rfl ?_
                  refine ev_ret rfl (by decide) (by decide) ?_
                  show jEv _ _ _ _ _ _ _ (_, [(2, 7), (0, x5), (0, x6), (0, 0), (0, v78066)], [(0, (v78070 + 1)), (0, x5), (2, 16)], _, _, _)
                  refine g_iast g78083 ad16 rt16 (fun _ => rfl) (by omega) (by omega) (by omega) (by omega) (fun h78085 e78085 g78085 => ?_)
                  have k78085 := k78083.wr e78085 rfl
                  refine ev_aload_n rfl ?_
                  refine g_getp (r := 7) (c := 17) g78085 ad7 (by decide) (by decide) rf7_14 ft5_14 ?_
                  refine ev_iload_n rfl ?_
                  refine ev_sipush ?_
                  refine ev_aload_n rfl ?_
                  refine g_getp (r := 7) (c := 17) g78085 ad7 (by decide) (by decide) rf7_14 ft5_14 ?_
                  refine ev_iload_n rfl ?_
                  refine g_ialdv (v := v78007) g78085 ad17 (by omega) (by omega) (((jw_ne e78085 (Or.inl (by decide))).trans ((jw_ne e78083 (Or.inl (by decide))).trans ((jw_ne e78081 (Or.inl (by decide))).trans ((jw_ne e78080 (Or.inl (by decide))).trans ((jw_ne e78079 (Or.inl (by decide))).trans ((X78067.1 (x5).toNat (by omega)).2.2.trans (((jw_ne e78062 (Or.inl (by decide))).trans ev78007))))))))) ?_
                  refine ev_aload_n rfl ?_
                  refine g_getp (r := 7) (c := 17) g78085 ad7 (by decide) (by decide) rf7_14 ft5_14 ?_
                  refine ev_iload rfl ?_
                  refine g_ialdv (v := v78072) g78085 ad17 (by omega) (by omega) (((jw_ne e78085 (Or.inl (by decide))).trans ((jw_ne e78083 (Or.inl (by decide))).trans ((jw_ne e78081 (Or.inl (by decide))).trans ((jw_ne e78080 (Or.inl (by decide))).trans ((jw_ne e78079 (Or.inl (by decide))).trans d578067)))))) ?_
                  refine ev_iadd (r := (v78007 + v78072)) (by unfold w32; omega) ?_
                  refine ev_in (d := (d + 1)) (a := 0) (b := 0) (cd' := c381_0) (m := 2) (L0 := [(0, 1000), (0, (v78007 + v78072))]) (jcall_s (A := [(0, (v78007 + v78072)), (0, 1000)]) (S' := [(0, x5), (2, 17)]) (by decide) rfl (Nat.le_of_ble_eq_true rfl)) (by decide) ml381 pp381 (Nat.le_of_ble_eq_true rfl) rfl (by decide) (by decide) ?_
                  refine ev_iload_n rfl ?_
                  refine ev_iload_n rfl ?_
                  refine ev_icmpgt f381_9 (fun c78086 => ?_) (fun c78086 => ?_)
                  · refine ev_iload_n rfl ?_
                    refine ev_ret rfl (by decide) (by decide) ?_
                    show jEv _ _ _ _ _ _ _ (_, [(2, 7), (0, x5), (0, x6), (0, 0), (0, v78066)], [(0, (v78007 + v78072)), (0, x5), (2, 17)], _, _, _)
                    refine g_iast g78085 ad17 rt17 (fun _ => rfl) (by omega) (by omega) (by omega) (by omega) (fun h78087 e78087 g78087 => ?_)
                    have k78087 := k78085.wr e78087 rfl
                    refine ev_ret rfl (by decide) (by decide) ?_
                    show jEv _ _ _ _ _ _ _ (_, [(2, 7), (2, 1), (0, a2), (0, a3), (0, x4), (0, x5), (0, x6)], [], _, _, _)
                    refine ev_iinc (w := (x6 + 1)) (L' := [(2, 7), (2, 1), (0, a2), (0, a3), (0, x4), (0, x5), (0, (x6 + 1))]) rfl (by unfold w32; omega) rfl ?_
                    refine ev_goto f79_68 ?_
                    exact ih _ _ _ _ _ _ _ _ _ g78087 k78087 (by omega) (by omega) (by omega) (by omega) (by omega) (by omega) (by omega) (by omega) (by omega) (by omega) (by omega) (by omega) (by omega) (by omega) (by omega) (by omega) (((jw_ne e78087 (Or.inl (by decide))).trans ((jw_ne e78085 (Or.inl (by decide))).trans ((jw_ne e78083 (Or.inl (by decide))).trans ((jw_ne e78081 (Or.inl (by decide))).trans ((jw_ne e78080 (Or.inl (by decide))).trans ((jw_ne e78079 (Or.inl (by decide))).trans c278067))))))) (by omega) (by omega) (((jw_ne e78087 (Or.inl (by decide))).trans ((jw_ne e78085 (Or.inl (by decide))).trans ((jw_ne e78083 (Or.inl (by decide))).trans ((jw_ne e78081 (Or.inl (by decide))).trans ((jw_ne e78080 (Or.inl (by decide))).trans ((jw_ne e78079 (Or.inl (by decide))).trans c378067))))))) (by omega) (by omega) (((jw_ne e78087 (Or.inl (by decide))).trans ((jw_ne e78085 (Or.inl (by decide))).trans ((jw_ne e78083 (Or.inl (by decide))).trans ((jw_ne e78081 (Or.inl (by decide))).trans ((jw_ne e78080 (Or.inl (by decide))).trans ((jw_ne e78079 (Or.inl (by decide))).trans ev78074))))))) (by omega) (by omega) (((jw_ne e78087 (Or.inl (by decide))).trans ((jw_ne e78085 (Or.inl (by decide))).trans ((jw_ne e78083 (Or.inl (by decide))).trans ((jw_ne e78081 (Or.inl (by decide))).trans ((jw_ne e78080 (Or.inl (by decide))).trans ((jw_ne e78079 (Or.inl (by decide))).trans ((kk78065.v rfl).trans ((jw_ne e78062 (Or.inl (by decide))).trans ey3))))))))) (by omega) (by omega) (((jw_ne e78087 (Or.inl (by decide))).trans ((jw_ne e78085 (Or.inl (by decide))).trans ((jw_ne e78083 (Or.inl (by decide))).trans ((jw_ne e78081 (Or.inl (by decide))).trans ((jw_ne e78080 (Or.inl (by decide))).trans ((jw_ne e78079 (Or.inl (by decide))).trans ((kk78065.v (by decide)).trans ((jw_ne e78062 (Or.inl (by decide))).trans ey4))))))))) (by omega) (by omega) (tj_ok (p := (y1 + 1)) (c := v78071) k978003 (((sT78003.resolve_left (fun z => by omega)).resolve_right (fun z => by omega)).2.2.trans (if_pos ((bC_at (p := y1) k78087 (fun _ => rfl) ew0 (((jw_ne e78087 (Or.inl (by decide))).trans ((jw_ne e78085 (Or.inl (by decide))).trans ((jw_ne e78083 (Or.inl (by decide))).trans ((jw_ne e78081 (Or.inl (by decide))).trans ((jw_ne e78080 (Or.inl (by decide))).trans ((jw_ne e78079 (Or.inl (by decide))).trans ((kk78065.v rfl).trans ((jw_ne e78062 (Or.inl (by decide))).trans ev78052))))))))) (by omega) (by omega)).trans (by omega)))) (by omega) (by omega) (by rw [show jor a3 (jshl 1 x4) = v78064 by rw [ev78063]; exact ev78064]; exact eQ78067) (by omega) (by omega) (by omega) (by omega) (by omega) (((jw_ne e78087 (Or.inl (by decide))).trans ((jw_ne e78085 (Or.inl (by decide))).trans (jw_eq e78083)))) (ev78082).symm (((jw_ne e78087 (Or.inl (by decide))).trans (jw_eq e78085))) (by unfold mxD; split <;> omega) ((jw_eq e78087)) (mn_of s278003 ev78072 (by omega) (by omega) (by omega)) (by omega) (by omega) (by omega)) (FrN.wr (i := x5) (FrN.wr (i := x5) (FrN.wr (i := x5) ((((FrN.tr (H1.wn e78062 (by decide)) X78067.1 (by omega)).wn e78079 (by decide)).wn e78080 (by decide)).wn e78081 (by decide)) e78083 (Or.inr (by omega))) e78085 (Or.inr (by omega))) e78087 (Or.inr (by omega))) (by omega)
                  · refine ev_iload_n rfl ?_
                    refine ev_goto f381_10 ?_
                    refine ev_ret rfl (by decide) (by decide) ?_
                    show jEv _ _ _ _ _ _ _ (_, [(2, 7), (0, x5), (0, x6), (0, 0), (0, v78066)], [(0, 1000), (0, x5), (2, 17)], _, _, _)
                    refine g_iast g78085 ad17 rt17 (fun _ => rfl) (by omega) (by omega) (by omega) (by omega) (fun h78088 e78088 g78088 => ?_)
                    have k78088 := k78085.wr e78088 rfl
                    refine ev_ret rfl (by decide) (by decide) ?_
                    show jEv _ _ _ _ _ _ _ (_, [(2, 7), (2, 1), (0, a2), (0, a3), (0, x4), (0, x5), (0, x6)], [], _, _, _)
                    refine ev_iinc (w := (x6 + 1)) (L' := [(2, 7), (2, 1), (0, a2), (0, a3), (0, x4), (0, x5), (0, (x6 + 1))]) rfl (by unfold w32; omega) rfl ?_
                    refine ev_goto f79_68 ?_
                    exact ih _ _ _ _ _ _ _ _ _ g78088 k78088 (by omega) (by omega) (by omega) (by omega) (by omega) (by omega) (by omega) (by omega) (by omega) (by omega) (by omega) (by omega) (by omega) (by omega) (by omega) (by omega) (((jw_ne e78088 (Or.inl (by decide))).trans ((jw_ne e78085 (Or.inl (by decide))).trans ((jw_ne e78083 (Or.inl (by decide))).trans ((jw_ne e78081 (Or.inl (by decide))).trans ((jw_ne e78080 (Or.inl (by decide))).trans ((jw_ne e78079 (Or.inl (by decide))).trans c278067))))))) (by omega) (by omega) (((jw_ne e78088 (Or.inl (by decide))).trans ((jw_ne e78085 (Or.inl (by decide))).trans ((jw_ne e78083 (Or.inl (by decide))).trans ((jw_ne e78081 (Or.inl (by decide))).trans ((jw_ne e78080 (Or.inl (by decide))).trans ((jw_ne e78079 (Or.inl (by decide))).trans c378067))))))) (by omega) (by omega) (((jw_ne e78088 (Or.inl (by decide))).trans ((jw_ne e78085 (Or.inl (by decide))).trans ((jw_ne e78083 (Or.inl (by decide))).trans ((jw_ne e78081 (Or.inl (by decide))).trans ((jw_ne e78080 (Or.inl (by decide))).trans ((jw_ne e78079 (Or.inl (by decide))).trans ev78074))))))) (by omega) (by omega) (((jw_ne e78088 (Or.inl (by decide))).trans ((jw_ne e78085 (Or.inl (by decide))).trans ((jw_ne e78083 (Or.inl (by decide))).trans ((jw_ne e78081 (Or.inl (by decide))).trans ((jw_ne e78080 (Or.inl (by decide))).trans ((jw_ne e78079 (Or.inl (by decide))).trans ((kk78065.v rfl).trans ((jw_ne e78062 (Or.inl (by decide))).trans ey3))))))))) (by omega) (by omega) (((jw_ne e78088 (Or.inl (by decide))).trans ((jw_ne e78085 (Or.inl (by decide))).trans ((jw_ne e78083 (Or.inl (by decide))).trans ((jw_ne e78081 (Or.inl (by decide))).trans ((jw_ne e78080 (Or.inl (by decide))).trans ((jw_ne e78079 (Or.inl (by decide))).trans ((kk78065.v (by decide)).trans ((jw_ne e78062 (Or.inl (by decide))).trans ey4))))))))) (by omega) (by omega) (tj_ok (p := (y1 + 1)) (c := v78071) k978003 (((sT78003.resolve_left (fun z => by omega)).resolve_right (fun z => by omega)).2.2.trans (if_pos ((bC_at (p := y1) k78088 (fun _ => rfl) ew0 (((jw_ne e78088 (Or.inl (by decide))).trans ((jw_ne e78085 (Or.inl (by decide))).trans ((jw_ne e78083 (Or.inl (by decide))).trans ((jw_ne e78081 (Or.inl (by decide))).trans ((jw_ne e78080 (Or.inl (by decide))).trans ((jw_ne e78079 (Or.inl (by decide))).trans ((kk78065.v rfl).trans ((jw_ne e78062 (Or.inl (by decide))).trans ev78052))))))))) (by omega) (by omega)).trans (by omega)))) (by omega) (by omega) (by rw [show jor a3 (jshl 1 x4) = v78064 by rw [ev78063]; exact ev78064]; exact eQ78067) (by omega) (by omega) (by omega) (by omega) (by omega) (((jw_ne e78088 (Or.inl (by decide))).trans ((jw_ne e78085 (Or.inl (by decide))).trans (jw_eq e78083)))) (ev78082).symm (((jw_ne e78088 (Or.inl (by decide))).trans (jw_eq e78085))) (by unfold mxD; split <;> omega) ((jw_eq e78088)) (mn_of s278003 ev78072 (by omega) (by omega) (by omega)) (by omega) (by omega) (by omega)) (FrN.wr (i := x5) (FrN.wr (i := x5) (FrN.wr (i := x5) ((((FrN.tr (H1.wn e78062 (by decide)) X78067.1 (by omega)).wn e78079 (by decide)).wn e78080 (by decide)).wn e78081 (by decide)) e78083 (Or.inr (by omega))) e78085 (Or.inr (by omega))) e78088 (Or.inr (by omega))) (by omega)
                · refine ev_iload_n rfl ?_
                  refine ev_goto f379_10 ?_
                  refine ev_ret rfl (by decide) (by decide) ?_
                  show jEv _ _ _ _ _ _ _ (_, [(2, 7), (0, x5), (0, x6), (0, 0), (0, v78066)], [(0, v78006), (0, x5), (2, 16)], _, _, _)
                  refine g_iast g78083 ad16 rt16 (fun _ => rfl) (by omega) (by omega) (by omega) (by omega) (fun h78089 e78089 g78089 => ?_)
                  have k78089 := k78083.wr e78089 rfl
                  refine ev_aload_n rfl ?_
                  refine g_getp (r := 7) (c := 17) g78089 ad7 (by decide) (by decide) rf7_14 ft5_14 ?_
                  refine ev_iload_n rfl ?_
                  refine ev_sipush ?_
                  refine ev_aload_n rfl ?_
                  refine g_getp (r := 7) (c := 17) g78089 ad7 (by decide) (by decide) rf7_14 ft5_14 ?_
                  refine ev_iload_n rfl ?_
                  refine g_ialdv (v := v78007) g78089 ad17 (by omega) (by omega) (((jw_ne e78089 (Or.inl (by decide))).trans ((jw_ne e78083 (Or.inl (by decide))).trans ((jw_ne e78081 (Or.inl (by decide))).trans ((jw_ne e78080 (Or.inl (by decide))).trans ((jw_ne e78079 (Or.inl (by decide))).trans ((X78067.1 (x5).toNat (by omega)).2.2.trans (((jw_ne e78062 (Or.inl (by decide))).trans ev78007))))))))) ?_
                  refine ev_aload_n rfl ?_
                  refine g_getp (r := 7) (c := 17) g78089 ad7 (by decide) (by decide) rf7_14 ft5_14 ?_
                  refine ev_iload rfl ?_
                  refine g_ialdv (v := v78072) g78089 ad17 (by omega) (by omega) (((jw_ne e78089 (Or.inl (by decide))).trans ((jw_ne e78083 (Or.inl (by decide))).trans ((jw_ne e78081 (Or.inl (by decide))).trans ((jw_ne e78080 (Or.inl (by decide))).trans ((jw_ne e78079 (Or.inl (by decide))).trans d578067)))))) ?_
                  refine ev_iadd (r := (v78007 + v78072)) (by unfold w32; omega) ?_
                  refine ev_in (d := (d + 1)) (a := 0) (b := 0) (cd' := c381_0) (m := 2) (L0 := [(0, 1000), (0, (v78007 + v78072))]) (jcall_s (A := [(0, (v78007 + v78072)), (0, 1000)]) (S' := [(0, x5), (2, 17)]) (by decide) rfl (Nat.le_of_ble_eq_true rfl)) (by decide) ml381 pp381 (Nat.le_of_ble_eq_true rfl) rfl (by decide) (by decide) ?_
                  refine ev_iload_n rfl ?_
                  refine ev_iload_n rfl ?_
                  refine ev_icmpgt f381_9 (fun c78090 => ?_) (fun c78090 => ?_)
                  · refine ev_iload_n rfl ?_
                    refine ev_ret rfl (by decide) (by decide) ?_
                    show jEv _ _ _ _ _ _ _ (_, [(2, 7), (0, x5), (0, x6), (0, 0), (0, v78066)], [(0, (v78007 + v78072)), (0, x5), (2, 17)], _, _, _)
                    refine g_iast g78089 ad17 rt17 (fun _ => rfl) (by omega) (by omega) (by omega) (by omega) (fun h78091 e78091 g78091 => ?_)
                    have k78091 := k78089.wr e78091 rfl
                    refine ev_ret rfl (by decide) (by decide) ?_
                    show jEv _ _ _ _ _ _ _ (_, [(2, 7), (2, 1), (0, a2), (0, a3), (0, x4), (0, x5), (0, x6)], [], _, _, _)
                    refine ev_iinc (w := (x6 + 1)) (L' := [(2, 7), (2, 1), (0, a2), (0, a3), (0, x4), (0, x5), (0, (x6 + 1))]) rfl (by unfold w32; omega) rfl ?_
                    refine ev_goto f79_68 ?_
                    exact ih _ _ _ _ _ _ _ _ _ g78091 k78091 (by omega) (by omega) (by omega) (by omega) (by omega) (by omega) (by omega) (by omega) (by omega) (by omega) (by omega) (by omega) (by omega) (by omega) (by omega) (by omega) (((jw_ne e78091 (Or.inl (by decide))).trans ((jw_ne e78089 (Or.inl (by decide))).trans ((jw_ne e78083 (Or.inl (by decide))).trans ((jw_ne e78081 (Or.inl (by decide))).trans ((jw_ne e78080 (Or.inl (by decide))).trans ((jw_ne e78079 (Or.inl (by decide))).trans c278067))))))) (by omega) (by omega) (((jw_ne e78091 (Or.inl (by decide))).trans ((jw_ne e78089 (Or.inl (by decide))).trans ((jw_ne e78083 (Or.inl (by decide))).trans ((jw_ne e78081 (Or.inl (by decide))).trans ((jw_ne e78080 (Or.inl (by decide))).trans ((jw_ne e78079 (Or.inl (by decide))).trans c378067))))))) (by omega) (by omega) (((jw_ne e78091 (Or.inl (by decide))).trans ((jw_ne e78089 (Or.inl (by decide))).trans ((jw_ne e78083 (Or.inl (by decide))).trans ((jw_ne e78081 (Or.inl (by decide))).trans ((jw_ne e78080 (Or.inl (by decide))).trans ((jw_ne e78079 (Or.inl (by decide))).trans ev78074))))))) (by omega) (by omega) (((jw_ne e78091 (Or.inl (by decide))).trans ((jw_ne e78089 (Or.inl (by decide))).trans ((jw_ne e78083 (Or.inl (by decide))).trans ((jw_ne e78081 (Or.inl (by decide))).trans ((jw_ne e78080 (Or.inl (by decide))).trans ((jw_ne e78079 (Or.inl (by decide))).trans ((kk78065.v rfl).trans ((jw_ne e78062 (Or.inl (by decide))).trans ey3))))))))) (by omega) (by omega) (((jw_ne e78091 (Or.inl (by decide))).trans ((jw_ne e78089 (Or.inl (by decide))).trans ((jw_ne e78083 (Or.inl (by decide))).trans ((jw_ne e78081 (Or.inl (by decide))).trans ((jw_ne e78080 (Or.inl (by decide))).trans ((jw_ne e78079 (Or.inl (by decide))).trans ((kk78065.v (by decide)).trans ((jw_ne e78062 (Or.inl (by decide))).trans ey4))))))))) (by omega) (by omega) (tj_ok (p := (y1 + 1)) (c := v78071) k978003 (((sT78003.resolve_left (fun z => by omega)).resolve_right (fun z => by omega)).2.2.trans (if_pos ((bC_at (p := y1) k78091 (fun _ => rfl) ew0 (((jw_ne e78091 (Or.inl (by decide))).trans ((jw_ne e78089 (Or.inl (by decide))).trans ((jw_ne e78083 (Or.inl (by decide))).trans ((jw_ne e78081 (Or.inl (by decide))).trans ((jw_ne e78080 (Or.inl (by decide))).trans ((jw_ne e78079 (Or.inl (by decide))).trans ((kk78065.v rfl).trans ((jw_ne e78062 (Or.inl (by decide))).trans ev78052))))))))) (by omega) (by omega)).trans (by omega)))) (by omega) (by omega) (by rw [show jor a3 (jshl 1 x4) = v78064 by rw [ev78063]; exact ev78064]; exact eQ78067) (by omega) (by omega) (by omega) (by omega) (by omega) (((jw_ne e78091 (Or.inl (by decide))).trans ((jw_ne e78089 (Or.inl (by decide))).trans (jw_eq e78083)))) (ev78082).symm (((jw_ne e78091 (Or.inl (by decide))).trans (jw_eq e78089))) (by unfold mxD; split <;> omega) ((jw_eq e78091)) (mn_of s278003 ev78072 (by omega) (by omega) (by omega)) (by omega) (by omega) (by omega)) (FrN.wr (i := x5) (FrN.wr (i := x5) (FrN.wr (i := x5) ((((FrN.tr (H1.wn e78062 (by decide)) X78067.1 (by omega)).wn e78079 (by decide)).wn e78080 (by decide)).wn e78081 (by decide)) e78083 (Or.inr (by omega))) e78089 (Or.inr (by omega))) e78091 (Or.inr (by omega))) (by omega)
                  · refine ev_iload_n rfl ?_
                    refine ev_goto f381_10 ?_
                    refine ev_ret rfl (by decide) (by decide) ?_
                    show jEv _ _ _ _ _ _ _ (_, [(2, 7), (0, x5), (0, x6), (0, 0), (0, v78066)], [(0, 1000), (0, x5), (2, 17)], _, _, _)
                    refine g_iast g78089 ad17 rt17 (fun _ => rfl) (by omega) (by omega) (by omega) (by omega) (fun h78092 e78092 g78092 => ?_)
                    have k78092 := k78089.wr e78092 rfl
                    refine ev_ret rfl (by decide) (by decide) ?_
                    show jEv _ _ _ _ _ _ _ (_, [(2, 7), (2, 1), (0, a2), (0, a3), (0, x4), (0, x5), (0, x6)], [], _, _, _)
                    refine ev_iinc (w := (x6 + 1)) (L' := [(2, 7), (2, 1), (0, a2), (0, a3), (0, x4), (0, x5), (0, (x6 + 1))]) rfl (by unfold w32; omega) rfl ?_
                    refine ev_goto f79_68 ?_
                    exact ih _ _ _ _ _ _ _ _ _ g78092 k78092 (by omega) (by omega) (by omega) (by omega) (by omega) (by omega) (by omega) (by omega) (by omega) (by omega) (by omega) (by omega) (by omega) (by omega) (by omega) (by omega) (((jw_ne e78092 (Or.inl (by decide))).trans ((jw_ne e78089 (Or.inl (by decide))).trans ((jw_ne e78083 (Or.inl (by decide))).trans ((jw_ne e78081 (Or.inl (by decide))).trans ((jw_ne e78080 (Or.inl (by decide))).trans ((jw_ne e78079 (Or.inl (by decide))).trans c278067))))))) (by omega) (by omega) (((jw_ne e78092 (Or.inl (by decide))).trans ((jw_ne e78089 (Or.inl (by decide))).trans ((jw_ne e78083 (Or.inl (by decide))).trans ((jw_ne e78081 (Or.inl (by decide))).trans ((jw_ne e78080 (Or.inl (by decide))).trans ((jw_ne e78079 (Or.inl (by decide))).trans c378067))))))) (by omega) (by omega) (((jw_ne e78092 (Or.inl (by decide))).trans ((jw_ne e78089 (Or.inl (by decide))).trans ((jw_ne e78083 (Or.inl (by decide))).trans ((jw_ne e78081 (Or.inl (by decide))).trans ((jw_ne e78080 (Or.inl (by decide))).trans ((jw_ne e78079 (Or.inl (by decide))).trans ev78074))))))) (by omega) (by omega) (((jw_ne e78092 (Or.inl (by decide))).trans ((jw_ne e78089 (Or.inl (by decide))).trans ((jw_ne e78083 (Or.inl (by decide))).trans ((jw_ne e78081 (Or.inl (by decide))).trans ((jw_ne e78080 (Or.inl (by decide))).trans ((jw_ne e78079 (Or.inl (by decide))).trans ((kk78065.v rfl).trans ((jw_ne e78062 (Or.inl (by decide))).trans ey3))))))))) (by omega) (by omega) (((jw_ne e78092 (Or.inl (by decide))).trans ((jw_ne e78089 (Or.inl (by decide))).trans ((jw_ne e78083 (Or.inl (by decide))).trans ((jw_ne e78081 (Or.inl (by decide))).trans ((jw_ne e78080 (Or.inl (by decide))).trans ((jw_ne e78079 (Or.inl (by decide))).trans ((kk78065.v (by decide)).trans ((jw_ne e78062 (Or.inl (by decide))).trans ey4))))))))) (by omega) (by omega) (tj_ok (p := (y1 + 1)) (c := v78071) k978003 (((sT78003.resolve_left (fun z => by omega)).resolve_right (fun z => by omega)).2.2.trans (if_pos ((bC_at (p := y1) k78092 (fun _ => rfl) ew0 (((jw_ne e78092 (Or.inl (by decide))).trans ((jw_ne e78089 (Or.inl (by decide))).trans ((jw_ne e78083 (Or.inl (by decide))).trans ((jw_ne e78081 (Or.inl (by decide))).trans ((jw_ne e78080 (Or.inl (by decide))).trans ((jw_ne e78079 (Or.inl (by decide))).trans ((kk78065.v rfl).trans ((jw_ne e78062 (Or.inl (by decide))).trans ev78052))))))))) (by omega) (by omega)).trans (by omega)))) (by omega) (by omega) (by rw [show jor a3 (jshl 1 x4) = v78064 by rw [ev78063]; exact ev78064]; exact eQ78067) (by omega) (by omega) (by omega) (by omega) (by omega) (((jw_ne e78092 (Or.inl (by decide))).trans ((jw_ne e78089 (Or.inl (by decide))).trans (jw_eq e78083)))) (ev78082).symm (((jw_ne e78092 (Or.inl (by decide))).trans (jw_eq e78089))) (by unfold mxD; split <;> omega) ((jw_eq e78092)) (mn_of s278003 ev78072 (by omega) (by omega) (by omega)) (by omega) (by omega) (by omega)) (FrN.wr (i := x5) (FrN.wr (i := x5) (FrN.wr (i := x5) ((((FrN.tr (H1.wn e78062 (by decide)) X78067.1 (by omega)).wn e78079 (by decide)).wn e78080 (by decide)).wn e78081 (by decide)) e78083 (Or.inr (by omega))) e78089 (Or.inr (by omega))) e78092 (Or.inr (by omega))) (by omega)
              · obtain ⟨v78073, ev78073⟩ : ∃ z : Int, -1 - Q78067.1 = z := ⟨_, rfl⟩
                rw [ev78073] at c278067
                have bv78073 := g78065.rg ad7 (i := 1) (by decide) rf7_1
                rw [c278067] at bv78073
                obtain ⟨v78093, ev78093, lv78093, uv78093⟩ := g78065.rd ad7 (show 3 < 15 by decide) rf7_3
                have m378067 := X78067.2.1
                rw [ev78093] at m378067
                refine ev_in (d := (d + 2)) (a := 0) (b := 0) (cd' := c80_0) (m := 5) (L0 := [(2, 7), (0, x5), (0, x6), (0, 0), (0, v78066)]) (jcall_v (A := [(0, v78066), (0, 0), (0, x6), (0, x5)]) (S' := []) (r := 7) rfl (g78065.lt ad7) (g78065.tg ad7) (Nat.le_of_ble_eq_true rfl)) (by decide) ml80 pp80 (Nat.le_of_ble_eq_true rfl) rfl (by decide) (by decide) ?_
                refine ev_aload_n rfl ?_
                refine g_getv (r := 7) (v := v78073) g78065 ad7 (by decide) ft5_1 (c278067) ?_
                refine ev_ifge f80_21 (fun c78094 => ?_) (fun c78094 => absurd c78094 (by omega))
                refine ev_ret rfl (by decide) (by decide) ?_
                show jEv _ _ _ _ _ _ _ (_, [(2, 7), (2, 1), (0, a2), (0, a3), (0, x4), (0, x5), (0, x6)], [], _, _, _)
                refine ev_iinc (w := (x6 + 1)) (L' := [(2, 7), (2, 1), (0, a2), (0, a3), (0, x4), (0, x5), (0, (x6 + 1))]) rfl (by unfold w32; omega) rfl ?_
                refine ev_goto f79_68 ?_
                obtain ⟨v78095, ev78095, lv78095, uv78095⟩ := g78065.rd ad7 (show 2 < 15 by decide) rf7_2
                exact ih _ _ _ _ _ _ _ _ _ g78065 k78065 (by omega) (by omega) (by omega) (by omega) (by omega) (by omega) (by omega) (by omega) (by omega) (by omega) (by omega) (by omega) (by omega) (by omega) (by omega) (by omega) (c278067) (by omega) (by omega) ev78095 (by omega) (by omega) (ev78093) (by omega) (by omega) (((kk78065.v rfl).trans ((jw_ne e78062 (Or.inl (by decide))).trans ey3))) (by omega) (by omega) (((kk78065.v (by decide)).trans ((jw_ne e78062 (Or.inl (by decide))).trans ey4))) (by omega) (by omega) (tj_bad (R' := (Q78067.1, 0, 0, 0)) k978003 ((((sT78003.resolve_left (fun z => by omega)).resolve_right (fun z => by omega)).2.2.trans (if_pos ((bC_at (p := y1) k78065 (fun _ => rfl) ew0 (((kk78065.v rfl).trans ((jw_ne e78062 (Or.inl (by decide))).trans ev78052))) (by omega) (by omega)).trans (by omega)))).trans ((tuL_f (by omega) (by rw [show (RC h w4 K (q - 1) (jor a3 (jshl 1 x4)) (a2 + 1)) _ = Q78067 from (by rw [show jor a3 (jshl 1 x4) = v78064 by rw [ev78063]; exact ev78064]; exact eQ78067)]; exact c178067)).trans (by rw [show (RC h w4 K (q - 1) (jor a3 (jshl 1 x4)) (a2 + 1)) _ = Q78067 from (by rw [show jor a3 (jshl 1 x4) = v78064 by rw [ev78063]; exact ev78064]; exact eQ78067)]))) (by omega) (by show Q78067.1 = _; omega)) (FrN.tr (H1.wn e78062 (by decide)) X78067.1 (by omega)) (by omega)
set_option maxHeartbeats 4000000 in
theorem t79_s {G : GH} {h : JH} (g : Gd G h) {a2 : Int} (la2 : 0 ≤ a2) (ua2 : a2 ≤ 12) {a3 : Int} (la3 : 0 ≤ a3) (ua3 : a3 ≤ 15) {w0 : Int} (ew0 : h.2.2 7 0 = w0) (lw0 : 0 ≤ w0) (uw0 : w0 ≤ 200) {w1 : Int} (ew1 : h.2.2 7 2 = w1) (lw1 : 0 ≤ w1) (uw1 : w1 ≤ 200) (ew2 : h.2.2 7 1 = (-1)) {w3 : Int} (ew3 : h.2.2 7 3 = w3) (lw3 : 0 ≤ w3) (uw3 : w3 ≤ 200) {w4 : Int} (ew4 : h.2.2 7 4 = w4) (lw4 : 0 ≤ w4) (uw4 : w4 ≤ 6) (F0 : ((-w1) + w3) ≤ 0) (F1 : ((-w0) + w1) ≤ (-1)) {K : Int → Int × Int × Int} {q : Nat} (hK : KoC h w4 K) (hq : 13 - a2 = q) (hb : bC h w1 = 33) {M : Int} (hM : M = a2) {d : Nat} (hd : 2 ≤ d) (rih : ∀ {G : GH} {h : JH} (g : Gd G h) {a2 : Int} (la2 : 0 ≤ a2) (ua2 : a2 ≤ 12) {a3 : Int} (la3 : 0 ≤ a3) (ua3 : a3 ≤ 15) {w0 : Int} (ew0 : h.2.2 7 0 = w0) (lw0 : 0 ≤ w0) (uw0 : w0 ≤ 200) {w1 : Int} (ew1 : h.2.2 7 2 = w1) (lw1 : 0 ≤ w1) (uw1 : w1 ≤ 200) (ew2 : h.2.2 7 1 = (-1)) {w3 : Int} (ew3 : h.2.2 7 3 = w3) (lw3 : 0 ≤ w3) (uw3 : w3 ≤ 200) {w4 : Int} (ew4 : h.2.2 7 4 = w4) (lw4 : 0 ≤ w4) (uw4 : w4 ≤ 6) (F0 : ((-w1) + w3) ≤ 0) {K : Int → Int × Int × Int} {q : Nat} (hK : KoC h w4 K) (hq : 13 - a2 = q) (hm : M + 1 ≤ a2), jOk d 0 0 74 [(2, 7), (2, 1), (0, a2), (0, a3)] h (fun v h' => ∃ r : Int, v = some (0, r) ∧ Gd G h' ∧ Kp [(7, 2), (7, 3), (7, 4), (10, 0), (11, 0), (12, 0), (13, 0), (14, 0), (15, 0), (16, 0), (17, 0)] h h' ∧ (-1) ≤ r ∧ r ≤ 199 ∧ Rp h h' w3 (RC h w4 K q a3 a2 w1) r)) : jOk (d + 4) 0 0 79 [(2, 7), (2, 1), (0, a2), (0, a3)] h (fun v h' => ∃ r : Int, v = some (0, r) ∧ Gd G h' ∧ Kp [(7, 2), (7, 3), (7, 4), (10, 0), (11, 0), (12, 0), (13, 0), (14, 0), (15, 0), (16, 0), (17, 0)] h h' ∧ (-1) ≤ r ∧ r ≤ 199 ∧ Rp h h' w3 (tuN (bC h) (h.2.2 1 0) (yC h) (fun t => RC h w4 K (q - 1) t (a2 + 1)) a3 a2 w1) r) := by
  refine ⟨by decide, by rw [ml79]; exact Nat.le_of_ble_eq_true rfl, ?_⟩
  rw [ml79, pp79]
  show jEv _ none _ c79_0 0 0 _ (c79_0, [(2, 7), (2, 1), (0, a2), (0, a3), (9, 0), (9, 0), (9, 0)], [], h, 0, 0)
  have k0 := Kp.rf [(7, 2), (7, 3), (7, 4), (10, 0), (11, 0), (12, 0), (13, 0), (14, 0), (15, 0), (16, 0), (17, 0)] h
  refine ev_aload_n rfl ?_
  refine ev_dup (by decide) ?_
  refine g_getv (r := 7) (v := w1) g ad7 (by decide) ft5_2 (ew1) ?_
  refine ev_iconst ?_
  refine ev_iadd (r := (w1 + 1)) (by unfold w32; omega) ?_
  refine g_putf (r := 7) g ad7 (by decide) ft5_2 (by decide) (fun e => absurd e nz5_2) rf7_2 (by decide) (by omega) (by omega) (fun h78096 e78096 g78096 => ?_)
  have k78096 := k0.wr e78096 rfl
  refine ev_aload_n rfl ?_
  refine ev_in (d := (d + 2)) (a := 0) (b := 0) (cd' := c68_0) (m := 1) (L0 := [(2, 7)]) (jcall_v (A := []) (S' := []) (r := 7) rfl (g78096.lt ad7) (g78096.tg ad7) (Nat.le_of_ble_eq_true rfl)) (by decide) ml68 pp68 (Nat.le_of_ble_eq_true rfl) rfl (by decide) (by decide) ?_
  refine ev_aload_n rfl ?_
  refine g_getv (r := 7) (v := (w1 + 1)) g78096 ad7 (by decide) ft5_2 ((jw_eq e78096)) ?_
  refine ev_aload_n rfl ?_
  refine g_getv (r := 7) (v := w0) g78096 ad7 (by decide) ft5_0 (((jw_ne e78096 (Or.inr (by decide))).trans ew0)) ?_
  refine ev_icmpge f68_27 (fun c78097 => ?_) (fun c78097 => ?_)
  · refine ev_iconst ?_
    refine ev_ret rfl (by decide) (by decide) ?_
    show jEv _ _ _ _ _ _ _ (_, [(2, 7), (2, 1), (0, a2), (0, a3), (9, 0), (9, 0), (9, 0)], [(0, (-1))], _, _, _)
    refine ev_bipush ?_
    refine ev_isub (r := (-98)) (by decide) ?_
    refine ev_istore (L' := [(2, 7), (2, 1), (0, a2), (0, a3), (0, (-98)), (9, 0), (9, 0)]) (Nat.le_of_ble_eq_true rfl) rfl ?_
    refine ev_aload_n rfl ?_
    refine ev_iload rfl ?_
    refine ev_in (d := (d + 2)) (a := 0) (b := 0) (cd' := c140_0) (m := 2) (L0 := [(2, 1), (0, (-98))]) (jcall_v (A := [(0, (-98))]) (S' := []) (r := 1) rfl (g78096.lt ad1) (g78096.tg ad1) (Nat.le_of_ble_eq_true rfl)) (by decide) ml140 pp140 (Nat.le_of_ble_eq_true rfl) rfl (by decide) (by decide) ?_
    refine ev_iload_n rfl ?_
    refine ev_iflt f140_16 (fun c78098 => ?_) (fun c78098 => absurd c78098 (by omega))
    refine ev_iconst ?_
    refine ev_ret rfl (by decide) (by decide) ?_
    show jEv _ _ _ _ _ _ _ (_, [(2, 7), (2, 1), (0, a2), (0, a3), (0, (-98)), (9, 0), (9, 0)], [(0, 0)], _, _, _)
    refine ev_ifeq f79_37 (fun c78099 => ?_) (fun c78099 => absurd c78099 (by omega))
    refine ev_aload_n rfl ?_
    refine ev_in (d := (d + 2)) (a := 0) (b := 0) (cd' := c70_0) (m := 1) (L0 := [(2, 7)]) (jcall_v (A := []) (S' := []) (r := 7) rfl (g78096.lt ad7) (g78096.tg ad7) (Nat.le_of_ble_eq_true rfl)) (by decide) ml70 pp70 (Nat.le_of_ble_eq_true rfl) rfl (by decide) (by decide) ?_
    refine ev_aload_n rfl ?_
    refine g_getv (r := 7) (v := (-1)) g78096 ad7 (by decide) ft5_1 (((jw_ne e78096 (Or.inr (by decide))).trans ew2)) ?_
    refine ev_ifge f70_15 (fun c78100 => absurd c78100 (by omega)) (fun c78100 => ?_)
    refine ev_aload_n rfl ?_
    refine ev_aload_n rfl ?_
    refine g_getv (r := 7) (v := (w1 + 1)) g78096 ad7 (by decide) ft5_2 ((jw_eq e78096)) ?_
    refine g_putf (r := 7) g78096 ad7 (by decide) ft5_1 (by decide) (fun e => absurd e nz5_1) rf7_1 (by decide) (by omega) (by omega) (fun h78101 e78101 g78101 => ?_)
    have k78101 := k78096.wr e78101 rfl
    refine ev_ret rfl (by decide) (by decide) ?_
    show jEv _ _ _ _ _ _ _ (_, [(2, 7), (2, 1), (0, a2), (0, a3), (0, (-98)), (9, 0), (9, 0)], [], _, _, _)
    refine ev_iconst ?_
    obtain ⟨v78102, ev78102, lv78102, uv78102⟩ := g78101.rd ad1 (show 0 < 8 by decide) rf1_0
    exact ev_ret rfl (by decide) (by decide) ⟨_, rfl, g78101, k78101, by omega, by omega, Rp.bad (((FrN.rf _ _).wn e78096 (by decide)).wn e78101 (by decide)) (((jw_ne e78101 (Or.inr (by decide))).trans ((jw_ne e78096 (Or.inr (by decide))).trans ew3))) (by omega) (tuN_1 (bC_end (p := (w1 + 1)) ew0 (by omega)) (Or.inl (by rw [show h.2.2 1 0 = v78102 from (k78101.v rfl).symm.trans ev78102]; omega))) (by omega) ((jw_eq e78101)) (by omega)⟩
  · refine ev_aload_n rfl ?_
    refine g_getp (r := 7) (c := 8) g78096 ad7 (by decide) (by decide) rf7_5 ft5_5 ?_
    refine ev_aload_n rfl ?_
    refine g_getv (r := 7) (v := (w1 + 1)) g78096 ad7 (by decide) ft5_2 ((jw_eq e78096)) ?_
    refine g_bald g78096 ad8 rt8 (by omega) (by omega) (fun v78103 ev78103 lv78103 uv78103 => ?_)
    refine ev_sipush ?_
    refine g_iandB (b := 255) (by omega) (by omega) (by decide) (fun v78104 ev78104 lv78104 uv78104 => ?_)
    have zv78104 := sgn ev78104 (by omega) (by omega)
    refine ev_goto f68_28 ?_
    refine ev_ret rfl (by decide) (by decide) ?_
    show jEv _ _ _ _ _ _ _ (_, [(2, 7), (2, 1), (0, a2), (0, a3), (9, 0), (9, 0), (9, 0)], [(0, v78104)], _, _, _)
    refine ev_bipush ?_
    refine ev_isub (r := (v78104 - 97)) (by unfold w32; omega) ?_
    refine ev_istore (L' := [(2, 7), (2, 1), (0, a2), (0, a3), (0, (v78104 - 97)), (9, 0), (9, 0)]) (Nat.le_of_ble_eq_true rfl) rfl ?_
    refine ev_aload_n rfl ?_
    refine ev_iload rfl ?_
    refine ev_in (d := (d + 2)) (a := 0) (b := 0) (cd' := c140_0) (m := 2) (L0 := [(2, 1), (0, (v78104 - 97))]) (jcall_v (A := [(0, (v78104 - 97))]) (S' := []) (r := 1) rfl (g78096.lt ad1) (g78096.tg ad1) (Nat.le_of_ble_eq_true rfl)) (by decide) ml140 pp140 (Nat.le_of_ble_eq_true rfl) rfl (by decide) (by decide) ?_
    refine ev_iload_n rfl ?_
    refine ev_iflt f140_16 (fun c78105 => ?_) (fun c78105 => ?_)
    · refine ev_iconst ?_
      refine ev_ret rfl (by decide) (by decide) ?_
      show jEv _ _ _ _ _ _ _ (_, [(2, 7), (2, 1), (0, a2), (0, a3), (0, (v78104 - 97)), (9, 0), (9, 0)], [(0, 0)], _, _, _)
      refine ev_ifeq f79_37 (fun c78106 => ?_) (fun c78106 => absurd c78106 (by omega))
      refine ev_aload_n rfl ?_
      refine ev_in (d := (d + 2)) (a := 0) (b := 0) (cd' := c70_0) (m := 1) (L0 := [(2, 7)]) (jcall_v (A := []) (S' := []) (r := 7) rfl (g78096.lt ad7) (g78096.tg ad7) (Nat.le_of_ble_eq_true rfl)) (by decide) ml70 pp70 (Nat.le_of_ble_eq_true rfl) rfl (by decide) (by decide) ?_
      refine ev_aload_n rfl ?_
      refine g_getv (r := 7) (v := (-1)) g78096 ad7 (by decide) ft5_1 (((jw_ne e78096 (Or.inr (by decide))).trans ew2)) ?_
      refine ev_ifge f70_15 (fun c78107 => absurd c78107 (by omega)) (fun c78107 => ?_)
      refine ev_aload_n rfl ?_
      refine ev_aload_n rfl ?_
      refine g_getv (r := 7) (v := (w1 + 1)) g78096 ad7 (by decide) ft5_2 ((jw_eq e78096)) ?_
      refine g_putf (r := 7) g78096 ad7 (by decide) ft5_1 (by decide) (fun e => absurd e nz5_1) rf7_1 (by decide) (by omega) (by omega) (fun h78108 e78108 g78108 => ?_)
      have k78108 := k78096.wr e78108 rfl
      refine ev_ret rfl (by decide) (by decide) ?_
      show jEv _ _ _ _ _ _ _ (_, [(2, 7), (2, 1), (0, a2), (0, a3), (0, (v78104 - 97)), (9, 0), (9, 0)], [], _, _, _)
      refine ev_iconst ?_
      obtain ⟨v78109, ev78109, lv78109, uv78109⟩ := g78108.rd ad1 (show 0 < 8 by decide) rf1_0
      exact ev_ret rfl (by decide) (by decide) ⟨_, rfl, g78108, k78108, by omega, by omega, Rp.bad (((FrN.rf _ _).wn e78096 (by decide)).wn e78108 (by decide)) (((jw_ne e78108 (Or.inr (by decide))).trans ((jw_ne e78096 (Or.inr (by decide))).trans ew3))) (by omega) (tuN_1 (bC_at (p := (w1 + 1)) k78108 (fun _ => rfl) ew0 (((jw_ne e78108 (Or.inl (by decide))).trans ev78103)) (by omega) (by omega)) (Or.inl (by rw [show h.2.2 1 0 = v78109 from (k78108.v rfl).symm.trans ev78109]; omega))) (by omega) ((jw_eq e78108)) (by omega)⟩
    · refine ev_iload_n rfl ?_
      refine ev_aload_n rfl ?_
      obtain ⟨v78110, ev78110, lv78110, uv78110⟩ := g78096.rd ad1 (show 0 < 8 by decide) rf1_0
      refine g_getv (r := 1) (v := v78110) g78096 ad1 (by decide) ft10_0 ev78110 ?_
      refine ev_icmpge f140_16 (fun c78111 => ?_) (fun c78111 => ?_)
      · refine ev_iconst ?_
        refine ev_ret rfl (by decide) (by decide) ?_
        show jEv _ _ _ _ _ _ _ (_, [(2, 7), (2, 1), (0, a2), (0, a3), (0, (v78104 - 97)), (9, 0), (9, 0)], [(0, 0)], _, _, _)
        refine ev_ifeq f79_37 (fun c78112 => ?_) (fun c78112 => absurd c78112 (by omega))
        refine ev_aload_n rfl ?_
        refine ev_in (d := (d + 2)) (a := 0) (b := 0) (cd' := c70_0) (m := 1) (L0 := [(2, 7)]) (jcall_v (A := []) (S' := []) (r := 7) rfl (g78096.lt ad7) (g78096.tg ad7) (Nat.le_of_ble_eq_true rfl)) (by decide) ml70 pp70 (Nat.le_of_ble_eq_true rfl) rfl (by decide) (by decide) ?_
        refine ev_aload_n rfl ?_
        refine g_getv (r := 7) (v := (-1)) g78096 ad7 (by decide) ft5_1 (((jw_ne e78096 (Or.inr (by decide))).trans ew2)) ?_
        refine ev_ifge f70_15 (fun c78113 => absurd c78113 (by omega)) (fun c78113 => ?_)
        refine ev_aload_n rfl ?_
        refine ev_aload_n rfl ?_
        refine g_getv (r := 7) (v := (w1 + 1)) g78096 ad7 (by decide) ft5_2 ((jw_eq e78096)) ?_
        refine g_putf (r := 7) g78096 ad7 (by decide) ft5_1 (by decide) (fun e => absurd e nz5_1) rf7_1 (by decide) (by omega) (by omega) (fun h78114 e78114 g78114 => ?_)
        have k78114 := k78096.wr e78114 rfl
        refine ev_ret rfl (by decide) (by decide) ?_
        show jEv _ _ _ _ _ _ _ (_, [(2, 7), (2, 1), (0, a2), (0, a3), (0, (v78104 - 97)), (9, 0), (9, 0)], [], _, _, _)
        refine ev_iconst ?_
        exact ev_ret rfl (by decide) (by decide) ⟨_, rfl, g78114, k78114, by omega, by omega, Rp.bad (((FrN.rf _ _).wn e78096 (by decide)).wn e78114 (by decide)) (((jw_ne e78114 (Or.inr (by decide))).trans ((jw_ne e78096 (Or.inr (by decide))).trans ew3))) (by omega) (tuN_1 (bC_at (p := (w1 + 1)) k78114 (fun _ => rfl) ew0 (((jw_ne e78114 (Or.inl (by decide))).trans ev78103)) (by omega) (by omega)) (Or.inl (by rw [show h.2.2 1 0 = v78110 from (k78114.v rfl).symm.trans (((jw_ne e78114 (Or.inl (by decide))).trans ev78110))]; omega))) (by omega) ((jw_eq e78114)) (by omega)⟩
      · refine ev_iconst ?_
        refine ev_goto f140_17 ?_
        refine ev_ret rfl (by decide) (by decide) ?_
        show jEv _ _ _ _ _ _ _ (_, [(2, 7), (2, 1), (0, a2), (0, a3), (0, (v78104 - 97)), (9, 0), (9, 0)], [(0, 1)], _, _, _)
        refine ev_ifeq f79_37 (fun c78115 => absurd c78115 (by omega)) (fun c78115 => ?_)
        refine ev_iload_n rfl ?_
        refine ev_iload rfl ?_
        refine g_ishrB (a := 15) (by omega) (by omega) (by decide) (fun v78116 ev78116 lv78116 uv78116 => ?_)
        refine ev_iconst ?_
        refine g_iandB (b := 1) (by omega) (by omega) (by decide) (fun v78117 ev78117 lv78117 uv78117 => ?_)
        refine ev_ifeq f79_43 (fun c78118 => ?_) (fun c78118 => ?_)
        · refine ev_aload_n rfl ?_
          refine ev_dup (by decide) ?_
          refine g_getv (r := 7) (v := (w1 + 1)) g78096 ad7 (by decide) ft5_2 ((jw_eq e78096)) ?_
          refine ev_iconst ?_
          refine ev_iadd (r := (w1 + 2)) (by unfold w32; omega) ?_
          refine g_putf (r := 7) g78096 ad7 (by decide) ft5_2 (by decide) (fun e => absurd e nz5_2) rf7_2 (by decide) (by omega) (by omega) (fun h78119 e78119 g78119 => ?_)
          have k78119 := k78096.wr e78119 rfl
          refine ev_aload_n rfl ?_
          refine ev_iload_n rfl ?_
          refine ev_in (d := (d + 2)) (a := 0) (b := 0) (cd' := c72_0) (m := 2) (L0 := [(2, 7), (0, a2)]) (jcall_v (A := [(0, a2)]) (S' := []) (r := 7) rfl (g78119.lt ad7) (g78119.tg ad7) (Nat.le_of_ble_eq_true rfl)) (by decide) ml72 pp72 (Nat.le_of_ble_eq_true rfl) rfl (by decide) (by decide) ?_
          refine ev_iload_n rfl ?_
          refine ev_bipush ?_
          refine ev_icmplt f72_10 (fun c78120 => ?_) (fun c78120 => ?_)
          · refine ev_aload_n rfl ?_
            refine ev_bipush ?_
            refine ev_in (d := (d + 1)) (a := 0) (b := 0) (cd' := c71_0) (m := 2) (L0 := [(2, 7), (0, 40)]) (jcall_v (A := [(0, 40)]) (S' := []) (r := 7) rfl (g78119.lt ad7) (g78119.tg ad7) (Nat.le_of_ble_eq_true rfl)) (by decide) ml71 pp71 (Nat.le_of_ble_eq_true rfl) rfl (by decide) (by decide) ?_
            refine ev_aload_n rfl ?_
            refine g_getv (r := 7) (v := (-1)) g78119 ad7 (by decide) ft5_1 (((jw_ne e78119 (Or.inr (by decide))).trans ((jw_ne e78096 (Or.inr (by decide))).trans ew2))) ?_
            refine ev_iflt f71_8 (fun c78121 => ?_) (fun c78121 => absurd c78121 (by omega))
            refine ev_aload_n rfl ?_
            refine ev_in (d := (d + 0)) (a := 0) (b := 0) (cd' := c68_0) (m := 1) (L0 := [(2, 7)]) (jcall_v (A := []) (S' := []) (r := 7) rfl (g78119.lt ad7) (g78119.tg ad7) (Nat.le_of_ble_eq_true rfl)) (by decide) ml68 pp68 (Nat.le_of_ble_eq_true rfl) rfl (by decide) (by decide) ?_
            refine ev_aload_n rfl ?_
            refine g_getv (r := 7) (v := (w1 + 2)) g78119 ad7 (by decide) ft5_2 ((jw_eq e78119)) ?_
            refine ev_aload_n rfl ?_
            refine g_getv (r := 7) (v := w0) g78119 ad7 (by decide) ft5_0 (((jw_ne e78119 (Or.inr (by decide))).trans ((jw_ne e78096 (Or.inr (by decide))).trans ew0))) ?_
            refine ev_icmpge f68_27 (fun c78122 => ?_) (fun c78122 => ?_)
            · refine ev_iconst ?_
              refine ev_ret rfl (by decide) (by decide) ?_
              show jEv _ _ _ _ _ _ _ (_, [(2, 7), (0, 40)], [(0, (-1))], _, _, _)
              refine ev_iload_n rfl ?_
              refine ev_icmpne f71_29 (fun c78123 => ?_) (fun c78123 => absurd c78123 (by omega))
              refine ev_aload_n rfl ?_
              refine ev_in (d := (d + 0)) (a := 0) (b := 0) (cd' := c70_0) (m := 1) (L0 := [(2, 7)]) (jcall_v (A := []) (S' := []) (r := 7) rfl (g78119.lt ad7) (g78119.tg ad7) (Nat.le_of_ble_eq_true rfl)) (by decide) ml70 pp70 (Nat.le_of_ble_eq_true rfl) rfl (by decide) (by decide) ?_
              refine ev_aload_n rfl ?_
              refine g_getv (r := 7) (v := (-1)) g78119 ad7 (by decide) ft5_1 (((jw_ne e78119 (Or.inr (by decide))).trans ((jw_ne e78096 (Or.inr (by decide))).trans ew2))) ?_
              refine ev_ifge f70_15 (fun c78124 => absurd c78124 (by omega)) (fun c78124 => ?_)
              refine ev_aload_n rfl ?_
              refine ev_aload_n rfl ?_
              refine g_getv (r := 7) (v := (w1 + 2)) g78119 ad7 (by decide) ft5_2 ((jw_eq e78119)) ?_
              refine g_putf (r := 7) g78119 ad7 (by decide) ft5_1 (by decide) (fun e => absurd e nz5_1) rf7_1 (by decide) (by omega) (by omega) (fun h78125 e78125 g78125 => ?_)
              have k78125 := k78119.wr e78125 rfl
              refine ev_ret rfl (by decide) (by decide) ?_
              show jEv _ _ _ _ _ _ _ (_, [(2, 7), (0, 40)], [], _, _, _)
              refine ev_ret rfl (by decide) (by decide) ?_
              show jEv _ _ _ _ _ _ _ (_, [(2, 7), (0, a2)], [], _, _, _)
              refine ev_ret rfl (by decide) (by decide) ?_
              show jEv _ _ _ _ _ _ _ (_, [(2, 7), (2, 1), (0, a2), (0, a3), (0, (v78104 - 97)), (9, 0), (9, 0)], [], _, _, _)
              refine ev_aload_n rfl ?_
              refine ev_iconst ?_
              refine ev_in (d := (d + 2)) (a := 0) (b := 0) (cd' := c73_0) (m := 2) (L0 := [(2, 7), (0, 2)]) (jcall_v (A := [(0, 2)]) (S' := []) (r := 7) rfl (g78125.lt ad7) (g78125.tg ad7) (Nat.le_of_ble_eq_true rfl)) (by decide) ml73 pp73 (Nat.le_of_ble_eq_true rfl) rfl (by decide) (by decide) ?_
              refine ev_aload_n rfl ?_
              refine g_getv (r := 7) (v := w3) g78125 ad7 (by decide) ft5_3 (((jw_ne e78125 (Or.inr (by decide))).trans ((jw_ne e78119 (Or.inr (by decide))).trans ((jw_ne e78096 (Or.inr (by decide))).trans ew3)))) ?_
              refine ev_sipush ?_
              refine ev_icmplt f73_16 (fun c78126 => ?_) (fun c78126 => absurd c78126 (by omega))
              refine ev_aload_n rfl ?_
              refine g_getp (r := 7) (c := 10) g78125 ad7 (by decide) (by decide) rf7_7 ft5_7 ?_
              refine ev_aload_n rfl ?_
              refine g_getv (r := 7) (v := w3) g78125 ad7 (by decide) ft5_3 (((jw_ne e78125 (Or.inr (by decide))).trans ((jw_ne e78119 (Or.inr (by decide))).trans ((jw_ne e78096 (Or.inr (by decide))).trans ew3)))) ?_
              refine ev_iload_n rfl ?_
              refine g_iast g78125 ad10 rt10 (fun _ => rfl) (by omega) (by omega) (by omega) (by omega) (fun h78127 e78127 g78127 => ?_)
              have k78127 := k78125.wr e78127 rfl
              refine ev_aload_n rfl ?_
              refine g_getp (r := 7) (c := 11) g78127 ad7 (by decide) (by decide) rf7_8 ft5_8 ?_
              refine ev_aload_n rfl ?_
              refine g_getv (r := 7) (v := w3) g78127 ad7 (by decide) ft5_3 (((jw_ne e78127 (Or.inl (by decide))).trans ((jw_ne e78125 (Or.inr (by decide))).trans ((jw_ne e78119 (Or.inr (by decide))).trans ((jw_ne e78096 (Or.inr (by decide))).trans ew3))))) ?_
              refine ev_iconst ?_
              refine g_iast g78127 ad11 rt11 (fun _ => rfl) (by omega) (by omega) (by omega) (by omega) (fun h78128 e78128 g78128 => ?_)
              have k78128 := k78127.wr e78128 rfl
              refine ev_aload_n rfl ?_
              refine g_getp (r := 7) (c := 12) g78128 ad7 (by decide) (by decide) rf7_9 ft5_9 ?_
              refine ev_aload_n rfl ?_
              refine g_getv (r := 7) (v := w3) g78128 ad7 (by decide) ft5_3 (((jw_ne e78128 (Or.inl (by decide))).trans ((jw_ne e78127 (Or.inl (by decide))).trans ((jw_ne e78125 (Or.inr (by decide))).trans ((jw_ne e78119 (Or.inr (by decide))).trans ((jw_ne e78096 (Or.inr (by decide))).trans ew3)))))) ?_
              refine ev_iconst ?_
              refine g_iast g78128 ad12 rt12 (fun _ => rfl) (by omega) (by omega) (by omega) (by omega) (fun h78129 e78129 g78129 => ?_)
              have k78129 := k78128.wr e78129 rfl
              refine ev_aload_n rfl ?_
              refine g_getp (r := 7) (c := 15) g78129 ad7 (by decide) (by decide) rf7_12 ft5_12 ?_
              refine ev_aload_n rfl ?_
              refine g_getv (r := 7) (v := w3) g78129 ad7 (by decide) ft5_3 (((jw_ne e78129 (Or.inl (by decide))).trans ((jw_ne e78128 (Or.inl (by decide))).trans ((jw_ne e78127 (Or.inl (by decide))).trans ((jw_ne e78125 (Or.inr (by decide))).trans ((jw_ne e78119 (Or.inr (by decide))).trans ((jw_ne e78096 (Or.inr (by decide))).trans ew3))))))) ?_
              refine ev_iconst ?_
              refine g_iast g78129 ad15 rt15 (fun _ => rfl) (by omega) (by omega) (by omega) (by omega) (fun h78130 e78130 g78130 => ?_)
              have k78130 := k78129.wr e78130 rfl
              refine ev_aload_n rfl ?_
              refine g_getp (r := 7) (c := 16) g78130 ad7 (by decide) (by decide) rf7_13 ft5_13 ?_
              refine ev_aload_n rfl ?_
              refine g_getv (r := 7) (v := w3) g78130 ad7 (by decide) ft5_3 (((jw_ne e78130 (Or.inl (by decide))).trans ((jw_ne e78129 (Or.inl (by decide))).trans ((jw_ne e78128 (Or.inl (by decide))).trans ((jw_ne e78127 (Or.inl (by decide))).trans ((jw_ne e78125 (Or.inr (by decide))).trans ((jw_ne e78119 (Or.inr (by decide))).trans ((jw_ne e78096 (Or.inr (by decide))).trans ew3)))))))) ?_
              refine ev_iconst ?_
              refine g_iast g78130 ad16 rt16 (fun _ => rfl) (by omega) (by omega) (by omega) (by omega) (fun h78131 e78131 g78131 => ?_)
              have k78131 := k78130.wr e78131 rfl
              refine ev_aload_n rfl ?_
              refine g_getp (r := 7) (c := 17) g78131 ad7 (by decide) (by decide) rf7_14 ft5_14 ?_
              refine ev_aload_n rfl ?_
              refine g_getv (r := 7) (v := w3) g78131 ad7 (by decide) ft5_3 (((jw_ne e78131 (Or.inl (by decide))).trans ((jw_ne e78130 (Or.inl (by decide))).trans ((jw_ne e78129 (Or.inl (by decide))).trans ((jw_ne e78128 (Or.inl (by decide))).trans ((jw_ne e78127 (Or.inl (by decide))).trans ((jw_ne e78125 (Or.inr (by decide))).trans ((jw_ne e78119 (Or.inr (by decide))).trans ((jw_ne e78096 (Or.inr (by decide))).trans ew3))))))))) ?_
              refine ev_iconst ?_
              refine g_iast g78131 ad17 rt17 (fun _ => rfl) (by omega) (by omega) (by omega) (by omega) (fun h78132 e78132 g78132 => ?_)
              have k78132 := k78131.wr e78132 rfl
              refine ev_aload_n rfl ?_
              refine ev_dup (by decide) ?_
              refine g_getv (r := 7) (v := w3) g78132 ad7 (by decide) ft5_3 (((jw_ne e78132 (Or.inl (by decide))).trans ((jw_ne e78131 (Or.inl (by decide))).trans ((jw_ne e78130 (Or.inl (by decide))).trans ((jw_ne e78129 (Or.inl (by decide))).trans ((jw_ne e78128 (Or.inl (by decide))).trans ((jw_ne e78127 (Or.inl (by decide))).trans ((jw_ne e78125 (Or.inr (by decide))).trans ((jw_ne e78119 (Or.inr (by decide))).trans ((jw_ne e78096 (Or.inr (by decide))).trans ew3)))))))))) ?_
              refine ev_iconst ?_
              refine ev_iadd (r := (w3 + 1)) (by unfold w32; omega) ?_
              refine g_putf (r := 7) g78132 ad7 (by decide) ft5_3 (by decide) (fun e => absurd e nz5_3) rf7_3 (by decide) (by omega) (by omega) (fun h78133 e78133 g78133 => ?_)
              have k78133 := k78132.wr e78133 rfl
              refine ev_aload_n rfl ?_
              refine g_getv (r := 7) (v := (w3 + 1)) g78133 ad7 (by decide) ft5_3 ((jw_eq e78133)) ?_
              refine ev_iconst ?_
              refine ev_isub (r := w3) (by unfold w32; omega) ?_
              refine ev_ret rfl (by decide) (by decide) ?_
              show jEv _ _ _ _ _ _ _ (_, [(2, 7), (2, 1), (0, a2), (0, a3), (0, (v78104 - 97)), (9, 0), (9, 0)], [(0, w3)], _, _, _)
              refine ev_istore (L' := [(2, 7), (2, 1), (0, a2), (0, a3), (0, (v78104 - 97)), (0, w3), (9, 0)]) (Nat.le_of_ble_eq_true rfl) rfl ?_
              obtain ⟨v78134, ev78134, lv78134, uv78134⟩ := g78133.rd ad2 (show ((v78104 - 97)).toNat < 4 by omega) (rt2 _)
              have x78135 := (g78133.ex.1.1 ((v78104 - 97) : Int).toNat (by rw [(((jw_ne e78133 (Or.inl (by decide))).trans ((jw_ne e78132 (Or.inl (by decide))).trans ((jw_ne e78131 (Or.inl (by decide))).trans ((jw_ne e78130 (Or.inl (by decide))).trans ((jw_ne e78129 (Or.inl (by decide))).trans ((jw_ne e78128 (Or.inl (by decide))).trans ((jw_ne e78127 (Or.inl (by decide))).trans ((jw_ne e78125 (Or.inl (by decide))).trans ((jw_ne e78119 (Or.inl (by decide))).trans ev78110))))))))))]; omega))
              rw [ev78134] at x78135
              refine ev_iconst ?_
              refine ev_istore (L' := [(2, 7), (2, 1), (0, a2), (0, a3), (0, (v78104 - 97)), (0, w3), (0, 0)]) (Nat.le_of_ble_eq_true rfl) rfl ?_
              exact (t79_s_l la2 ua2 la3 ua3 ew0 lw0 uw0 ew1 lw1 uw1 ew2 ew3 lw3 uw3 ew4 lw4 uw4 F0 F1 hK hq hb hM hd rih 8) _ _ _ _ _ _ _ _ _ g78133 k78133 (by omega) (by omega) (by omega) (by omega) (by omega) (by omega) (by omega) (by omega) (by omega) (by omega) (by omega) (by omega) (by omega) (by omega) (by omega) (by omega) (((jw_ne e78133 (Or.inr (by decide))).trans ((jw_ne e78132 (Or.inl (by decide))).trans ((jw_ne e78131 (Or.inl (by decide))).trans ((jw_ne e78130 (Or.inl (by decide))).trans ((jw_ne e78129 (Or.inl (by decide))).trans ((jw_ne e78128 (Or.inl (by decide))).trans ((jw_ne e78127 (Or.inl (by decide))).trans (jw_eq e78125))))))))) (by omega) (by omega) (((jw_ne e78133 (Or.inr (by decide))).trans ((jw_ne e78132 (Or.inl (by decide))).trans ((jw_ne e78131 (Or.inl (by decide))).trans ((jw_ne e78130 (Or.inl (by decide))).trans ((jw_ne e78129 (Or.inl (by decide))).trans ((jw_ne e78128 (Or.inl (by decide))).trans ((jw_ne e78127 (Or.inl (by decide))).trans ((jw_ne e78125 (Or.inr (by decide))).trans (jw_eq e78119)))))))))) (by omega) (by omega) ((jw_eq e78133)) (by omega) (by omega) (ev78134) (by omega) (by omega) (((jw_ne e78133 (Or.inl (by decide))).trans ((jw_ne e78132 (Or.inl (by decide))).trans ((jw_ne e78131 (Or.inl (by decide))).trans ((jw_ne e78130 (Or.inl (by decide))).trans ((jw_ne e78129 (Or.inl (by decide))).trans ((jw_ne e78128 (Or.inl (by decide))).trans ((jw_ne e78127 (Or.inl (by decide))).trans ((jw_ne e78125 (Or.inl (by decide))).trans ((jw_ne e78119 (Or.inl (by decide))).trans ev78110)))))))))) (by omega) (by omega) (tj_bad0 (tuN_2 (by rw [(bC_at (p := (w1 + 1)) k78133 (fun _ => rfl) ew0 (((jw_ne e78133 (Or.inl (by decide))).trans ((jw_ne e78132 (Or.inl (by decide))).trans ((jw_ne e78131 (Or.inl (by decide))).trans ((jw_ne e78130 (Or.inl (by decide))).trans ((jw_ne e78129 (Or.inl (by decide))).trans ((jw_ne e78128 (Or.inl (by decide))).trans ((jw_ne e78127 (Or.inl (by decide))).trans ((jw_ne e78125 (Or.inl (by decide))).trans ((jw_ne e78119 (Or.inl (by decide))).trans ev78103)))))))))) (by omega) (by omega))]; omega) (by omega) (by rw [show h.2.2 1 0 = v78110 from (k78133.v rfl).symm.trans (((jw_ne e78133 (Or.inl (by decide))).trans ((jw_ne e78132 (Or.inl (by decide))).trans ((jw_ne e78131 (Or.inl (by decide))).trans ((jw_ne e78130 (Or.inl (by decide))).trans ((jw_ne e78129 (Or.inl (by decide))).trans ((jw_ne e78128 (Or.inl (by decide))).trans ((jw_ne e78127 (Or.inl (by decide))).trans ((jw_ne e78125 (Or.inl (by decide))).trans ((jw_ne e78119 (Or.inl (by decide))).trans ev78110))))))))))]; omega) (fun z => absurd ((show bt a3 (v78104 - 97) = v78117 by unfold bt; rw [ev78116, ev78117]).symm.trans z) (by omega)) (Or.inl (fun z => absurd ((bC_end (p := (w1 + 2)) ew0 (by omega)).symm.trans z) (by omega)))) (by omega) (by show -1 - _ = _; omega)) ((FrN.wr (i := w3) (FrN.wr (i := w3) (FrN.wr (i := w3) (((((((FrN.rf _ _).wn e78096 (by decide)).wn e78119 (by decide)).wn e78125 (by decide)).wn e78127 (by decide)).wn e78128 (by decide)).wn e78129 (by decide)) e78130 (Or.inr (by omega))) e78131 (Or.inr (by omega))) e78132 (Or.inr (by omega))).wn e78133 (by decide)) (by omega)
            · refine ev_aload_n rfl ?_
              refine g_getp (r := 7) (c := 8) g78119 ad7 (by decide) (by decide) rf7_5 ft5_5 ?_
              refine ev_aload_n rfl ?_
              refine g_getv (r := 7) (v := (w1 + 2)) g78119 ad7 (by decide) ft5_2 ((jw_eq e78119)) ?_
              refine g_bald g78119 ad8 rt8 (by omega) (by omega) (fun v78136 ev78136 lv78136 uv78136 => ?_)
              refine ev_sipush ?_
              refine g_iandB (b := 255) (by omega) (by omega) (by decide) (fun v78137 ev78137 lv78137 uv78137 => ?_)
              have zv78137 := sgn ev78137 (by omega) (by omega)
              refine ev_goto f68_28 ?_
              refine ev_ret rfl (by decide) (by decide) ?_
              show jEv _ _ _ _ _ _ _ (_, [(2, 7), (0, 40)], [(0, v78137)], _, _, _)
              refine ev_iload_n rfl ?_
              refine ev_icmpne f71_29 (fun c78138 => ?_) (fun c78138 => ?_)
              · refine ev_aload_n rfl ?_
                refine ev_in (d := (d + 0)) (a := 0) (b := 0) (cd' := c70_0) (m := 1) (L0 := [(2, 7)]) (jcall_v (A := []) (S' := []) (r := 7) rfl (g78119.lt ad7) (g78119.tg ad7) (Nat.le_of_ble_eq_true rfl)) (by decide) ml70 pp70 (Nat.le_of_ble_eq_true rfl) rfl (by decide) (by decide) ?_
                refine ev_aload_n rfl ?_
                refine g_getv (r := 7) (v := (-1)) g78119 ad7 (by decide) ft5_1 (((jw_ne e78119 (Or.inr (by decide))).trans ((jw_ne e78096 (Or.inr (by decide))).trans ew2))) ?_
                refine ev_ifge f70_15 (fun c78139 => absurd c78139 (by omega)) (fun c78139 => ?_)
                refine ev_aload_n rfl ?_
                refine ev_aload_n rfl ?_
                refine g_getv (r := 7) (v := (w1 + 2)) g78119 ad7 (by decide) ft5_2 ((jw_eq e78119)) ?_
                refine g_putf (r := 7) g78119 ad7 (by decide) ft5_1 (by decide) (fun e => absurd e nz5_1) rf7_1 (by decide) (by omega) (by omega) (fun h78140 e78140 g78140 => ?_)
                have k78140 := k78119.wr e78140 rfl
                refine ev_ret rfl (by decide) (by decide) ?_
                show jEv _ _ _ _ _ _ _ (_, [(2, 7), (0, 40)], [], _, _, _)
                refine ev_ret rfl (by decide) (by decide) ?_
                show jEv _ _ _ _ _ _ _ (_, [(2, 7), (0, a2)], [], _, _, _)
                refine ev_ret rfl (by decide) (by decide) ?_
                show jEv _ _ _ _ _ _ _ (_, [(2, 7), (2, 1), (0, a2), (0, a3), (0, (v78104 - 97)), (9, 0), (9, 0)], [], _, _, _)
                refine ev_aload_n rfl ?_
                refine ev_iconst ?_
                refine ev_in (d := (d + 2)) (a := 0) (b := 0) (cd' := c73_0) (m := 2) (L0 := [(2, 7), (0, 2)]) (jcall_v (A := [(0, 2)]) (S' := []) (r := 7) rfl (g78140.lt ad7) (g78140.tg ad7) (Nat.le_of_ble_eq_true rfl)) (by decide) ml73 pp73 (Nat.le_of_ble_eq_true rfl) rfl (by decide) (by decide) ?_
                refine ev_aload_n rfl ?_
                refine g_getv (r := 7) (v := w3) g78140 ad7 (by decide) ft5_3 (((jw_ne e78140 (Or.inr (by decide))).trans ((jw_ne e78119 (Or.inr (by decide))).trans ((jw_ne e78096 (Or.inr (by decide))).trans ew3)))) ?_
                refine ev_sipush ?_
                refine ev_icmplt f73_16 (fun c78141 => ?_) (fun c78141 => absurd c78141 (by omega))
                refine ev_aload_n rfl ?_
                refine g_getp (r := 7) (c := 10) g78140 ad7 (by decide) (by decide) rf7_7 ft5_7 ?_
                refine ev_aload_n rfl ?_
                refine g_getv (r := 7) (v := w3) g78140 ad7 (by decide) ft5_3 (((jw_ne e78140 (Or.inr (by decide))).trans ((jw_ne e78119 (Or.inr (by decide))).trans ((jw_ne e78096 (Or.inr (by decide))).trans ew3)))) ?_
                refine ev_iload_n rfl ?_
                refine g_iast g78140 ad10 rt10 (fun _ => rfl) (by omega) (by omega) (by omega) (by omega) (fun h78142 e78142 g78142 => ?_)
                have k78142 := k78140.wr e78142 rfl
                refine ev_aload_n rfl ?_
                refine g_getp (r := 7) (c := 11) g78142 ad7 (by decide) (by decide) rf7_8 ft5_8 ?_
                refine ev_aload_n rfl ?_
                refine g_getv (r := 7) (v := w3) g78142 ad7 (by decide) ft5_3 (((jw_ne e78142 (Or.inl (by decide))).trans ((jw_ne e78140 (Or.inr (by decide))).trans ((jw_ne e78119 (Or.inr (by decide))).trans ((jw_ne e78096 (Or.inr (by decide))).trans ew3))))) ?_
                refine ev_iconst ?_
                refine g_iast g78142 ad11 rt11 (fun _ => rfl) (by omega) (by omega) (by omega) (by omega) (fun h78143 e78143 g78143 => ?_)
                have k78143 := k78142.wr e78143 rfl
                refine ev_aload_n rfl ?_
                refine g_getp (r := 7) (c := 12) g78143 ad7 (by decide) (by decide) rf7_9 ft5_9 ?_
                refine ev_aload_n rfl ?_
                refine g_getv (r := 7) (v := w3) g78143 ad7 (by decide) ft5_3 (((jw_ne e78143 (Or.inl (by decide))).trans ((jw_ne e78142 (Or.inl (by decide))).trans ((jw_ne e78140 (Or.inr (by decide))).trans ((jw_ne e78119 (Or.inr (by decide))).trans ((jw_ne e78096 (Or.inr (by decide))).trans ew3)))))) ?_
                refine ev_iconst ?_
                refine g_iast g78143 ad12 rt12 (fun _ => rfl) (by omega) (by omega) (by omega) (by omega) (fun h78144 e78144 g78144 => ?_)
                have k78144 := k78143.wr e78144 rfl
                refine ev_aload_n rfl ?_
                refine g_getp (r := 7) (c := 15) g78144 ad7 (by decide) (by decide) rf7_12 ft5_12 ?_
                refine ev_aload_n rfl ?_
                refine g_getv (r := 7) (v := w3) g78144 ad7 (by decide) ft5_3 (((jw_ne e78144 (Or.inl (by decide))).trans ((jw_ne e78143 (Or.inl (by decide))).trans ((jw_ne e78142 (Or.inl (by decide))).trans ((jw_ne e78140 (Or.inr (by decide))).trans ((jw_ne e78119 (Or.inr (by decide))).trans ((jw_ne e78096 (Or.inr (by decide))).trans ew3))))))) ?_
                refine ev_iconst ?_
                refine g_iast g78144 ad15 rt15 (fun _ => rfl) (by omega) (by omega) (by omega) (by omega) (fun h78145 e78145 g78145 => ?_)
                have k78145 := k78144.wr e78145 rfl
                refine ev_aload_n rfl ?_
                refine g_getp (r := 7) (c := 16) g78145 ad7 (by decide) (by decide) rf7_13 ft5_13 ?_
                refine ev_aload_n rfl ?_
                refine g_getv (r := 7) (v := w3) g78145 ad7 (by decide) ft5_3 (((jw_ne e78145 (Or.inl (by decide))).trans ((jw_ne e78144 (Or.inl (by decide))).trans ((jw_ne e78143 (Or.inl (by decide))).trans ((jw_ne e78142 (Or.inl (by decide))).trans ((jw_ne e78140 (Or.inr (by decide))).trans ((jw_ne e78119 (Or.inr (by decide))).trans ((jw_ne e78096 (Or.inr (by decide))).trans ew3)))))))) ?_
                refine ev_iconst ?_
                refine g_iast g78145 ad16 rt16 (fun _ => rfl) (by omega) (by omega) (by omega) (by omega) (fun h78146 e78146 g78146 => ?_)
                have k78146 := k78145.wr e78146 rfl
                refine ev_aload_n rfl ?_
                refine g_getp (r := 7) (c := 17) g78146 ad7 (by decide) (by decide) rf7_14 ft5_14 ?_
                refine ev_aload_n rfl ?_
                refine g_getv (r := 7) (v := w3) g78146 ad7 (by decide) ft5_3 (((jw_ne e78146 (Or.inl (by decide))).trans ((jw_ne e78145 (Or.inl (by decide))).trans ((jw_ne e78144 (Or.inl (by decide))).trans ((jw_ne e78143 (Or.inl (by decide))).trans ((jw_ne e78142 (Or.inl (by decide))).trans ((jw_ne e78140 (Or.inr (by decide))).trans ((jw_ne e78119 (Or.inr (by decide))).trans ((jw_ne e78096 (Or.inr (by decide))).trans ew3))))))))) ?_
                refine ev_iconst ?_
                refine g_iast g78146 ad17 rt17 (fun _ => rfl) (by omega) (by omega) (by omega) (by omega) (fun h78147 e78147 g78147 => ?_)
                have k78147 := k78146.wr e78147 rfl
                refine ev_aload_n rfl ?_
                refine ev_dup (by decide) ?_
                refine g_getv (r := 7) (v := w3) g78147 ad7 (by decide) ft5_3 (((jw_ne e78147 (Or.inl (by decide))).trans ((jw_ne e78146 (Or.inl (by decide))).trans ((jw_ne e78145 (Or.inl (by decide))).trans ((jw_ne e78144 (Or.inl (by decide))).trans ((jw_ne e78143 (Or.inl (by decide))).trans ((jw_ne e78142 (Or.inl (by decide))).trans ((jw_ne e78140 (Or.inr (by decide))).trans ((jw_ne e78119 (Or.inr (by decide))).trans ((jw_ne e78096 (Or.inr (by decide))).trans ew3)))))))))) ?_
                refine ev_iconst ?_
                refine ev_iadd (r := (w3 + 1)) (by unfold w32; omega) ?_
                refine g_putf (r := 7) g78147 ad7 (by decide) ft5_3 (by decide) (fun e => absurd e nz5_3) rf7_3 (by decide) (by omega) (by omega) (fun h78148 e78148 g78148 => ?_)
                have k78148 := k78147.wr e78148 rfl
                refine ev_aload_n rfl ?_
                refine g_getv (r := 7) (v := (w3 + 1)) g78148 ad7 (by decide) ft5_3 ((jw_eq e78148)) ?_
                refine ev_iconst ?_
                refine ev_isub (r := w3) (by unfold w32; omega) ?_
                refine ev_ret rfl (by decide) (by decide) ?_
                show jEv _ _ _ _ _ _ _ (_, [(2, 7), (2, 1), (0, a2), (0, a3), (0, (v78104 - 97)), (9, 0), (9, 0)], [(0, w3)], _, _, _)
                refine ev_istore (L' := [(2, 7), (2, 1), (0, a2), (0, a3), (0, (v78104 - 97)), (0, w3), (9, 0)]) (Nat.le_of_ble_eq_true rfl) rfl ?_
                obtain ⟨v78149, ev78149, lv78149, uv78149⟩ := g78148.rd ad2 (show ((v78104 - 97)).toNat < 4 by omega) (rt2 _)
                have x78150 := (g78148.ex.1.1 ((v78104 - 97) : Int).toNat (by rw [(((jw_ne e78148 (Or.inl (by decide))).trans ((jw_ne e78147 (Or.inl (by decide))).trans ((jw_ne e78146 (Or.inl (by decide))).trans ((jw_ne e78145 (Or.inl (by decide))).trans ((jw_ne e78144 (Or.inl (by decide))).trans ((jw_ne e78143 (Or.inl (by decide))).trans ((jw_ne e78142 (Or.inl (by decide))).trans ((jw_ne e78140 (Or.inl (by decide))).trans ((jw_ne e78119 (Or.inl (by decide))).trans ev78110))))))))))]; omega))
                rw [ev78149] at x78150
                refine ev_iconst ?_
                refine ev_istore (L' := [(2, 7), (2, 1), (0, a2), (0, a3), (0, (v78104 - 97)), (0, w3), (0, 0)]) (Nat.le_of_ble_eq_true rfl) rfl ?_
                exact (t79_s_l la2 ua2 la3 ua3 ew0 lw0 uw0 ew1 lw1 uw1 ew2 ew3 lw3 uw3 ew4 lw4 uw4 F0 F1 hK hq hb hM hd rih 8) _ _ _ _ _ _ _ _ _ g78148 k78148 (by omega) (by omega) (by omega) (by omega) (by omega) (by omega) (by omega) (by omega) (by omega) (by omega) (by omega) (by omega) (by omega) (by omega) (by omega) (by omega) (((jw_ne e78148 (Or.inr (by decide))).trans ((jw_ne e78147 (Or.inl (by decide))).trans ((jw_ne e78146 (Or.inl (by decide))).trans ((jw_ne e78145 (Or.inl (by decide))).trans ((jw_ne e78144 (Or.inl (by decide))).trans ((jw_ne e78143 (Or.inl (by decide))).trans ((jw_ne e78142 (Or.inl (by decide))).trans (jw_eq e78140))))))))) (by omega) (by omega) (((jw_ne e78148 (Or.inr (by decide))).trans ((jw_ne e78147 (Or.inl (by decide))).trans ((jw_ne e78146 (Or.inl (by decide))).trans ((jw_ne e78145 (Or.inl (by decide))).trans ((jw_ne e78144 (Or.inl (by decide))).trans ((jw_ne e78143 (Or.inl (by decide))).trans ((jw_ne e78142 (Or.inl (by decide))).trans ((jw_ne e78140 (Or.inr (by decide))).trans (jw_eq e78119)))))))))) (by omega) (by omega) ((jw_eq e78148)) (by omega) (by omega) (ev78149) (by omega) (by omega) (((jw_ne e78148 (Or.inl (by decide))).trans ((jw_ne e78147 (Or.inl (by decide))).trans ((jw_ne e78146 (Or.inl (by decide))).trans ((jw_ne e78145 (Or.inl (by decide))).trans ((jw_ne e78144 (Or.inl (by decide))).trans ((jw_ne e78143 (Or.inl (by decide))).trans ((jw_ne e78142 (Or.inl (by decide))).trans ((jw_ne e78140 (Or.inl (by decide))).trans ((jw_ne e78119 (Or.inl (by decide))).trans ev78110)))))))))) (by omega) (by omega) (tj_bad0 (tuN_2 (by rw [(bC_at (p := (w1 + 1)) k78148 (fun _ => rfl) ew0 (((jw_ne e78148 (Or.inl (by decide))).trans ((jw_ne e78147 (Or.inl (by decide))).trans ((jw_ne e78146 (Or.inl (by decide))).trans ((jw_ne e78145 (Or.inl (by decide))).trans ((jw_ne e78144 (Or.inl (by decide))).trans ((jw_ne e78143 (Or.inl (by decide))).trans ((jw_ne e78142 (Or.inl (by decide))).trans ((jw_ne e78140 (Or.inl (by decide))).trans ((jw_ne e78119 (Or.inl (by decide))).trans ev78103)))))))))) (by omega) (by omega))]; omega) (by omega) (by rw [show h.2.2 1 0 = v78110 from (k78148.v rfl).symm.trans (((jw_ne e78148 (Or.inl (by decide))).trans ((jw_ne e78147 (Or.inl (by decide))).trans ((jw_ne e78146 (Or.inl (by decide))).trans ((jw_ne e78145 (Or.inl (by decide))).trans ((jw_ne e78144 (Or.inl (by decide))).trans ((jw_ne e78143 (Or.inl (by decide))).trans ((jw_ne e78142 (Or.inl (by decide))).trans ((jw_ne e78140 (Or.inl (by decide))).trans ((jw_ne e78119 (Or.inl (by decide))).trans ev78110))))))))))]; omega) (fun z => absurd ((show bt a3 (v78104 - 97) = v78117 by unfold bt; rw [ev78116, ev78117]).symm.trans z) (by omega)) (Or.inl (fun z => absurd ((bC_at (p := (w1 + 2)) k78148 (fun _ => rfl) ew0 (((jw_ne e78148 (Or.inl (by decide))).trans ((jw_ne e78147 (Or.inl (by decide))).trans ((jw_ne e78146 (Or.inl (by decide))).trans ((jw_ne e78145 (Or.inl (by decide))).trans ((jw_ne e78144 (Or.inl (by decide))).trans ((jw_ne e78143 (Or.inl (by decide))).trans ((jw_ne e78142 (Or.inl (by decide))).trans ((jw_ne e78140 (Or.inl (by decide))).trans ev78136))))))))) (by omega) (by omega)).symm.trans z) (by omega)))) (by omega) (by show -1 - _ = _; omega)) ((FrN.wr (i := w3) (FrN.wr (i := w3) (FrN.wr (i := w3) (((((((FrN.rf _ _).wn e78096 (by decide)).wn e78119 (by decide)).wn e78140 (by decide)).wn e78142 (by decide)).wn e78143 (by decide)).wn e78144 (by decide)) e78145 (Or.inr (by omega))) e78146 (Or.inr (by omega))) e78147 (Or.inr (by omega))).wn e78148 (by decide)) (by omega)
              · refine ev_aload_n rfl ?_
                refine ev_dup (by decide) ?_
                refine g_getv (r := 7) (v := (w1 + 2)) g78119 ad7 (by decide) ft5_2 ((jw_eq e78119)) ?_
                refine ev_iconst ?_
                refine ev_iadd (r := (w1 + 3)) (by unfold w32; omega) ?_
                refine g_putf (r := 7) g78119 ad7 (by decide) ft5_2 (by decide) (fun e => absurd e nz5_2) rf7_2 (by decide) (by omega) (by omega) (fun h78151 e78151 g78151 => ?_)
                have k78151 := k78119.wr e78151 rfl
                refine ev_goto f71_33 ?_
                refine ev_ret rfl (by decide) (by decide) ?_
                show jEv _ _ _ _ _ _ _ (_, [(2, 7), (0, a2)], [], _, _, _)
                refine ev_ret rfl (by decide) (by decide) ?_
                show jEv _ _ _ _ _ _ _ (_, [(2, 7), (2, 1), (0, a2), (0, a3), (0, (v78104 - 97)), (9, 0), (9, 0)], [], _, _, _)
                refine ev_aload_n rfl ?_
                refine ev_iconst ?_
                refine ev_in (d := (d + 2)) (a := 0) (b := 0) (cd' := c73_0) (m := 2) (L0 := [(2, 7), (0, 2)]) (jcall_v (A := [(0, 2)]) (S' := []) (r := 7) rfl (g78151.lt ad7) (g78151.tg ad7) (Nat.le_of_ble_eq_true rfl)) (by decide) ml73 pp73 (Nat.le_of_ble_eq_true rfl) rfl (by decide) (by decide) ?_
                refine ev_aload_n rfl ?_
                refine g_getv (r := 7) (v := w3) g78151 ad7 (by decide) ft5_3 (((jw_ne e78151 (Or.inr (by decide))).trans ((jw_ne e78119 (Or.inr (by decide))).trans ((jw_ne e78096 (Or.inr (by decide))).trans ew3)))) ?_
                refine ev_sipush ?_
                refine ev_icmplt f73_16 (fun c78152 => ?_) (fun c78152 => absurd c78152 (by omega))
                refine ev_aload_n rfl ?_
                refine g_getp (r := 7) (c := 10) g78151 ad7 (by decide) (by decide) rf7_7 ft5_7 ?_
                refine ev_aload_n rfl ?_
                refine g_getv (r := 7) (v := w3) g78151 ad7 (by decide) ft5_3 (((jw_ne e78151 (Or.inr (by decide))).trans ((jw_ne e78119 (Or.inr (by decide))).trans ((jw_ne e78096 (Or.inr (by decide))).trans ew3)))) ?_
                refine ev_iload_n rfl ?_
                refine g_iast g78151 ad10 rt10 (fun _ => rfl) (by omega) (by omega) (by omega) (by omega) (fun h78153 e78153 g78153 => ?_)
                have k78153 := k78151.wr e78153 rfl
                refine ev_aload_n rfl ?_
                refine g_getp (r := 7) (c := 11) g78153 ad7 (by decide) (by decide) rf7_8 ft5_8 ?_
                refine ev_aload_n rfl ?_
                refine g_getv (r := 7) (v := w3) g78153 ad7 (by decide) ft5_3 (((jw_ne e78153 (Or.inl (by decide))).trans ((jw_ne e78151 (Or.inr (by decide))).trans ((jw_ne e78119 (Or.inr (by decide))).trans ((jw_ne e78096 (Or.inr (by decide))).trans ew3))))) ?_
                refine ev_iconst ?_
                refine g_iast g78153 ad11 rt11 (fun _ => rfl) (by omega) (by omega) (by omega) (by omega) (fun h78154 e78154 g78154 => ?_)
                have k78154 := k78153.wr e78154 rfl
                refine ev_aload_n rfl ?_
                refine g_getp (r := 7) (c := 12) g78154 ad7 (by decide) (by decide) rf7_9 ft5_9 ?_
                refine ev_aload_n rfl ?_
                refine g_getv (r := 7) (v := w3) g78154 ad7 (by decide) ft5_3 (((jw_ne e78154 (Or.inl (by decide))).trans ((jw_ne e78153 (Or.inl (by decide))).trans ((jw_ne e78151 (Or.inr (by decide))).trans ((jw_ne e78119 (Or.inr (by decide))).trans ((jw_ne e78096 (Or.inr (by decide))).trans ew3)))))) ?_
                refine ev_iconst ?_
                refine g_iast g78154 ad12 rt12 (fun _ => rfl) (by omega) (by omega) (by omega) (by omega) (fun h78155 e78155 g78155 => ?_)
                have k78155 := k78154.wr e78155 rfl
                refine ev_aload_n rfl ?_
                refine g_getp (r := 7) (c := 15) g78155 ad7 (by decide) (by decide) rf7_12 ft5_12 ?_
                refine ev_aload_n rfl ?_
                refine g_getv (r := 7) (v := w3) g78155 ad7 (by decide) ft5_3 (((jw_ne e78155 (Or.inl (by decide))).trans ((jw_ne e78154 (Or.inl (by decide))).trans ((jw_ne e78153 (Or.inl (by decide))).trans ((jw_ne e78151 (Or.inr (by decide))).trans ((jw_ne e78119 (Or.inr (by decide))).trans ((jw_ne e78096 (Or.inr (by decide))).trans ew3))))))) ?_
                refine ev_iconst ?_
                refine g_iast g78155 ad15 rt15 (fun _ => rfl) (by omega) (by omega) (by omega) (by omega) (fun h78156 e78156 g78156 => ?_)
                have k78156 := k78155.wr e78156 rfl
                refine ev_aload_n rfl ?_
                refine g_getp (r := 7) (c := 16) g78156 ad7 (by decide) (by decide) rf7_13 ft5_13 ?_
                refine ev_aload_n rfl ?_
                refine g_getv (r := 7) (v := w3) g78156 ad7 (by decide) ft5_3 (((jw_ne e78156 (Or.inl (by decide))).trans ((jw_ne e78155 (Or.inl (by decide))).trans ((jw_ne e78154 (Or.inl (by decide))).trans ((jw_ne e78153 (Or.inl (by decide))).trans ((jw_ne e78151 (Or.inr (by decide))).trans ((jw_ne e78119 (Or.inr (by decide))).trans ((jw_ne e78096 (Or.inr (by decide))).trans ew3)))))))) ?_
                refine ev_iconst ?_
                refine g_iast g78156 ad16 rt16 (fun _ => rfl) (by omega) (by omega) (by omega) (by omega) (fun h78157 e78157 g78157 => ?_)
                have k78157 := k78156.wr e78157 rfl
                refine ev_aload_n rfl ?_
                refine g_getp (r := 7) (c := 17) g78157 ad7 (by decide) (by decide) rf7_14 ft5_14 ?_
                refine ev_aload_n rfl ?_
                refine g_getv (r := 7) (v := w3) g78157 ad7 (by decide) ft5_3 (((jw_ne e78157 (Or.inl (by decide))).trans ((jw_ne e78156 (Or.inl (by decide))).trans ((jw_ne e78155 (Or.inl (by decide))).trans ((jw_ne e78154 (Or.inl (by decide))).trans ((jw_ne e78153 (Or.inl (by decide))).trans ((jw_ne e78151 (Or.inr (by decide))).trans ((jw_ne e78119 (Or.inr (by decide))).trans ((jw_ne e78096 (Or.inr (by decide))).trans ew3))))))))) ?_
                refine ev_iconst ?_
                refine g_iast g78157 ad17 rt17 (fun _ => rfl) (by omega) (by omega) (by omega) (by omega) (fun h78158 e78158 g78158 => ?_)
                have k78158 := k78157.wr e78158 rfl
                refine ev_aload_n rfl ?_
                refine ev_dup (by decide) ?_
                refine g_getv (r := 7) (v := w3) g78158 ad7 (by decide) ft5_3 (((jw_ne e78158 (Or.inl (by decide))).trans ((jw_ne e78157 (Or.inl (by decide))).trans ((jw_ne e78156 (Or.inl (by decide))).trans ((jw_ne e78155 (Or.inl (by decide))).trans ((jw_ne e78154 (Or.inl (by decide))).trans ((jw_ne e78153 (Or.inl (by decide))).trans ((jw_ne e78151 (Or.inr (by decide))).trans ((jw_ne e78119 (Or.inr (by decide))).trans ((jw_ne e78096 (Or.inr (by decide))).trans ew3)))))))))) ?_
                refine ev_iconst ?_
                refine ev_iadd (r := (w3 + 1)) (by unfold w32; omega) ?_
                refine g_putf (r := 7) g78158 ad7 (by decide) ft5_3 (by decide) (fun e => absurd e nz5_3) rf7_3 (by decide) (by omega) (by omega) (fun h78159 e78159 g78159 => ?_)
                have k78159 := k78158.wr e78159 rfl
                refine ev_aload_n rfl ?_
                refine g_getv (r := 7) (v := (w3 + 1)) g78159 ad7 (by decide) ft5_3 ((jw_eq e78159)) ?_
                refine ev_iconst ?_
                refine ev_isub (r := w3) (by unfold w32; omega) ?_
                refine ev_ret rfl (by decide) (by decide) ?_
                show jEv _ _ _ _ _ _ _ (_, [(2, 7), (2, 1), (0, a2), (0, a3), (0, (v78104 - 97)), (9, 0), (9, 0)], [(0, w3)], _, _, _)
                refine ev_istore (L' := [(2, 7), (2, 1), (0, a2), (0, a3), (0, (v78104 - 97)), (0, w3), (9, 0)]) (Nat.le_of_ble_eq_true rfl) rfl ?_
                obtain ⟨v78160, ev78160, lv78160, uv78160⟩ := g78159.rd ad2 (show ((v78104 - 97)).toNat < 4 by omega) (rt2 _)
                have x78161 := (g78159.ex.1.1 ((v78104 - 97) : Int).toNat (by rw [(((jw_ne e78159 (Or.inl (by decide))).trans ((jw_ne e78158 (Or.inl (by decide))).trans ((jw_ne e78157 (Or.inl (by decide))).trans ((jw_ne e78156 (Or.inl (by decide))).trans ((jw_ne e78155 (Or.inl (by decide))).trans ((jw_ne e78154 (Or.inl (by decide))).trans ((jw_ne e78153 (Or.inl (by decide))).trans ((jw_ne e78151 (Or.inl (by decide))).trans ((jw_ne e78119 (Or.inl (by decide))).trans ev78110))))))))))]; omega))
                rw [ev78160] at x78161
                refine ev_iconst ?_
                refine ev_istore (L' := [(2, 7), (2, 1), (0, a2), (0, a3), (0, (v78104 - 97)), (0, w3), (0, 0)]) (Nat.le_of_ble_eq_true rfl) rfl ?_
                exact (t79_s_l la2 ua2 la3 ua3 ew0 lw0 uw0 ew1 lw1 uw1 ew2 ew3 lw3 uw3 ew4 lw4 uw4 F0 F1 hK hq hb hM hd rih 8) _ _ _ _ _ _ _ _ _ g78159 k78159 (by omega) (by omega) (by omega) (by omega) (by omega) (by omega) (by omega) (by omega) (by omega) (by omega) (by omega) (by omega) (by omega) (by omega) (by omega) (by omega) (((jw_ne e78159 (Or.inr (by decide))).trans ((jw_ne e78158 (Or.inl (by decide))).trans ((jw_ne e78157 (Or.inl (by decide))).trans ((jw_ne e78156 (Or.inl (by decide))).trans ((jw_ne e78155 (Or.inl (by decide))).trans ((jw_ne e78154 (Or.inl (by decide))).trans ((jw_ne e78153 (Or.inl (by decide))).trans ((jw_ne e78151 (Or.inr (by decide))).trans ((jw_ne e78119 (Or.inr (by decide))).trans ((jw_ne e78096 (Or.inr (by decide))).trans ew2))))))))))) (by omega) (by omega) (((jw_ne e78159 (Or.inr (by decide))).trans ((jw_ne e78158 (Or.inl (by decide))).trans ((jw_ne e78157 (Or.inl (by decide))).trans ((jw_ne e78156 (Or.inl (by decide))).trans ((jw_ne e78155 (Or.inl (by decide))).trans ((jw_ne e78154 (Or.inl (by decide))).trans ((jw_ne e78153 (Or.inl (by decide))).trans (jw_eq e78151))))))))) (by omega) (by omega) ((jw_eq e78159)) (by omega) (by omega) (ev78160) (by omega) (by omega) (((jw_ne e78159 (Or.inl (by decide))).trans ((jw_ne e78158 (Or.inl (by decide))).trans ((jw_ne e78157 (Or.inl (by decide))).trans ((jw_ne e78156 (Or.inl (by decide))).trans ((jw_ne e78155 (Or.inl (by decide))).trans ((jw_ne e78154 (Or.inl (by decide))).trans ((jw_ne e78153 (Or.inl (by decide))).trans ((jw_ne e78151 (Or.inl (by decide))).trans ((jw_ne e78119 (Or.inl (by decide))).trans ev78110)))))))))) (by omega) (by omega) (tj_start (tuN_3 (by rw [(bC_at (p := (w1 + 1)) k78159 (fun _ => rfl) ew0 (((jw_ne e78159 (Or.inl (by decide))).trans ((jw_ne e78158 (Or.inl (by decide))).trans ((jw_ne e78157 (Or.inl (by decide))).trans ((jw_ne e78156 (Or.inl (by decide))).trans ((jw_ne e78155 (Or.inl (by decide))).trans ((jw_ne e78154 (Or.inl (by decide))).trans ((jw_ne e78153 (Or.inl (by decide))).trans ((jw_ne e78151 (Or.inl (by decide))).trans ((jw_ne e78119 (Or.inl (by decide))).trans ev78103)))))))))) (by omega) (by omega))]; omega) (by omega) (by rw [show h.2.2 1 0 = v78110 from (k78159.v rfl).symm.trans (((jw_ne e78159 (Or.inl (by decide))).trans ((jw_ne e78158 (Or.inl (by decide))).trans ((jw_ne e78157 (Or.inl (by decide))).trans ((jw_ne e78156 (Or.inl (by decide))).trans ((jw_ne e78155 (Or.inl (by decide))).trans ((jw_ne e78154 (Or.inl (by decide))).trans ((jw_ne e78153 (Or.inl (by decide))).trans ((jw_ne e78151 (Or.inl (by decide))).trans ((jw_ne e78119 (Or.inl (by decide))).trans ev78110))))))))))]; omega) (fun z => absurd ((show bt a3 (v78104 - 97) = v78117 by unfold bt; rw [ev78116, ev78117]).symm.trans z) (by omega)) ((bC_at (p := (w1 + 2)) k78159 (fun _ => rfl) ew0 (((jw_ne e78159 (Or.inl (by decide))).trans ((jw_ne e78158 (Or.inl (by decide))).trans ((jw_ne e78157 (Or.inl (by decide))).trans ((jw_ne e78156 (Or.inl (by decide))).trans ((jw_ne e78155 (Or.inl (by decide))).trans ((jw_ne e78154 (Or.inl (by decide))).trans ((jw_ne e78153 (Or.inl (by decide))).trans ((jw_ne e78151 (Or.inl (by decide))).trans ev78136))))))))) (by omega) (by omega)).trans (by omega)) (by omega) (yC_at k78159 (fun _ => rfl) rfl (((jw_ne e78159 (Or.inl (by decide))).trans ((jw_ne e78158 (Or.inl (by decide))).trans ((jw_ne e78157 (Or.inl (by decide))).trans ((jw_ne e78156 (Or.inl (by decide))).trans ((jw_ne e78155 (Or.inl (by decide))).trans ((jw_ne e78154 (Or.inl (by decide))).trans ((jw_ne e78153 (Or.inl (by decide))).trans ((jw_ne e78151 (Or.inl (by decide))).trans ((jw_ne e78119 (Or.inl (by decide))).trans ev78110)))))))))) (ev78160) (by omega) (by omega))) (by omega) (by omega) (by omega) (((jw_ne e78159 (Or.inl (by decide))).trans ((jw_ne e78158 (Or.inl (by decide))).trans ((jw_ne e78157 (Or.inl (by decide))).trans (jw_eq e78156))))) (((jw_ne e78159 (Or.inl (by decide))).trans ((jw_ne e78158 (Or.inl (by decide))).trans (jw_eq e78157)))) (((jw_ne e78159 (Or.inl (by decide))).trans (jw_eq e78158)))) ((FrN.wr (i := w3) (FrN.wr (i := w3) (FrN.wr (i := w3) (((((((FrN.rf _ _).wn e78096 (by decide)).wn e78119 (by decide)).wn e78151 (by decide)).wn e78153 (by decide)).wn e78154 (by decide)).wn e78155 (by decide)) e78156 (Or.inr (by omega))) e78157 (Or.inr (by omega))) e78158 (Or.inr (by omega))).wn e78159 (by decide)) (by omega)
          · refine ev_aload_n rfl ?_
            refine ev_in (d := (d + 1)) (a := 0) (b := 0) (cd' := c70_0) (m := 1) (L0 := [(2, 7)]) (jcall_v (A := []) (S' := []) (r := 7) rfl (g78119.lt ad7) (g78119.tg ad7) (Nat.le_of_ble_eq_true rfl)) (by decide) ml70 pp70 (Nat.le_of_ble_eq_true rfl) rfl (by decide) (by decide) ?_
            refine ev_aload_n rfl ?_
            refine g_getv (r := 7) (v := (-1)) g78119 ad7 (by decide) ft5_1 (((jw_ne e78119 (Or.inr (by decide))).trans ((jw_ne e78096 (Or.inr (by decide))).trans ew2))) ?_
            refine ev_ifge f70_15 (fun c78162 => absurd c78162 (by omega)) (fun c78162 => ?_)
            refine ev_aload_n rfl ?_
            refine ev_aload_n rfl ?_
            refine g_getv (r := 7) (v := (w1 + 2)) g78119 ad7 (by decide) ft5_2 ((jw_eq e78119)) ?_
            refine g_putf (r := 7) g78119 ad7 (by decide) ft5_1 (by decide) (fun e => absurd e nz5_1) rf7_1 (by decide) (by omega) (by omega) (fun h78163 e78163 g78163 => ?_)
            have k78163 := k78119.wr e78163 rfl
            refine ev_ret rfl (by decide) (by decide) ?_
            show jEv _ _ _ _ _ _ _ (_, [(2, 7), (0, a2)], [], _, _, _)
            refine ev_aload_n rfl ?_
            refine ev_bipush ?_
            refine ev_in (d := (d + 1)) (a := 0) (b := 0) (cd' := c71_0) (m := 2) (L0 := [(2, 7), (0, 40)]) (jcall_v (A := [(0, 40)]) (S' := []) (r := 7) rfl (g78163.lt ad7) (g78163.tg ad7) (Nat.le_of_ble_eq_true rfl)) (by decide) ml71 pp71 (Nat.le_of_ble_eq_true rfl) rfl (by decide) (by decide) ?_
            refine ev_aload_n rfl ?_
            refine g_getv (r := 7) (v := (w1 + 2)) g78163 ad7 (by decide) ft5_1 ((jw_eq e78163)) ?_
            refine ev_iflt f71_8 (fun c78164 => absurd c78164 (by omega)) (fun c78164 => ?_)
            refine ev_ret rfl (by decide) (by decide) ?_
            show jEv _ _ _ _ _ _ _ (_, [(2, 7), (0, a2)], [], _, _, _)
            refine ev_ret rfl (by decide) (by decide) ?_
            show jEv _ _ _ _ _ _ _ (_, [(2, 7), (2, 1), (0, a2), (0, a3), (0, (v78104 - 97)), (9, 0), (9, 0)], [], _, _, _)
            refine ev_aload_n rfl ?_
            refine ev_iconst ?_
            refine ev_in (d := (d + 2)) (a := 0) (b := 0) (cd' := c73_0) (m := 2) (L0 := [(2, 7), (0, 2)]) (jcall_v (A := [(0, 2)]) (S' := []) (r := 7) rfl (g78163.lt ad7) (g78163.tg ad7) (Nat.le_of_ble_eq_true rfl)) (by decide) ml73 pp73 (Nat.le_of_ble_eq_true rfl) rfl (by decide) (by decide) ?_
            refine ev_aload_n rfl ?_
            refine g_getv (r := 7) (v := w3) g78163 ad7 (by decide) ft5_3 (((jw_ne e78163 (Or.inr (by decide))).trans ((jw_ne e78119 (Or.inr (by decide))).trans ((jw_ne e78096 (Or.inr (by decide))).trans ew3)))) ?_
            refine ev_sipush ?_
            refine ev_icmplt f73_16 (fun c78165 => ?_) (fun c78165 => absurd c78165 (by omega))
            refine ev_aload_n rfl ?_
            refine g_getp (r := 7) (c := 10) g78163 ad7 (by decide) (by decide) rf7_7 ft5_7 ?_
            refine ev_aload_n rfl ?_
            refine g_getv (r := 7) (v := w3) g78163 ad7 (by decide) ft5_3 (((jw_ne e78163 (Or.inr (by decide))).trans ((jw_ne e78119 (Or.inr (by decide))).trans ((jw_ne e78096 (Or.inr (by decide))).trans ew3)))) ?_
            refine ev_iload_n rfl ?_
            refine g_iast g78163 ad10 rt10 (fun _ => rfl) (by omega) (by omega) (by omega) (by omega) (fun h78166 e78166 g78166 => ?_)
            have k78166 := k78163.wr e78166 rfl
            refine ev_aload_n rfl ?_
            refine g_getp (r := 7) (c := 11) g78166 ad7 (by decide) (by decide) rf7_8 ft5_8 ?_
            refine ev_aload_n rfl ?_
            refine g_getv (r := 7) (v := w3) g78166 ad7 (by decide) ft5_3 (((jw_ne e78166 (Or.inl (by decide))).trans ((jw_ne e78163 (Or.inr (by decide))).trans ((jw_ne e78119 (Or.inr (by decide))).trans ((jw_ne e78096 (Or.inr (by decide))).trans ew3))))) ?_
            refine ev_iconst ?_
            refine g_iast g78166 ad11 rt11 (fun _ => rfl) (by omega) (by omega) (by omega) (by omega) (fun h78167 e78167 g78167 => ?_)
            have k78167 := k78166.wr e78167 rfl
            refine ev_aload_n rfl ?_
            refine g_getp (r := 7) (c := 12) g78167 ad7 (by decide) (by decide) rf7_9 ft5_9 ?_
            refine ev_aload_n rfl ?_
            refine g_getv (r := 7) (v := w3) g78167 ad7 (by decide) ft5_3 (((jw_ne e78167 (Or.inl (by decide))).trans ((jw_ne e78166 (Or.inl (by decide))).trans ((jw_ne e78163 (Or.inr (by decide))).trans ((jw_ne e78119 (Or.inr (by decide))).trans ((jw_ne e78096 (Or.inr (by decide))).trans ew3)))))) ?_
            refine ev_iconst ?_
            refine g_iast g78167 ad12 rt12 (fun _ => rfl) (by omega) (by omega) (by omega) (by omega) (fun h78168 e78168 g78168 => ?_)
            have k78168 := k78167.wr e78168 rfl
            refine ev_aload_n rfl ?_
            refine g_getp (r := 7) (c := 15) g78168 ad7 (by decide) (by decide) rf7_12 ft5_12 ?_
            refine ev_aload_n rfl ?_
            refine g_getv (r := 7) (v := w3) g78168 ad7 (by decide) ft5_3 (((jw_ne e78168 (Or.inl (by decide))).trans ((jw_ne e78167 (Or.inl (by decide))).trans ((jw_ne e78166 (Or.inl (by decide))).trans ((jw_ne e78163 (Or.inr (by decide))).trans ((jw_ne e78119 (Or.inr (by decide))).trans ((jw_ne e78096 (Or.inr (by decide))).trans ew3))))))) ?_
            refine ev_iconst ?_
            refine g_iast g78168 ad15 rt15 (fun _ => rfl) (by omega) (by omega) (by omega) (by omega) (fun h78169 e78169 g78169 => ?_)
            have k78169 := k78168.wr e78169 rfl
            refine ev_aload_n rfl ?_
            refine g_getp (r := 7) (c := 16) g78169 ad7 (by decide) (by decide) rf7_13 ft5_13 ?_
            refine ev_aload_n rfl ?_
            refine g_getv (r := 7) (v := w3) g78169 ad7 (by decide) ft5_3 (((jw_ne e78169 (Or.inl (by decide))).trans ((jw_ne e78168 (Or.inl (by decide))).trans ((jw_ne e78167 (Or.inl (by decide))).trans ((jw_ne e78166 (Or.inl (by decide))).trans ((jw_ne e78163 (Or.inr (by decide))).trans ((jw_ne e78119 (Or.inr (by decide))).trans ((jw_ne e78096 (Or.inr (by decide))).trans ew3)))))))) ?_
            refine ev_iconst ?_
            refine g_iast g78169 ad16 rt16 (fun _ => rfl) (by omega) (by omega) (by omega) (by omega) (fun h78170 e78170 g78170 => ?_)
            have k78170 := k78169.wr e78170 rfl
            refine ev_aload_n rfl ?_
            refine g_getp (r := 7) (c := 17) g78170 ad7 (by decide) (by decide) rf7_14 ft5_14 ?_
            refine ev_aload_n rfl ?_
            refine g_getv (r := 7) (v := w3) g78170 ad7 (by decide) ft5_3 (((jw_ne e78170 (Or.inl (by decide))).trans ((jw_ne e78169 (Or.inl (by decide))).trans ((jw_ne e78168 (Or.inl (by decide))).trans ((jw_ne e78167 (Or.inl (by decide))).trans ((jw_ne e78166 (Or.inl (by decide))).trans ((jw_ne e78163 (Or.inr (by decide))).trans ((jw_ne e78119 (Or.inr (by decide))).trans ((jw_ne e78096 (Or.inr (by decide))).trans ew3))))))))) ?_
            refine ev_iconst ?_
            refine g_iast g78170 ad17 rt17 (fun _ => rfl) (by omega) (by omega) (by omega) (by omega) (fun h78171 e78171 g78171 => ?_)
            have k78171 := k78170.wr e78171 rfl
            refine ev_aload_n rfl ?_
            refine ev_dup (by decide) ?_
            refine g_getv (r := 7) (v := w3) g78171 ad7 (by decide) ft5_3 (((jw_ne e78171 (Or.inl (by decide))).trans ((jw_ne e78170 (Or.inl (by decide))).trans ((jw_ne e78169 (Or.inl (by decide))).trans ((jw_ne e78168 (Or.inl (by decide))).trans ((jw_ne e78167 (Or.inl (by decide))).trans ((jw_ne e78166 (Or.inl (by decide))).trans ((jw_ne e78163 (Or.inr (by decide))).trans ((jw_ne e78119 (Or.inr (by decide))).trans ((jw_ne e78096 (Or.inr (by decide))).trans ew3)))))))))) ?_
            refine ev_iconst ?_
            refine ev_iadd (r := (w3 + 1)) (by unfold w32; omega) ?_
            refine g_putf (r := 7) g78171 ad7 (by decide) ft5_3 (by decide) (fun e => absurd e nz5_3) rf7_3 (by decide) (by omega) (by omega) (fun h78172 e78172 g78172 => ?_)
            have k78172 := k78171.wr e78172 rfl
            refine ev_aload_n rfl ?_
            refine g_getv (r := 7) (v := (w3 + 1)) g78172 ad7 (by decide) ft5_3 ((jw_eq e78172)) ?_
            refine ev_iconst ?_
            refine ev_isub (r := w3) (by unfold w32; omega) ?_
            refine ev_ret rfl (by decide) (by decide) ?_
            show jEv _ _ _ _ _ _ _ (_, [(2, 7), (2, 1), (0, a2), (0, a3), (0, (v78104 - 97)), (9, 0), (9, 0)], [(0, w3)], _, _, _)
            refine ev_istore (L' := [(2, 7), (2, 1), (0, a2), (0, a3), (0, (v78104 - 97)), (0, w3), (9, 0)]) (Nat.le_of_ble_eq_true rfl) rfl ?_
            obtain ⟨v78173, ev78173, lv78173, uv78173⟩ := g78172.rd ad2 (show ((v78104 - 97)).toNat < 4 by omega) (rt2 _)
            have x78174 := (g78172.ex.1.1 ((v78104 - 97) : Int).toNat (by rw [(((jw_ne e78172 (Or.inl (by decide))).trans ((jw_ne e78171 (Or.inl (by decide))).trans ((jw_ne e78170 (Or.inl (by decide))).trans ((jw_ne e78169 (Or.inl (by decide))).trans ((jw_ne e78168 (Or.inl (by decide))).trans ((jw_ne e78167 (Or.inl (by decide))).trans ((jw_ne e78166 (Or.inl (by decide))).trans ((jw_ne e78163 (Or.inl (by decide))).trans ((jw_ne e78119 (Or.inl (by decide))).trans ev78110))))))))))]; omega))
            rw [ev78173] at x78174
            refine ev_iconst ?_
            refine ev_istore (L' := [(2, 7), (2, 1), (0, a2), (0, a3), (0, (v78104 - 97)), (0, w3), (0, 0)]) (Nat.le_of_ble_eq_true rfl) rfl ?_
            exact (t79_s_l la2 ua2 la3 ua3 ew0 lw0 uw0 ew1 lw1 uw1 ew2 ew3 lw3 uw3 ew4 lw4 uw4 F0 F1 hK hq hb hM hd rih 8) _ _ _ _ _ _ _ _ _ g78172 k78172 (by omega) (by omega) (by omega) (by omega) (by omega) (by omega) (by omega) (by omega) (by omega) (by omega) (by omega) (by omega) (by omega) (by omega) (by omega) (by omega) (((jw_ne e78172 (Or.inr (by decide))).trans ((jw_ne e78171 (Or.inl (by decide))).trans ((jw_ne e78170 (Or.inl (by decide))).trans ((jw_ne e78169 (Or.inl (by decide))).trans ((jw_ne e78168 (Or.inl (by decide))).trans ((jw_ne e78167 (Or.inl (by decide))).trans ((jw_ne e78166 (Or.inl (by decide))).trans (jw_eq e78163))))))))) (by omega) (by omega) (((jw_ne e78172 (Or.inr (by decide))).trans ((jw_ne e78171 (Or.inl (by decide))).trans ((jw_ne e78170 (Or.inl (by decide))).trans ((jw_ne e78169 (Or.inl (by decide))).trans ((jw_ne e78168 (Or.inl (by decide))).trans ((jw_ne e78167 (Or.inl (by decide))).trans ((jw_ne e78166 (Or.inl (by decide))).trans ((jw_ne e78163 (Or.inr (by decide))).trans (jw_eq e78119)))))))))) (by omega) (by omega) ((jw_eq e78172)) (by omega) (by omega) (ev78173) (by omega) (by omega) (((jw_ne e78172 (Or.inl (by decide))).trans ((jw_ne e78171 (Or.inl (by decide))).trans ((jw_ne e78170 (Or.inl (by decide))).trans ((jw_ne e78169 (Or.inl (by decide))).trans ((jw_ne e78168 (Or.inl (by decide))).trans ((jw_ne e78167 (Or.inl (by decide))).trans ((jw_ne e78166 (Or.inl (by decide))).trans ((jw_ne e78163 (Or.inl (by decide))).trans ((jw_ne e78119 (Or.inl (by decide))).trans ev78110)))))))))) (by omega) (by omega) (tj_bad0 (tuN_2 (by rw [(bC_at (p := (w1 + 1)) k78172 (fun _ => rfl) ew0 (((jw_ne e78172 (Or.inl (by decide))).trans ((jw_ne e78171 (Or.inl (by decide))).trans ((jw_ne e78170 (Or.inl (by decide))).trans ((jw_ne e78169 (Or.inl (by decide))).trans ((jw_ne e78168 (Or.inl (by decide))).trans ((jw_ne e78167 (Or.inl (by decide))).trans ((jw_ne e78166 (Or.inl (by decide))).trans ((jw_ne e78163 (Or.inl (by decide))).trans ((jw_ne e78119 (Or.inl (by decide))).trans ev78103)))))))))) (by omega) (by omega))]; omega) (by omega) (by rw [show h.2.2 1 0 = v78110 from (k78172.v rfl).symm.trans (((jw_ne e78172 (Or.inl (by decide))).trans ((jw_ne e78171 (Or.inl (by decide))).trans ((jw_ne e78170 (Or.inl (by decide))).trans ((jw_ne e78169 (Or.inl (by decide))).trans ((jw_ne e78168 (Or.inl (by decide))).trans ((jw_ne e78167 (Or.inl (by decide))).trans ((jw_ne e78166 (Or.inl (by decide))).trans ((jw_ne e78163 (Or.inl (by decide))).trans ((jw_ne e78119 (Or.inl (by decide))).trans ev78110))))))))))]; omega) (fun z => absurd ((show bt a3 (v78104 - 97) = v78117 by unfold bt; rw [ev78116, ev78117]).symm.trans z) (by omega)) (Or.inr (by omega))) (by omega) (by show -1 - _ = _; omega)) ((FrN.wr (i := w3) (FrN.wr (i := w3) (FrN.wr (i := w3) (((((((FrN.rf _ _).wn e78096 (by decide)).wn e78119 (by decide)).wn e78163 (by decide)).wn e78166 (by decide)).wn e78167 (by decide)).wn e78168 (by decide)) e78169 (Or.inr (by omega))) e78170 (Or.inr (by omega))) e78171 (Or.inr (by omega))).wn e78172 (by decide)) (by omega)
        · refine ev_aload_n rfl ?_
          refine ev_in (d := (d + 2)) (a := 0) (b := 0) (cd' := c70_0) (m := 1) (L0 := [(2, 7)]) (jcall_v (A := []) (S' := []) (r := 7) rfl (g78096.lt ad7) (g78096.tg ad7) (Nat.le_of_ble_eq_true rfl)) (by decide) ml70 pp70 (Nat.le_of_ble_eq_true rfl) rfl (by decide) (by decide) ?_
          refine ev_aload_n rfl ?_
          refine g_getv (r := 7) (v := (-1)) g78096 ad7 (by decide) ft5_1 (((jw_ne e78096 (Or.inr (by decide))).trans ew2)) ?_
          refine ev_ifge f70_15 (fun c78175 => absurd c78175 (by omega)) (fun c78175 => ?_)
          refine ev_aload_n rfl ?_
          refine ev_aload_n rfl ?_
          refine g_getv (r := 7) (v := (w1 + 1)) g78096 ad7 (by decide) ft5_2 ((jw_eq e78096)) ?_
          refine g_putf (r := 7) g78096 ad7 (by decide) ft5_1 (by decide) (fun e => absurd e nz5_1) rf7_1 (by decide) (by omega) (by omega) (fun h78176 e78176 g78176 => ?_)
          have k78176 := k78096.wr e78176 rfl
          refine ev_ret rfl (by decide) (by decide) ?_
          show jEv _ _ _ _ _ _ _ (_, [(2, 7), (2, 1), (0, a2), (0, a3), (0, (v78104 - 97)), (9, 0), (9, 0)], [], _, _, _)
          refine ev_iconst ?_
          exact ev_ret rfl (by decide) (by decide) ⟨_, rfl, g78176, k78176, by omega, by omega, Rp.bad (((FrN.rf _ _).wn e78096 (by decide)).wn e78176 (by decide)) (((jw_ne e78176 (Or.inr (by decide))).trans ((jw_ne e78096 (Or.inr (by decide))).trans ew3))) (by omega) (tuN_1 (bC_at (p := (w1 + 1)) k78176 (fun _ => rfl) ew0 (((jw_ne e78176 (Or.inl (by decide))).trans ev78103)) (by omega) (by omega)) (Or.inr (by rw [show v78103 - 97 = (v78104 - 97) by omega]; show jand (jshr a3 (v78104 - 97)) 1 = 1; rw [ev78116, ev78117]; omega))) (by omega) ((jw_eq e78176)) (by omega)⟩
set_option maxHeartbeats 4000000 in
theorem t74_s {G : GH} {h : JH} (g : Gd G h) {a2 : Int} (la2 : 0 ≤ a2) (ua2 : a2 ≤ 12) {a3 : Int} (la3 : 0 ≤ a3) (ua3 : a3 ≤ 15) {w0 : Int} (ew0 : h.2.2 7 0 = w0) (lw0 : 0 ≤ w0) (uw0 : w0 ≤ 200) {w1 : Int} (ew1 : h.2.2 7 2 = w1) (lw1 : 0 ≤ w1) (uw1 : w1 ≤ 200) (ew2 : h.2.2 7 1 = (-1)) {w3 : Int} (ew3 : h.2.2 7 3 = w3) (lw3 : 0 ≤ w3) (uw3 : w3 ≤ 200) {w4 : Int} (ew4 : h.2.2 7 4 = w4) (lw4 : 0 ≤ w4) (uw4 : w4 ≤ 6) (F0 : ((-w1) + w3) ≤ 0) {K : Int → Int × Int × Int} {q : Nat} (hK : KoC h w4 K) (hq : 13 - a2 = q) {M : Int} (hM : M = a2) {d : Nat} (hd : 4 ≤ d) (rih : ∀ {G : GH} {h : JH} (g : Gd G h) {a2 : Int} (la2 : 0 ≤ a2) (ua2 : a2 ≤ 12) {a3 : Int} (la3 : 0 ≤ a3) (ua3 : a3 ≤ 15) {w0 : Int} (ew0 : h.2.2 7 0 = w0) (lw0 : 0 ≤ w0) (uw0 : w0 ≤ 200) {w1 : Int} (ew1 : h.2.2 7 2 = w1) (lw1 : 0 ≤ w1) (uw1 : w1 ≤ 200) (ew2 : h.2.2 7 1 = (-1)) {w3 : Int} (ew3 : h.2.2 7 3 = w3) (lw3 : 0 ≤ w3) (uw3 : w3 ≤ 200) {w4 : Int} (ew4 : h.2.2 7 4 = w4) (lw4 : 0 ≤ w4) (uw4 : w4 ≤ 6) (F0 : ((-w1) + w3) ≤ 0) {K : Int → Int × Int × Int} {q : Nat} (hK : KoC h w4 K) (hq : 13 - a2 = q) (hm : M + 1 ≤ a2), jOk d 0 0 74 [(2, 7), (2, 1), (0, a2), (0, a3)] h (fun v h' => ∃ r : Int, v = some (0, r) ∧ Gd G h' ∧ Kp [(7, 2), (7, 3), (7, 4), (10, 0), (11, 0), (12, 0), (13, 0), (14, 0), (15, 0), (16, 0), (17, 0)] h h' ∧ (-1) ≤ r ∧ r ≤ 199 ∧ Rp h h' w3 (RC h w4 K q a3 a2 w1) r)) : jOk (d + 5) 0 0 74 [(2, 7), (2, 1), (0, a2), (0, a3)] h (fun v h' => ∃ r : Int, v = some (0, r) ∧ Gd G h' ∧ Kp [(7, 2), (7, 3), (7, 4), (10, 0), (11, 0), (12, 0), (13, 0), (14, 0), (15, 0), (16, 0), (17, 0)] h h' ∧ (-1) ≤ r ∧ r ≤ 199 ∧ Rp h h' w3 (RC h w4 K q a3 a2 w1) r) := by
  refine ⟨by decide, by rw [ml74]; exact Nat.le_of_ble_eq_true rfl, ?_⟩
  rw [ml74, pp74]
  show jEv _ none _ c74_0 0 0 _ (c74_0, [(2, 7), (2, 1), (0, a2), (0, a3), (9, 0)], [], h, 0, 0)
  have k0 := Kp.rf [(7, 2), (7, 3), (7, 4), (10, 0), (11, 0), (12, 0), (13, 0), (14, 0), (15, 0), (16, 0), (17, 0)] h
  refine ev_aload_n rfl ?_
  refine g_getv (r := 7) (v := (-1)) g ad7 (by decide) ft5_1 (ew2) ?_
  refine ev_ifge f74_13 (fun c78225 => absurd c78225 (by omega)) (fun c78225 => ?_)
  refine ev_iload_n rfl ?_
  refine ev_bipush ?_
  refine ev_icmple f74_19 (fun c78226 => ?_) (fun c78226 => absurd c78226 (by omega))
  refine ev_aload_n rfl ?_
  refine ev_in (d := (d + 3)) (a := 0) (b := 0) (cd' := c68_0) (m := 1) (L0 := [(2, 7)]) (jcall_v (A := []) (S' := []) (r := 7) rfl (g.lt ad7) (g.tg ad7) (Nat.le_of_ble_eq_true rfl)) (by decide) ml68 pp68 (Nat.le_of_ble_eq_true rfl) rfl (by decide) (by decide) ?_
  refine ev_aload_n rfl ?_
  refine g_getv (r := 7) (v := w1) g ad7 (by decide) ft5_2 (ew1) ?_
  refine ev_aload_n rfl ?_
  refine g_getv (r := 7) (v := w0) g ad7 (by decide) ft5_0 (ew0) ?_
  refine ev_icmpge f68_27 (fun c78227 => ?_) (fun c78227 => ?_)
  · refine ev_iconst ?_
    refine ev_ret rfl (by decide) (by decide) ?_
    show jEv _ _ _ _ _ _ _ (_, [(2, 7), (2, 1), (0, a2), (0, a3), (9, 0)], [(0, (-1))], _, _, _)
    refine ev_istore (L' := [(2, 7), (2, 1), (0, a2), (0, a3), (0, (-1))]) (Nat.le_of_ble_eq_true rfl) rfl ?_
    refine ev_iload rfl ?_
    refine ev_bipush ?_
    refine ev_icmpne f74_40 (fun c78228 => ?_) (fun c78228 => absurd c78228 (by omega))
    refine ev_iload rfl ?_
    refine ev_bipush ?_
    refine ev_icmpne f74_55 (fun c78229 => ?_) (fun c78229 => absurd c78229 (by omega))
    refine ev_iload rfl ?_
    refine ev_bipush ?_
    refine ev_icmplt f74_78 (fun c78230 => ?_) (fun c78230 => absurd c78230 (by omega))
    refine ev_aload_n rfl ?_
    refine ev_call (jcall_v (A := []) (S' := []) (r := 7) rfl (g.lt ad7) (g.tg ad7) (Nat.le_of_ble_eq_true rfl)) (jOk_le (by omega) (t75 g (ew0) (by omega) (by omega) (ew1) (by omega) (by omega) (ew2) (ew3) (by omega) (by omega) (by omega))) (by decide) (by decide) (fun w78231 h78231 q78231 => ?_)
    obtain ⟨v78232, rfl, g78231, kk78231, lv78232, uv78232, X78231⟩ := q78231
    have k78231 := k0.tr kk78231 (by decide)
    show jEv _ _ _ _ _ _ _ (_, [(2, 7), (2, 1), (0, a2), (0, a3), (0, (-1))], [(0, v78232)], _, _, _)
    exact ev_ret rfl (by decide) (by decide) ⟨_, rfl, g78231, k78231, by omega, by omega, Rp.to ((((rd_s (B := bC h) (N := h.2.2 1 0) (Y := yC h) (m := w4) (K := K) (q := q) (by omega) a3 a2 w1).trans (if_neg (fun z => absurd ((bC_end (p := w1) ew0 (by omega)).symm.trans z) (by omega)))).trans (if_neg (fun z => absurd ((bC_end (p := w1) ew0 (by omega)).symm.trans z) (by omega)))).trans (if_neg (by rw [(bC_end (p := w1) ew0 (by omega))]; omega))) X78231⟩
  · refine ev_aload_n rfl ?_
    refine g_getp (r := 7) (c := 8) g ad7 (by decide) (by decide) rf7_5 ft5_5 ?_
    refine ev_aload_n rfl ?_
    refine g_getv (r := 7) (v := w1) g ad7 (by decide) ft5_2 (ew1) ?_
    refine g_bald g ad8 rt8 (by omega) (by omega) (fun v78233 ev78233 lv78233 uv78233 => ?_)
    refine ev_sipush ?_
    refine g_iandB (b := 255) (by omega) (by omega) (by decide) (fun v78234 ev78234 lv78234 uv78234 => ?_)
    have zv78234 := sgn ev78234 (by omega) (by omega)
    refine ev_goto f68_28 ?_
    refine ev_ret rfl (by decide) (by decide) ?_
    show jEv _ _ _ _ _ _ _ (_, [(2, 7), (2, 1), (0, a2), (0, a3), (9, 0)], [(0, v78234)], _, _, _)
    refine ev_istore (L' := [(2, 7), (2, 1), (0, a2), (0, a3), (0, v78234)]) (Nat.le_of_ble_eq_true rfl) rfl ?_
    refine ev_iload rfl ?_
    refine ev_bipush ?_
    refine ev_icmpne f74_40 (fun c78235 => ?_) (fun c78235 => ?_)
    · refine ev_iload rfl ?_
      refine ev_bipush ?_
      refine ev_icmpne f74_55 (fun c78236 => ?_) (fun c78236 => ?_)
      · refine ev_iload rfl ?_
        refine ev_bipush ?_
        refine ev_icmplt f74_78 (fun c78237 => ?_) (fun c78237 => ?_)
        · refine ev_aload_n rfl ?_
          refine ev_call (jcall_v (A := []) (S' := []) (r := 7) rfl (g.lt ad7) (g.tg ad7) (Nat.le_of_ble_eq_true rfl)) (jOk_le (by omega) (t75 g (ew0) (by omega) (by omega) (ew1) (by omega) (by omega) (ew2) (ew3) (by omega) (by omega) (by omega))) (by decide) (by decide) (fun w78238 h78238 q78238 => ?_)
          obtain ⟨v78239, rfl, g78238, kk78238, lv78239, uv78239, X78238⟩ := q78238
          have k78238 := k0.tr kk78238 (by decide)
          show jEv _ _ _ _ _ _ _ (_, [(2, 7), (2, 1), (0, a2), (0, a3), (0, v78234)], [(0, v78239)], _, _, _)
          exact ev_ret rfl (by decide) (by decide) ⟨_, rfl, g78238, k78238, by omega, by omega, Rp.to ((((rd_s (B := bC h) (N := h.2.2 1 0) (Y := yC h) (m := w4) (K := K) (q := q) (by omega) a3 a2 w1).trans (if_neg (fun z => absurd ((bC_at (p := w1) k78238 (fun _ => rfl) ew0 (((kk78238.v rfl).trans ev78233)) (by omega) (by omega)).symm.trans z) (by omega)))).trans (if_neg (fun z => absurd ((bC_at (p := w1) k78238 (fun _ => rfl) ew0 (((kk78238.v rfl).trans ev78233)) (by omega) (by omega)).symm.trans z) (by omega)))).trans (if_neg (by rw [(bC_at (p := w1) k78238 (fun _ => rfl) ew0 (((kk78238.v rfl).trans ev78233)) (by omega) (by omega))]; omega))) X78238⟩
        · refine ev_iload rfl ?_
          refine ev_bipush ?_
          refine ev_icmpge f74_78 (fun c78240 => ?_) (fun c78240 => ?_)
          · refine ev_aload_n rfl ?_
            refine ev_call (jcall_v (A := []) (S' := []) (r := 7) rfl (g.lt ad7) (g.tg ad7) (Nat.le_of_ble_eq_true rfl)) (jOk_le (by omega) (t75 g (ew0) (by omega) (by omega) (ew1) (by omega) (by omega) (ew2) (ew3) (by omega) (by omega) (by omega))) (by decide) (by decide) (fun w78241 h78241 q78241 => ?_)
            obtain ⟨v78242, rfl, g78241, kk78241, lv78242, uv78242, X78241⟩ := q78241
            have k78241 := k0.tr kk78241 (by decide)
            show jEv _ _ _ _ _ _ _ (_, [(2, 7), (2, 1), (0, a2), (0, a3), (0, v78234)], [(0, v78242)], _, _, _)
            exact ev_ret rfl (by decide) (by decide) ⟨_, rfl, g78241, k78241, by omega, by omega, Rp.to ((((rd_s (B := bC h) (N := h.2.2 1 0) (Y := yC h) (m := w4) (K := K) (q := q) (by omega) a3 a2 w1).trans (if_neg (fun z => absurd ((bC_at (p := w1) k78241 (fun _ => rfl) ew0 (((kk78241.v rfl).trans ev78233)) (by omega) (by omega)).symm.trans z) (by omega)))).trans (if_neg (fun z => absurd ((bC_at (p := w1) k78241 (fun _ => rfl) ew0 (((kk78241.v rfl).trans ev78233)) (by omega) (by omega)).symm.trans z) (by omega)))).trans (if_neg (by rw [(bC_at (p := w1) k78241 (fun _ => rfl) ew0 (((kk78241.v rfl).trans ev78233)) (by omega) (by omega))]; omega))) X78241⟩
          · refine ev_aload_n rfl ?_
            refine ev_iload_n rfl ?_
            refine ev_iload_n rfl ?_
            refine ev_call (jcall_v (A := [(0, a3), (0, a2)]) (S' := []) (r := 7) rfl (g.lt ad7) (g.tg ad7) (Nat.le_of_ble_eq_true rfl)) (jOk_le (by omega) (t77 g (by omega) (by omega) (by omega) (by omega) (ew0) (by omega) (by omega) (ew1) (by omega) (by omega) (ew2) (ew3) (by omega) (by omega) (ew4) (by omega) (by omega) (by omega) (K := K) hK (by rw [(bC_at (p := w1) k0 (fun _ => rfl) ew0 (ev78233) (by omega) (by omega))]; omega))) (by decide) (by decide) (fun w78243 h78243 q78243 => ?_)
            obtain ⟨v78244, rfl, g78243, kk78243, lv78244, uv78244, X78243⟩ := q78243
            have k78243 := k0.tr kk78243 (by decide)
            show jEv _ _ _ _ _ _ _ (_, [(2, 7), (2, 1), (0, a2), (0, a3), (0, v78234)], [(0, v78244)], _, _, _)
            refine ev_goto f74_82 ?_
            exact ev_ret rfl (by decide) (by decide) ⟨_, rfl, g78243, k78243, by omega, by omega, Rp.to ((((rd_s (B := bC h) (N := h.2.2 1 0) (Y := yC h) (m := w4) (K := K) (q := q) (by omega) a3 a2 w1).trans (if_neg (fun z => absurd ((bC_at (p := w1) k78243 (fun _ => rfl) ew0 (((kk78243.v rfl).trans ev78233)) (by omega) (by omega)).symm.trans z) (by omega)))).trans (if_neg (fun z => absurd ((bC_at (p := w1) k78243 (fun _ => rfl) ew0 (((kk78243.v rfl).trans ev78233)) (by omega) (by omega)).symm.trans z) (by omega)))).trans (if_pos ⟨by rw [(bC_at (p := w1) k78243 (fun _ => rfl) ew0 (((kk78243.v rfl).trans ev78233)) (by omega) (by omega))]; omega, by rw [(bC_at (p := w1) k78243 (fun _ => rfl) ew0 (((kk78243.v rfl).trans ev78233)) (by omega) (by omega))]; omega⟩)) X78243⟩
      · refine ev_aload_n rfl ?_
        refine ev_aload_n rfl ?_
        refine ev_iload_n rfl ?_
        refine ev_iload_n rfl ?_
        refine ev_call (jcall_v (A := [(0, a3), (0, a2), (2, 1)]) (S' := []) (r := 7) rfl (g.lt ad7) (g.tg ad7) (Nat.le_of_ble_eq_true rfl)) (jOk_le (by omega) (t79_s g (by omega) (by omega) (by omega) (by omega) (ew0) (by omega) (by omega) (ew1) (by omega) (by omega) (ew2) (ew3) (by omega) (by omega) (ew4) (by omega) (by omega) (by omega) (by omega) (K := K) (q := q) hK hq ((bC_at (p := w1) k0 (fun _ => rfl) ew0 (ev78233) (by omega) (by omega)).trans (by omega)) hM (by omega) rih)) (by decide) (by decide) (fun w78245 h78245 q78245 => ?_)
        obtain ⟨v78246, rfl, g78245, kk78245, lv78246, uv78246, X78245⟩ := q78245
        have k78245 := k0.tr kk78245 (by decide)
        show jEv _ _ _ _ _ _ _ (_, [(2, 7), (2, 1), (0, a2), (0, a3), (0, v78234)], [(0, v78246)], _, _, _)
        exact ev_ret rfl (by decide) (by decide) ⟨_, rfl, g78245, k78245, by omega, by omega, Rp.to (((rd_s (B := bC h) (N := h.2.2 1 0) (Y := yC h) (m := w4) (K := K) (q := q) (by omega) a3 a2 w1).trans (if_neg (fun z => absurd ((bC_at (p := w1) k78245 (fun _ => rfl) ew0 (((kk78245.v rfl).trans ev78233)) (by omega) (by omega)).symm.trans z) (by omega)))).trans (if_pos ((bC_at (p := w1) k78245 (fun _ => rfl) ew0 (((kk78245.v rfl).trans ev78233)) (by omega) (by omega)).trans (by omega)))) X78245⟩
    · refine ev_aload_n rfl ?_
      refine ev_aload_n rfl ?_
      refine ev_iload_n rfl ?_
      refine ev_iload_n rfl ?_
      refine ev_call (jcall_v (A := [(0, a3), (0, a2), (2, 1)]) (S' := []) (r := 7) rfl (g.lt ad7) (g.tg ad7) (Nat.le_of_ble_eq_true rfl)) (jOk_le (by omega) (t78_s g (by omega) (by omega) (by omega) (by omega) (ew0) (by omega) (by omega) (ew1) (by omega) (by omega) (ew2) (ew3) (by omega) (by omega) (ew4) (by omega) (by omega) (by omega) (by omega) (K := K) (q := q) hK hq ((bC_at (p := w1) k0 (fun _ => rfl) ew0 (ev78233) (by omega) (by omega)).trans (by omega)) hM (by omega) rih)) (by decide) (by decide) (fun w78247 h78247 q78247 => ?_)
      obtain ⟨v78248, rfl, g78247, kk78247, lv78248, uv78248, X78247⟩ := q78247
      have k78247 := k0.tr kk78247 (by decide)
      show jEv _ _ _ _ _ _ _ (_, [(2, 7), (2, 1), (0, a2), (0, a3), (0, v78234)], [(0, v78248)], _, _, _)
      exact ev_ret rfl (by decide) (by decide) ⟨_, rfl, g78247, k78247, by omega, by omega, Rp.to ((rd_s (B := bC h) (N := h.2.2 1 0) (Y := yC h) (m := w4) (K := K) (q := q) (by omega) a3 a2 w1).trans (if_pos ((bC_at (p := w1) k78247 (fun _ => rfl) ew0 (((kk78247.v rfl).trans ev78233)) (by omega) (by omega)).trans (by omega)))) X78247⟩
theorem t74_n (N : Nat) : ∀ {G : GH} {h : JH} (g : Gd G h) {a2 : Int} (la2 : 0 ≤ a2) (ua2 : a2 ≤ 12) {a3 : Int} (la3 : 0 ≤ a3) (ua3 : a3 ≤ 15) {w0 : Int} (ew0 : h.2.2 7 0 = w0) (lw0 : 0 ≤ w0) (uw0 : w0 ≤ 200) {w1 : Int} (ew1 : h.2.2 7 2 = w1) (lw1 : 0 ≤ w1) (uw1 : w1 ≤ 200) (ew2 : h.2.2 7 1 = (-1)) {w3 : Int} (ew3 : h.2.2 7 3 = w3) (lw3 : 0 ≤ w3) (uw3 : w3 ≤ 200) {w4 : Int} (ew4 : h.2.2 7 4 = w4) (lw4 : 0 ≤ w4) (uw4 : w4 ≤ 6) (F0 : ((-w1) + w3) ≤ 0) {K : Int → Int × Int × Int} {q : Nat} (hK : KoC h w4 K) (hq : 13 - a2 = q) (hN : 13 - a2 ≤ (N : Int)), jOk (4 + 5 * N) 0 0 74 [(2, 7), (2, 1), (0, a2), (0, a3)] h (fun v h' => ∃ r : Int, v = some (0, r) ∧ Gd G h' ∧ Kp [(7, 2), (7, 3), (7, 4), (10, 0), (11, 0), (12, 0), (13, 0), (14, 0), (15, 0), (16, 0), (17, 0)] h h' ∧ (-1) ≤ r ∧ r ≤ 199 ∧ Rp h h' w3 (RC h w4 K q a3 a2 w1) r) := by
  induction N with
  | zero => intro G h g a2 la2 ua2 a3 la3 ua3 w0 ew0 lw0 uw0 w1 ew1 lw1 uw1 ew2 w3 ew3 lw3 uw3 w4 ew4 lw4 uw4 F0 K q hK hq hN; exfalso; omega
  | succ N ih =>
    intro G h g a2 la2 ua2 a3 la3 ua3 w0 ew0 lw0 uw0 w1 ew1 lw1 uw1 ew2 w3 ew3 lw3 uw3 w4 ew4 lw4 uw4 F0 K q hK hq hN
    exact jOk_le (by omega) (t74_s g la2 ua2 la3 ua3 ew0 lw0 uw0 ew1 lw1 uw1 ew2 ew3 lw3 uw3 ew4 lw4 uw4 F0 hK hq (M := a2) rfl (d := 4 + 5 * N) (by omega) (fun {G} {h} g {a2} la2 ua2 {a3} la3 ua3 {w0} ew0 lw0 uw0 {w1} ew1 lw1 uw1 ew2 {w3} ew3 lw3 uw3 {w4} ew4 lw4 uw4 F0 {K} {q} hK hq hm => ih g la2 ua2 la3 ua3 ew0 lw0 uw0 ew1 lw1 uw1 ew2 ew3 lw3 uw3 ew4 lw4 uw4 F0 hK hq (by omega)))
theorem t74 {G : GH} {h : JH} (g : Gd G h) {a2 : Int} (la2 : 0 ≤ a2) (ua2 : a2 ≤ 12) {a3 : Int} (la3 : 0 ≤ a3) (ua3 : a3 ≤ 15) {w0 : Int} (ew0 : h.2.2 7 0 = w0) (lw0 : 0 ≤ w0) (uw0 : w0 ≤ 200) {w1 : Int} (ew1 : h.2.2 7 2 = w1) (lw1 : 0 ≤ w1) (uw1 : w1 ≤ 200) (ew2 : h.2.2 7 1 = (-1)) {w3 : Int} (ew3 : h.2.2 7 3 = w3) (lw3 : 0 ≤ w3) (uw3 : w3 ≤ 200) {w4 : Int} (ew4 : h.2.2 7 4 = w4) (lw4 : 0 ≤ w4) (uw4 : w4 ≤ 6) (F0 : ((-w1) + w3) ≤ 0) {K : Int → Int × Int × Int} {q : Nat} (hK : KoC h w4 K) (hq : 13 - a2 = q) : jOk 69 0 0 74 [(2, 7), (2, 1), (0, a2), (0, a3)] h (fun v h' => ∃ r : Int, v = some (0, r) ∧ Gd G h' ∧ Kp [(7, 2), (7, 3), (7, 4), (10, 0), (11, 0), (12, 0), (13, 0), (14, 0), (15, 0), (16, 0), (17, 0)] h h' ∧ (-1) ≤ r ∧ r ≤ 199 ∧ Rp h h' w3 (RC h w4 K q a3 a2 w1) r) := jOk_le (by decide) (t74_n 13 g la2 ua2 la3 ua3 ew0 lw0 uw0 ew1 lw1 uw1 ew2 ew3 lw3 uw3 ew4 lw4 uw4 F0 hK hq (by omega))
set_option maxHeartbeats 4000000 in
theorem t67_l {G : GH} {h : JH} {w0 : Int} (ew0 : h.2.2 7 0 = w0) (lw0 : 0 ≤ w0) (uw0 : w0 ≤ 200) : ∀ N : Nat, (∀ (h1 : JH) (y0 y1 y2 y3 : Int) (j2 : AV), Gd G h1 → Kp [(7, 2), (7, 3), (7, 4), (10, 0), (11, 0), (12, 0), (13, 0), (14, 0), (15, 0), (16, 0), (17, 0), (7, 5), (9, 0)] h h1 → ((-y0) + y2) ≤ 0 → h1.2.2 7 2 = y0 → 0 ≤ y0 → y0 ≤ 200 → h1.2.2 7 1 = y1 → (-1) ≤ y1 → y1 ≤ (-1) → h1.2.2 7 3 = y2 → 0 ≤ y2 → y2 ≤ 200 → h1.2.2 7 4 = y3 → 0 ≤ y3 → y3 ≤ 6 → (∃ K, KoC h1 y3 K ∧ (TC h 6 0 K00 0) = TC h (6 - y3).toNat y3 K y0) → ((-y3) + 6) < N → jEv (jOk 69) none (fun _ => 0) c67_0 0 0 (fun v h' => ∃ r : Int, v = some (0, r) ∧ Gd G h' ∧ Kp [(7, 2), (7, 3), (7, 4), (10, 0), (11, 0), (12, 0), (13, 0), (14, 0), (15, 0), (16, 0), (17, 0), (7, 5), (9, 0)] h h' ∧ (-1) ≤ r ∧ r ≤ 199 ∧ TxP h' (TC h 6 0 K00 0) r) (c67_20, [(2, 7), (2, 1), j2], [], h1, 0, 0)) := by
  intro N
  induction N with
  | zero => exact fun h1 y0 y1 y2 y3 j2 g1 k1 b0 b1 b2 b3 b4 b5 b6 b7 b8 b9 b10 b11 b12 b13 hm => absurd hm (by omega)
  | succ N ih =>
    show _
    intro h1 y0 y1 y2 y3 j2 g1 k1 b0 ey0 ly0 uy0 ey1 ly1 uy1 ey2 ly2 uy2 ey3 ly3 uy3 H0 hm
    refine ev_aload_n rfl ?_
    obtain ⟨K, hK, eR⟩ := H0
    refine g_getv (r := 7) (v := y3) g1 ad7 (by decide) ft5_4 (ey3) ?_
    refine ev_bipush ?_
    refine ev_icmpge f67_105 (fun c78463 => ?_) (fun c78463 => ?_)
    · refine ev_aload_n rfl ?_
      refine ev_aload_n rfl ?_
      refine ev_iconst ?_
      refine ev_iconst ?_
      refine ev_call (jcall_v (A := [(0, 0), (0, 0), (2, 1)]) (S' := []) (r := 7) rfl (g1.lt ad7) (g1.tg ad7) (Nat.le_of_ble_eq_true rfl)) (jOk_le (by decide) (t74 g1 (by omega) (by omega) (by omega) (by omega) (((k1.v (by decide)).trans ew0)) (by omega) (by omega) (ey0) (by omega) (by omega) (by rw [(ey1)]; omega) (ey2) (by omega) (by omega) (ey3) (by omega) (by omega) (by omega) (K := K) (q := 13) hK (by decide))) (by decide) (by decide) (fun w78464 h78464 q78464 => ?_)
      obtain ⟨v78465, rfl, g78464, kk78464, lv78465, uv78465, X78464⟩ := q78464
      have k78464 := k1.tr kk78464 (by decide)
      show jEv _ _ _ _ _ _ _ (_, [(2, 7), (2, 1), j2], [(0, v78465)], _, _, _)
      have X78466 := X78464
      rw [RC_kp k1 (fun _ => rfl) rfl (fun _ => rfl) rfl] at X78466
      obtain ⟨Q78466, eQ78466⟩ : ∃ R : RS, RC h y3 K 13 0 0 y0 = R := ⟨_, rfl⟩
      rw [eQ78466] at X78466
      have J78466 : KoC _ y3 K := KoC.go hK X78466.1 (ey2) X78466.2.1 (fun _ => kk78464.v rfl)
      rcases X78466.2.2 with ⟨c178466, c278466, c378466, c478466, d178466, d278466, d378466, d478466, d578466⟩ | ⟨c178466, c278466⟩
      · have G78466 := rd_g (B := bC h) (Y := yC h) (by have z := (g78464.rg ad1 (i := 0) (by decide) rf1_0).2; rw [k78464.v (by decide)] at z; omega) hK.1 13 0 0 (by decide) (by decide) (by decide) (by decide) y0 (by omega) (by show 0 ≤ (RC h y3 K 13 0 0 y0).1; rw [eQ78466]; exact c178466)
        rw [show rd (bC h) (h.2.2 1 0) (yC h) y3 K 13 0 0 y0 = Q78466 from eQ78466] at G78466
        obtain ⟨v78467, v78468, v78469, v78470⟩ := Q78466
        simp only [] at c178466 c378466 c478466 d378466 d478466 d578466 G78466
        obtain ⟨G178466, G278466, G378466, G478466, G578466, G678466, G778466⟩ := G78466
        have bv78467 := g78464.rg ad7 (i := 2) (by decide) rf7_2
        rw [c378466] at bv78467
        obtain ⟨v78471, ev78471⟩ : ∃ z : Int, mn v78470 = z := ⟨_, rfl⟩
        rw [ev78471] at d578466
        have fv78471 : 1 ≤ v78471 ∧ v78471 ≤ 1000 := by rw [← ev78471]; unfold mn; split <;> omega
        obtain ⟨v78473, ev78473, lv78473, uv78473⟩ := g78464.rd ad7 (show 3 < 15 by decide) rf7_3
        have m78466 := c478466
        have m278466 := d278466
        rw [ev78473] at m78466 m278466
        refine ev_istore_n (L' := [(2, 7), (2, 1), (0, v78465)]) (Nat.le_of_ble_eq_true rfl) rfl ?_
        refine ev_aload_n rfl ?_
        refine g_getv (r := 7) (v := (-1)) g78464 ad7 (by decide) ft5_1 (c278466) ?_
        refine ev_ifge f67_139 (fun c78474 => absurd c78474 (by omega)) (fun c78474 => ?_)
        refine ev_aload_n rfl ?_
        refine g_getv (r := 7) (v := v78467) g78464 ad7 (by decide) ft5_2 (c378466) ?_
        refine ev_aload_n rfl ?_
        refine g_getv (r := 7) (v := w0) g78464 ad7 (by decide) ft5_0 (((kk78464.v (by decide)).trans ((k1.v (by decide)).trans ew0))) ?_
        refine ev_icmpge f67_139 (fun c78475 => ?_) (fun c78475 => ?_)
        · refine ev_aload_n rfl ?_
          refine g_getv (r := 7) (v := (-1)) g78464 ad7 (by decide) ft5_1 (c278466) ?_
          refine ev_iflt f67_150 (fun c78476 => ?_) (fun c78476 => absurd c78476 (by omega))
          refine ev_iload_n rfl ?_
          exact ev_ret rfl (by decide) (by decide) ⟨_, rfl, g78464, k78464, by omega, by omega, TxP.good (show (TC h 6 0 K00 0) = (v78467, v78468, v78469, v78470) by rw [(eR.trans (TC_z (Or.inl (by omega)) eQ78466)), ew0]; unfold fiR; rw [if_neg (show ¬ v78467 < 0 by omega), if_neg (show ¬ v78467 < w0 by omega)]) (by omega) (by omega) (by rw [(ev78473)]; omega) (d578466) ev78471.symm (by omega)⟩
        · refine ev_aload_n rfl ?_
          refine ev_aload_n rfl ?_
          refine g_getv (r := 7) (v := v78467) g78464 ad7 (by decide) ft5_2 (c378466) ?_
          refine g_putf (r := 7) g78464 ad7 (by decide) ft5_1 (by decide) (fun e => absurd e nz5_1) rf7_1 (by decide) (by omega) (by omega) (fun h78477 e78477 g78477 => ?_)
          have k78477 := k78464.wr e78477 rfl
          refine ev_aload_n rfl ?_
          refine g_getv (r := 7) (v := v78467) g78477 ad7 (by decide) ft5_1 ((jw_eq e78477)) ?_
          refine ev_iflt f67_150 (fun c78478 => absurd c78478 (by omega)) (fun c78478 => ?_)
          refine ev_iconst ?_
          refine ev_goto f67_151 ?_
          exact ev_ret rfl (by decide) (by decide) ⟨_, rfl, g78477, k78477, by omega, by omega, TxP.bad (q := -1 - v78467) (by rw [(eR.trans (TC_z (Or.inl (by omega)) eQ78466)), ew0]; unfold fiR; rw [if_neg (show ¬ v78467 < 0 by omega), if_pos (show v78467 < w0 by omega)]; rfl) (by omega) rfl ((jw_eq e78477)) (by omega)⟩
      · obtain ⟨v78472, ev78472⟩ : ∃ z : Int, -1 - Q78466.1 = z := ⟨_, rfl⟩
        rw [ev78472] at c278466
        have bv78472 := g78464.rg ad7 (i := 1) (by decide) rf7_1
        rw [c278466] at bv78472
        refine ev_istore_n (L' := [(2, 7), (2, 1), (0, v78465)]) (Nat.le_of_ble_eq_true rfl) rfl ?_
        refine ev_aload_n rfl ?_
        refine g_getv (r := 7) (v := v78472) g78464 ad7 (by decide) ft5_1 (c278466) ?_
        refine ev_ifge f67_139 (fun c78479 => ?_) (fun c78479 => absurd c78479 (by omega))
        refine ev_aload_n rfl ?_
        refine g_getv (r := 7) (v := v78472) g78464 ad7 (by decide) ft5_1 (c278466) ?_
        refine ev_iflt f67_150 (fun c78480 => absurd c78480 (by omega)) (fun c78480 => ?_)
        refine ev_iconst ?_
        refine ev_goto f67_151 ?_
        exact ev_ret rfl (by decide) (by decide) ⟨_, rfl, g78464, k78464, by omega, by omega, TxP.bad (q := Q78466.1) (by rw [(eR.trans (TC_z (Or.inl (by omega)) eQ78466))]; unfold fiR; rw [if_pos c178466]) c178466 rfl (c278466) (by omega)⟩
    · refine ev_aload_n rfl ?_
      refine ev_in (d := 68) (a := 0) (b := 0) (cd' := c68_0) (m := 1) (L0 := [(2, 7)]) (jcall_v (A := []) (S' := []) (r := 7) rfl (g1.lt ad7) (g1.tg ad7) (Nat.le_of_ble_eq_true rfl)) (by decide) ml68 pp68 (Nat.le_of_ble_eq_true rfl) rfl (by decide) (by decide) ?_
      refine ev_aload_n rfl ?_
      refine g_getv (r := 7) (v := y0) g1 ad7 (by decide) ft5_2 (ey0) ?_
      refine ev_aload_n rfl ?_
      refine g_getv (r := 7) (v := w0) g1 ad7 (by decide) ft5_0 (((k1.v (by decide)).trans ew0)) ?_
      refine ev_icmpge f68_27 (fun c78481 => ?_) (fun c78481 => ?_)
      · refine ev_iconst ?_
        refine ev_ret rfl (by decide) (by decide) ?_
        show jEv _ _ _ _ _ _ _ (_, [(2, 7), (2, 1), j2], [(0, (-1))], _, _, _)
        refine ev_bipush ?_
        refine ev_aload_n rfl ?_
        refine g_getv (r := 7) (v := y3) g1 ad7 (by decide) ft5_4 (ey3) ?_
        refine ev_iadd (r := (y3 + 65)) (by unfold w32; omega) ?_
        refine ev_icmpne f67_105 (fun c78482 => ?_) (fun c78482 => absurd c78482 (by omega))
        refine ev_aload_n rfl ?_
        refine ev_aload_n rfl ?_
        refine ev_iconst ?_
        refine ev_iconst ?_
        refine ev_call (jcall_v (A := [(0, 0), (0, 0), (2, 1)]) (S' := []) (r := 7) rfl (g1.lt ad7) (g1.tg ad7) (Nat.le_of_ble_eq_true rfl)) (jOk_le (by decide) (t74 g1 (by omega) (by omega) (by omega) (by omega) (((k1.v (by decide)).trans ew0)) (by omega) (by omega) (ey0) (by omega) (by omega) (by rw [(ey1)]; omega) (ey2) (by omega) (by omega) (ey3) (by omega) (by omega) (by omega) (K := K) (q := 13) hK (by decide))) (by decide) (by decide) (fun w78483 h78483 q78483 => ?_)
        obtain ⟨v78484, rfl, g78483, kk78483, lv78484, uv78484, X78483⟩ := q78483
        have k78483 := k1.tr kk78483 (by decide)
        show jEv _ _ _ _ _ _ _ (_, [(2, 7), (2, 1), j2], [(0, v78484)], _, _, _)
        have X78485 := X78483
        rw [RC_kp k1 (fun _ => rfl) rfl (fun _ => rfl) rfl] at X78485
        obtain ⟨Q78485, eQ78485⟩ : ∃ R : RS, RC h y3 K 13 0 0 y0 = R := ⟨_, rfl⟩
        rw [eQ78485] at X78485
        have J78485 : KoC _ y3 K := KoC.go hK X78485.1 (ey2) X78485.2.1 (fun _ => kk78483.v rfl)
        rcases X78485.2.2 with ⟨c178485, c278485, c378485, c478485, d178485, d278485, d378485, d478485, d578485⟩ | ⟨c178485, c278485⟩
        · have G78485 := rd_g (B := bC h) (Y := yC h) (by have z := (g78483.rg ad1 (i := 0) (by decide) rf1_0).2; rw [k78483.v (by decide)] at z; omega) hK.1 13 0 0 (by decide) (by decide) (by decide) (by decide) y0 (by omega) (by show 0 ≤ (RC h y3 K 13 0 0 y0).1; rw [eQ78485]; exact c178485)
          rw [show rd (bC h) (h.2.2 1 0) (yC h) y3 K 13 0 0 y0 = Q78485 from eQ78485] at G78485
          obtain ⟨v78486, v78487, v78488, v78489⟩ := Q78485
          simp only [] at c178485 c378485 c478485 d378485 d478485 d578485 G78485
          obtain ⟨G178485, G278485, G378485, G478485, G578485, G678485, G778485⟩ := G78485
          have bv78486 := g78483.rg ad7 (i := 2) (by decide) rf7_2
          rw [c378485] at bv78486
          obtain ⟨v78490, ev78490⟩ : ∃ z : Int, mn v78489 = z := ⟨_, rfl⟩
          rw [ev78490] at d578485
          have fv78490 : 1 ≤ v78490 ∧ v78490 ≤ 1000 := by rw [← ev78490]; unfold mn; split <;> omega
          obtain ⟨v78492, ev78492, lv78492, uv78492⟩ := g78483.rd ad7 (show 3 < 15 by decide) rf7_3
          have m78485 := c478485
          have m278485 := d278485
          rw [ev78492] at m78485 m278485
          refine ev_istore_n (L' := [(2, 7), (2, 1), (0, v78484)]) (Nat.le_of_ble_eq_true rfl) rfl ?_
          refine ev_aload_n rfl ?_
          refine g_getv (r := 7) (v := (-1)) g78483 ad7 (by decide) ft5_1 (c278485) ?_
          refine ev_ifge f67_139 (fun c78493 => absurd c78493 (by omega)) (fun c78493 => ?_)
          refine ev_aload_n rfl ?_
          refine g_getv (r := 7) (v := v78486) g78483 ad7 (by decide) ft5_2 (c378485) ?_
          refine ev_aload_n rfl ?_
          refine g_getv (r := 7) (v := w0) g78483 ad7 (by decide) ft5_0 (((kk78483.v (by decide)).trans ((k1.v (by decide)).trans ew0))) ?_
          refine ev_icmpge f67_139 (fun c78494 => ?_) (fun c78494 => absurd c78494 (by omega))
          refine ev_aload_n rfl ?_
          refine g_getv (r := 7) (v := (-1)) g78483 ad7 (by decide) ft5_1 (c278485) ?_
          refine ev_iflt f67_150 (fun c78495 => ?_) (fun c78495 => absurd c78495 (by omega))
          refine ev_iload_n rfl ?_
          exact ev_ret rfl (by decide) (by decide) ⟨_, rfl, g78483, k78483, by omega, by omega, TxP.good (show (TC h 6 0 K00 0) = (v78486, v78487, v78488, v78489) by rw [(eR.trans (TC_z (Or.inr (fun z => absurd ((bC_end (p := y0) ew0 (by omega)).symm.trans z) (by omega))) eQ78485)), ew0]; unfold fiR; rw [if_neg (show ¬ v78486 < 0 by omega), if_neg (show ¬ v78486 < w0 by omega)]) (by omega) (by omega) (by rw [(ev78492)]; omega) (d578485) ev78490.symm (by omega)⟩
        · obtain ⟨v78491, ev78491⟩ : ∃ z : Int, -1 - Q78485.1 = z := ⟨_, rfl⟩
          rw [ev78491] at c278485
          have bv78491 := g78483.rg ad7 (i := 1) (by decide) rf7_1
          rw [c278485] at bv78491
          refine ev_istore_n (L' := [(2, 7), (2, 1), (0, v78484)]) (Nat.le_of_ble_eq_true rfl) rfl ?_
          refine ev_aload_n rfl ?_
          refine g_getv (r := 7) (v := v78491) g78483 ad7 (by decide) ft5_1 (c278485) ?_
          refine ev_ifge f67_139 (fun c78496 => ?_) (fun c78496 => absurd c78496 (by omega))
          refine ev_aload_n rfl ?_
          refine g_getv (r := 7) (v := v78491) g78483 ad7 (by decide) ft5_1 (c278485) ?_
          refine ev_iflt f67_150 (fun c78497 => absurd c78497 (by omega)) (fun c78497 => ?_)
          refine ev_iconst ?_
          refine ev_goto f67_151 ?_
          exact ev_ret rfl (by decide) (by decide) ⟨_, rfl, g78483, k78483, by omega, by omega, TxP.bad (q := Q78485.1) (by rw [(eR.trans (TC_z (Or.inr (fun z => absurd ((bC_end (p := y0) ew0 (by omega)).symm.trans z) (by omega))) eQ78485))]; unfold fiR; rw [if_pos c178485]) c178485 rfl (c278485) (by omega)⟩
      · refine ev_aload_n rfl ?_
        refine g_getp (r := 7) (c := 8) g1 ad7 (by decide) (by decide) rf7_5 ft5_5 ?_
        refine ev_aload_n rfl ?_
        refine g_getv (r := 7) (v := y0) g1 ad7 (by decide) ft5_2 (ey0) ?_
        refine g_bald g1 ad8 rt8 (by omega) (by omega) (fun v78498 ev78498 lv78498 uv78498 => ?_)
        refine ev_sipush ?_
        refine g_iandB (b := 255) (by omega) (by omega) (by decide) (fun v78499 ev78499 lv78499 uv78499 => ?_)
        have zv78499 := sgn ev78499 (by omega) (by omega)
        refine ev_goto f68_28 ?_
        refine ev_ret rfl (by decide) (by decide) ?_
        show jEv _ _ _ _ _ _ _ (_, [(2, 7), (2, 1), j2], [(0, v78499)], _, _, _)
        refine ev_bipush ?_
        refine ev_aload_n rfl ?_
        refine g_getv (r := 7) (v := y3) g1 ad7 (by decide) ft5_4 (ey3) ?_
        refine ev_iadd (r := (y3 + 65)) (by unfold w32; omega) ?_
        refine ev_icmpne f67_105 (fun c78500 => ?_) (fun c78500 => ?_)
        · refine ev_aload_n rfl ?_
          refine ev_aload_n rfl ?_
          refine ev_iconst ?_
          refine ev_iconst ?_
          refine ev_call (jcall_v (A := [(0, 0), (0, 0), (2, 1)]) (S' := []) (r := 7) rfl (g1.lt ad7) (g1.tg ad7) (Nat.le_of_ble_eq_true rfl)) (jOk_le (by decide) (t74 g1 (by omega) (by omega) (by omega) (by omega) (((k1.v (by decide)).trans ew0)) (by omega) (by omega) (ey0) (by omega) (by omega) (by rw [(ey1)]; omega) (ey2) (by omega) (by omega) (ey3) (by omega) (by omega) (by omega) (K := K) (q := 13) hK (by decide))) (by decide) (by decide) (fun w78501 h78501 q78501 => ?_)
          obtain ⟨v78502, rfl, g78501, kk78501, lv78502, uv78502, X78501⟩ := q78501
          have k78501 := k1.tr kk78501 (by decide)
          show jEv _ _ _ _ _ _ _ (_, [(2, 7), (2, 1), j2], [(0, v78502)], _, _, _)
          have X78503 := X78501
          rw [RC_kp k1 (fun _ => rfl) rfl (fun _ => rfl) rfl] at X78503
          obtain ⟨Q78503, eQ78503⟩ : ∃ R : RS, RC h y3 K 13 0 0 y0 = R := ⟨_, rfl⟩
          rw [eQ78503] at X78503
          have J78503 : KoC _ y3 K := KoC.go hK X78503.1 (ey2) X78503.2.1 (fun _ => kk78501.v rfl)
          rcases X78503.2.2 with ⟨c178503, c278503, c378503, c478503, d178503, d278503, d378503, d478503, d578503⟩ | ⟨c178503, c278503⟩
          · have G78503 := rd_g (B := bC h) (Y := yC h) (by have z := (g78501.rg ad1 (i := 0) (by decide) rf1_0).2; rw [k78501.v (by decide)] at z; omega) hK.1 13 0 0 (by decide) (by decide) (by decide) (by decide) y0 (by omega) (by show 0 ≤ (RC h y3 K 13 0 0 y0).1; rw [eQ78503]; exact c178503)
            rw [show rd (bC h) (h.2.2 1 0) (yC h) y3 K 13 0 0 y0 = Q78503 from eQ78503] at G78503
            obtain ⟨v78504, v78505, v78506, v78507⟩ := Q78503
            simp only [] at c178503 c378503 c478503 d378503 d478503 d578503 G78503
            obtain ⟨G178503, G278503, G378503, G478503, G578503, G678503, G778503⟩ := G78503
            have bv78504 := g78501.rg ad7 (i := 2) (by decide) rf7_2
            rw [c378503] at bv78504
            obtain ⟨v78508, ev78508⟩ : ∃ z : Int, mn v78507 = z := ⟨_, rfl⟩
            rw [ev78508] at d578503
            have fv78508 : 1 ≤ v78508 ∧ v78508 ≤ 1000 := by rw [← ev78508]; unfold mn; split <;> omega
            obtain ⟨v78510, ev78510, lv78510, uv78510⟩ := g78501.rd ad7 (show 3 < 15 by decide) rf7_3
            have m78503 := c478503
            have m278503 := d278503
            rw [ev78510] at m78503 m278503
            refine ev_istore_n (L' := [(2, 7), (2, 1), (0, v78502)]) (Nat.le_of_ble_eq_true rfl) rfl ?_
            refine ev_aload_n rfl ?_
            refine g_getv (r := 7) (v := (-1)) g78501 ad7 (by decide) ft5_1 (c278503) ?_
            refine ev_ifge f67_139 (fun c78511 => absurd c78511 (by omega)) (fun c78511 => ?_)
            refine ev_aload_n rfl ?_
            refine g_getv (r := 7) (v := v78504) g78501 ad7 (by decide) ft5_2 (c378503) ?_
            refine ev_aload_n rfl ?_
            refine g_getv (r := 7) (v := w0) g78501 ad7 (by decide) ft5_0 (((kk78501.v (by decide)).trans ((k1.v (by decide)).trans ew0))) ?_
            refine ev_icmpge f67_139 (fun c78512 => ?_) (fun c78512 => ?_)
            · refine ev_aload_n rfl ?_
              refine g_getv (r := 7) (v := (-1)) g78501 ad7 (by decide) ft5_1 (c278503) ?_
              refine ev_iflt f67_150 (fun c78513 => ?_) (fun c78513 => absurd c78513 (by omega))
              refine ev_iload_n rfl ?_
              exact ev_ret rfl (by decide) (by decide) ⟨_, rfl, g78501, k78501, by omega, by omega, TxP.good (show (TC h 6 0 K00 0) = (v78504, v78505, v78506, v78507) by rw [(eR.trans (TC_z (Or.inr (fun z => absurd ((bC_at (p := y0) k78501 (fun _ => rfl) ew0 (((kk78501.v rfl).trans ev78498)) (by omega) (by omega)).symm.trans z) (by omega))) eQ78503)), ew0]; unfold fiR; rw [if_neg (show ¬ v78504 < 0 by omega), if_neg (show ¬ v78504 < w0 by omega)]) (by omega) (by omega) (by rw [(ev78510)]; omega) (d578503) ev78508.symm (by omega)⟩
            · refine ev_aload_n rfl ?_
              refine ev_aload_n rfl ?_
              refine g_getv (r := 7) (v := v78504) g78501 ad7 (by decide) ft5_2 (c378503) ?_
              refine g_putf (r := 7) g78501 ad7 (by decide) ft5_1 (by decide) (fun e => absurd e nz5_1) rf7_1 (by decide) (by omega) (by omega) (fun h78514 e78514 g78514 => ?_)
              have k78514 := k78501.wr e78514 rfl
              refine ev_aload_n rfl ?_
              refine g_getv (r := 7) (v := v78504) g78514 ad7 (by decide) ft5_1 ((jw_eq e78514)) ?_
              refine ev_iflt f67_150 (fun c78515 => absurd c78515 (by omega)) (fun c78515 => ?_)
              refine ev_iconst ?_
              refine ev_goto f67_151 ?_
              exact ev_ret rfl (by decide) (by decide) ⟨_, rfl, g78514, k78514, by omega, by omega, TxP.bad (q := -1 - v78504) (by rw [(eR.trans (TC_z (Or.inr (fun z => absurd ((bC_at (p := y0) k78514 (fun _ => rfl) ew0 (((jw_ne e78514 (Or.inl (by decide))).trans ((kk78501.v rfl).trans ev78498))) (by omega) (by omega)).symm.trans z) (by omega))) eQ78503)), ew0]; unfold fiR; rw [if_neg (show ¬ v78504 < 0 by omega), if_pos (show v78504 < w0 by omega)]; rfl) (by omega) rfl ((jw_eq e78514)) (by omega)⟩
          · obtain ⟨v78509, ev78509⟩ : ∃ z : Int, -1 - Q78503.1 = z := ⟨_, rfl⟩
            rw [ev78509] at c278503
            have bv78509 := g78501.rg ad7 (i := 1) (by decide) rf7_1
            rw [c278503] at bv78509
            refine ev_istore_n (L' := [(2, 7), (2, 1), (0, v78502)]) (Nat.le_of_ble_eq_true rfl) rfl ?_
            refine ev_aload_n rfl ?_
            refine g_getv (r := 7) (v := v78509) g78501 ad7 (by decide) ft5_1 (c278503) ?_
            refine ev_ifge f67_139 (fun c78516 => ?_) (fun c78516 => absurd c78516 (by omega))
            refine ev_aload_n rfl ?_
            refine g_getv (r := 7) (v := v78509) g78501 ad7 (by decide) ft5_1 (c278503) ?_
            refine ev_iflt f67_150 (fun c78517 => absurd c78517 (by omega)) (fun c78517 => ?_)
            refine ev_iconst ?_
            refine ev_goto f67_151 ?_
            exact ev_ret rfl (by decide) (by decide) ⟨_, rfl, g78501, k78501, by omega, by omega, TxP.bad (q := Q78503.1) (by rw [(eR.trans (TC_z (Or.inr (fun z => absurd ((bC_at (p := y0) k78501 (fun _ => rfl) ew0 (((kk78501.v rfl).trans ev78498)) (by omega) (by omega)).symm.trans z) (by omega))) eQ78503))]; unfold fiR; rw [if_pos c178503]) c178503 rfl (c278503) (by omega)⟩
        · refine ev_aload_n rfl ?_
          refine ev_dup (by decide) ?_
          refine g_getv (r := 7) (v := y0) g1 ad7 (by decide) ft5_2 (ey0) ?_
          refine ev_iconst ?_
          refine ev_iadd (r := (y0 + 1)) (by unfold w32; omega) ?_
          refine g_putf (r := 7) g1 ad7 (by decide) ft5_2 (by decide) (fun e => absurd e nz5_2) rf7_2 (by decide) (by omega) (by omega) (fun h78518 e78518 g78518 => ?_)
          have k78518 := k1.wr e78518 rfl
          refine ev_aload_n rfl ?_
          refine ev_bipush ?_
          refine ev_in (d := 68) (a := 0) (b := 0) (cd' := c71_0) (m := 2) (L0 := [(2, 7), (0, 61)]) (jcall_v (A := [(0, 61)]) (S' := []) (r := 7) rfl (g78518.lt ad7) (g78518.tg ad7) (Nat.le_of_ble_eq_true rfl)) (by decide) ml71 pp71 (Nat.le_of_ble_eq_true rfl) rfl (by decide) (by decide) ?_
          refine ev_aload_n rfl ?_
          refine g_getv (r := 7) (v := y1) g78518 ad7 (by decide) ft5_1 (((jw_ne e78518 (Or.inr (by decide))).trans ey1)) ?_
          refine ev_iflt f71_8 (fun c78519 => ?_) (fun c78519 => absurd c78519 (by omega))
          refine ev_aload_n rfl ?_
          refine ev_in (d := 67) (a := 0) (b := 0) (cd' := c68_0) (m := 1) (L0 := [(2, 7)]) (jcall_v (A := []) (S' := []) (r := 7) rfl (g78518.lt ad7) (g78518.tg ad7) (Nat.le_of_ble_eq_true rfl)) (by decide) ml68 pp68 (Nat.le_of_ble_eq_true rfl) rfl (by decide) (by decide) ?_
          refine ev_aload_n rfl ?_
          refine g_getv (r := 7) (v := (y0 + 1)) g78518 ad7 (by decide) ft5_2 ((jw_eq e78518)) ?_
          refine ev_aload_n rfl ?_
          refine g_getv (r := 7) (v := w0) g78518 ad7 (by decide) ft5_0 (((jw_ne e78518 (Or.inr (by decide))).trans ((k1.v (by decide)).trans ew0))) ?_
          refine ev_icmpge f68_27 (fun c78520 => ?_) (fun c78520 => ?_)
          · refine ev_iconst ?_
            refine ev_ret rfl (by decide) (by decide) ?_
            show jEv _ _ _ _ _ _ _ (_, [(2, 7), (0, 61)], [(0, (-1))], _, _, _)
            refine ev_iload_n rfl ?_
            refine ev_icmpne f71_29 (fun c78521 => ?_) (fun c78521 => absurd c78521 (by omega))
            refine ev_aload_n rfl ?_
            refine ev_in (d := 67) (a := 0) (b := 0) (cd' := c70_0) (m := 1) (L0 := [(2, 7)]) (jcall_v (A := []) (S' := []) (r := 7) rfl (g78518.lt ad7) (g78518.tg ad7) (Nat.le_of_ble_eq_true rfl)) (by decide) ml70 pp70 (Nat.le_of_ble_eq_true rfl) rfl (by decide) (by decide) ?_
            refine ev_aload_n rfl ?_
            refine g_getv (r := 7) (v := y1) g78518 ad7 (by decide) ft5_1 (((jw_ne e78518 (Or.inr (by decide))).trans ey1)) ?_
            refine ev_ifge f70_15 (fun c78522 => absurd c78522 (by omega)) (fun c78522 => ?_)
            refine ev_aload_n rfl ?_
            refine ev_aload_n rfl ?_
            refine g_getv (r := 7) (v := (y0 + 1)) g78518 ad7 (by decide) ft5_2 ((jw_eq e78518)) ?_
            refine g_putf (r := 7) g78518 ad7 (by decide) ft5_1 (by decide) (fun e => absurd e nz5_1) rf7_1 (by decide) (by omega) (by omega) (fun h78523 e78523 g78523 => ?_)
            have k78523 := k78518.wr e78523 rfl
            refine ev_ret rfl (by decide) (by decide) ?_
            show jEv _ _ _ _ _ _ _ (_, [(2, 7), (0, 61)], [], _, _, _)
            refine ev_ret rfl (by decide) (by decide) ?_
            show jEv _ _ _ _ _ _ _ (_, [(2, 7), (2, 1), j2], [], _, _, _)
            refine ev_aload_n rfl ?_
            refine ev_aload_n rfl ?_
            refine ev_iconst ?_
            refine ev_iconst ?_
            refine ev_call (jcall_v (A := [(0, 0), (0, 0), (2, 1)]) (S' := []) (r := 7) rfl (g78523.lt ad7) (g78523.tg ad7) (Nat.le_of_ble_eq_true rfl)) (jOk_le (by decide) (t74z g78523 (by omega) (by omega) (by omega) (by omega) ((jw_eq e78523)) (by omega) (by omega))) (by decide) (by decide) (fun w78524 h78524 q78524 => ?_)
            obtain ⟨v78525, rfl, g78524, kk78524, lv78525, uv78525, X78524⟩ := q78524
            have k78524 := k78523.tr kk78524 (by decide)
            show jEv _ _ _ _ _ _ _ (_, [(2, 7), (2, 1), j2], [(0, v78525)], _, _, _)
            refine ev_istore_n (L' := [(2, 7), (2, 1), (0, v78525)]) (Nat.le_of_ble_eq_true rfl) rfl ?_
            refine ev_aload_n rfl ?_
            refine ev_bipush ?_
            refine ev_in (d := 68) (a := 0) (b := 0) (cd' := c71_0) (m := 2) (L0 := [(2, 7), (0, 59)]) (jcall_v (A := [(0, 59)]) (S' := []) (r := 7) rfl (g78524.lt ad7) (g78524.tg ad7) (Nat.le_of_ble_eq_true rfl)) (by decide) ml71 pp71 (Nat.le_of_ble_eq_true rfl) rfl (by decide) (by decide) ?_
            refine ev_aload_n rfl ?_
            refine g_getv (r := 7) (v := (y0 + 1)) g78524 ad7 (by decide) ft5_1 (((kk78524.v (by decide)).trans (jw_eq e78523))) ?_
            refine ev_iflt f71_8 (fun c78526 => absurd c78526 (by omega)) (fun c78526 => ?_)
            refine ev_ret rfl (by decide) (by decide) ?_
            show jEv _ _ _ _ _ _ _ (_, [(2, 7), (2, 1), (0, v78525)], [], _, _, _)
            refine ev_aload_n rfl ?_
            refine g_getv (r := 7) (v := (y0 + 1)) g78524 ad7 (by decide) ft5_1 (((kk78524.v (by decide)).trans (jw_eq e78523))) ?_
            refine ev_iflt f67_82 (fun c78527 => absurd c78527 (by omega)) (fun c78527 => ?_)
            refine ev_iconst ?_
            exact ev_ret rfl (by decide) (by decide) ⟨_, rfl, g78524, k78524, by omega, by omega, TxP.bad (q := -1 - (y0 + 1)) (by rw [(eR.trans (TC_1 (show 0 < (6 - y3).toNat by omega) ((bC_at (p := y0) k78524 (fun _ => rfl) ew0 (((kk78524.v rfl).trans ((jw_ne e78523 (Or.inl (by decide))).trans ((jw_ne e78518 (Or.inl (by decide))).trans ev78498)))) (by omega) (by omega)).trans (by omega)) (fun z => absurd ((bC_end (p := (y0 + 1)) ew0 (by omega)).symm.trans z) (by omega))))]; rfl) (by omega) rfl (((kk78524.v (by decide)).trans (jw_eq e78523))) (by omega)⟩
          · refine ev_aload_n rfl ?_
            refine g_getp (r := 7) (c := 8) g78518 ad7 (by decide) (by decide) rf7_5 ft5_5 ?_
            refine ev_aload_n rfl ?_
            refine g_getv (r := 7) (v := (y0 + 1)) g78518 ad7 (by decide) ft5_2 ((jw_eq e78518)) ?_
            refine g_bald g78518 ad8 rt8 (by omega) (by omega) (fun v78528 ev78528 lv78528 uv78528 => ?_)
            refine ev_sipush ?_
            refine g_iandB (b := 255) (by omega) (by omega) (by decide) (fun v78529 ev78529 lv78529 uv78529 => ?_)
            have zv78529 := sgn ev78529 (by omega) (by omega)
            refine ev_goto f68_28 ?_
            refine ev_ret rfl (by decide) (by decide) ?_
            show jEv _ _ _ _ _ _ _ (_, [(2, 7), (0, 61)], [(0, v78529)], _, _, _)
            refine ev_iload_n rfl ?_
            refine ev_icmpne f71_29 (fun c78530 => ?_) (fun c78530 => ?_)
            · refine ev_aload_n rfl ?_
              refine ev_in (d := 67) (a := 0) (b := 0) (cd' := c70_0) (m := 1) (L0 := [(2, 7)]) (jcall_v (A := []) (S' := []) (r := 7) rfl (g78518.lt ad7) (g78518.tg ad7) (Nat.le_of_ble_eq_true rfl)) (by decide) ml70 pp70 (Nat.le_of_ble_eq_true rfl) rfl (by decide) (by decide) ?_
              refine ev_aload_n rfl ?_
              refine g_getv (r := 7) (v := y1) g78518 ad7 (by decide) ft5_1 (((jw_ne e78518 (Or.inr (by decide))).trans ey1)) ?_
              refine ev_ifge f70_15 (fun c78531 => absurd c78531 (by omega)) (fun c78531 => ?_)
              refine ev_aload_n rfl ?_
              refine ev_aload_n rfl ?_
              refine g_getv (r := 7) (v := (y0 + 1)) g78518 ad7 (by decide) ft5_2 ((jw_eq e78518)) ?_
              refine g_putf (r := 7) g78518 ad7 (by decide) ft5_1 (by decide) (fun e => absurd e nz5_1) rf7_1 (by decide) (by omega) (by omega) (fun h78532 e78532 g78532 => ?_)
              have k78532 := k78518.wr e78532 rfl
              refine ev_ret rfl (by decide) (by decide) ?_
              show jEv _ _ _ _ _ _ _ (_, [(2, 7), (0, 61)], [], _, _, _)
              refine ev_ret rfl (by decide) (by decide) ?_
              show jEv _ _ _ _ _ _ _ (_, [(2, 7), (2, 1), j2], [], _, _, _)
              refine ev_aload_n rfl ?_
              refine ev_aload_n rfl ?_
              refine ev_iconst ?_
              refine ev_iconst ?_
              refine ev_call (jcall_v (A := [(0, 0), (0, 0), (2, 1)]) (S' := []) (r := 7) rfl (g78532.lt ad7) (g78532.tg ad7) (Nat.le_of_ble_eq_true rfl)) (jOk_le (by decide) (t74z g78532 (by omega) (by omega) (by omega) (by omega) ((jw_eq e78532)) (by omega) (by omega))) (by decide) (by decide) (fun w78533 h78533 q78533 => ?_)
              obtain ⟨v78534, rfl, g78533, kk78533, lv78534, uv78534, X78533⟩ := q78533
              have k78533 := k78532.tr kk78533 (by decide)
              show jEv _ _ _ _ _ _ _ (_, [(2, 7), (2, 1), j2], [(0, v78534)], _, _, _)
              refine ev_istore_n (L' := [(2, 7), (2, 1), (0, v78534)]) (Nat.le_of_ble_eq_true rfl) rfl ?_
              refine ev_aload_n rfl ?_
              refine ev_bipush ?_
              refine ev_in (d := 68) (a := 0) (b := 0) (cd' := c71_0) (m := 2) (L0 := [(2, 7), (0, 59)]) (jcall_v (A := [(0, 59)]) (S' := []) (r := 7) rfl (g78533.lt ad7) (g78533.tg ad7) (Nat.le_of_ble_eq_true rfl)) (by decide) ml71 pp71 (Nat.le_of_ble_eq_true rfl) rfl (by decide) (by decide) ?_
              refine ev_aload_n rfl ?_
              refine g_getv (r := 7) (v := (y0 + 1)) g78533 ad7 (by decide) ft5_1 (((kk78533.v (by decide)).trans (jw_eq e78532))) ?_
              refine ev_iflt f71_8 (fun c78535 => absurd c78535 (by omega)) (fun c78535 => ?_)
              refine ev_ret rfl (by decide) (by decide) ?_
              show jEv _ _ _ _ _ _ _ (_, [(2, 7), (2, 1), (0, v78534)], [], _, _, _)
              refine ev_aload_n rfl ?_
              refine g_getv (r := 7) (v := (y0 + 1)) g78533 ad7 (by decide) ft5_1 (((kk78533.v (by decide)).trans (jw_eq e78532))) ?_
              refine ev_iflt f67_82 (fun c78536 => absurd c78536 (by omega)) (fun c78536 => ?_)
              refine ev_iconst ?_
              exact ev_ret rfl (by decide) (by decide) ⟨_, rfl, g78533, k78533, by omega, by omega, TxP.bad (q := -1 - (y0 + 1)) (by rw [(eR.trans (TC_1 (show 0 < (6 - y3).toNat by omega) ((bC_at (p := y0) k78533 (fun _ => rfl) ew0 (((kk78533.v rfl).trans ((jw_ne e78532 (Or.inl (by decide))).trans ((jw_ne e78518 (Or.inl (by decide))).trans ev78498)))) (by omega) (by omega)).trans (by omega)) (fun z => absurd ((bC_at (p := (y0 + 1)) k78533 (fun _ => rfl) ew0 (((kk78533.v rfl).trans ((jw_ne e78532 (Or.inl (by decide))).trans ev78528))) (by omega) (by omega)).symm.trans z) (by omega))))]; rfl) (by omega) rfl (((kk78533.v (by decide)).trans (jw_eq e78532))) (by omega)⟩
            · refine ev_aload_n rfl ?_
              refine ev_dup (by decide) ?_
              refine g_getv (r := 7) (v := (y0 + 1)) g78518 ad7 (by decide) ft5_2 ((jw_eq e78518)) ?_
              refine ev_iconst ?_
              refine ev_iadd (r := (y0 + 2)) (by unfold w32; omega) ?_
              refine g_putf (r := 7) g78518 ad7 (by decide) ft5_2 (by decide) (fun e => absurd e nz5_2) rf7_2 (by decide) (by omega) (by omega) (fun h78537 e78537 g78537 => ?_)
              have k78537 := k78518.wr e78537 rfl
              refine ev_goto f71_33 ?_
              refine ev_ret rfl (by decide) (by decide) ?_
              show jEv _ _ _ _ _ _ _ (_, [(2, 7), (2, 1), j2], [], _, _, _)
              refine ev_aload_n rfl ?_
              refine ev_aload_n rfl ?_
              refine ev_iconst ?_
              refine ev_iconst ?_
              refine ev_call (jcall_v (A := [(0, 0), (0, 0), (2, 1)]) (S' := []) (r := 7) rfl (g78537.lt ad7) (g78537.tg ad7) (Nat.le_of_ble_eq_true rfl)) (jOk_le (by decide) (t74 g78537 (by omega) (by omega) (by omega) (by omega) (((jw_ne e78537 (Or.inr (by decide))).trans ((jw_ne e78518 (Or.inr (by decide))).trans ((k1.v (by decide)).trans ew0)))) (by omega) (by omega) ((jw_eq e78537)) (by omega) (by omega) (by rw [(((jw_ne e78537 (Or.inr (by decide))).trans ((jw_ne e78518 (Or.inr (by decide))).trans ey1)))]; omega) (((jw_ne e78537 (Or.inr (by decide))).trans ((jw_ne e78518 (Or.inr (by decide))).trans ey2))) (by omega) (by omega) (((jw_ne e78537 (Or.inr (by decide))).trans ((jw_ne e78518 (Or.inr (by decide))).trans ey3))) (by omega) (by omega) (by omega) (K := K) (q := 13) (KoC.wn (KoC.wn hK e78518 (by decide)) e78537 (by decide)) (by decide))) (by decide) (by decide) (fun w78538 h78538 q78538 => ?_)
              obtain ⟨v78539, rfl, g78538, kk78538, lv78539, uv78539, X78538⟩ := q78538
              have k78538 := k78537.tr kk78538 (by decide)
              show jEv _ _ _ _ _ _ _ (_, [(2, 7), (2, 1), j2], [(0, v78539)], _, _, _)
              have X78540 := X78538
              rw [RC_kp k78537 (fun _ => rfl) rfl (fun _ => rfl) rfl] at X78540
              obtain ⟨Q78540, eQ78540⟩ : ∃ R : RS, RC h y3 K 13 0 0 (y0 + 2) = R := ⟨_, rfl⟩
              rw [eQ78540] at X78540
              have J78540 : KoC _ y3 K := KoC.go (KoC.wn (KoC.wn hK e78518 (by decide)) e78537 (by decide)) X78540.1 (((jw_ne e78537 (Or.inr (by decide))).trans ((jw_ne e78518 (Or.inr (by decide))).trans ey2))) X78540.2.1 (fun _ => kk78538.v rfl)
              rcases X78540.2.2 with ⟨c178540, c278540, c378540, c478540, d178540, d278540, d378540, d478540, d578540⟩ | ⟨c178540, c278540⟩
              · have G78540 := rd_g (B := bC h) (Y := yC h) (by have z := (g78538.rg ad1 (i := 0) (by decide) rf1_0).2; rw [k78538.v (by decide)] at z; omega) hK.1 13 0 0 (by decide) (by decide) (by decide) (by decide) (y0 + 2) (by omega) (by show 0 ≤ (RC h y3 K 13 0 0 (y0 + 2)).1; rw [eQ78540]; exact c178540)
                rw [show rd (bC h) (h.2.2 1 0) (yC h) y3 K 13 0 0 (y0 + 2) = Q78540 from eQ78540] at G78540
                obtain ⟨v78541, v78542, v78543, v78544⟩ := Q78540
                simp only [] at c178540 c378540 c478540 d378540 d478540 d578540 G78540
                obtain ⟨G178540, G278540, G378540, G478540, G578540, G678540, G778540⟩ := G78540
                have bv78541 := g78538.rg ad7 (i := 2) (by decide) rf7_2
                rw [c378540] at bv78541
                obtain ⟨v78545, ev78545⟩ : ∃ z : Int, mn v78544 = z := ⟨_, rfl⟩
                rw [ev78545] at d578540
                have fv78545 : 1 ≤ v78545 ∧ v78545 ≤ 1000 := by rw [← ev78545]; unfold mn; split <;> omega
                obtain ⟨v78547, ev78547, lv78547, uv78547⟩ := g78538.rd ad7 (show 3 < 15 by decide) rf7_3
                have m78540 := c478540
                have m278540 := d278540
                rw [ev78547] at m78540 m278540
                refine ev_istore_n (L' := [(2, 7), (2, 1), (0, v78539)]) (Nat.le_of_ble_eq_true rfl) rfl ?_
                refine ev_aload_n rfl ?_
                refine ev_bipush ?_
                refine ev_in (d := 68) (a := 0) (b := 0) (cd' := c71_0) (m := 2) (L0 := [(2, 7), (0, 59)]) (jcall_v (A := [(0, 59)]) (S' := []) (r := 7) rfl (g78538.lt ad7) (g78538.tg ad7) (Nat.le_of_ble_eq_true rfl)) (by decide) ml71 pp71 (Nat.le_of_ble_eq_true rfl) rfl (by decide) (by decide) ?_
                refine ev_aload_n rfl ?_
                refine g_getv (r := 7) (v := (-1)) g78538 ad7 (by decide) ft5_1 (c278540) ?_
                refine ev_iflt f71_8 (fun c78548 => ?_) (fun c78548 => absurd c78548 (by omega))
                refine ev_aload_n rfl ?_
                refine ev_in (d := 67) (a := 0) (b := 0) (cd' := c68_0) (m := 1) (L0 := [(2, 7)]) (jcall_v (A := []) (S' := []) (r := 7) rfl (g78538.lt ad7) (g78538.tg ad7) (Nat.le_of_ble_eq_true rfl)) (by decide) ml68 pp68 (Nat.le_of_ble_eq_true rfl) rfl (by decide) (by decide) ?_
                refine ev_aload_n rfl ?_
                refine g_getv (r := 7) (v := v78541) g78538 ad7 (by decide) ft5_2 (c378540) ?_
                refine ev_aload_n rfl ?_
                refine g_getv (r := 7) (v := w0) g78538 ad7 (by decide) ft5_0 (((kk78538.v (by decide)).trans ((jw_ne e78537 (Or.inr (by decide))).trans ((jw_ne e78518 (Or.inr (by decide))).trans ((k1.v (by decide)).trans ew0))))) ?_
                refine ev_icmpge f68_27 (fun c78549 => ?_) (fun c78549 => ?_)
                · refine ev_iconst ?_
                  refine ev_ret rfl (by decide) (by decide) ?_
                  show jEv _ _ _ _ _ _ _ (_, [(2, 7), (0, 59)], [(0, (-1))], _, _, _)
                  refine ev_iload_n rfl ?_
                  refine ev_icmpne f71_29 (fun c78550 => ?_) (fun c78550 => absurd c78550 (by omega))
                  refine ev_aload_n rfl ?_
                  refine ev_in (d := 67) (a := 0) (b := 0) (cd' := c70_0) (m := 1) (L0 := [(2, 7)]) (jcall_v (A := []) (S' := []) (r := 7) rfl (g78538.lt ad7) (g78538.tg ad7) (Nat.le_of_ble_eq_true rfl)) (by decide) ml70 pp70 (Nat.le_of_ble_eq_true rfl) rfl (by decide) (by decide) ?_
                  refine ev_aload_n rfl ?_
                  refine g_getv (r := 7) (v := (-1)) g78538 ad7 (by decide) ft5_1 (c278540) ?_
                  refine ev_ifge f70_15 (fun c78551 => absurd c78551 (by omega)) (fun c78551 => ?_)
                  refine ev_aload_n rfl ?_
                  refine ev_aload_n rfl ?_
                  refine g_getv (r := 7) (v := v78541) g78538 ad7 (by decide) ft5_2 (c378540) ?_
                  refine g_putf (r := 7) g78538 ad7 (by decide) ft5_1 (by decide) (fun e => absurd e nz5_1) rf7_1 (by decide) (by omega) (by omega) (fun h78552 e78552 g78552 => ?_)
                  have k78552 := k78538.wr e78552 rfl
                  refine ev_ret rfl (by decide) (by decide) ?_
                  show jEv _ _ _ _ _ _ _ (_, [(2, 7), (0, 59)], [], _, _, _)
                  refine ev_ret rfl (by decide) (by decide) ?_
                  show jEv _ _ _ _ _ _ _ (_, [(2, 7), (2, 1), (0, v78539)], [], _, _, _)
                  refine ev_aload_n rfl ?_
                  refine g_getv (r := 7) (v := v78541) g78552 ad7 (by decide) ft5_1 ((jw_eq e78552)) ?_
                  refine ev_iflt f67_82 (fun c78553 => absurd c78553 (by omega)) (fun c78553 => ?_)
                  refine ev_iconst ?_
                  exact ev_ret rfl (by decide) (by decide) ⟨_, rfl, g78552, k78552, by omega, by omega, TxP.bad (q := -1 - v78541) (by rw [(eR.trans (TC_x (show 0 < (6 - y3).toNat by omega) ((bC_at (p := y0) k78552 (fun _ => rfl) ew0 (((jw_ne e78552 (Or.inl (by decide))).trans ((kk78538.v rfl).trans ((jw_ne e78537 (Or.inl (by decide))).trans ((jw_ne e78518 (Or.inl (by decide))).trans ev78498))))) (by omega) (by omega)).trans (by omega)) ((bC_at (p := (y0 + 1)) k78552 (fun _ => rfl) ew0 (((jw_ne e78552 (Or.inl (by decide))).trans ((kk78538.v rfl).trans ((jw_ne e78537 (Or.inl (by decide))).trans ev78528)))) (by omega) (by omega)).trans (by omega)) eQ78540 (by omega) (fun z => absurd ((bC_end (p := v78541) ew0 (by omega)).symm.trans z) (by omega))))]; rfl) (by omega) rfl ((jw_eq e78552)) (by omega)⟩
                · refine ev_aload_n rfl ?_
                  refine g_getp (r := 7) (c := 8) g78538 ad7 (by decide) (by decide) rf7_5 ft5_5 ?_
                  refine ev_aload_n rfl ?_
                  refine g_getv (r := 7) (v := v78541) g78538 ad7 (by decide) ft5_2 (c378540) ?_
                  refine g_bald g78538 ad8 rt8 (by omega) (by omega) (fun v78554 ev78554 lv78554 uv78554 => ?_)
                  refine ev_sipush ?_
                  refine g_iandB (b := 255) (by omega) (by omega) (by decide) (fun v78555 ev78555 lv78555 uv78555 => ?_)
                  have zv78555 := sgn ev78555 (by omega) (by omega)
                  refine ev_goto f68_28 ?_
                  refine ev_ret rfl (by decide) (by decide) ?_
                  show jEv _ _ _ _ _ _ _ (_, [(2, 7), (0, 59)], [(0, v78555)], _, _, _)
                  refine ev_iload_n rfl ?_
                  refine ev_icmpne f71_29 (fun c78556 => ?_) (fun c78556 => ?_)
                  · refine ev_aload_n rfl ?_
                    refine ev_in (d := 67) (a := 0) (b := 0) (cd' := c70_0) (m := 1) (L0 := [(2, 7)]) (jcall_v (A := []) (S' := []) (r := 7) rfl (g78538.lt ad7) (g78538.tg ad7) (Nat.le_of_ble_eq_true rfl)) (by decide) ml70 pp70 (Nat.le_of_ble_eq_true rfl) rfl (by decide) (by decide) ?_
                    refine ev_aload_n rfl ?_
                    refine g_getv (r := 7) (v := (-1)) g78538 ad7 (by decide) ft5_1 (c278540) ?_
                    refine ev_ifge f70_15 (fun c78557 => absurd c78557 (by omega)) (fun c78557 => ?_)
                    refine ev_aload_n rfl ?_
                    refine ev_aload_n rfl ?_
                    refine g_getv (r := 7) (v := v78541) g78538 ad7 (by decide) ft5_2 (c378540) ?_
                    refine g_putf (r := 7) g78538 ad7 (by decide) ft5_1 (by decide) (fun e => absurd e nz5_1) rf7_1 (by decide) (by omega) (by omega) (fun h78558 e78558 g78558 => ?_)
                    have k78558 := k78538.wr e78558 rfl
                    refine ev_ret rfl (by decide) (by decide) ?_
                    show jEv _ _ _ _ _ _ _ (_, [(2, 7), (0, 59)], [], _, _, _)
                    refine ev_ret rfl (by decide) (by decide) ?_
                    show jEv _ _ _ _ _ _ _ (_, [(2, 7), (2, 1), (0, v78539)], [], _, _, _)
                    refine ev_aload_n rfl ?_
                    refine g_getv (r := 7) (v := v78541) g78558 ad7 (by decide) ft5_1 ((jw_eq e78558)) ?_
                    refine ev_iflt f67_82 (fun c78559 => absurd c78559 (by omega)) (fun c78559 => ?_)
                    refine ev_iconst ?_
                    exact ev_ret rfl (by decide) (by decide) ⟨_, rfl, g78558, k78558, by omega, by omega, TxP.bad (q := -1 - v78541) (by rw [(eR.trans (TC_x (show 0 < (6 - y3).toNat by omega) ((bC_at (p := y0) k78558 (fun _ => rfl) ew0 (((jw_ne e78558 (Or.inl (by decide))).trans ((kk78538.v rfl).trans ((jw_ne e78537 (Or.inl (by decide))).trans ((jw_ne e78518 (Or.inl (by decide))).trans ev78498))))) (by omega) (by omega)).trans (by omega)) ((bC_at (p := (y0 + 1)) k78558 (fun _ => rfl) ew0 (((jw_ne e78558 (Or.inl (by decide))).trans ((kk78538.v rfl).trans ((jw_ne e78537 (Or.inl (by decide))).trans ev78528)))) (by omega) (by omega)).trans (by omega)) eQ78540 (by omega) (fun z => absurd ((bC_at (p := v78541) k78558 (fun _ => rfl) ew0 (((jw_ne e78558 (Or.inl (by decide))).trans ev78554)) (by omega) (by omega)).symm.trans z) (by omega))))]; rfl) (by omega) rfl ((jw_eq e78558)) (by omega)⟩
                  · refine ev_aload_n rfl ?_
                    refine ev_dup (by decide) ?_
                    refine g_getv (r := 7) (v := v78541) g78538 ad7 (by decide) ft5_2 (c378540) ?_
                    refine ev_iconst ?_
                    refine ev_iadd (r := (v78541 + 1)) (by unfold w32; omega) ?_
                    refine g_putf (r := 7) g78538 ad7 (by decide) ft5_2 (by decide) (fun e => absurd e nz5_2) rf7_2 (by decide) (by omega) (by omega) (fun h78560 e78560 g78560 => ?_)
                    have k78560 := k78538.wr e78560 rfl
                    refine ev_goto f71_33 ?_
                    refine ev_ret rfl (by decide) (by decide) ?_
                    show jEv _ _ _ _ _ _ _ (_, [(2, 7), (2, 1), (0, v78539)], [], _, _, _)
                    refine ev_aload_n rfl ?_
                    refine g_getv (r := 7) (v := (-1)) g78560 ad7 (by decide) ft5_1 (((jw_ne e78560 (Or.inr (by decide))).trans c278540)) ?_
                    refine ev_iflt f67_82 (fun c78561 => ?_) (fun c78561 => absurd c78561 (by omega))
                    refine ev_aload_n rfl ?_
                    refine g_getp (r := 7) (c := 9) g78560 ad7 (by decide) (by decide) rf7_6 ft5_6 ?_
                    refine ev_aload_n rfl ?_
                    refine g_getv (r := 7) (v := y3) g78560 ad7 (by decide) ft5_4 (((jw_ne e78560 (Or.inr (by decide))).trans ((kk78538.v (by decide)).trans ((jw_ne e78537 (Or.inr (by decide))).trans ((jw_ne e78518 (Or.inr (by decide))).trans ey3))))) ?_
                    refine ev_iload_n rfl ?_
                    refine g_iast g78560 ad9 rt9 (fun _ => rfl) (by omega) (by omega) (by omega) (by omega) (fun h78562 e78562 g78562 => ?_)
                    have k78562 := k78560.wr e78562 rfl
                    refine ev_aload_n rfl ?_
                    refine ev_dup (by decide) ?_
                    refine g_getv (r := 7) (v := y3) g78562 ad7 (by decide) ft5_4 (((jw_ne e78562 (Or.inl (by decide))).trans ((jw_ne e78560 (Or.inr (by decide))).trans ((kk78538.v (by decide)).trans ((jw_ne e78537 (Or.inr (by decide))).trans ((jw_ne e78518 (Or.inr (by decide))).trans ey3)))))) ?_
                    refine ev_iconst ?_
                    refine ev_iadd (r := (y3 + 1)) (by unfold w32; omega) ?_
                    refine g_putf (r := 7) g78562 ad7 (by decide) ft5_4 (by decide) (fun e => absurd e nz5_4) rf7_4 (by decide) (by omega) (by omega) (fun h78563 e78563 g78563 => ?_)
                    have k78563 := k78562.wr e78563 rfl
                    refine ev_goto f67_20 ?_
                    exact ih _ _ _ _ _ _ g78563 k78563 (by omega) (((jw_ne e78563 (Or.inr (by decide))).trans ((jw_ne e78562 (Or.inl (by decide))).trans (jw_eq e78560)))) (by omega) (by omega) (((jw_ne e78563 (Or.inr (by decide))).trans ((jw_ne e78562 (Or.inl (by decide))).trans ((jw_ne e78560 (Or.inr (by decide))).trans c278540)))) (by omega) (by omega) (((jw_ne e78563 (Or.inr (by decide))).trans ((jw_ne e78562 (Or.inl (by decide))).trans ((jw_ne e78560 (Or.inr (by decide))).trans ev78547)))) (by omega) (by omega) ((jw_eq e78563)) (by omega) (by omega) ⟨upK K y3 (v78542, v78543, v78544), KoC.put (KoC.wn J78540 e78560 (by decide)) (by omega) e78562 e78563 (by omega) (((jw_ne e78563 (Or.inr (by decide))).trans ((jw_ne e78562 (Or.inl (by decide))).trans ((jw_ne e78560 (Or.inr (by decide))).trans ev78547)))) (by omega) (((jw_ne e78563 (Or.inl (by decide))).trans ((jw_ne e78562 (Or.inl (by decide))).trans ((jw_ne e78560 (Or.inl (by decide))).trans d378540)))) (((jw_ne e78563 (Or.inl (by decide))).trans ((jw_ne e78562 (Or.inl (by decide))).trans ((jw_ne e78560 (Or.inl (by decide))).trans d478540)))) ((((jw_ne e78563 (Or.inl (by decide))).trans ((jw_ne e78562 (Or.inl (by decide))).trans ((jw_ne e78560 (Or.inl (by decide))).trans d578540)))).trans ev78545.symm) (by omega) (by omega) (by omega) (by omega), (eR.trans (TC_k (show 0 < (6 - y3).toNat by omega) ((bC_at (p := y0) k78563 (fun _ => rfl) ew0 (((jw_ne e78563 (Or.inl (by decide))).trans ((jw_ne e78562 (Or.inl (by decide))).trans ((jw_ne e78560 (Or.inl (by decide))).trans ((kk78538.v rfl).trans ((jw_ne e78537 (Or.inl (by decide))).trans ((jw_ne e78518 (Or.inl (by decide))).trans ev78498))))))) (by omega) (by omega)).trans (by omega)) ((bC_at (p := (y0 + 1)) k78563 (fun _ => rfl) ew0 (((jw_ne e78563 (Or.inl (by decide))).trans ((jw_ne e78562 (Or.inl (by decide))).trans ((jw_ne e78560 (Or.inl (by decide))).trans ((kk78538.v rfl).trans ((jw_ne e78537 (Or.inl (by decide))).trans ev78528)))))) (by omega) (by omega)).trans (by omega)) eQ78540 (by omega) ((bC_at (p := v78541) k78563 (fun _ => rfl) ew0 (((jw_ne e78563 (Or.inl (by decide))).trans ((jw_ne e78562 (Or.inl (by decide))).trans ((jw_ne e78560 (Or.inl (by decide))).trans ev78554)))) (by omega) (by omega)).trans (by omega)))).trans (by rw [show (6 - y3).toNat - 1 = (6 - (y3 + 1)).toNat by omega])⟩ (by omega)
              · obtain ⟨v78546, ev78546⟩ : ∃ z : Int, -1 - Q78540.1 = z := ⟨_, rfl⟩
                rw [ev78546] at c278540
                have bv78546 := g78538.rg ad7 (i := 1) (by decide) rf7_1
                rw [c278540] at bv78546
                refine ev_istore_n (L' := [(2, 7), (2, 1), (0, v78539)]) (Nat.le_of_ble_eq_true rfl) rfl ?_
                refine ev_aload_n rfl ?_
                refine ev_bipush ?_
                refine ev_in (d := 68) (a := 0) (b := 0) (cd' := c71_0) (m := 2) (L0 := [(2, 7), (0, 59)]) (jcall_v (A := [(0, 59)]) (S' := []) (r := 7) rfl (g78538.lt ad7) (g78538.tg ad7) (Nat.le_of_ble_eq_true rfl)) (by decide) ml71 pp71 (Nat.le_of_ble_eq_true rfl) rfl (by decide) (by decide) ?_
                refine ev_aload_n rfl ?_
                refine g_getv (r := 7) (v := v78546) g78538 ad7 (by decide) ft5_1 (c278540) ?_
                refine ev_iflt f71_8 (fun c78564 => absurd c78564 (by omega)) (fun c78564 => ?_)
                refine ev_ret rfl (by decide) (by decide) ?_
                show jEv _ _ _ _ _ _ _ (_, [(2, 7), (2, 1), (0, v78539)], [], _, _, _)
                refine ev_aload_n rfl ?_
                refine g_getv (r := 7) (v := v78546) g78538 ad7 (by decide) ft5_1 (c278540) ?_
                refine ev_iflt f67_82 (fun c78565 => absurd c78565 (by omega)) (fun c78565 => ?_)
                refine ev_iconst ?_
                exact ev_ret rfl (by decide) (by decide) ⟨_, rfl, g78538, k78538, by omega, by omega, TxP.bad (q := Q78540.1) (by rw [(eR.trans (TC_f (show 0 < (6 - y3).toNat by omega) ((bC_at (p := y0) k78538 (fun _ => rfl) ew0 (((kk78538.v rfl).trans ((jw_ne e78537 (Or.inl (by decide))).trans ((jw_ne e78518 (Or.inl (by decide))).trans ev78498)))) (by omega) (by omega)).trans (by omega)) ((bC_at (p := (y0 + 1)) k78538 (fun _ => rfl) ew0 (((kk78538.v rfl).trans ((jw_ne e78537 (Or.inl (by decide))).trans ev78528))) (by omega) (by omega)).trans (by omega)) eQ78540 c178540))]) c178540 rfl (c278540) (by omega)⟩
set_option maxHeartbeats 4000000 in
theorem t67 {G : GH} {h : JH} (g : Gd G h) {w0 : Int} (ew0 : h.2.2 7 0 = w0) (lw0 : 0 ≤ w0) (uw0 : w0 ≤ 200) : jOk 70 0 0 67 [(2, 7), (2, 1)] h (fun v h' => ∃ r : Int, v = some (0, r) ∧ Gd G h' ∧ Kp [(7, 2), (7, 3), (7, 4), (10, 0), (11, 0), (12, 0), (13, 0), (14, 0), (15, 0), (16, 0), (17, 0), (7, 5), (9, 0)] h h' ∧ (-1) ≤ r ∧ r ≤ 199 ∧ TxP h' (TC h 6 0 K00 0) r) := by
  refine ⟨by decide, by rw [ml67]; exact Nat.le_of_ble_eq_true rfl, ?_⟩
  rw [ml67, pp67]
  show jEv _ none _ c67_0 0 0 _ (c67_0, [(2, 7), (2, 1), (9, 0)], [], h, 0, 0)
  have k0 := Kp.rf [(7, 2), (7, 3), (7, 4), (10, 0), (11, 0), (12, 0), (13, 0), (14, 0), (15, 0), (16, 0), (17, 0), (7, 5), (9, 0)] h
  refine ev_aload_n rfl ?_
  refine ev_iconst ?_
  refine g_putf (r := 7) g ad7 (by decide) ft5_2 (by decide) (fun e => absurd e nz5_2) rf7_2 (by decide) (by omega) (by omega) (fun h78566 e78566 g78566 => ?_)
  have k78566 := k0.wr e78566 rfl
  refine ev_aload_n rfl ?_
  refine ev_iconst ?_
  refine g_putf (r := 7) g78566 ad7 (by decide) ft5_1 (by decide) (fun e => absurd e nz5_1) rf7_1 (by decide) (by omega) (by omega) (fun h78567 e78567 g78567 => ?_)
  have k78567 := k78566.wr e78567 rfl
  refine ev_aload_n rfl ?_
  refine ev_iconst ?_
  refine g_putf (r := 7) g78567 ad7 (by decide) ft5_3 (by decide) (fun e => absurd e nz5_3) rf7_3 (by decide) (by omega) (by omega) (fun h78568 e78568 g78568 => ?_)
  have k78568 := k78567.wr e78568 rfl
  refine ev_aload_n rfl ?_
  refine ev_iconst ?_
  refine g_putf (r := 7) g78568 ad7 (by decide) ft5_4 (by decide) (fun e => absurd e nz5_4) rf7_4 (by decide) (by omega) (by omega) (fun h78569 e78569 g78569 => ?_)
  have k78569 := k78568.wr e78569 rfl
  exact (t67_l ew0 lw0 uw0 14) _ _ _ _ _ _ g78569 k78569 (by omega) (((jw_ne e78569 (Or.inr (by decide))).trans ((jw_ne e78568 (Or.inr (by decide))).trans ((jw_ne e78567 (Or.inr (by decide))).trans (jw_eq e78566))))) (by omega) (by omega) (((jw_ne e78569 (Or.inr (by decide))).trans ((jw_ne e78568 (Or.inr (by decide))).trans (jw_eq e78567)))) (by omega) (by omega) (((jw_ne e78569 (Or.inr (by decide))).trans (jw_eq e78568))) (by omega) (by omega) ((jw_eq e78569)) (by omega) (by omega) ⟨K00, KoC.zero (by omega), rfl⟩ (by omega)
set_option maxHeartbeats 4000000 in
theorem t173 {G : GH} {h : JH} (g : Gd G h) {w0 : Int} (ew0 : h.2.2 0 3 = w0) (lw0 : 0 ≤ w0) (uw0 : w0 ≤ 6) {w1 : Int} (ew1 : h.2.2 7 0 = w1) (lw1 : 0 ≤ w1) (uw1 : w1 ≤ 200) (hB : h.1 ≤ 1000000) : jOk 71 13 1814 173 [(2, 0)] h (fun v h' => ∃ r : Int, v = some (0, r) ∧ (-300) ≤ r ∧ r ≤ 6 ∧ (∃ G', Gd G' h') ∧ Kx [(7, 2), (7, 3), (7, 4), (10, 0), (11, 0), (12, 0), (13, 0), (14, 0), (15, 0), (16, 0), (17, 0), (7, 5), (9, 0), (7, 1), (0, 4), (18, 0), (1000000, 0)] h h' ∧ h'.1 ≤ h.1 + 13 ∧ r = qzA w0 (TC h 6 0 K00 0) ∧ h'.2.2 0 3 = qzN w0 (TC h 6 0 K00 0) ∧ h'.2.2 7 0 = (if w0 = 6 then 0 + w1 else 0)) := by
  refine ⟨by decide, by rw [ml173]; exact Nat.le_of_ble_eq_true rfl, ?_⟩
  rw [ml173, pp173]
  show jEv _ none _ c173_0 13 1814 _ (c173_0, [(2, 0), (9, 0), (9, 0)], [], h, 0, 0)
  have k0 := Kp.rf [(7, 2), (7, 3), (7, 4), (10, 0), (11, 0), (12, 0), (13, 0), (14, 0), (15, 0), (16, 0), (17, 0), (7, 5), (9, 0), (7, 1), (0, 4), (18, 0), (1000000, 0)] h
  refine ev_aload_n rfl ?_
  refine g_getv (r := 0) (v := w0) g ad0 (by decide) ft11_3 (ew0) ?_
  refine ev_bipush ?_
  refine ev_icmplt f173_12 (fun c78610 => ?_) (fun c78610 => ?_)
  · refine ev_aload_n rfl ?_
    refine g_getp (r := 0) (c := 7) g ad0 (by decide) (by decide) rf0_1 ft11_1 ?_
    refine ev_aload_n rfl ?_
    refine g_getp (r := 0) (c := 1) g ad0 (by decide) (by decide) rf0_0 ft11_0 ?_
    refine ev_call (jcall_v (A := [(2, 1)]) (S' := []) (r := 7) rfl (g.lt ad7) (g.tg ad7) (Nat.le_of_ble_eq_true rfl)) (jOk_le (by decide) (t67 g (ew1) (by omega) (by omega))) (by decide) (by decide) (fun w78611 h78611 q78611 => ?_)
    obtain ⟨v78612, rfl, g78611, kk78611, lv78612, uv78612, X78611⟩ := q78611
    have k78611 := k0.tr kk78611 (by decide)
    show jEv _ _ _ _ _ _ _ (_, [(2, 0), (9, 0), (9, 0)], [(0, v78612)], _, _, _)
    obtain ⟨Q, eQ⟩ : ∃ R : RS, (TC h 6 0 K00 0) = R := ⟨_, rfl⟩
    have X78613 := X78611
    unfold TxP at X78613
    rw [eQ] at X78613
    rcases X78613 with ⟨c178613, c278613, c378613, c478613, c578613⟩ | ⟨c178613, c278613, c378613⟩
    · obtain ⟨v78614, ev78614⟩ : ∃ z : Int, mn Q.2.2.2 = z := ⟨_, rfl⟩
      rw [ev78614] at c478613
      have fv78614 : (100 < v78614 ↔ 100 < Q.2.2.2) ∧ 1 ≤ v78614 ∧ v78614 ≤ 1000 := by rw [← ev78614]; unfold mn; split <;> omega
      obtain ⟨v78615, ev78615, lv78615, uv78615⟩ := g78611.rd ad7 (show 3 < 15 by decide) rf7_3
      rw [ev78615] at c378613
      refine ev_istore_n (L' := [(2, 0), (0, v78612), (9, 0)]) (Nat.le_of_ble_eq_true rfl) rfl ?_
      refine ev_iload_n rfl ?_
      refine ev_ifge f173_42 (fun c78616 => ?_) (fun c78616 => absurd c78616 (by omega))
      refine ev_aload_n rfl ?_
      refine g_getp (r := 0) (c := 7) g78611 ad0 (by decide) (by decide) rf0_1 ft11_1 ?_
      refine ev_iload_n rfl ?_
      refine ev_in (d := 69) (a := 0) (b := 0) (cd' := c66_0) (m := 2) (L0 := [(2, 7), (0, v78612)]) (jcall_v (A := [(0, v78612)]) (S' := []) (r := 7) rfl (g78611.lt ad7) (g78611.tg ad7) (Nat.le_of_ble_eq_true rfl)) (by decide) ml66 pp66 (Nat.le_of_ble_eq_true rfl) rfl (by decide) (by decide) ?_
      refine ev_iload_n rfl ?_
      refine ev_iflt f66_12 (fun c78617 => absurd c78617 (by omega)) (fun c78617 => ?_)
      refine ev_iload_n rfl ?_
      refine ev_aload_n rfl ?_
      refine g_getv (r := 7) (v := v78615) g78611 ad7 (by decide) ft5_3 (ev78615) ?_
      refine ev_icmplt f66_16 (fun c78618 => ?_) (fun c78618 => absurd c78618 (by omega))
      refine ev_aload_n rfl ?_
      refine g_getp (r := 7) (c := 17) g78611 ad7 (by decide) (by decide) rf7_14 ft5_14 ?_
      refine ev_iload_n rfl ?_
      refine g_ialdv (v := v78614) g78611 ad17 (by omega) (by omega) (c478613) ?_
      refine ev_ret rfl (by decide) (by decide) ?_
      show jEv _ _ _ _ _ _ _ (_, [(2, 0), (0, v78612), (9, 0)], [(0, v78614)], _, _, _)
      refine ev_bipush ?_
      refine ev_icmple f173_61 (fun c78619 => ?_) (fun c78619 => ?_)
      · refine ev_aload_n rfl ?_
        refine g_getv (r := 0) (v := w0) g78611 ad0 (by decide) ft11_3 (((kk78611.v (by decide)).trans ew0)) ?_
        refine ev_istore_n (L' := [(2, 0), (0, v78612), (0, w0)]) (Nat.le_of_ble_eq_true rfl) rfl ?_
        refine ev_aload_n rfl ?_
        refine g_getp (r := 0) (c := 18) g78611 ad0 (by decide) (by decide) rf0_2 ft11_2 ?_
        refine ev_aload_n rfl ?_
        refine g_getv (r := 0) (v := w0) g78611 ad0 (by decide) ft11_3 (((kk78611.v (by decide)).trans ew0)) ?_
        refine ev_aload_n rfl ?_
        refine g_getp (r := 0) (c := 7) g78611 ad0 (by decide) (by decide) rf0_1 ft11_1 ?_
        refine ev_iload_n rfl ?_
        refine ev_call (jcall_v (A := [(0, v78612)]) (S' := [(0, w0), (2, 18)]) (r := 7) rfl (g78611.lt ad7) (g78611.tg ad7) (Nat.le_of_ble_eq_true rfl)) (jOk_le (by decide) (s81 g78611 (by omega) (by omega))) (by decide) (by decide) (fun w78620 h78620 z78620 => ?_)
        obtain ⟨G78620, r78621, m78622, rfl, g78620, qr78621, x78620, er78620, es78620⟩ := z78620
        have hz78620 := k78611.1
        have k78620 := Kx.tx k78611 x78620 (by decide)
        have wr78621 := g78620.qb qr78621
        have zr78621 := qr78621.1
        show jEv _ _ _ _ _ _ _ (_, [(2, 0), (0, v78612), (0, w0)], [(2, (r78621 : Int)), (0, w0), (2, 18)], _, _, _)
        refine ev_astoG (r := 18) (j := (w0).toNat) (v := r78621) (g78620.lt ad18) (g78620.tg ad18) (by omega) (by rw [g78620.ln ad18]; omega) (g78620.qlt qr78621) (by rw [g78620.qtg qr78621]; rfl) (fun h78623 e78623 => ?_)
        have g78623 := g78620.wr18 qr78621 e78623 (by rw [(((x78620.2.2 0 3 (g78611.lt ad0) (by decide)).trans ((kk78611.v (by decide)).trans ew0)))]; omega) (by omega)
        have k78623 := k78620.wr e78623 rfl
        refine ev_aload_n rfl ?_
        refine ev_dup (by decide) ?_
        refine g_getv (r := 0) (v := w0) g78623 ad0 (by decide) ft11_3 (((jw_ne e78623 (Or.inl (by decide))).trans ((x78620.2.2 0 3 (g78611.lt ad0) (by decide)).trans ((kk78611.v (by decide)).trans ew0)))) ?_
        refine ev_iconst ?_
        refine ev_iadd (r := (w0 + 1)) (by unfold w32; omega) ?_
        refine ev_putfG (r := 0) (g78623.lt ad0) (g78623.fam ad0 (by decide)) ft11_3 (fun e => absurd e nz11_3) (fun e => absurd e (by decide)) (fun h78624 e78624 => ?_)
        have g78624 := g78623.wr03 qr78621 e78624 (((jw_ne e78623 (Or.inl (by decide))).trans ((x78620.2.2 0 3 (g78611.lt ad0) (by decide)).trans ((kk78611.v (by decide)).trans ew0)))) (jw_eq e78623) (by omega) (by omega)
        have k78624 := k78623.wr e78624 rfl
        refine ev_aload_n rfl ?_
        refine g_getp (r := 0) (c := 7) g78624 ad0 (by decide) (by decide) rf0_1 ft11_1 ?_
        refine ev_in (d := 69) (a := 0) (b := 0) (cd' := c65_0) (m := 1) (L0 := [(2, 7)]) (jcall_v (A := []) (S' := []) (r := 7) rfl (g78624.lt ad7) (g78624.tg ad7) (Nat.le_of_ble_eq_true rfl)) (by decide) ml65 pp65 (Nat.le_of_ble_eq_true rfl) rfl (by decide) (by decide) ?_
        refine ev_aload_n rfl ?_
        refine ev_iconst ?_
        refine g_putf (r := 7) g78624 ad7 (by decide) ft5_0 (by decide) (fun e => absurd e nz5_0) rf7_0 (by decide) (by omega) (by omega) (fun h78625 e78625 g78625 => ?_)
        have k78625 := k78624.wr e78625 rfl
        refine ev_ret rfl (by decide) (by decide) ?_
        show jEv _ _ _ _ _ _ _ (_, [(2, 0), (0, v78612), (0, w0)], [], _, _, _)
        refine ev_iload_n rfl ?_
        exact ev_ret rfl (by decide) (by decide) ⟨_, rfl, by omega, by omega, ⟨_, g78625⟩, k78625, by rw [(jwr_ty e78625).1, (jwr_ty e78624).1, (jwr_ty e78623).1, es78620]; omega, by rw [eQ]; unfold qzA w32; (repeat' split) <;> omega, ((((jw_ne e78625 (Or.inl (by decide))).trans (jw_eq e78624)))).trans (by rw [eQ]; unfold qzN; (repeat' split) <;> omega), (((jw_eq e78625))).trans (by rw [if_neg (by omega)])⟩
      · refine ev_bipush ?_
        refine ev_istore_n (L' := [(2, 0), (0, v78612), (0, (-3))]) (Nat.le_of_ble_eq_true rfl) rfl ?_
        refine ev_goto f173_93 ?_
        refine ev_aload_n rfl ?_
        refine g_getp (r := 0) (c := 7) g78611 ad0 (by decide) (by decide) rf0_1 ft11_1 ?_
        refine ev_in (d := 69) (a := 0) (b := 0) (cd' := c65_0) (m := 1) (L0 := [(2, 7)]) (jcall_v (A := []) (S' := []) (r := 7) rfl (g78611.lt ad7) (g78611.tg ad7) (Nat.le_of_ble_eq_true rfl)) (by decide) ml65 pp65 (Nat.le_of_ble_eq_true rfl) rfl (by decide) (by decide) ?_
        refine ev_aload_n rfl ?_
        refine ev_iconst ?_
        refine g_putf (r := 7) g78611 ad7 (by decide) ft5_0 (by decide) (fun e => absurd e nz5_0) rf7_0 (by decide) (by omega) (by omega) (fun h78626 e78626 g78626 => ?_)
        have k78626 := k78611.wr e78626 rfl
        refine ev_ret rfl (by decide) (by decide) ?_
        show jEv _ _ _ _ _ _ _ (_, [(2, 0), (0, v78612), (0, (-3))], [], _, _, _)
        refine ev_iload_n rfl ?_
        exact ev_ret rfl (by decide) (by decide) ⟨_, rfl, by omega, by omega, ⟨_, g78626⟩, k78626.x, by rw [k78626.1]; omega, by rw [eQ]; unfold qzA w32; (repeat' split) <;> omega, ((((jw_ne e78626 (Or.inl (by decide))).trans ((kk78611.v (by decide)).trans ew0)))).trans (by rw [eQ]; unfold qzN; (repeat' split) <;> omega), (((jw_eq e78626))).trans (by rw [if_neg (by omega)])⟩
    · obtain ⟨v78627, ev78627, lv78627, uv78627⟩ := g78611.rd ad7 (show 1 < 15 by decide) rf7_1
      rw [ev78627] at c378613
      refine ev_istore_n (L' := [(2, 0), (0, v78612), (9, 0)]) (Nat.le_of_ble_eq_true rfl) rfl ?_
      refine ev_iload_n rfl ?_
      refine ev_ifge f173_42 (fun c78628 => absurd c78628 (by omega)) (fun c78628 => ?_)
      refine ev_bipush ?_
      refine ev_aload_n rfl ?_
      refine g_getp (r := 0) (c := 7) g78611 ad0 (by decide) (by decide) rf0_1 ft11_1 ?_
      refine g_getv (r := 7) (v := v78627) g78611 ad7 (by decide) ft5_1 (ev78627) ?_
      refine ev_isub (r := ((-v78627) - 100)) (by unfold w32; omega) ?_
      refine ev_istore_n (L' := [(2, 0), (0, v78612), (0, ((-v78627) - 100))]) (Nat.le_of_ble_eq_true rfl) rfl ?_
      refine ev_goto f173_93 ?_
      refine ev_aload_n rfl ?_
      refine g_getp (r := 0) (c := 7) g78611 ad0 (by decide) (by decide) rf0_1 ft11_1 ?_
      refine ev_in (d := 69) (a := 0) (b := 0) (cd' := c65_0) (m := 1) (L0 := [(2, 7)]) (jcall_v (A := []) (S' := []) (r := 7) rfl (g78611.lt ad7) (g78611.tg ad7) (Nat.le_of_ble_eq_true rfl)) (by decide) ml65 pp65 (Nat.le_of_ble_eq_true rfl) rfl (by decide) (by decide) ?_
      refine ev_aload_n rfl ?_
      refine ev_iconst ?_
      refine g_putf (r := 7) g78611 ad7 (by decide) ft5_0 (by decide) (fun e => absurd e nz5_0) rf7_0 (by decide) (by omega) (by omega) (fun h78629 e78629 g78629 => ?_)
      have k78629 := k78611.wr e78629 rfl
      refine ev_ret rfl (by decide) (by decide) ?_
      show jEv _ _ _ _ _ _ _ (_, [(2, 0), (0, v78612), (0, ((-v78627) - 100))], [], _, _, _)
      refine ev_iload_n rfl ?_
      exact ev_ret rfl (by decide) (by decide) ⟨_, rfl, by omega, by omega, ⟨_, g78629⟩, k78629.x, by rw [k78629.1]; omega, by rw [eQ]; unfold qzA w32; (repeat' split) <;> omega, ((((jw_ne e78629 (Or.inl (by decide))).trans ((kk78611.v (by decide)).trans ew0)))).trans (by rw [eQ]; unfold qzN; (repeat' split) <;> omega), (((jw_eq e78629))).trans (by rw [if_neg (by omega)])⟩
  · refine ev_bipush ?_
    exact ev_ret rfl (by decide) (by decide) ⟨_, rfl, by omega, by omega, ⟨_, g⟩, k0.x, by rw [k0.1]; omega, by unfold qzA; rw [if_pos (by omega)], ((ew0)).trans (by unfold qzN; rw [if_pos (by omega)]), ((ew1)).trans (by rw [if_pos (by omega)]; omega)⟩
set_option maxHeartbeats 4000000 in
theorem t269f {G : GH} {h : JH} (g : Gd G h) {l0 : Int} (ll0 : 0 ≤ l0) (ul0 : l0 ≤ 6) {a1 : Int} (la1 : 0 ≤ a1) (ua1 : a1 ≤ 202) {w0 : Int} (ew0 : h.2.2 42 17 = w0) (lw0 : 0 ≤ w0) (uw0 : w0 ≤ 200) : jOk 3 0 0 269 [(2, 42), (0, a1), (0, 0)] h (fun v h' => PI G [(42, 21)] h 0 (-1) 200 v h' ∧ (∀ r, v = some (0, r) → 0 ≤ r → Ad h l0 a1 r) ∧ (∀ r, v = some (0, r) → RdF (bR h) h' (if bR h a1 = 45 then enR (bR h) (a1 + 1) else enR (bR h) a1) r)) := by
  refine ⟨by decide, by rw [ml269]; exact Nat.le_of_ble_eq_true rfl, ?_⟩
  rw [ml269, pp269]
  show jEv _ none _ c269_0 0 0 _ (c269_0, [(2, 42), (0, a1), (0, 0), (9, 0), (9, 0), (9, 0), (9, 0)], [], h, 0, 0)
  have k0 := Kp.rf [(42, 21)] h
  refine ev_iload_n rfl ?_
  refine ev_istore_n (L' := [(2, 42), (0, a1), (0, 0), (0, a1), (9, 0), (9, 0), (9, 0)]) (Nat.le_of_ble_eq_true rfl) rfl ?_
  refine ev_aload_n rfl ?_
  refine ev_iload_n rfl ?_
  refine ev_in (d := 1) (a := 0) (b := 0) (cd' := c264_0) (m := 2) (L0 := [(2, 42), (0, a1)]) (jcall_v (A := [(0, a1)]) (S' := []) (r := 42) rfl (g.lt ad42) (g.tg ad42) (Nat.le_of_ble_eq_true rfl)) (by decide) ml264 pp264 (Nat.le_of_ble_eq_true rfl) rfl (by decide) (by decide) ?_
  refine ev_iload_n rfl ?_
  refine ev_aload_n rfl ?_
  refine g_getv (r := 42) (v := w0) g ad42 (by decide) ft12_17 (ew0) ?_
  refine ev_icmpge f264_17 (fun c79000 => ?_) (fun c79000 => ?_)
  · refine ev_iconst ?_
    refine ev_ret rfl (by decide) (by decide) ?_
    show jEv _ _ _ _ _ _ _ (_, [(2, 42), (0, a1), (0, 0), (0, a1), (9, 0), (9, 0), (9, 0)], [(0, (-1))], _, _, _)
    refine ev_bipush ?_
    refine ev_icmpne f269_16 (fun c79001 => ?_) (fun c79001 => absurd c79001 (by omega))
    refine ev_iconst ?_
    refine ev_istore (L' := [(2, 42), (0, a1), (0, 0), (0, a1), (0, 0), (9, 0), (9, 0)]) (Nat.le_of_ble_eq_true rfl) rfl ?_
    refine ev_iload rfl ?_
    refine ev_ifeq f269_27 (fun c79002 => ?_) (fun c79002 => absurd c79002 (by omega))
    refine ev_aload_n rfl ?_
    refine ev_iload_n rfl ?_
    refine ev_in (d := 1) (a := 0) (b := 0) (cd' := c265_0) (m := 2) (L0 := [(2, 42), (0, a1)]) (jcall_v (A := [(0, a1)]) (S' := []) (r := 42) rfl (g.lt ad42) (g.tg ad42) (Nat.le_of_ble_eq_true rfl)) (by decide) ml265 pp265 (Nat.le_of_ble_eq_true rfl) rfl (by decide) (by decide) ?_
    refine ev_aload_n rfl ?_
    refine ev_iload_n rfl ?_
    refine ev_in (d := 0) (a := 0) (b := 0) (cd' := c264_0) (m := 2) (L0 := [(2, 42), (0, a1)]) (jcall_v (A := [(0, a1)]) (S' := []) (r := 42) rfl (g.lt ad42) (g.tg ad42) (Nat.le_of_ble_eq_true rfl)) (by decide) ml264 pp264 (Nat.le_of_ble_eq_true rfl) rfl (by decide) (by decide) ?_
    refine ev_iload_n rfl ?_
    refine ev_aload_n rfl ?_
    refine g_getv (r := 42) (v := w0) g ad42 (by decide) ft12_17 (ew0) ?_
    refine ev_icmpge f264_17 (fun c79003 => ?_) (fun c79003 => absurd c79003 (by omega))
    refine ev_iconst ?_
    refine ev_ret rfl (by decide) (by decide) ?_
    show jEv _ _ _ _ _ _ _ (_, [(2, 42), (0, a1)], [(0, (-1))], _, _, _)
    refine ev_bipush ?_
    refine ev_bipush ?_
    refine ev_in (d := 0) (a := 0) (b := 0) (cd' := c242_0) (m := 3) (L0 := [(0, (-1)), (0, 48), (0, 57)]) (jcall_s (A := [(0, 57), (0, 48), (0, (-1))]) (S' := []) (by decide) rfl (Nat.le_of_ble_eq_true rfl)) (by decide) ml242 pp242 (Nat.le_of_ble_eq_true rfl) rfl (by decide) (by decide) ?_
    refine ev_iload_n rfl ?_
    refine ev_iload_n rfl ?_
    refine ev_icmplt f242_14 (fun c79004 => ?_) (fun c79004 => absurd c79004 (by omega))
    refine ev_iconst ?_
    refine ev_ret rfl (by decide) (by decide) ?_
    show jEv _ _ _ _ _ _ _ (_, [(2, 42), (0, a1)], [(0, 0)], _, _, _)
    refine ev_ret rfl (by decide) (by decide) ?_
    show jEv _ _ _ _ _ _ _ (_, [(2, 42), (0, a1), (0, 0), (0, a1), (0, 0), (9, 0), (9, 0)], [(0, 0)], _, _, _)
    refine ev_ifne f269_41 (fun c79005 => absurd c79005 (by omega)) (fun c79005 => ?_)
    refine ev_aload_n rfl ?_
    refine ev_iload_n rfl ?_
    refine ev_in (d := 1) (a := 0) (b := 0) (cd' := c266_0) (m := 2) (L0 := [(2, 42), (0, a1)]) (jcall_v (A := [(0, a1)]) (S' := []) (r := 42) rfl (g.lt ad42) (g.tg ad42) (Nat.le_of_ble_eq_true rfl)) (by decide) ml266 pp266 (Nat.le_of_ble_eq_true rfl) rfl (by decide) (by decide) ?_
    refine ev_aload_n rfl ?_
    refine ev_iload_n rfl ?_
    refine g_putf (r := 42) g ad42 (by decide) ft12_20 (by decide) (fun e => absurd e nz12_20) rf42_20 (by decide) (by omega) (by omega) (fun h79006 e79006 g79006 => ?_)
    have k79006 := k0.wr e79006 rfl
    refine ev_iconst ?_
    refine ev_ret rfl (by decide) (by decide) ?_
    show jEv _ _ _ _ _ _ _ (_, [(2, 42), (0, a1), (0, 0), (0, a1), (0, 0), (9, 0), (9, 0)], [(0, (-1))], _, _, _)
    exact ev_ret rfl (by decide) (by decide) ⟨⟨_, rfl, by omega, by omega, g79006, k79006⟩, fun r hr h0 => by cases hr; exfalso; omega, fun r hr => by cases hr; exact (Bd.F (bd_rF (p := a1) (by rw [if_neg (fun z => absurd ((bR_end (p := a1) ew0 (by omega)).symm.trans z) (by omega))]; unfold enR; rw [if_pos (by unfold nm3; rw [(bR_end (p := a1) ew0 (by omega))]; (repeat' split) <;> omega)]) (by omega) (by omega)) ((jw_eq e79006)))⟩
  · refine ev_aload_n rfl ?_
    refine g_getp (r := 42) (c := 54) g ad42 (by decide) (by decide) rf42_16 ft12_16 ?_
    refine ev_iload_n rfl ?_
    refine g_bald g ad54 rt54 (by omega) (by omega) (fun v79007 ev79007 lv79007 uv79007 => ?_)
    refine ev_goto f264_18 ?_
    refine ev_ret rfl (by decide) (by decide) ?_
    show jEv _ _ _ _ _ _ _ (_, [(2, 42), (0, a1), (0, 0), (0, a1), (9, 0), (9, 0), (9, 0)], [(0, v79007)], _, _, _)
    refine ev_bipush ?_
    refine ev_icmpne f269_16 (fun c79008 => ?_) (fun c79008 => ?_)
    · refine ev_iconst ?_
      refine ev_istore (L' := [(2, 42), (0, a1), (0, 0), (0, a1), (0, 0), (9, 0), (9, 0)]) (Nat.le_of_ble_eq_true rfl) rfl ?_
      refine ev_iload rfl ?_
      refine ev_ifeq f269_27 (fun c79009 => ?_) (fun c79009 => absurd c79009 (by omega))
      refine ev_aload_n rfl ?_
      refine ev_iload_n rfl ?_
      refine ev_in (d := 1) (a := 0) (b := 0) (cd' := c265_0) (m := 2) (L0 := [(2, 42), (0, a1)]) (jcall_v (A := [(0, a1)]) (S' := []) (r := 42) rfl (g.lt ad42) (g.tg ad42) (Nat.le_of_ble_eq_true rfl)) (by decide) ml265 pp265 (Nat.le_of_ble_eq_true rfl) rfl (by decide) (by decide) ?_
      refine ev_aload_n rfl ?_
      refine ev_iload_n rfl ?_
      refine ev_in (d := 0) (a := 0) (b := 0) (cd' := c264_0) (m := 2) (L0 := [(2, 42), (0, a1)]) (jcall_v (A := [(0, a1)]) (S' := []) (r := 42) rfl (g.lt ad42) (g.tg ad42) (Nat.le_of_ble_eq_true rfl)) (by decide) ml264 pp264 (Nat.le_of_ble_eq_true rfl) rfl (by decide) (by decide) ?_
      refine ev_iload_n rfl ?_
      refine ev_aload_n rfl ?_
      refine g_getv (r := 42) (v := w0) g ad42 (by decide) ft12_17 (ew0) ?_
      refine ev_icmpge f264_17 (fun c79010 => absurd c79010 (by omega)) (fun c79010 => ?_)
      refine ev_aload_n rfl ?_
      refine g_getp (r := 42) (c := 54) g ad42 (by decide) (by decide) rf42_16 ft12_16 ?_
      refine ev_iload_n rfl ?_
      refine g_baldv (v := v79007) g ad54 (by omega) (by omega) (ev79007) ?_
      refine ev_goto f264_18 ?_
      refine ev_ret rfl (by decide) (by decide) ?_
      show jEv _ _ _ _ _ _ _ (_, [(2, 42), (0, a1)], [(0, v79007)], _, _, _)
      refine ev_bipush ?_
      refine ev_bipush ?_
      refine ev_in (d := 0) (a := 0) (b := 0) (cd' := c242_0) (m := 3) (L0 := [(0, v79007), (0, 48), (0, 57)]) (jcall_s (A := [(0, 57), (0, 48), (0, v79007)]) (S' := []) (by decide) rfl (Nat.le_of_ble_eq_true rfl)) (by decide) ml242 pp242 (Nat.le_of_ble_eq_true rfl) rfl (by decide) (by decide) ?_
      refine ev_iload_n rfl ?_
      refine ev_iload_n rfl ?_
      refine ev_icmplt f242_14 (fun c79011 => ?_) (fun c79011 => ?_)
      · refine ev_iconst ?_
        refine ev_ret rfl (by decide) (by decide) ?_
        show jEv _ _ _ _ _ _ _ (_, [(2, 42), (0, a1)], [(0, 0)], _, _, _)
        refine ev_ret rfl (by decide) (by decide) ?_
        show jEv _ _ _ _ _ _ _ (_, [(2, 42), (0, a1), (0, 0), (0, a1), (0, 0), (9, 0), (9, 0)], [(0, 0)], _, _, _)
        refine ev_ifne f269_41 (fun c79012 => absurd c79012 (by omega)) (fun c79012 => ?_)
        refine ev_aload_n rfl ?_
        refine ev_iload_n rfl ?_
        refine ev_in (d := 1) (a := 0) (b := 0) (cd' := c266_0) (m := 2) (L0 := [(2, 42), (0, a1)]) (jcall_v (A := [(0, a1)]) (S' := []) (r := 42) rfl (g.lt ad42) (g.tg ad42) (Nat.le_of_ble_eq_true rfl)) (by decide) ml266 pp266 (Nat.le_of_ble_eq_true rfl) rfl (by decide) (by decide) ?_
        refine ev_aload_n rfl ?_
        refine ev_iload_n rfl ?_
        refine g_putf (r := 42) g ad42 (by decide) ft12_20 (by decide) (fun e => absurd e nz12_20) rf42_20 (by decide) (by omega) (by omega) (fun h79013 e79013 g79013 => ?_)
        have k79013 := k0.wr e79013 rfl
        refine ev_iconst ?_
        refine ev_ret rfl (by decide) (by decide) ?_
        show jEv _ _ _ _ _ _ _ (_, [(2, 42), (0, a1), (0, 0), (0, a1), (0, 0), (9, 0), (9, 0)], [(0, (-1))], _, _, _)
        exact ev_ret rfl (by decide) (by decide) ⟨⟨_, rfl, by omega, by omega, g79013, k79013⟩, fun r hr h0 => by cases hr; exfalso; omega, fun r hr => by cases hr; exact (Bd.F (bd_rF (p := a1) (by rw [if_neg (fun z => absurd ((bR_at (p := a1) k79013 (fun _ => rfl) ew0 (((jw_ne e79013 (Or.inl (by decide))).trans ev79007)) (by omega) (by omega)).symm.trans z) (by omega))]; unfold enR; rw [if_pos (by unfold nm3; rw [(bR_at (p := a1) k79013 (fun _ => rfl) ew0 (((jw_ne e79013 (Or.inl (by decide))).trans ev79007)) (by omega) (by omega))]; (repeat' split) <;> omega)]) (by omega) (by omega)) ((jw_eq e79013)))⟩
      · refine ev_iload_n rfl ?_
        refine ev_iload_n rfl ?_
        refine ev_icmpgt f242_14 (fun c79014 => ?_) (fun c79014 => ?_)
        · refine ev_iconst ?_
          refine ev_ret rfl (by decide) (by decide) ?_
          show jEv _ _ _ _ _ _ _ (_, [(2, 42), (0, a1)], [(0, 0)], _, _, _)
          refine ev_ret rfl (by decide) (by decide) ?_
          show jEv _ _ _ _ _ _ _ (_, [(2, 42), (0, a1), (0, 0), (0, a1), (0, 0), (9, 0), (9, 0)], [(0, 0)], _, _, _)
          refine ev_ifne f269_41 (fun c79015 => absurd c79015 (by omega)) (fun c79015 => ?_)
          refine ev_aload_n rfl ?_
          refine ev_iload_n rfl ?_
          refine ev_in (d := 1) (a := 0) (b := 0) (cd' := c266_0) (m := 2) (L0 := [(2, 42), (0, a1)]) (jcall_v (A := [(0, a1)]) (S' := []) (r := 42) rfl (g.lt ad42) (g.tg ad42) (Nat.le_of_ble_eq_true rfl)) (by decide) ml266 pp266 (Nat.le_of_ble_eq_true rfl) rfl (by decide) (by decide) ?_
          refine ev_aload_n rfl ?_
          refine ev_iload_n rfl ?_
          refine g_putf (r := 42) g ad42 (by decide) ft12_20 (by decide) (fun e => absurd e nz12_20) rf42_20 (by decide) (by omega) (by omega) (fun h79016 e79016 g79016 => ?_)
          have k79016 := k0.wr e79016 rfl
          refine ev_iconst ?_
          refine ev_ret rfl (by decide) (by decide) ?_
          show jEv _ _ _ _ _ _ _ (_, [(2, 42), (0, a1), (0, 0), (0, a1), (0, 0), (9, 0), (9, 0)], [(0, (-1))], _, _, _)
          exact ev_ret rfl (by decide) (by decide) ⟨⟨_, rfl, by omega, by omega, g79016, k79016⟩, fun r hr h0 => by cases hr; exfalso; omega, fun r hr => by cases hr; exact (Bd.F (bd_rF (p := a1) (by rw [if_neg (fun z => absurd ((bR_at (p := a1) k79016 (fun _ => rfl) ew0 (((jw_ne e79016 (Or.inl (by decide))).trans ev79007)) (by omega) (by omega)).symm.trans z) (by omega))]; unfold enR; rw [if_pos (by unfold nm3; rw [(bR_at (p := a1) k79016 (fun _ => rfl) ew0 (((jw_ne e79016 (Or.inl (by decide))).trans ev79007)) (by omega) (by omega))]; (repeat' split) <;> omega)]) (by omega) (by omega)) ((jw_eq e79016)))⟩
        · refine ev_iconst ?_
          refine ev_goto f242_15 ?_
          refine ev_ret rfl (by decide) (by decide) ?_
          show jEv _ _ _ _ _ _ _ (_, [(2, 42), (0, a1)], [(0, 1)], _, _, _)
          refine ev_ret rfl (by decide) (by decide) ?_
          show jEv _ _ _ _ _ _ _ (_, [(2, 42), (0, a1), (0, 0), (0, a1), (0, 0), (9, 0), (9, 0)], [(0, 1)], _, _, _)
          refine ev_ifne f269_41 (fun c79017 => ?_) (fun c79017 => absurd c79017 (by omega))
          refine ev_iconst ?_
          refine ev_istore (L' := [(2, 42), (0, a1), (0, 0), (0, a1), (0, 0), (0, 0), (9, 0)]) (Nat.le_of_ble_eq_true rfl) rfl ?_
          refine ev_iconst ?_
          refine ev_istore (L' := [(2, 42), (0, a1), (0, 0), (0, a1), (0, 0), (0, 0), (0, 0)]) (Nat.le_of_ble_eq_true rfl) rfl ?_
          refine ev_iload rfl ?_
          refine ev_iconst ?_
          refine ev_icmpge f269_86 (fun c79018 => absurd c79018 (by omega)) (fun c79018 => ?_)
          refine ev_aload_n rfl ?_
          refine ev_iload_n rfl ?_
          refine ev_in (d := 1) (a := 0) (b := 0) (cd' := c265_0) (m := 2) (L0 := [(2, 42), (0, a1)]) (jcall_v (A := [(0, a1)]) (S' := []) (r := 42) rfl (g.lt ad42) (g.tg ad42) (Nat.le_of_ble_eq_true rfl)) (by decide) ml265 pp265 (Nat.le_of_ble_eq_true rfl) rfl (by decide) (by decide) ?_
          refine ev_aload_n rfl ?_
          refine ev_iload_n rfl ?_
          refine ev_in (d := 0) (a := 0) (b := 0) (cd' := c264_0) (m := 2) (L0 := [(2, 42), (0, a1)]) (jcall_v (A := [(0, a1)]) (S' := []) (r := 42) rfl (g.lt ad42) (g.tg ad42) (Nat.le_of_ble_eq_true rfl)) (by decide) ml264 pp264 (Nat.le_of_ble_eq_true rfl) rfl (by decide) (by decide) ?_
          refine ev_iload_n rfl ?_
          refine ev_aload_n rfl ?_
          refine g_getv (r := 42) (v := w0) g ad42 (by decide) ft12_17 (ew0) ?_
          refine ev_icmpge f264_17 (fun c79019 => absurd c79019 (by omega)) (fun c79019 => ?_)
          refine ev_aload_n rfl ?_
          refine g_getp (r := 42) (c := 54) g ad42 (by decide) (by decide) rf42_16 ft12_16 ?_
          refine ev_iload_n rfl ?_
          refine g_baldv (v := v79007) g ad54 (by omega) (by omega) (ev79007) ?_
          refine ev_goto f264_18 ?_
          refine ev_ret rfl (by decide) (by decide) ?_
          show jEv _ _ _ _ _ _ _ (_, [(2, 42), (0, a1)], [(0, v79007)], _, _, _)
          refine ev_bipush ?_
          refine ev_bipush ?_
          refine ev_in (d := 0) (a := 0) (b := 0) (cd' := c242_0) (m := 3) (L0 := [(0, v79007), (0, 48), (0, 57)]) (jcall_s (A := [(0, 57), (0, 48), (0, v79007)]) (S' := []) (by decide) rfl (Nat.le_of_ble_eq_true rfl)) (by decide) ml242 pp242 (Nat.le_of_ble_eq_true rfl) rfl (by decide) (by decide) ?_
          refine ev_iload_n rfl ?_
          refine ev_iload_n rfl ?_
          refine ev_icmplt f242_14 (fun c79020 => absurd c79020 (by omega)) (fun c79020 => ?_)
          refine ev_iload_n rfl ?_
          refine ev_iload_n rfl ?_
          refine ev_icmpgt f242_14 (fun c79021 => absurd c79021 (by omega)) (fun c79021 => ?_)
          refine ev_iconst ?_
          refine ev_goto f242_15 ?_
          refine ev_ret rfl (by decide) (by decide) ?_
          show jEv _ _ _ _ _ _ _ (_, [(2, 42), (0, a1)], [(0, 1)], _, _, _)
          refine ev_ret rfl (by decide) (by decide) ?_
          show jEv _ _ _ _ _ _ _ (_, [(2, 42), (0, a1), (0, 0), (0, a1), (0, 0), (0, 0), (0, 0)], [(0, 1)], _, _, _)
          refine ev_ifeq f269_86 (fun c79022 => absurd c79022 (by omega)) (fun c79022 => ?_)
          refine ev_bipush ?_
          refine ev_iload rfl ?_
          refine ev_imul (r := 0) (by decide) ?_
          refine ev_aload_n rfl ?_
          refine ev_iload_n rfl ?_
          refine ev_in (d := 1) (a := 0) (b := 0) (cd' := c264_0) (m := 2) (L0 := [(2, 42), (0, a1)]) (jcall_v (A := [(0, a1)]) (S' := [(0, 0)]) (r := 42) rfl (g.lt ad42) (g.tg ad42) (Nat.le_of_ble_eq_true rfl)) (by decide) ml264 pp264 (Nat.le_of_ble_eq_true rfl) rfl (by decide) (by decide) ?_
          refine ev_iload_n rfl ?_
          refine ev_aload_n rfl ?_
          refine g_getv (r := 42) (v := w0) g ad42 (by decide) ft12_17 (ew0) ?_
          refine ev_icmpge f264_17 (fun c79023 => absurd c79023 (by omega)) (fun c79023 => ?_)
          refine ev_aload_n rfl ?_
          refine g_getp (r := 42) (c := 54) g ad42 (by decide) (by decide) rf42_16 ft12_16 ?_
          refine ev_iload_n rfl ?_
          refine g_baldv (v := v79007) g ad54 (by omega) (by omega) (ev79007) ?_
          refine ev_goto f264_18 ?_
          refine ev_ret rfl (by decide) (by decide) ?_
          show jEv _ _ _ _ _ _ _ (_, [(2, 42), (0, a1), (0, 0), (0, a1), (0, 0), (0, 0), (0, 0)], [(0, v79007), (0, 0)], _, _, _)
          refine ev_iadd (r := v79007) (by unfold w32; omega) ?_
          refine ev_bipush ?_
          refine ev_isub (r := (v79007 - 48)) (by unfold w32; omega) ?_
          refine ev_istore (L' := [(2, 42), (0, a1), (0, 0), (0, a1), (0, 0), (0, (v79007 - 48)), (0, 0)]) (Nat.le_of_ble_eq_true rfl) rfl ?_
          refine ev_iinc (w := 1) (L' := [(2, 42), (0, a1), (0, 0), (0, a1), (0, 0), (0, (v79007 - 48)), (0, 1)]) rfl (by decide) rfl ?_
          refine ev_iinc (w := (a1 + 1)) (L' := [(2, 42), (0, a1), (0, 0), (0, (a1 + 1)), (0, 0), (0, (v79007 - 48)), (0, 1)]) rfl (by unfold w32; omega) rfl ?_
          refine ev_goto f269_47 ?_
          refine ev_iload rfl ?_
          refine ev_iconst ?_
          refine ev_icmpge f269_86 (fun c79024 => absurd c79024 (by omega)) (fun c79024 => ?_)
          refine ev_aload_n rfl ?_
          refine ev_iload_n rfl ?_
          refine ev_in (d := 1) (a := 0) (b := 0) (cd' := c265_0) (m := 2) (L0 := [(2, 42), (0, (a1 + 1))]) (jcall_v (A := [(0, (a1 + 1))]) (S' := []) (r := 42) rfl (g.lt ad42) (g.tg ad42) (Nat.le_of_ble_eq_true rfl)) (by decide) ml265 pp265 (Nat.le_of_ble_eq_true rfl) rfl (by decide) (by decide) ?_
          refine ev_aload_n rfl ?_
          refine ev_iload_n rfl ?_
          refine ev_in (d := 0) (a := 0) (b := 0) (cd' := c264_0) (m := 2) (L0 := [(2, 42), (0, (a1 + 1))]) (jcall_v (A := [(0, (a1 + 1))]) (S' := []) (r := 42) rfl (g.lt ad42) (g.tg ad42) (Nat.le_of_ble_eq_true rfl)) (by decide) ml264 pp264 (Nat.le_of_ble_eq_true rfl) rfl (by decide) (by decide) ?_
          refine ev_iload_n rfl ?_
          refine ev_aload_n rfl ?_
          refine g_getv (r := 42) (v := w0) g ad42 (by decide) ft12_17 (ew0) ?_
          refine ev_icmpge f264_17 (fun c79025 => ?_) (fun c79025 => ?_)
          · refine ev_iconst ?_
            refine ev_ret rfl (by decide) (by decide) ?_
            show jEv _ _ _ _ _ _ _ (_, [(2, 42), (0, (a1 + 1))], [(0, (-1))], _, _, _)
            refine ev_bipush ?_
            refine ev_bipush ?_
            refine ev_in (d := 0) (a := 0) (b := 0) (cd' := c242_0) (m := 3) (L0 := [(0, (-1)), (0, 48), (0, 57)]) (jcall_s (A := [(0, 57), (0, 48), (0, (-1))]) (S' := []) (by decide) rfl (Nat.le_of_ble_eq_true rfl)) (by decide) ml242 pp242 (Nat.le_of_ble_eq_true rfl) rfl (by decide) (by decide) ?_
            refine ev_iload_n rfl ?_
            refine ev_iload_n rfl ?_
            refine ev_icmplt f242_14 (fun c79026 => ?_) (fun c79026 => absurd c79026 (by omega))
            refine ev_iconst ?_
            refine ev_ret rfl (by decide) (by decide) ?_
            show jEv _ _ _ _ _ _ _ (_, [(2, 42), (0, (a1 + 1))], [(0, 0)], _, _, _)
            refine ev_ret rfl (by decide) (by decide) ?_
            show jEv _ _ _ _ _ _ _ (_, [(2, 42), (0, a1), (0, 0), (0, (a1 + 1)), (0, 0), (0, (v79007 - 48)), (0, 1)], [(0, 0)], _, _, _)
            refine ev_ifeq f269_86 (fun c79027 => ?_) (fun c79027 => absurd c79027 (by omega))
            refine ev_aload_n rfl ?_
            refine ev_iload_n rfl ?_
            refine ev_in (d := 1) (a := 0) (b := 0) (cd' := c265_0) (m := 2) (L0 := [(2, 42), (0, (a1 + 1))]) (jcall_v (A := [(0, (a1 + 1))]) (S' := []) (r := 42) rfl (g.lt ad42) (g.tg ad42) (Nat.le_of_ble_eq_true rfl)) (by decide) ml265 pp265 (Nat.le_of_ble_eq_true rfl) rfl (by decide) (by decide) ?_
            refine ev_aload_n rfl ?_
            refine ev_iload_n rfl ?_
            refine ev_in (d := 0) (a := 0) (b := 0) (cd' := c264_0) (m := 2) (L0 := [(2, 42), (0, (a1 + 1))]) (jcall_v (A := [(0, (a1 + 1))]) (S' := []) (r := 42) rfl (g.lt ad42) (g.tg ad42) (Nat.le_of_ble_eq_true rfl)) (by decide) ml264 pp264 (Nat.le_of_ble_eq_true rfl) rfl (by decide) (by decide) ?_
            refine ev_iload_n rfl ?_
            refine ev_aload_n rfl ?_
            refine g_getv (r := 42) (v := w0) g ad42 (by decide) ft12_17 (ew0) ?_
            refine ev_icmpge f264_17 (fun c79028 => ?_) (fun c79028 => absurd c79028 (by omega))
            refine ev_iconst ?_
            refine ev_ret rfl (by decide) (by decide) ?_
            show jEv _ _ _ _ _ _ _ (_, [(2, 42), (0, (a1 + 1))], [(0, (-1))], _, _, _)
            refine ev_bipush ?_
            refine ev_bipush ?_
            refine ev_in (d := 0) (a := 0) (b := 0) (cd' := c242_0) (m := 3) (L0 := [(0, (-1)), (0, 48), (0, 57)]) (jcall_s (A := [(0, 57), (0, 48), (0, (-1))]) (S' := []) (by decide) rfl (Nat.le_of_ble_eq_true rfl)) (by decide) ml242 pp242 (Nat.le_of_ble_eq_true rfl) rfl (by decide) (by decide) ?_
            refine ev_iload_n rfl ?_
            refine ev_iload_n rfl ?_
            refine ev_icmplt f242_14 (fun c79029 => ?_) (fun c79029 => absurd c79029 (by omega))
            refine ev_iconst ?_
            refine ev_ret rfl (by decide) (by decide) ?_
            show jEv _ _ _ _ _ _ _ (_, [(2, 42), (0, (a1 + 1))], [(0, 0)], _, _, _)
            refine ev_ret rfl (by decide) (by decide) ?_
            show jEv _ _ _ _ _ _ _ (_, [(2, 42), (0, a1), (0, 0), (0, (a1 + 1)), (0, 0), (0, (v79007 - 48)), (0, 1)], [(0, 0)], _, _, _)
            refine ev_ifeq f269_100 (fun c79030 => ?_) (fun c79030 => absurd c79030 (by omega))
            refine ev_aload_n rfl ?_
            refine ev_iload_n rfl ?_
            refine ev_iconst ?_
            refine ev_iload rfl ?_
            refine ev_ifeq f269_114 (fun c79031 => ?_) (fun c79031 => absurd c79031 (by omega))
            refine ev_iload rfl ?_
            refine ev_in (d := 1) (a := 0) (b := 0) (cd' := c267_0) (m := 6) (L0 := [(2, 42), (0, 0), (0, 0), (0, (v79007 - 48)), (9, 0), (9, 0)]) (jcall_v (A := [(0, (v79007 - 48)), (0, 0), (0, 0)]) (S' := []) (r := 42) rfl (g.lt ad42) (g.tg ad42) (Nat.le_of_ble_eq_true rfl)) (by decide) ml267 pp267 (Nat.le_of_ble_eq_true rfl) rfl (by decide) (by decide) ?_
            refine ev_iload_n rfl ?_
            refine ev_ifne f267_6 (fun c79032 => absurd c79032 (by omega)) (fun c79032 => ?_)
            refine ev_iconst ?_
            refine ev_ret rfl (by decide) (by decide) ?_
            show jEv _ _ _ _ _ _ _ (_, [(2, 42), (0, a1), (0, 0), (0, (a1 + 1)), (0, 0), (0, (v79007 - 48)), (0, 1)], [(0, (-1))], _, _, _)
            refine ev_pop (by decide) ?_
            refine ev_iload_n rfl ?_
            exact ev_ret rfl (by decide) (by decide) ⟨⟨_, rfl, by omega, by omega, g, k0⟩, fun r hr h0 => by cases hr; exact (Ad.step (r' := (a1 + 1)) (Ad.rf _ _ _) (by omega) k0 (fun _ => rfl) (ev79007) (by omega) (by omega) (by omega)), fun r hr => by cases hr; exact okF (show (if bR h a1 = 45 then enR (bR h) (a1 + 1) else enR (bR h) a1) = ((a1 + 1), 0, 0, 1) by rw [if_neg (fun z => absurd ((bR_at (p := a1) k0 (fun _ => rfl) ew0 (ev79007) (by omega) (by omega)).symm.trans z) (by omega))]; unfold enR; rw [show nm3 (bR h) a1 = (a1 + 1) by unfold nm3; rw [(bR_at (p := a1) k0 (fun _ => rfl) ew0 (ev79007) (by omega) (by omega)), (bR_end (p := (a1 + 1)) ew0 (by omega))]; (repeat' split) <;> omega, if_neg (by omega)]) (by omega) (by omega)⟩
          · refine ev_aload_n rfl ?_
            refine g_getp (r := 42) (c := 54) g ad42 (by decide) (by decide) rf42_16 ft12_16 ?_
            refine ev_iload_n rfl ?_
            refine g_bald g ad54 rt54 (by omega) (by omega) (fun v79033 ev79033 lv79033 uv79033 => ?_)
            refine ev_goto f264_18 ?_
            refine ev_ret rfl (by decide) (by decide) ?_
            show jEv _ _ _ _ _ _ _ (_, [(2, 42), (0, (a1 + 1))], [(0, v79033)], _, _, _)
            refine ev_bipush ?_
            refine ev_bipush ?_
            refine ev_in (d := 0) (a := 0) (b := 0) (cd' := c242_0) (m := 3) (L0 := [(0, v79033), (0, 48), (0, 57)]) (jcall_s (A := [(0, 57), (0, 48), (0, v79033)]) (S' := []) (by decide) rfl (Nat.le_of_ble_eq_true rfl)) (by decide) ml242 pp242 (Nat.le_of_ble_eq_true rfl) rfl (by decide) (by decide) ?_
            refine ev_iload_n rfl ?_
            refine ev_iload_n rfl ?_
            refine ev_icmplt f242_14 (fun c79034 => ?_) (fun c79034 => ?_)
            · refine ev_iconst ?_
              refine ev_ret rfl (by decide) (by decide) ?_
              show jEv _ _ _ _ _ _ _ (_, [(2, 42), (0, (a1 + 1))], [(0, 0)], _, _, _)
              refine ev_ret rfl (by decide) (by decide) ?_
              show jEv _ _ _ _ _ _ _ (_, [(2, 42), (0, a1), (0, 0), (0, (a1 + 1)), (0, 0), (0, (v79007 - 48)), (0, 1)], [(0, 0)], _, _, _)
              refine ev_ifeq f269_86 (fun c79035 => ?_) (fun c79035 => absurd c79035 (by omega))
              refine ev_aload_n rfl ?_
              refine ev_iload_n rfl ?_
              refine ev_in (d := 1) (a := 0) (b := 0) (cd' := c265_0) (m := 2) (L0 := [(2, 42), (0, (a1 + 1))]) (jcall_v (A := [(0, (a1 + 1))]) (S' := []) (r := 42) rfl (g.lt ad42) (g.tg ad42) (Nat.le_of_ble_eq_true rfl)) (by decide) ml265 pp265 (Nat.le_of_ble_eq_true rfl) rfl (by decide) (by decide) ?_
              refine ev_aload_n rfl ?_
              refine ev_iload_n rfl ?_
              refine ev_in (d := 0) (a := 0) (b := 0) (cd' := c264_0) (m := 2) (L0 := [(2, 42), (0, (a1 + 1))]) (jcall_v (A := [(0, (a1 + 1))]) (S' := []) (r := 42) rfl (g.lt ad42) (g.tg ad42) (Nat.le_of_ble_eq_true rfl)) (by decide) ml264 pp264 (Nat.le_of_ble_eq_true rfl) rfl (by decide) (by decide) ?_
              refine ev_iload_n rfl ?_
              refine ev_aload_n rfl ?_
              refine g_getv (r := 42) (v := w0) g ad42 (by decide) ft12_17 (ew0) ?_
              refine ev_icmpge f264_17 (fun c79036 => absurd c79036 (by omega)) (fun c79036 => ?_)
              refine ev_aload_n rfl ?_
              refine g_getp (r := 42) (c := 54) g ad42 (by decide) (by decide) rf42_16 ft12_16 ?_
              refine ev_iload_n rfl ?_
              refine g_baldv (v := v79033) g ad54 (by omega) (by omega) (ev79033) ?_
              refine ev_goto f264_18 ?_
              refine ev_ret rfl (by decide) (by decide) ?_
              show jEv _ _ _ _ _ _ _ (_, [(2, 42), (0, (a1 + 1))], [(0, v79033)], _, _, _)
              refine ev_bipush ?_
              refine ev_bipush ?_
              refine ev_in (d := 0) (a := 0) (b := 0) (cd' := c242_0) (m := 3) (L0 := [(0, v79033), (0, 48), (0, 57)]) (jcall_s (A := [(0, 57), (0, 48), (0, v79033)]) (S' := []) (by decide) rfl (Nat.le_of_ble_eq_true rfl)) (by decide) ml242 pp242 (Nat.le_of_ble_eq_true rfl) rfl (by decide) (by decide) ?_
              refine ev_iload_n rfl ?_
              refine ev_iload_n rfl ?_
              refine ev_icmplt f242_14 (fun c79037 => ?_) (fun c79037 => absurd c79037 (by omega))
              refine ev_iconst ?_
              refine ev_ret rfl (by decide) (by decide) ?_
              show jEv _ _ _ _ _ _ _ (_, [(2, 42), (0, (a1 + 1))], [(0, 0)], _, _, _)
              refine ev_ret rfl (by decide) (by decide) ?_
              show jEv _ _ _ _ _ _ _ (_, [(2, 42), (0, a1), (0, 0), (0, (a1 + 1)), (0, 0), (0, (v79007 - 48)), (0, 1)], [(0, 0)], _, _, _)
              refine ev_ifeq f269_100 (fun c79038 => ?_) (fun c79038 => absurd c79038 (by omega))
              refine ev_aload_n rfl ?_
              refine ev_iload_n rfl ?_
              refine ev_iconst ?_
              refine ev_iload rfl ?_
              refine ev_ifeq f269_114 (fun c79039 => ?_) (fun c79039 => absurd c79039 (by omega))
              refine ev_iload rfl ?_
              refine ev_in (d := 1) (a := 0) (b := 0) (cd' := c267_0) (m := 6) (L0 := [(2, 42), (0, 0), (0, 0), (0, (v79007 - 48)), (9, 0), (9, 0)]) (jcall_v (A := [(0, (v79007 - 48)), (0, 0), (0, 0)]) (S' := []) (r := 42) rfl (g.lt ad42) (g.tg ad42) (Nat.le_of_ble_eq_true rfl)) (by decide) ml267 pp267 (Nat.le_of_ble_eq_true rfl) rfl (by decide) (by decide) ?_
              refine ev_iload_n rfl ?_
              refine ev_ifne f267_6 (fun c79040 => absurd c79040 (by omega)) (fun c79040 => ?_)
              refine ev_iconst ?_
              refine ev_ret rfl (by decide) (by decide) ?_
              show jEv _ _ _ _ _ _ _ (_, [(2, 42), (0, a1), (0, 0), (0, (a1 + 1)), (0, 0), (0, (v79007 - 48)), (0, 1)], [(0, (-1))], _, _, _)
              refine ev_pop (by decide) ?_
              refine ev_iload_n rfl ?_
              exact ev_ret rfl (by decide) (by decide) ⟨⟨_, rfl, by omega, by omega, g, k0⟩, fun r hr h0 => by cases hr; exact (Ad.step (r' := (a1 + 1)) (Ad.rf _ _ _) (by omega) k0 (fun _ => rfl) (ev79007) (by omega) (by omega) (by omega)), fun r hr => by cases hr; exact okF (show (if bR h a1 = 45 then enR (bR h) (a1 + 1) else enR (bR h) a1) = ((a1 + 1), 0, 0, 1) by rw [if_neg (fun z => absurd ((bR_at (p := a1) k0 (fun _ => rfl) ew0 (ev79007) (by omega) (by omega)).symm.trans z) (by omega))]; unfold enR; rw [show nm3 (bR h) a1 = (a1 + 1) by unfold nm3; rw [(bR_at (p := a1) k0 (fun _ => rfl) ew0 (ev79007) (by omega) (by omega)), (bR_at (p := (a1 + 1)) k0 (fun _ => rfl) ew0 (ev79033) (by omega) (by omega))]; (repeat' split) <;> omega, if_neg (by omega)]) (by omega) (by omega)⟩
            · refine ev_iload_n rfl ?_
              refine ev_iload_n rfl ?_
              refine ev_icmpgt f242_14 (fun c79041 => ?_) (fun c79041 => ?_)
              · refine ev_iconst ?_
                refine ev_ret rfl (by decide) (by decide) ?_
                show jEv _ _ _ _ _ _ _ (_, [(2, 42), (0, (a1 + 1))], [(0, 0)], _, _, _)
                refine ev_ret rfl (by decide) (by decide) ?_
                show jEv _ _ _ _ _ _ _ (_, [(2, 42), (0, a1), (0, 0), (0, (a1 + 1)), (0, 0), (0, (v79007 - 48)), (0, 1)], [(0, 0)], _, _, _)
                refine ev_ifeq f269_86 (fun c79042 => ?_) (fun c79042 => absurd c79042 (by omega))
                refine ev_aload_n rfl ?_
                refine ev_iload_n rfl ?_
                refine ev_in (d := 1) (a := 0) (b := 0) (cd' := c265_0) (m := 2) (L0 := [(2, 42), (0, (a1 + 1))]) (jcall_v (A := [(0, (a1 + 1))]) (S' := []) (r := 42) rfl (g.lt ad42) (g.tg ad42) (Nat.le_of_ble_eq_true rfl)) (by decide) ml265 pp265 (Nat.le_of_ble_eq_true rfl) rfl (by decide) (by decide) ?_
                refine ev_aload_n rfl ?_
                refine ev_iload_n rfl ?_
                refine ev_in (d := 0) (a := 0) (b := 0) (cd' := c264_0) (m := 2) (L0 := [(2, 42), (0, (a1 + 1))]) (jcall_v (A := [(0, (a1 + 1))]) (S' := []) (r := 42) rfl (g.lt ad42) (g.tg ad42) (Nat.le_of_ble_eq_true rfl)) (by decide) ml264 pp264 (Nat.le_of_ble_eq_true rfl) rfl (by decide) (by decide) ?_
                refine ev_iload_n rfl ?_
                refine ev_aload_n rfl ?_
                refine g_getv (r := 42) (v := w0) g ad42 (by decide) ft12_17 (ew0) ?_
                refine ev_icmpge f264_17 (fun c79043 => absurd c79043 (by omega)) (fun c79043 => ?_)
                refine ev_aload_n rfl ?_
                refine g_getp (r := 42) (c := 54) g ad42 (by decide) (by decide) rf42_16 ft12_16 ?_
                refine ev_iload_n rfl ?_
                refine g_baldv (v := v79033) g ad54 (by omega) (by omega) (ev79033) ?_
                refine ev_goto f264_18 ?_
                refine ev_ret rfl (by decide) (by decide) ?_
                show jEv _ _ _ _ _ _ _ (_, [(2, 42), (0, (a1 + 1))], [(0, v79033)], _, _, _)
                refine ev_bipush ?_
                refine ev_bipush ?_
                refine ev_in (d := 0) (a := 0) (b := 0) (cd' := c242_0) (m := 3) (L0 := [(0, v79033), (0, 48), (0, 57)]) (jcall_s (A := [(0, 57), (0, 48), (0, v79033)]) (S' := []) (by decide) rfl (Nat.le_of_ble_eq_true rfl)) (by decide) ml242 pp242 (Nat.le_of_ble_eq_true rfl) rfl (by decide) (by decide) ?_
                refine ev_iload_n rfl ?_
                refine ev_iload_n rfl ?_
                refine ev_icmplt f242_14 (fun c79044 => absurd c79044 (by omega)) (fun c79044 => ?_)
                refine ev_iload_n rfl ?_
                refine ev_iload_n rfl ?_
                refine ev_icmpgt f242_14 (fun c79045 => ?_) (fun c79045 => absurd c79045 (by omega))
                refine ev_iconst ?_
                refine ev_ret rfl (by decide) (by decide) ?_
                show jEv _ _ _ _ _ _ _ (_, [(2, 42), (0, (a1 + 1))], [(0, 0)], _, _, _)
                refine ev_ret rfl (by decide) (by decide) ?_
                show jEv _ _ _ _ _ _ _ (_, [(2, 42), (0, a1), (0, 0), (0, (a1 + 1)), (0, 0), (0, (v79007 - 48)), (0, 1)], [(0, 0)], _, _, _)
                refine ev_ifeq f269_100 (fun c79046 => ?_) (fun c79046 => absurd c79046 (by omega))
                refine ev_aload_n rfl ?_
                refine ev_iload_n rfl ?_
                refine ev_iconst ?_
                refine ev_iload rfl ?_
                refine ev_ifeq f269_114 (fun c79047 => ?_) (fun c79047 => absurd c79047 (by omega))
                refine ev_iload rfl ?_
                refine ev_in (d := 1) (a := 0) (b := 0) (cd' := c267_0) (m := 6) (L0 := [(2, 42), (0, 0), (0, 0), (0, (v79007 - 48)), (9, 0), (9, 0)]) (jcall_v (A := [(0, (v79007 - 48)), (0, 0), (0, 0)]) (S' := []) (r := 42) rfl (g.lt ad42) (g.tg ad42) (Nat.le_of_ble_eq_true rfl)) (by decide) ml267 pp267 (Nat.le_of_ble_eq_true rfl) rfl (by decide) (by decide) ?_
                refine ev_iload_n rfl ?_
                refine ev_ifne f267_6 (fun c79048 => absurd c79048 (by omega)) (fun c79048 => ?_)
                refine ev_iconst ?_
                refine ev_ret rfl (by decide) (by decide) ?_
                show jEv _ _ _ _ _ _ _ (_, [(2, 42), (0, a1), (0, 0), (0, (a1 + 1)), (0, 0), (0, (v79007 - 48)), (0, 1)], [(0, (-1))], _, _, _)
                refine ev_pop (by decide) ?_
                refine ev_iload_n rfl ?_
                exact ev_ret rfl (by decide) (by decide) ⟨⟨_, rfl, by omega, by omega, g, k0⟩, fun r hr h0 => by cases hr; exact (Ad.step (r' := (a1 + 1)) (Ad.rf _ _ _) (by omega) k0 (fun _ => rfl) (ev79007) (by omega) (by omega) (by omega)), fun r hr => by cases hr; exact okF (show (if bR h a1 = 45 then enR (bR h) (a1 + 1) else enR (bR h) a1) = ((a1 + 1), 0, 0, 1) by rw [if_neg (fun z => absurd ((bR_at (p := a1) k0 (fun _ => rfl) ew0 (ev79007) (by omega) (by omega)).symm.trans z) (by omega))]; unfold enR; rw [show nm3 (bR h) a1 = (a1 + 1) by unfold nm3; rw [(bR_at (p := a1) k0 (fun _ => rfl) ew0 (ev79007) (by omega) (by omega)), (bR_at (p := (a1 + 1)) k0 (fun _ => rfl) ew0 (ev79033) (by omega) (by omega))]; (repeat' split) <;> omega, if_neg (by omega)]) (by omega) (by omega)⟩
              · refine ev_iconst ?_
                refine ev_goto f242_15 ?_
                refine ev_ret rfl (by decide) (by decide) ?_
                show jEv _ _ _ _ _ _ _ (_, [(2, 42), (0, (a1 + 1))], [(0, 1)], _, _, _)
                refine ev_ret rfl (by decide) (by decide) ?_
                show jEv _ _ _ _ _ _ _ (_, [(2, 42), (0, a1), (0, 0), (0, (a1 + 1)), (0, 0), (0, (v79007 - 48)), (0, 1)], [(0, 1)], _, _, _)
                refine ev_ifeq f269_86 (fun c79049 => absurd c79049 (by omega)) (fun c79049 => ?_)
                refine ev_bipush ?_
                refine ev_iload rfl ?_
                refine ev_imul (r := (10 * v79007 - 480)) (by unfold w32; omega) ?_
                refine ev_aload_n rfl ?_
                refine ev_iload_n rfl ?_
                refine ev_in (d := 1) (a := 0) (b := 0) (cd' := c264_0) (m := 2) (L0 := [(2, 42), (0, (a1 + 1))]) (jcall_v (A := [(0, (a1 + 1))]) (S' := [(0, (10 * v79007 - 480))]) (r := 42) rfl (g.lt ad42) (g.tg ad42) (Nat.le_of_ble_eq_true rfl)) (by decide) ml264 pp264 (Nat.le_of_ble_eq_true rfl) rfl (by decide) (by decide) ?_
                refine ev_iload_n rfl ?_
                refine ev_aload_n rfl ?_
                refine g_getv (r := 42) (v := w0) g ad42 (by decide) ft12_17 (ew0) ?_
                refine ev_icmpge f264_17 (fun c79050 => absurd c79050 (by omega)) (fun c79050 => ?_)
                refine ev_aload_n rfl ?_
                refine g_getp (r := 42) (c := 54) g ad42 (by decide) (by decide) rf42_16 ft12_16 ?_
                refine ev_iload_n rfl ?_
                refine g_baldv (v := v79033) g ad54 (by omega) (by omega) (ev79033) ?_
                refine ev_goto f264_18 ?_
                refine ev_ret rfl (by decide) (by decide) ?_
                show jEv _ _ _ _ _ _ _ (_, [(2, 42), (0, a1), (0, 0), (0, (a1 + 1)), (0, 0), (0, (v79007 - 48)), (0, 1)], [(0, v79033), (0, (10 * v79007 - 480))], _, _, _)
                refine ev_iadd (r := (10 * v79007 + v79033 - 480)) (by unfold w32; omega) ?_
                refine ev_bipush ?_
                refine ev_isub (r := (10 * v79007 + v79033 - 528)) (by unfold w32; omega) ?_
                refine ev_istore (L' := [(2, 42), (0, a1), (0, 0), (0, (a1 + 1)), (0, 0), (0, (10 * v79007 + v79033 - 528)), (0, 1)]) (Nat.le_of_ble_eq_true rfl) rfl ?_
                refine ev_iinc (w := 2) (L' := [(2, 42), (0, a1), (0, 0), (0, (a1 + 1)), (0, 0), (0, (10 * v79007 + v79033 - 528)), (0, 2)]) rfl (by decide) rfl ?_
                refine ev_iinc (w := (a1 + 2)) (L' := [(2, 42), (0, a1), (0, 0), (0, (a1 + 2)), (0, 0), (0, (10 * v79007 + v79033 - 528)), (0, 2)]) rfl (by unfold w32; omega) rfl ?_
                refine ev_goto f269_47 ?_
                refine ev_iload rfl ?_
                refine ev_iconst ?_
                refine ev_icmpge f269_86 (fun c79051 => absurd c79051 (by omega)) (fun c79051 => ?_)
                refine ev_aload_n rfl ?_
                refine ev_iload_n rfl ?_
                refine ev_in (d := 1) (a := 0) (b := 0) (cd' := c265_0) (m := 2) (L0 := [(2, 42), (0, (a1 + 2))]) (jcall_v (A := [(0, (a1 + 2))]) (S' := []) (r := 42) rfl (g.lt ad42) (g.tg ad42) (Nat.le_of_ble_eq_true rfl)) (by decide) ml265 pp265 (Nat.le_of_ble_eq_true rfl) rfl (by decide) (by decide) ?_
                refine ev_aload_n rfl ?_
                refine ev_iload_n rfl ?_
                refine ev_in (d := 0) (a := 0) (b := 0) (cd' := c264_0) (m := 2) (L0 := [(2, 42), (0, (a1 + 2))]) (jcall_v (A := [(0, (a1 + 2))]) (S' := []) (r := 42) rfl (g.lt ad42) (g.tg ad42) (Nat.le_of_ble_eq_true rfl)) (by decide) ml264 pp264 (Nat.le_of_ble_eq_true rfl) rfl (by decide) (by decide) ?_
                refine ev_iload_n rfl ?_
                refine ev_aload_n rfl ?_
                refine g_getv (r := 42) (v := w0) g ad42 (by decide) ft12_17 (ew0) ?_
                refine ev_icmpge f264_17 (fun c79052 => ?_) (fun c79052 => ?_)
                · refine ev_iconst ?_
                  refine ev_ret rfl (by decide) (by decide) ?_
                  show jEv _ _ _ _ _ _ _ (_, [(2, 42), (0, (a1 + 2))], [(0, (-1))], _, _, _)
                  refine ev_bipush ?_
                  refine ev_bipush ?_
                  refine ev_in (d := 0) (a := 0) (b := 0) (cd' := c242_0) (m := 3) (L0 := [(0, (-1)), (0, 48), (0, 57)]) (jcall_s (A := [(0, 57), (0, 48), (0, (-1))]) (S' := []) (by decide) rfl (Nat.le_of_ble_eq_true rfl)) (by decide) ml242 pp242 (Nat.le_of_ble_eq_true rfl) rfl (by decide) (by decide) ?_
                  refine ev_iload_n rfl ?_
                  refine ev_iload_n rfl ?_
                  refine ev_icmplt f242_14 (fun c79053 => ?_) (fun c79053 => absurd c79053 (by omega))
                  refine ev_iconst ?_
                  refine ev_ret rfl (by decide) (by decide) ?_
                  show jEv _ _ _ _ _ _ _ (_, [(2, 42), (0, (a1 + 2))], [(0, 0)], _, _, _)
                  refine ev_ret rfl (by decide) (by decide) ?_
                  show jEv _ _ _ _ _ _ _ (_, [(2, 42), (0, a1), (0, 0), (0, (a1 + 2)), (0, 0), (0, (10 * v79007 + v79033 - 528)), (0, 2)], [(0, 0)], _, _, _)
                  refine ev_ifeq f269_86 (fun c79054 => ?_) (fun c79054 => absurd c79054 (by omega))
                  refine ev_aload_n rfl ?_
                  refine ev_iload_n rfl ?_
                  refine ev_in (d := 1) (a := 0) (b := 0) (cd' := c265_0) (m := 2) (L0 := [(2, 42), (0, (a1 + 2))]) (jcall_v (A := [(0, (a1 + 2))]) (S' := []) (r := 42) rfl (g.lt ad42) (g.tg ad42) (Nat.le_of_ble_eq_true rfl)) (by decide) ml265 pp265 (Nat.le_of_ble_eq_true rfl) rfl (by decide) (by decide) ?_
                  refine ev_aload_n rfl ?_
                  refine ev_iload_n rfl ?_
                  refine ev_in (d := 0) (a := 0) (b := 0) (cd' := c264_0) (m := 2) (L0 := [(2, 42), (0, (a1 + 2))]) (jcall_v (A := [(0, (a1 + 2))]) (S' := []) (r := 42) rfl (g.lt ad42) (g.tg ad42) (Nat.le_of_ble_eq_true rfl)) (by decide) ml264 pp264 (Nat.le_of_ble_eq_true rfl) rfl (by decide) (by decide) ?_
                  refine ev_iload_n rfl ?_
                  refine ev_aload_n rfl ?_
                  refine g_getv (r := 42) (v := w0) g ad42 (by decide) ft12_17 (ew0) ?_
                  refine ev_icmpge f264_17 (fun c79055 => ?_) (fun c79055 => absurd c79055 (by omega))
                  refine ev_iconst ?_
                  refine ev_ret rfl (by decide) (by decide) ?_
                  show jEv _ _ _ _ _ _ _ (_, [(2, 42), (0, (a1 + 2))], [(0, (-1))], _, _, _)
                  refine ev_bipush ?_
                  refine ev_bipush ?_
                  refine ev_in (d := 0) (a := 0) (b := 0) (cd' := c242_0) (m := 3) (L0 := [(0, (-1)), (0, 48), (0, 57)]) (jcall_s (A := [(0, 57), (0, 48), (0, (-1))]) (S' := []) (by decide) rfl (Nat.le_of_ble_eq_true rfl)) (by decide) ml242 pp242 (Nat.le_of_ble_eq_true rfl) rfl (by decide) (by decide) ?_
                  refine ev_iload_n rfl ?_
                  refine ev_iload_n rfl ?_
                  refine ev_icmplt f242_14 (fun c79056 => ?_) (fun c79056 => absurd c79056 (by omega))
                  refine ev_iconst ?_
                  refine ev_ret rfl (by decide) (by decide) ?_
                  show jEv _ _ _ _ _ _ _ (_, [(2, 42), (0, (a1 + 2))], [(0, 0)], _, _, _)
                  refine ev_ret rfl (by decide) (by decide) ?_
                  show jEv _ _ _ _ _ _ _ (_, [(2, 42), (0, a1), (0, 0), (0, (a1 + 2)), (0, 0), (0, (10 * v79007 + v79033 - 528)), (0, 2)], [(0, 0)], _, _, _)
                  refine ev_ifeq f269_100 (fun c79057 => ?_) (fun c79057 => absurd c79057 (by omega))
                  refine ev_aload_n rfl ?_
                  refine ev_iload_n rfl ?_
                  refine ev_iconst ?_
                  refine ev_iload rfl ?_
                  refine ev_ifeq f269_114 (fun c79058 => ?_) (fun c79058 => absurd c79058 (by omega))
                  refine ev_iload rfl ?_
                  refine ev_in (d := 1) (a := 0) (b := 0) (cd' := c267_0) (m := 6) (L0 := [(2, 42), (0, 0), (0, 0), (0, (10 * v79007 + v79033 - 528)), (9, 0), (9, 0)]) (jcall_v (A := [(0, (10 * v79007 + v79033 - 528)), (0, 0), (0, 0)]) (S' := []) (r := 42) rfl (g.lt ad42) (g.tg ad42) (Nat.le_of_ble_eq_true rfl)) (by decide) ml267 pp267 (Nat.le_of_ble_eq_true rfl) rfl (by decide) (by decide) ?_
                  refine ev_iload_n rfl ?_
                  refine ev_ifne f267_6 (fun c79059 => absurd c79059 (by omega)) (fun c79059 => ?_)
                  refine ev_iconst ?_
                  refine ev_ret rfl (by decide) (by decide) ?_
                  show jEv _ _ _ _ _ _ _ (_, [(2, 42), (0, a1), (0, 0), (0, (a1 + 2)), (0, 0), (0, (10 * v79007 + v79033 - 528)), (0, 2)], [(0, (-1))], _, _, _)
                  refine ev_pop (by decide) ?_
                  refine ev_iload_n rfl ?_
                  exact ev_ret rfl (by decide) (by decide) ⟨⟨_, rfl, by omega, by omega, g, k0⟩, fun r hr h0 => by cases hr; exact (Ad.step (r' := (a1 + 2)) (Ad.step (r' := (a1 + 1)) (Ad.rf _ _ _) (by omega) k0 (fun _ => rfl) (ev79007) (by omega) (by omega) (by omega)) (by omega) k0 (fun _ => rfl) (ev79033) (by omega) (by omega) (by omega)), fun r hr => by cases hr; exact okF (show (if bR h a1 = 45 then enR (bR h) (a1 + 1) else enR (bR h) a1) = ((a1 + 2), 0, 0, 1) by rw [if_neg (fun z => absurd ((bR_at (p := a1) k0 (fun _ => rfl) ew0 (ev79007) (by omega) (by omega)).symm.trans z) (by omega))]; unfold enR; rw [show nm3 (bR h) a1 = (a1 + 2) by unfold nm3; rw [(bR_at (p := a1) k0 (fun _ => rfl) ew0 (ev79007) (by omega) (by omega)), (bR_at (p := (a1 + 1)) k0 (fun _ => rfl) ew0 (ev79033) (by omega) (by omega)), (bR_end (p := (a1 + 2)) ew0 (by omega))]; (repeat' split) <;> omega, if_neg (by omega)]) (by omega) (by omega)⟩
                · refine ev_aload_n rfl ?_
                  refine g_getp (r := 42) (c := 54) g ad42 (by decide) (by decide) rf42_16 ft12_16 ?_
                  refine ev_iload_n rfl ?_
                  refine g_bald g ad54 rt54 (by omega) (by omega) (fun v79060 ev79060 lv79060 uv79060 => ?_)
                  refine ev_goto f264_18 ?_
                  refine ev_ret rfl (by decide) (by decide) ?_
                  show jEv _ _ _ _ _ _ _ (_, [(2, 42), (0, (a1 + 2))], [(0, v79060)], _, _, _)
                  refine ev_bipush ?_
                  refine ev_bipush ?_
                  refine ev_in (d := 0) (a := 0) (b := 0) (cd' := c242_0) (m := 3) (L0 := [(0, v79060), (0, 48), (0, 57)]) (jcall_s (A := [(0, 57), (0, 48), (0, v79060)]) (S' := []) (by decide) rfl (Nat.le_of_ble_eq_true rfl)) (by decide) ml242 pp242 (Nat.le_of_ble_eq_true rfl) rfl (by decide) (by decide) ?_
                  refine ev_iload_n rfl ?_
                  refine ev_iload_n rfl ?_
                  refine ev_icmplt f242_14 (fun c79061 => ?_) (fun c79061 => ?_)
                  · refine ev_iconst ?_
                    refine ev_ret rfl (by decide) (by decide) ?_
                    show jEv _ _ _ _ _ _ _ (_, [(2, 42), (0, (a1 + 2))], [(0, 0)], _, _, _)
                    refine ev_ret rfl (by decide) (by decide) ?_
                    show jEv _ _ _ _ _ _ _ (_, [(2, 42), (0, a1), (0, 0), (0, (a1 + 2)), (0, 0), (0, (10 * v79007 + v79033 - 528)), (0, 2)], [(0, 0)], _, _, _)
                    refine ev_ifeq f269_86 (fun c79062 => ?_) (fun c79062 => absurd c79062 (by omega))
                    refine ev_aload_n rfl ?_
                    refine ev_iload_n rfl ?_
                    refine ev_in (d := 1) (a := 0) (b := 0) (cd' := c265_0) (m := 2) (L0 := [(2, 42), (0, (a1 + 2))]) (jcall_v (A := [(0, (a1 + 2))]) (S' := []) (r := 42) rfl (g.lt ad42) (g.tg ad42) (Nat.le_of_ble_eq_true rfl)) (by decide) ml265 pp265 (Nat.le_of_ble_eq_true rfl) rfl (by decide) (by decide) ?_
                    refine ev_aload_n rfl ?_
                    refine ev_iload_n rfl ?_
                    refine ev_in (d := 0) (a := 0) (b := 0) (cd' := c264_0) (m := 2) (L0 := [(2, 42), (0, (a1 + 2))]) (jcall_v (A := [(0, (a1 + 2))]) (S' := []) (r := 42) rfl (g.lt ad42) (g.tg ad42) (Nat.le_of_ble_eq_true rfl)) (by decide) ml264 pp264 (Nat.le_of_ble_eq_true rfl) rfl (by decide) (by decide) ?_
                    refine ev_iload_n rfl ?_
                    refine ev_aload_n rfl ?_
                    refine g_getv (r := 42) (v := w0) g ad42 (by decide) ft12_17 (ew0) ?_
                    refine ev_icmpge f264_17 (fun c79063 => absurd c79063 (by omega)) (fun c79063 => ?_)
                    refine ev_aload_n rfl ?_
                    refine g_getp (r := 42) (c := 54) g ad42 (by decide) (by decide) rf42_16 ft12_16 ?_
                    refine ev_iload_n rfl ?_
                    refine g_baldv (v := v79060) g ad54 (by omega) (by omega) (ev79060) ?_
                    refine ev_goto f264_18 ?_
                    refine ev_ret rfl (by decide) (by decide) ?_
                    show jEv _ _ _ _ _ _ _ (_, [(2, 42), (0, (a1 + 2))], [(0, v79060)], _, _, _)
                    refine ev_bipush ?_
                    refine ev_bipush ?_
                    refine ev_in (d := 0) (a := 0) (b := 0) (cd' := c242_0) (m := 3) (L0 := [(0, v79060), (0, 48), (0, 57)]) (jcall_s (A := [(0, 57), (0, 48), (0, v79060)]) (S' := []) (by decide) rfl (Nat.le_of_ble_eq_true rfl)) (by decide) ml242 pp242 (Nat.le_of_ble_eq_true rfl) rfl (by decide) (by decide) ?_
                    refine ev_iload_n rfl ?_
                    refine ev_iload_n rfl ?_
                    refine ev_icmplt f242_14 (fun c79064 => ?_) (fun c79064 => absurd c79064 (by omega))
                    refine ev_iconst ?_
                    refine ev_ret rfl (by decide) (by decide) ?_
                    show jEv _ _ _ _ _ _ _ (_, [(2, 42), (0, (a1 + 2))], [(0, 0)], _, _, _)
                    refine ev_ret rfl (by decide) (by decide) ?_
                    show jEv _ _ _ _ _ _ _ (_, [(2, 42), (0, a1), (0, 0), (0, (a1 + 2)), (0, 0), (0, (10 * v79007 + v79033 - 528)), (0, 2)], [(0, 0)], _, _, _)
                    refine ev_ifeq f269_100 (fun c79065 => ?_) (fun c79065 => absurd c79065 (by omega))
                    refine ev_aload_n rfl ?_
                    refine ev_iload_n rfl ?_
                    refine ev_iconst ?_
                    refine ev_iload rfl ?_
                    refine ev_ifeq f269_114 (fun c79066 => ?_) (fun c79066 => absurd c79066 (by omega))
                    refine ev_iload rfl ?_
                    refine ev_in (d := 1) (a := 0) (b := 0) (cd' := c267_0) (m := 6) (L0 := [(2, 42), (0, 0), (0, 0), (0, (10 * v79007 + v79033 - 528)), (9, 0), (9, 0)]) (jcall_v (A := [(0, (10 * v79007 + v79033 - 528)), (0, 0), (0, 0)]) (S' := []) (r := 42) rfl (g.lt ad42) (g.tg ad42) (Nat.le_of_ble_eq_true rfl)) (by decide) ml267 pp267 (Nat.le_of_ble_eq_true rfl) rfl (by decide) (by decide) ?_
                    refine ev_iload_n rfl ?_
                    refine ev_ifne f267_6 (fun c79067 => absurd c79067 (by omega)) (fun c79067 => ?_)
                    refine ev_iconst ?_
                    refine ev_ret rfl (by decide) (by decide) ?_
                    show jEv _ _ _ _ _ _ _ (_, [(2, 42), (0, a1), (0, 0), (0, (a1 + 2)), (0, 0), (0, (10 * v79007 + v79033 - 528)), (0, 2)], [(0, (-1))], _, _, _)
                    refine ev_pop (by decide) ?_
                    refine ev_iload_n rfl ?_
                    exact ev_ret rfl (by decide) (by decide) ⟨⟨_, rfl, by omega, by omega, g, k0⟩, fun r hr h0 => by cases hr; exact (Ad.step (r' := (a1 + 2)) (Ad.step (r' := (a1 + 1)) (Ad.rf _ _ _) (by omega) k0 (fun _ => rfl) (ev79007) (by omega) (by omega) (by omega)) (by omega) k0 (fun _ => rfl) (ev79033) (by omega) (by omega) (by omega)), fun r hr => by cases hr; exact okF (show (if bR h a1 = 45 then enR (bR h) (a1 + 1) else enR (bR h) a1) = ((a1 + 2), 0, 0, 1) by rw [if_neg (fun z => absurd ((bR_at (p := a1) k0 (fun _ => rfl) ew0 (ev79007) (by omega) (by omega)).symm.trans z) (by omega))]; unfold enR; rw [show nm3 (bR h) a1 = (a1 + 2) by unfold nm3; rw [(bR_at (p := a1) k0 (fun _ => rfl) ew0 (ev79007) (by omega) (by omega)), (bR_at (p := (a1 + 1)) k0 (fun _ => rfl) ew0 (ev79033) (by omega) (by omega)), (bR_at (p := (a1 + 2)) k0 (fun _ => rfl) ew0 (ev79060) (by omega) (by omega))]; (repeat' split) <;> omega, if_neg (by omega)]) (by omega) (by omega)⟩
                  · refine ev_iload_n rfl ?_
                    refine ev_iload_n rfl ?_
                    refine ev_icmpgt f242_14 (fun c79068 => ?_) (fun c79068 => ?_)
                    · refine ev_iconst ?_
                      refine ev_ret rfl (by decide) (by decide) ?_
                      show jEv _ _ _ _ _ _ _ (_, [(2, 42), (0, (a1 + 2))], [(0, 0)], _, _, _)
                      refine ev_ret rfl (by decide) (by decide) ?_
                      show jEv _ _ _ _ _ _ _ (_, [(2, 42), (0, a1), (0, 0), (0, (a1 + 2)), (0, 0), (0, (10 * v79007 + v79033 - 528)), (0, 2)], [(0, 0)], _, _, _)
                      refine ev_ifeq f269_86 (fun c79069 => ?_) (fun c79069 => absurd c79069 (by omega))
                      refine ev_aload_n rfl ?_
                      refine ev_iload_n rfl ?_
                      refine ev_in (d := 1) (a := 0) (b := 0) (cd' := c265_0) (m := 2) (L0 := [(2, 42), (0, (a1 + 2))]) (jcall_v (A := [(0, (a1 + 2))]) (S' := []) (r := 42) rfl (g.lt ad42) (g.tg ad42) (Nat.le_of_ble_eq_true rfl)) (by decide) ml265 pp265 (Nat.le_of_ble_eq_true rfl) rfl (by decide) (by decide) ?_
                      refine ev_aload_n rfl ?_
                      refine ev_iload_n rfl ?_
                      refine ev_in (d := 0) (a := 0) (b := 0) (cd' := c264_0) (m := 2) (L0 := [(2, 42), (0, (a1 + 2))]) (jcall_v (A := [(0, (a1 + 2))]) (S' := []) (r := 42) rfl (g.lt ad42) (g.tg ad42) (Nat.le_of_ble_eq_true rfl)) (by decide) ml264 pp264 (Nat.le_of_ble_eq_true rfl) rfl (by decide) (by decide) ?_
                      refine ev_iload_n rfl ?_
                      refine ev_aload_n rfl ?_
                      refine g_getv (r := 42) (v := w0) g ad42 (by decide) ft12_17 (ew0) ?_
                      refine ev_icmpge f264_17 (fun c79070 => absurd c79070 (by omega)) (fun c79070 => ?_)
                      refine ev_aload_n rfl ?_
                      refine g_getp (r := 42) (c := 54) g ad42 (by decide) (by decide) rf42_16 ft12_16 ?_
                      refine ev_iload_n rfl ?_
                      refine g_baldv (v := v79060) g ad54 (by omega) (by omega) (ev79060) ?_
                      refine ev_goto f264_18 ?_
                      refine ev_ret rfl (by decide) (by decide) ?_
                      show jEv _ _ _ _ _ _ _ (_, [(2, 42), (0, (a1 + 2))], [(0, v79060)], _, _, _)
                      refine ev_bipush ?_
                      refine ev_bipush ?_
                      refine ev_in (d := 0) (a := 0) (b := 0) (cd' := c242_0) (m := 3) (L0 := [(0, v79060), (0, 48), (0, 57)]) (jcall_s (A := [(0, 57), (0, 48), (0, v79060)]) (S' := []) (by decide) rfl (Nat.le_of_ble_eq_true rfl)) (by decide) ml242 pp242 (Nat.le_of_ble_eq_true rfl) rfl (by decide) (by decide) ?_
                      refine ev_iload_n rfl ?_
                      refine ev_iload_n rfl ?_
                      refine ev_icmplt f242_14 (fun c79071 => absurd c79071 (by omega)) (fun c79071 => ?_)
                      refine ev_iload_n rfl ?_
                      refine ev_iload_n rfl ?_
                      refine ev_icmpgt f242_14 (fun c79072 => ?_) (fun c79072 => absurd c79072 (by omega))
                      refine ev_iconst ?_
                      refine ev_ret rfl (by decide) (by decide) ?_
                      show jEv _ _ _ _ _ _ _ (_, [(2, 42), (0, (a1 + 2))], [(0, 0)], _, _, _)
                      refine ev_ret rfl (by decide) (by decide) ?_
                      show jEv _ _ _ _ _ _ _ (_, [(2, 42), (0, a1), (0, 0), (0, (a1 + 2)), (0, 0), (0, (10 * v79007 + v79033 - 528)), (0, 2)], [(0, 0)], _, _, _)
                      refine ev_ifeq f269_100 (fun c79073 => ?_) (fun c79073 => absurd c79073 (by omega))
                      refine ev_aload_n rfl ?_
                      refine ev_iload_n rfl ?_
                      refine ev_iconst ?_
                      refine ev_iload rfl ?_
                      refine ev_ifeq f269_114 (fun c79074 => ?_) (fun c79074 => absurd c79074 (by omega))
                      refine ev_iload rfl ?_
                      refine ev_in (d := 1) (a := 0) (b := 0) (cd' := c267_0) (m := 6) (L0 := [(2, 42), (0, 0), (0, 0), (0, (10 * v79007 + v79033 - 528)), (9, 0), (9, 0)]) (jcall_v (A := [(0, (10 * v79007 + v79033 - 528)), (0, 0), (0, 0)]) (S' := []) (r := 42) rfl (g.lt ad42) (g.tg ad42) (Nat.le_of_ble_eq_true rfl)) (by decide) ml267 pp267 (Nat.le_of_ble_eq_true rfl) rfl (by decide) (by decide) ?_
                      refine ev_iload_n rfl ?_
                      refine ev_ifne f267_6 (fun c79075 => absurd c79075 (by omega)) (fun c79075 => ?_)
                      refine ev_iconst ?_
                      refine ev_ret rfl (by decide) (by decide) ?_
                      show jEv _ _ _ _ _ _ _ (_, [(2, 42), (0, a1), (0, 0), (0, (a1 + 2)), (0, 0), (0, (10 * v79007 + v79033 - 528)), (0, 2)], [(0, (-1))], _, _, _)
                      refine ev_pop (by decide) ?_
                      refine ev_iload_n rfl ?_
                      exact ev_ret rfl (by decide) (by decide) ⟨⟨_, rfl, by omega, by omega, g, k0⟩, fun r hr h0 => by cases hr; exact (Ad.step (r' := (a1 + 2)) (Ad.step (r' := (a1 + 1)) (Ad.rf _ _ _) (by omega) k0 (fun _ => rfl) (ev79007) (by omega) (by omega) (by omega)) (by omega) k0 (fun _ => rfl) (ev79033) (by omega) (by omega) (by omega)), fun r hr => by cases hr; exact okF (show (if bR h a1 = 45 then enR (bR h) (a1 + 1) else enR (bR h) a1) = ((a1 + 2), 0, 0, 1) by rw [if_neg (fun z => absurd ((bR_at (p := a1) k0 (fun _ => rfl) ew0 (ev79007) (by omega) (by omega)).symm.trans z) (by omega))]; unfold enR; rw [show nm3 (bR h) a1 = (a1 + 2) by unfold nm3; rw [(bR_at (p := a1) k0 (fun _ => rfl) ew0 (ev79007) (by omega) (by omega)), (bR_at (p := (a1 + 1)) k0 (fun _ => rfl) ew0 (ev79033) (by omega) (by omega)), (bR_at (p := (a1 + 2)) k0 (fun _ => rfl) ew0 (ev79060) (by omega) (by omega))]; (repeat' split) <;> omega, if_neg (by omega)]) (by omega) (by omega)⟩
                    · refine ev_iconst ?_
                      refine ev_goto f242_15 ?_
                      refine ev_ret rfl (by decide) (by decide) ?_
                      show jEv _ _ _ _ _ _ _ (_, [(2, 42), (0, (a1 + 2))], [(0, 1)], _, _, _)
                      refine ev_ret rfl (by decide) (by decide) ?_
                      show jEv _ _ _ _ _ _ _ (_, [(2, 42), (0, a1), (0, 0), (0, (a1 + 2)), (0, 0), (0, (10 * v79007 + v79033 - 528)), (0, 2)], [(0, 1)], _, _, _)
                      refine ev_ifeq f269_86 (fun c79076 => absurd c79076 (by omega)) (fun c79076 => ?_)
                      refine ev_bipush ?_
                      refine ev_iload rfl ?_
                      refine ev_imul (r := (100 * v79007 + 10 * v79033 - 5280)) (by unfold w32; omega) ?_
                      refine ev_aload_n rfl ?_
                      refine ev_iload_n rfl ?_
                      refine ev_in (d := 1) (a := 0) (b := 0) (cd' := c264_0) (m := 2) (L0 := [(2, 42), (0, (a1 + 2))]) (jcall_v (A := [(0, (a1 + 2))]) (S' := [(0, (100 * v79007 + 10 * v79033 - 5280))]) (r := 42) rfl (g.lt ad42) (g.tg ad42) (Nat.le_of_ble_eq_true rfl)) (by decide) ml264 pp264 (Nat.le_of_ble_eq_true rfl) rfl (by decide) (by decide) ?_
                      refine ev_iload_n rfl ?_
                      refine ev_aload_n rfl ?_
                      refine g_getv (r := 42) (v := w0) g ad42 (by decide) ft12_17 (ew0) ?_
                      refine ev_icmpge f264_17 (fun c79077 => absurd c79077 (by omega)) (fun c79077 => ?_)
                      refine ev_aload_n rfl ?_
                      refine g_getp (r := 42) (c := 54) g ad42 (by decide) (by decide) rf42_16 ft12_16 ?_
                      refine ev_iload_n rfl ?_
                      refine g_baldv (v := v79060) g ad54 (by omega) (by omega) (ev79060) ?_
                      refine ev_goto f264_18 ?_
                      refine ev_ret rfl (by decide) (by decide) ?_
                      show jEv _ _ _ _ _ _ _ (_, [(2, 42), (0, a1), (0, 0), (0, (a1 + 2)), (0, 0), (0, (10 * v79007 + v79033 - 528)), (0, 2)], [(0, v79060), (0, (100 * v79007 + 10 * v79033 - 5280))], _, _, _)
                      refine ev_iadd (r := (100 * v79007 + 10 * v79033 + v79060 - 5280)) (by unfold w32; omega) ?_
                      refine ev_bipush ?_
                      refine ev_isub (r := (100 * v79007 + 10 * v79033 + v79060 - 5328)) (by unfold w32; omega) ?_
                      refine ev_istore (L' := [(2, 42), (0, a1), (0, 0), (0, (a1 + 2)), (0, 0), (0, (100 * v79007 + 10 * v79033 + v79060 - 5328)), (0, 2)]) (Nat.le_of_ble_eq_true rfl) rfl ?_
                      refine ev_iinc (w := 3) (L' := [(2, 42), (0, a1), (0, 0), (0, (a1 + 2)), (0, 0), (0, (100 * v79007 + 10 * v79033 + v79060 - 5328)), (0, 3)]) rfl (by decide) rfl ?_
                      refine ev_iinc (w := (a1 + 3)) (L' := [(2, 42), (0, a1), (0, 0), (0, (a1 + 3)), (0, 0), (0, (100 * v79007 + 10 * v79033 + v79060 - 5328)), (0, 3)]) rfl (by unfold w32; omega) rfl ?_
                      refine ev_goto f269_47 ?_
                      refine ev_iload rfl ?_
                      refine ev_iconst ?_
                      refine ev_icmpge f269_86 (fun c79078 => ?_) (fun c79078 => absurd c79078 (by omega))
                      refine ev_aload_n rfl ?_
                      refine ev_iload_n rfl ?_
                      refine ev_in (d := 1) (a := 0) (b := 0) (cd' := c265_0) (m := 2) (L0 := [(2, 42), (0, (a1 + 3))]) (jcall_v (A := [(0, (a1 + 3))]) (S' := []) (r := 42) rfl (g.lt ad42) (g.tg ad42) (Nat.le_of_ble_eq_true rfl)) (by decide) ml265 pp265 (Nat.le_of_ble_eq_true rfl) rfl (by decide) (by decide) ?_
                      refine ev_aload_n rfl ?_
                      refine ev_iload_n rfl ?_
                      refine ev_in (d := 0) (a := 0) (b := 0) (cd' := c264_0) (m := 2) (L0 := [(2, 42), (0, (a1 + 3))]) (jcall_v (A := [(0, (a1 + 3))]) (S' := []) (r := 42) rfl (g.lt ad42) (g.tg ad42) (Nat.le_of_ble_eq_true rfl)) (by decide) ml264 pp264 (Nat.le_of_ble_eq_true rfl) rfl (by decide) (by decide) ?_
                      refine ev_iload_n rfl ?_
                      refine ev_aload_n rfl ?_
                      refine g_getv (r := 42) (v := w0) g ad42 (by decide) ft12_17 (ew0) ?_
                      refine ev_icmpge f264_17 (fun c79079 => ?_) (fun c79079 => ?_)
                      · refine ev_iconst ?_
                        refine ev_ret rfl (by decide) (by decide) ?_
                        show jEv _ _ _ _ _ _ _ (_, [(2, 42), (0, (a1 + 3))], [(0, (-1))], _, _, _)
                        refine ev_bipush ?_
                        refine ev_bipush ?_
                        refine ev_in (d := 0) (a := 0) (b := 0) (cd' := c242_0) (m := 3) (L0 := [(0, (-1)), (0, 48), (0, 57)]) (jcall_s (A := [(0, 57), (0, 48), (0, (-1))]) (S' := []) (by decide) rfl (Nat.le_of_ble_eq_true rfl)) (by decide) ml242 pp242 (Nat.le_of_ble_eq_true rfl) rfl (by decide) (by decide) ?_
                        refine ev_iload_n rfl ?_
                        refine ev_iload_n rfl ?_
                        refine ev_icmplt f242_14 (fun c79080 => ?_) (fun c79080 => absurd c79080 (by omega))
                        refine ev_iconst ?_
                        refine ev_ret rfl (by decide) (by decide) ?_
                        show jEv _ _ _ _ _ _ _ (_, [(2, 42), (0, (a1 + 3))], [(0, 0)], _, _, _)
                        refine ev_ret rfl (by decide) (by decide) ?_
                        show jEv _ _ _ _ _ _ _ (_, [(2, 42), (0, a1), (0, 0), (0, (a1 + 3)), (0, 0), (0, (100 * v79007 + 10 * v79033 + v79060 - 5328)), (0, 3)], [(0, 0)], _, _, _)
                        refine ev_ifeq f269_100 (fun c79081 => ?_) (fun c79081 => absurd c79081 (by omega))
                        refine ev_aload_n rfl ?_
                        refine ev_iload_n rfl ?_
                        refine ev_iconst ?_
                        refine ev_iload rfl ?_
                        refine ev_ifeq f269_114 (fun c79082 => ?_) (fun c79082 => absurd c79082 (by omega))
                        refine ev_iload rfl ?_
                        refine ev_in (d := 1) (a := 0) (b := 0) (cd' := c267_0) (m := 6) (L0 := [(2, 42), (0, 0), (0, 0), (0, (100 * v79007 + 10 * v79033 + v79060 - 5328)), (9, 0), (9, 0)]) (jcall_v (A := [(0, (100 * v79007 + 10 * v79033 + v79060 - 5328)), (0, 0), (0, 0)]) (S' := []) (r := 42) rfl (g.lt ad42) (g.tg ad42) (Nat.le_of_ble_eq_true rfl)) (by decide) ml267 pp267 (Nat.le_of_ble_eq_true rfl) rfl (by decide) (by decide) ?_
                        refine ev_iload_n rfl ?_
                        refine ev_ifne f267_6 (fun c79083 => absurd c79083 (by omega)) (fun c79083 => ?_)
                        refine ev_iconst ?_
                        refine ev_ret rfl (by decide) (by decide) ?_
                        show jEv _ _ _ _ _ _ _ (_, [(2, 42), (0, a1), (0, 0), (0, (a1 + 3)), (0, 0), (0, (100 * v79007 + 10 * v79033 + v79060 - 5328)), (0, 3)], [(0, (-1))], _, _, _)
                        refine ev_pop (by decide) ?_
                        refine ev_iload_n rfl ?_
                        exact ev_ret rfl (by decide) (by decide) ⟨⟨_, rfl, by omega, by omega, g, k0⟩, fun r hr h0 => by cases hr; exact (Ad.step (r' := (a1 + 3)) (Ad.step (r' := (a1 + 2)) (Ad.step (r' := (a1 + 1)) (Ad.rf _ _ _) (by omega) k0 (fun _ => rfl) (ev79007) (by omega) (by omega) (by omega)) (by omega) k0 (fun _ => rfl) (ev79033) (by omega) (by omega) (by omega)) (by omega) k0 (fun _ => rfl) (ev79060) (by omega) (by omega) (by omega)), fun r hr => by cases hr; exact okF (show (if bR h a1 = 45 then enR (bR h) (a1 + 1) else enR (bR h) a1) = ((a1 + 3), 0, 0, 1) by rw [if_neg (fun z => absurd ((bR_at (p := a1) k0 (fun _ => rfl) ew0 (ev79007) (by omega) (by omega)).symm.trans z) (by omega))]; unfold enR; rw [show nm3 (bR h) a1 = (a1 + 3) by unfold nm3; rw [(bR_at (p := a1) k0 (fun _ => rfl) ew0 (ev79007) (by omega) (by omega)), (bR_at (p := (a1 + 1)) k0 (fun _ => rfl) ew0 (ev79033) (by omega) (by omega)), (bR_at (p := (a1 + 2)) k0 (fun _ => rfl) ew0 (ev79060) (by omega) (by omega))]; (repeat' split) <;> omega, if_neg (by omega)]) (by omega) (by omega)⟩
                      · refine ev_aload_n rfl ?_
                        refine g_getp (r := 42) (c := 54) g ad42 (by decide) (by decide) rf42_16 ft12_16 ?_
                        refine ev_iload_n rfl ?_
                        refine g_bald g ad54 rt54 (by omega) (by omega) (fun v79084 ev79084 lv79084 uv79084 => ?_)
                        refine ev_goto f264_18 ?_
                        refine ev_ret rfl (by decide) (by decide) ?_
                        show jEv _ _ _ _ _ _ _ (_, [(2, 42), (0, (a1 + 3))], [(0, v79084)], _, _, _)
                        refine ev_bipush ?_
                        refine ev_bipush ?_
                        refine ev_in (d := 0) (a := 0) (b := 0) (cd' := c242_0) (m := 3) (L0 := [(0, v79084), (0, 48), (0, 57)]) (jcall_s (A := [(0, 57), (0, 48), (0, v79084)]) (S' := []) (by decide) rfl (Nat.le_of_ble_eq_true rfl)) (by decide) ml242 pp242 (Nat.le_of_ble_eq_true rfl) rfl (by decide) (by decide) ?_
                        refine ev_iload_n rfl ?_
                        refine ev_iload_n rfl ?_
                        refine ev_icmplt f242_14 (fun c79085 => ?_) (fun c79085 => ?_)
                        · refine ev_iconst ?_
                          refine ev_ret rfl (by decide) (by decide) ?_
                          show jEv _ _ _ _ _ _ _ (_, [(2, 42), (0, (a1 + 3))], [(0, 0)], _, _, _)
                          refine ev_ret rfl (by decide) (by decide) ?_
                          show jEv _ _ _ _ _ _ _ (_, [(2, 42), (0, a1), (0, 0), (0, (a1 + 3)), (0, 0), (0, (100 * v79007 + 10 * v79033 + v79060 - 5328)), (0, 3)], [(0, 0)], _, _, _)
                          refine ev_ifeq f269_100 (fun c79086 => ?_) (fun c79086 => absurd c79086 (by omega))
                          refine ev_aload_n rfl ?_
                          refine ev_iload_n rfl ?_
                          refine ev_iconst ?_
                          refine ev_iload rfl ?_
                          refine ev_ifeq f269_114 (fun c79087 => ?_) (fun c79087 => absurd c79087 (by omega))
                          refine ev_iload rfl ?_
                          refine ev_in (d := 1) (a := 0) (b := 0) (cd' := c267_0) (m := 6) (L0 := [(2, 42), (0, 0), (0, 0), (0, (100 * v79007 + 10 * v79033 + v79060 - 5328)), (9, 0), (9, 0)]) (jcall_v (A := [(0, (100 * v79007 + 10 * v79033 + v79060 - 5328)), (0, 0), (0, 0)]) (S' := []) (r := 42) rfl (g.lt ad42) (g.tg ad42) (Nat.le_of_ble_eq_true rfl)) (by decide) ml267 pp267 (Nat.le_of_ble_eq_true rfl) rfl (by decide) (by decide) ?_
                          refine ev_iload_n rfl ?_
                          refine ev_ifne f267_6 (fun c79088 => absurd c79088 (by omega)) (fun c79088 => ?_)
                          refine ev_iconst ?_
                          refine ev_ret rfl (by decide) (by decide) ?_
                          show jEv _ _ _ _ _ _ _ (_, [(2, 42), (0, a1), (0, 0), (0, (a1 + 3)), (0, 0), (0, (100 * v79007 + 10 * v79033 + v79060 - 5328)), (0, 3)], [(0, (-1))], _, _, _)
                          refine ev_pop (by decide) ?_
                          refine ev_iload_n rfl ?_
                          exact ev_ret rfl (by decide) (by decide) ⟨⟨_, rfl, by omega, by omega, g, k0⟩, fun r hr h0 => by cases hr; exact (Ad.step (r' := (a1 + 3)) (Ad.step (r' := (a1 + 2)) (Ad.step (r' := (a1 + 1)) (Ad.rf _ _ _) (by omega) k0 (fun _ => rfl) (ev79007) (by omega) (by omega) (by omega)) (by omega) k0 (fun _ => rfl) (ev79033) (by omega) (by omega) (by omega)) (by omega) k0 (fun _ => rfl) (ev79060) (by omega) (by omega) (by omega)), fun r hr => by cases hr; exact okF (show (if bR h a1 = 45 then enR (bR h) (a1 + 1) else enR (bR h) a1) = ((a1 + 3), 0, 0, 1) by rw [if_neg (fun z => absurd ((bR_at (p := a1) k0 (fun _ => rfl) ew0 (ev79007) (by omega) (by omega)).symm.trans z) (by omega))]; unfold enR; rw [show nm3 (bR h) a1 = (a1 + 3) by unfold nm3; rw [(bR_at (p := a1) k0 (fun _ => rfl) ew0 (ev79007) (by omega) (by omega)), (bR_at (p := (a1 + 1)) k0 (fun _ => rfl) ew0 (ev79033) (by omega) (by omega)), (bR_at (p := (a1 + 2)) k0 (fun _ => rfl) ew0 (ev79060) (by omega) (by omega))]; (repeat' split) <;> omega, if_neg (by omega)]) (by omega) (by omega)⟩
                        · refine ev_iload_n rfl ?_
                          refine ev_iload_n rfl ?_
                          refine ev_icmpgt f242_14 (fun c79089 => ?_) (fun c79089 => ?_)
                          · refine ev_iconst ?_
                            refine ev_ret rfl (by decide) (by decide) ?_
                            show jEv _ _ _ _ _ _ _ (_, [(2, 42), (0, (a1 + 3))], [(0, 0)], _, _, _)
                            refine ev_ret rfl (by decide) (by decide) ?_
                            show jEv _ _ _ _ _ _ _ (_, [(2, 42), (0, a1), (0, 0), (0, (a1 + 3)), (0, 0), (0, (100 * v79007 + 10 * v79033 + v79060 - 5328)), (0, 3)], [(0, 0)], _, _, _)
                            refine ev_ifeq f269_100 (fun c79090 => ?_) (fun c79090 => absurd c79090 (by omega))
                            refine ev_aload_n rfl ?_
                            refine ev_iload_n rfl ?_
                            refine ev_iconst ?_
                            refine ev_iload rfl ?_
                            refine ev_ifeq f269_114 (fun c79091 => ?_) (fun c79091 => absurd c79091 (by omega))
                            refine ev_iload rfl ?_
                            refine ev_in (d := 1) (a := 0) (b := 0) (cd' := c267_0) (m := 6) (L0 := [(2, 42), (0, 0), (0, 0), (0, (100 * v79007 + 10 * v79033 + v79060 - 5328)), (9, 0), (9, 0)]) (jcall_v (A := [(0, (100 * v79007 + 10 * v79033 + v79060 - 5328)), (0, 0), (0, 0)]) (S' := []) (r := 42) rfl (g.lt ad42) (g.tg ad42) (Nat.le_of_ble_eq_true rfl)) (by decide) ml267 pp267 (Nat.le_of_ble_eq_true rfl) rfl (by decide) (by decide) ?_
                            refine ev_iload_n rfl ?_
                            refine ev_ifne f267_6 (fun c79092 => absurd c79092 (by omega)) (fun c79092 => ?_)
                            refine ev_iconst ?_
                            refine ev_ret rfl (by decide) (by decide) ?_
                            show jEv _ _ _ _ _ _ _ (_, [(2, 42), (0, a1), (0, 0), (0, (a1 + 3)), (0, 0), (0, (100 * v79007 + 10 * v79033 + v79060 - 5328)), (0, 3)], [(0, (-1))], _, _, _)
                            refine ev_pop (by decide) ?_
                            refine ev_iload_n rfl ?_
                            exact ev_ret rfl (by decide) (by decide) ⟨⟨_, rfl, by omega, by omega, g, k0⟩, fun r hr h0 => by cases hr; exact (Ad.step (r' := (a1 + 3)) (Ad.step (r' := (a1 + 2)) (Ad.step (r' := (a1 + 1)) (Ad.rf _ _ _) (by omega) k0 (fun _ => rfl) (ev79007) (by omega) (by omega) (by omega)) (by omega) k0 (fun _ => rfl) (ev79033) (by omega) (by omega) (by omega)) (by omega) k0 (fun _ => rfl) (ev79060) (by omega) (by omega) (by omega)), fun r hr => by cases hr; exact okF (show (if bR h a1 = 45 then enR (bR h) (a1 + 1) else enR (bR h) a1) = ((a1 + 3), 0, 0, 1) by rw [if_neg (fun z => absurd ((bR_at (p := a1) k0 (fun _ => rfl) ew0 (ev79007) (by omega) (by omega)).symm.trans z) (by omega))]; unfold enR; rw [show nm3 (bR h) a1 = (a1 + 3) by unfold nm3; rw [(bR_at (p := a1) k0 (fun _ => rfl) ew0 (ev79007) (by omega) (by omega)), (bR_at (p := (a1 + 1)) k0 (fun _ => rfl) ew0 (ev79033) (by omega) (by omega)), (bR_at (p := (a1 + 2)) k0 (fun _ => rfl) ew0 (ev79060) (by omega) (by omega))]; (repeat' split) <;> omega, if_neg (by omega)]) (by omega) (by omega)⟩
                          · refine ev_iconst ?_
                            refine ev_goto f242_15 ?_
                            refine ev_ret rfl (by decide) (by decide) ?_
                            show jEv _ _ _ _ _ _ _ (_, [(2, 42), (0, (a1 + 3))], [(0, 1)], _, _, _)
                            refine ev_ret rfl (by decide) (by decide) ?_
                            show jEv _ _ _ _ _ _ _ (_, [(2, 42), (0, a1), (0, 0), (0, (a1 + 3)), (0, 0), (0, (100 * v79007 + 10 * v79033 + v79060 - 5328)), (0, 3)], [(0, 1)], _, _, _)
                            refine ev_ifeq f269_100 (fun c79093 => absurd c79093 (by omega)) (fun c79093 => ?_)
                            refine ev_aload_n rfl ?_
                            refine ev_iload_n rfl ?_
                            refine ev_in (d := 1) (a := 0) (b := 0) (cd' := c266_0) (m := 2) (L0 := [(2, 42), (0, (a1 + 3))]) (jcall_v (A := [(0, (a1 + 3))]) (S' := []) (r := 42) rfl (g.lt ad42) (g.tg ad42) (Nat.le_of_ble_eq_true rfl)) (by decide) ml266 pp266 (Nat.le_of_ble_eq_true rfl) rfl (by decide) (by decide) ?_
                            refine ev_aload_n rfl ?_
                            refine ev_iload_n rfl ?_
                            refine g_putf (r := 42) g ad42 (by decide) ft12_20 (by decide) (fun e => absurd e nz12_20) rf42_20 (by decide) (by omega) (by omega) (fun h79094 e79094 g79094 => ?_)
                            have k79094 := k0.wr e79094 rfl
                            refine ev_iconst ?_
                            refine ev_ret rfl (by decide) (by decide) ?_
                            show jEv _ _ _ _ _ _ _ (_, [(2, 42), (0, a1), (0, 0), (0, (a1 + 3)), (0, 0), (0, (100 * v79007 + 10 * v79033 + v79060 - 5328)), (0, 3)], [(0, (-1))], _, _, _)
                            exact ev_ret rfl (by decide) (by decide) ⟨⟨_, rfl, by omega, by omega, g79094, k79094⟩, fun r hr h0 => by cases hr; exfalso; omega, fun r hr => by cases hr; exact (Bd.F (show Bd (bR h) (if bR h a1 = 45 then enR (bR h) (a1 + 1) else enR (bR h) a1) (a1 + 3) from ⟨by omega, Or.inr (by rw [(show (if bR h a1 = 45 then enR (bR h) (a1 + 1) else enR (bR h) a1) = ((a1 + 3), 0, 0, 1) by rw [if_neg (fun z => absurd ((bR_at (p := a1) k79094 (fun _ => rfl) ew0 (((jw_ne e79094 (Or.inl (by decide))).trans ev79007)) (by omega) (by omega)).symm.trans z) (by omega))]; unfold enR; rw [show nm3 (bR h) a1 = (a1 + 3) by unfold nm3; rw [(bR_at (p := a1) k79094 (fun _ => rfl) ew0 (((jw_ne e79094 (Or.inl (by decide))).trans ev79007)) (by omega) (by omega)), (bR_at (p := (a1 + 1)) k79094 (fun _ => rfl) ew0 (((jw_ne e79094 (Or.inl (by decide))).trans ev79033)) (by omega) (by omega)), (bR_at (p := (a1 + 2)) k79094 (fun _ => rfl) ew0 (((jw_ne e79094 (Or.inl (by decide))).trans ev79060)) (by omega) (by omega))]; (repeat' split) <;> omega, if_neg (by omega)])]; exact ⟨rfl, by rw [(bR_at (p := (a1 + 3)) k79094 (fun _ => rfl) ew0 (((jw_ne e79094 (Or.inl (by decide))).trans ev79084)) (by omega) (by omega))]; omega⟩)⟩) ((jw_eq e79094)))⟩
    · refine ev_iconst ?_
      refine ev_goto f269_17 ?_
      refine ev_istore (L' := [(2, 42), (0, a1), (0, 0), (0, a1), (0, 1), (9, 0), (9, 0)]) (Nat.le_of_ble_eq_true rfl) rfl ?_
      refine ev_iload rfl ?_
      refine ev_ifeq f269_27 (fun c79095 => absurd c79095 (by omega)) (fun c79095 => ?_)
      refine ev_iinc (w := (a1 + 1)) (L' := [(2, 42), (0, a1), (0, 0), (0, (a1 + 1)), (0, 1), (9, 0), (9, 0)]) rfl (by unfold w32; omega) rfl ?_
      refine ev_aload_n rfl ?_
      refine ev_iload_n rfl ?_
      refine ev_in (d := 1) (a := 0) (b := 0) (cd' := c265_0) (m := 2) (L0 := [(2, 42), (0, (a1 + 1))]) (jcall_v (A := [(0, (a1 + 1))]) (S' := []) (r := 42) rfl (g.lt ad42) (g.tg ad42) (Nat.le_of_ble_eq_true rfl)) (by decide) ml265 pp265 (Nat.le_of_ble_eq_true rfl) rfl (by decide) (by decide) ?_
      refine ev_aload_n rfl ?_
      refine ev_iload_n rfl ?_
      refine ev_in (d := 0) (a := 0) (b := 0) (cd' := c264_0) (m := 2) (L0 := [(2, 42), (0, (a1 + 1))]) (jcall_v (A := [(0, (a1 + 1))]) (S' := []) (r := 42) rfl (g.lt ad42) (g.tg ad42) (Nat.le_of_ble_eq_true rfl)) (by decide) ml264 pp264 (Nat.le_of_ble_eq_true rfl) rfl (by decide) (by decide) ?_
      refine ev_iload_n rfl ?_
      refine ev_aload_n rfl ?_
      refine g_getv (r := 42) (v := w0) g ad42 (by decide) ft12_17 (ew0) ?_
      refine ev_icmpge f264_17 (fun c79096 => ?_) (fun c79096 => ?_)
      · refine ev_iconst ?_
        refine ev_ret rfl (by decide) (by decide) ?_
        show jEv _ _ _ _ _ _ _ (_, [(2, 42), (0, (a1 + 1))], [(0, (-1))], _, _, _)
        refine ev_bipush ?_
        refine ev_bipush ?_
        refine ev_in (d := 0) (a := 0) (b := 0) (cd' := c242_0) (m := 3) (L0 := [(0, (-1)), (0, 48), (0, 57)]) (jcall_s (A := [(0, 57), (0, 48), (0, (-1))]) (S' := []) (by decide) rfl (Nat.le_of_ble_eq_true rfl)) (by decide) ml242 pp242 (Nat.le_of_ble_eq_true rfl) rfl (by decide) (by decide) ?_
        refine ev_iload_n rfl ?_
        refine ev_iload_n rfl ?_
        refine ev_icmplt f242_14 (fun c79097 => ?_) (fun c79097 => absurd c79097 (by omega))
        refine ev_iconst ?_
        refine ev_ret rfl (by decide) (by decide) ?_
        show jEv _ _ _ _ _ _ _ (_, [(2, 42), (0, (a1 + 1))], [(0, 0)], _, _, _)
        refine ev_ret rfl (by decide) (by decide) ?_
        show jEv _ _ _ _ _ _ _ (_, [(2, 42), (0, a1), (0, 0), (0, (a1 + 1)), (0, 1), (9, 0), (9, 0)], [(0, 0)], _, _, _)
        refine ev_ifne f269_41 (fun c79098 => absurd c79098 (by omega)) (fun c79098 => ?_)
        refine ev_aload_n rfl ?_
        refine ev_iload_n rfl ?_
        refine ev_in (d := 1) (a := 0) (b := 0) (cd' := c266_0) (m := 2) (L0 := [(2, 42), (0, (a1 + 1))]) (jcall_v (A := [(0, (a1 + 1))]) (S' := []) (r := 42) rfl (g.lt ad42) (g.tg ad42) (Nat.le_of_ble_eq_true rfl)) (by decide) ml266 pp266 (Nat.le_of_ble_eq_true rfl) rfl (by decide) (by decide) ?_
        refine ev_aload_n rfl ?_
        refine ev_iload_n rfl ?_
        refine g_putf (r := 42) g ad42 (by decide) ft12_20 (by decide) (fun e => absurd e nz12_20) rf42_20 (by decide) (by omega) (by omega) (fun h79099 e79099 g79099 => ?_)
        have k79099 := k0.wr e79099 rfl
        refine ev_iconst ?_
        refine ev_ret rfl (by decide) (by decide) ?_
        show jEv _ _ _ _ _ _ _ (_, [(2, 42), (0, a1), (0, 0), (0, (a1 + 1)), (0, 1), (9, 0), (9, 0)], [(0, (-1))], _, _, _)
        exact ev_ret rfl (by decide) (by decide) ⟨⟨_, rfl, by omega, by omega, g79099, k79099⟩, fun r hr h0 => by cases hr; exfalso; omega, fun r hr => by cases hr; exact (Bd.F (bd_rF (p := (a1 + 1)) (by rw [if_pos ((bR_at (p := a1) k79099 (fun _ => rfl) ew0 (((jw_ne e79099 (Or.inl (by decide))).trans ev79007)) (by omega) (by omega)).trans (by omega))]; unfold enR; rw [if_pos (by unfold nm3; rw [show (a1 + 1 + 1 : Int) = a1 + 2 by omega, show (a1 + 1 + 2 : Int) = a1 + 3 by omega, (bR_end (p := (a1 + 1)) ew0 (by omega))]; (repeat' split) <;> omega)]) (by omega) (by omega)) ((jw_eq e79099)))⟩
      · refine ev_aload_n rfl ?_
        refine g_getp (r := 42) (c := 54) g ad42 (by decide) (by decide) rf42_16 ft12_16 ?_
        refine ev_iload_n rfl ?_
        refine g_bald g ad54 rt54 (by omega) (by omega) (fun v79100 ev79100 lv79100 uv79100 => ?_)
        refine ev_goto f264_18 ?_
        refine ev_ret rfl (by decide) (by decide) ?_
        show jEv _ _ _ _ _ _ _ (_, [(2, 42), (0, (a1 + 1))], [(0, v79100)], _, _, _)
        refine ev_bipush ?_
        refine ev_bipush ?_
        refine ev_in (d := 0) (a := 0) (b := 0) (cd' := c242_0) (m := 3) (L0 := [(0, v79100), (0, 48), (0, 57)]) (jcall_s (A := [(0, 57), (0, 48), (0, v79100)]) (S' := []) (by decide) rfl (Nat.le_of_ble_eq_true rfl)) (by decide) ml242 pp242 (Nat.le_of_ble_eq_true rfl) rfl (by decide) (by decide) ?_
        refine ev_iload_n rfl ?_
        refine ev_iload_n rfl ?_
        refine ev_icmplt f242_14 (fun c79101 => ?_) (fun c79101 => ?_)
        · refine ev_iconst ?_
          refine ev_ret rfl (by decide) (by decide) ?_
          show jEv _ _ _ _ _ _ _ (_, [(2, 42), (0, (a1 + 1))], [(0, 0)], _, _, _)
          refine ev_ret rfl (by decide) (by decide) ?_
          show jEv _ _ _ _ _ _ _ (_, [(2, 42), (0, a1), (0, 0), (0, (a1 + 1)), (0, 1), (9, 0), (9, 0)], [(0, 0)], _, _, _)
          refine ev_ifne f269_41 (fun c79102 => absurd c79102 (by omega)) (fun c79102 => ?_)
          refine ev_aload_n rfl ?_
          refine ev_iload_n rfl ?_
          refine ev_in (d := 1) (a := 0) (b := 0) (cd' := c266_0) (m := 2) (L0 := [(2, 42), (0, (a1 + 1))]) (jcall_v (A := [(0, (a1 + 1))]) (S' := []) (r := 42) rfl (g.lt ad42) (g.tg ad42) (Nat.le_of_ble_eq_true rfl)) (by decide) ml266 pp266 (Nat.le_of_ble_eq_true rfl) rfl (by decide) (by decide) ?_
          refine ev_aload_n rfl ?_
          refine ev_iload_n rfl ?_
          refine g_putf (r := 42) g ad42 (by decide) ft12_20 (by decide) (fun e => absurd e nz12_20) rf42_20 (by decide) (by omega) (by omega) (fun h79103 e79103 g79103 => ?_)
          have k79103 := k0.wr e79103 rfl
          refine ev_iconst ?_
          refine ev_ret rfl (by decide) (by decide) ?_
          show jEv _ _ _ _ _ _ _ (_, [(2, 42), (0, a1), (0, 0), (0, (a1 + 1)), (0, 1), (9, 0), (9, 0)], [(0, (-1))], _, _, _)
          exact ev_ret rfl (by decide) (by decide) ⟨⟨_, rfl, by omega, by omega, g79103, k79103⟩, fun r hr h0 => by cases hr; exfalso; omega, fun r hr => by cases hr; exact (Bd.F (bd_rF (p := (a1 + 1)) (by rw [if_pos ((bR_at (p := a1) k79103 (fun _ => rfl) ew0 (((jw_ne e79103 (Or.inl (by decide))).trans ev79007)) (by omega) (by omega)).trans (by omega))]; unfold enR; rw [if_pos (by unfold nm3; rw [show (a1 + 1 + 1 : Int) = a1 + 2 by omega, show (a1 + 1 + 2 : Int) = a1 + 3 by omega, (bR_at (p := (a1 + 1)) k79103 (fun _ => rfl) ew0 (((jw_ne e79103 (Or.inl (by decide))).trans ev79100)) (by omega) (by omega))]; (repeat' split) <;> omega)]) (by omega) (by omega)) ((jw_eq e79103)))⟩
        · refine ev_iload_n rfl ?_
          refine ev_iload_n rfl ?_
          refine ev_icmpgt f242_14 (fun c79104 => ?_) (fun c79104 => ?_)
          · refine ev_iconst ?_
            refine ev_ret rfl (by decide) (by decide) ?_
            show jEv _ _ _ _ _ _ _ (_, [(2, 42), (0, (a1 + 1))], [(0, 0)], _, _, _)
            refine ev_ret rfl (by decide) (by decide) ?_
            show jEv _ _ _ _ _ _ _ (_, [(2, 42), (0, a1), (0, 0), (0, (a1 + 1)), (0, 1), (9, 0), (9, 0)], [(0, 0)], _, _, _)
            refine ev_ifne f269_41 (fun c79105 => absurd c79105 (by omega)) (fun c79105 => ?_)
            refine ev_aload_n rfl ?_
            refine ev_iload_n rfl ?_
            refine ev_in (d := 1) (a := 0) (b := 0) (cd' := c266_0) (m := 2) (L0 := [(2, 42), (0, (a1 + 1))]) (jcall_v (A := [(0, (a1 + 1))]) (S' := []) (r := 42) rfl (g.lt ad42) (g.tg ad42) (Nat.le_of_ble_eq_true rfl)) (by decide) ml266 pp266 (Nat.le_of_ble_eq_true rfl) rfl (by decide) (by decide) ?_
            refine ev_aload_n rfl ?_
            refine ev_iload_n rfl ?_
            refine g_putf (r := 42) g ad42 (by decide) ft12_20 (by decide) (fun e => absurd e nz12_20) rf42_20 (by decide) (by omega) (by omega) (fun h79106 e79106 g79106 => ?_)
            have k79106 := k0.wr e79106 rfl
            refine ev_iconst ?_
            refine ev_ret rfl (by decide) (by decide) ?_
            show jEv _ _ _ _ _ _ _ (_, [(2, 42), (0, a1), (0, 0), (0, (a1 + 1)), (0, 1), (9, 0), (9, 0)], [(0, (-1))], _, _, _)
            exact ev_ret rfl (by decide) (by decide) ⟨⟨_, rfl, by omega, by omega, g79106, k79106⟩, fun r hr h0 => by cases hr; exfalso; omega, fun r hr => by cases hr; exact (Bd.F (bd_rF (p := (a1 + 1)) (by rw [if_pos ((bR_at (p := a1) k79106 (fun _ => rfl) ew0 (((jw_ne e79106 (Or.inl (by decide))).trans ev79007)) (by omega) (by omega)).trans (by omega))]; unfold enR; rw [if_pos (by unfold nm3; rw [show (a1 + 1 + 1 : Int) = a1 + 2 by omega, show (a1 + 1 + 2 : Int) = a1 + 3 by omega, (bR_at (p := (a1 + 1)) k79106 (fun _ => rfl) ew0 (((jw_ne e79106 (Or.inl (by decide))).trans ev79100)) (by omega) (by omega))]; (repeat' split) <;> omega)]) (by omega) (by omega)) ((jw_eq e79106)))⟩
          · refine ev_iconst ?_
            refine ev_goto f242_15 ?_
            refine ev_ret rfl (by decide) (by decide) ?_
            show jEv _ _ _ _ _ _ _ (_, [(2, 42), (0, (a1 + 1))], [(0, 1)], _, _, _)
            refine ev_ret rfl (by decide) (by decide) ?_
            show jEv _ _ _ _ _ _ _ (_, [(2, 42), (0, a1), (0, 0), (0, (a1 + 1)), (0, 1), (9, 0), (9, 0)], [(0, 1)], _, _, _)
            refine ev_ifne f269_41 (fun c79107 => ?_) (fun c79107 => absurd c79107 (by omega))
            refine ev_iconst ?_
            refine ev_istore (L' := [(2, 42), (0, a1), (0, 0), (0, (a1 + 1)), (0, 1), (0, 0), (9, 0)]) (Nat.le_of_ble_eq_true rfl) rfl ?_
            refine ev_iconst ?_
            refine ev_istore (L' := [(2, 42), (0, a1), (0, 0), (0, (a1 + 1)), (0, 1), (0, 0), (0, 0)]) (Nat.le_of_ble_eq_true rfl) rfl ?_
            refine ev_iload rfl ?_
            refine ev_iconst ?_
            refine ev_icmpge f269_86 (fun c79108 => absurd c79108 (by omega)) (fun c79108 => ?_)
            refine ev_aload_n rfl ?_
            refine ev_iload_n rfl ?_
            refine ev_in (d := 1) (a := 0) (b := 0) (cd' := c265_0) (m := 2) (L0 := [(2, 42), (0, (a1 + 1))]) (jcall_v (A := [(0, (a1 + 1))]) (S' := []) (r := 42) rfl (g.lt ad42) (g.tg ad42) (Nat.le_of_ble_eq_true rfl)) (by decide) ml265 pp265 (Nat.le_of_ble_eq_true rfl) rfl (by decide) (by decide) ?_
            refine ev_aload_n rfl ?_
            refine ev_iload_n rfl ?_
            refine ev_in (d := 0) (a := 0) (b := 0) (cd' := c264_0) (m := 2) (L0 := [(2, 42), (0, (a1 + 1))]) (jcall_v (A := [(0, (a1 + 1))]) (S' := []) (r := 42) rfl (g.lt ad42) (g.tg ad42) (Nat.le_of_ble_eq_true rfl)) (by decide) ml264 pp264 (Nat.le_of_ble_eq_true rfl) rfl (by decide) (by decide) ?_
            refine ev_iload_n rfl ?_
            refine ev_aload_n rfl ?_
            refine g_getv (r := 42) (v := w0) g ad42 (by decide) ft12_17 (ew0) ?_
            refine ev_icmpge f264_17 (fun c79109 => absurd c79109 (by omega)) (fun c79109 => ?_)
            refine ev_aload_n rfl ?_
            refine g_getp (r := 42) (c := 54) g ad42 (by decide) (by decide) rf42_16 ft12_16 ?_
            refine ev_iload_n rfl ?_
            refine g_baldv (v := v79100) g ad54 (by omega) (by omega) (ev79100) ?_
            refine ev_goto f264_18 ?_
            refine ev_ret rfl (by decide) (by decide) ?_
            show jEv _ _ _ _ _ _ _ (_, [(2, 42), (0, (a1 + 1))], [(0, v79100)], _, _, _)
            refine ev_bipush ?_
            refine ev_bipush ?_
            refine ev_in (d := 0) (a := 0) (b := 0) (cd' := c242_0) (m := 3) (L0 := [(0, v79100), (0, 48), (0, 57)]) (jcall_s (A := [(0, 57), (0, 48), (0, v79100)]) (S' := []) (by decide) rfl (Nat.le_of_ble_eq_true rfl)) (by decide) ml242 pp242 (Nat.le_of_ble_eq_true rfl) rfl (by decide) (by decide) ?_
            refine ev_iload_n rfl ?_
            refine ev_iload_n rfl ?_
            refine ev_icmplt f242_14 (fun c79110 => absurd c79110 (by omega)) (fun c79110 => ?_)
            refine ev_iload_n rfl ?_
            refine ev_iload_n rfl ?_
            refine ev_icmpgt f242_14 (fun c79111 => absurd c79111 (by omega)) (fun c79111 => ?_)
            refine ev_iconst ?_
            refine ev_goto f242_15 ?_
            refine ev_ret rfl (by decide) (by decide) ?_
            show jEv _ _ _ _ _ _ _ (_, [(2, 42), (0, (a1 + 1))], [(0, 1)], _, _, _)
            refine ev_ret rfl (by decide) (by decide) ?_
            show jEv _ _ _ _ _ _ _ (_, [(2, 42), (0, a1), (0, 0), (0, (a1 + 1)), (0, 1), (0, 0), (0, 0)], [(0, 1)], _, _, _)
            refine ev_ifeq f269_86 (fun c79112 => absurd c79112 (by omega)) (fun c79112 => ?_)
            refine ev_bipush ?_
            refine ev_iload rfl ?_
            refine ev_imul (r := 0) (by decide) ?_
            refine ev_aload_n rfl ?_
            refine ev_iload_n rfl ?_
            refine ev_in (d := 1) (a := 0) (b := 0) (cd' := c264_0) (m := 2) (L0 := [(2, 42), (0, (a1 + 1))]) (jcall_v (A := [(0, (a1 + 1))]) (S' := [(0, 0)]) (r := 42) rfl (g.lt ad42) (g.tg ad42) (Nat.le_of_ble_eq_true rfl)) (by decide) ml264 pp264 (Nat.le_of_ble_eq_true rfl) rfl (by decide) (by decide) ?_
            refine ev_iload_n rfl ?_
            refine ev_aload_n rfl ?_
            refine g_getv (r := 42) (v := w0) g ad42 (by decide) ft12_17 (ew0) ?_
            refine ev_icmpge f264_17 (fun c79113 => absurd c79113 (by omega)) (fun c79113 => ?_)
            refine ev_aload_n rfl ?_
            refine g_getp (r := 42) (c := 54) g ad42 (by decide) (by decide) rf42_16 ft12_16 ?_
            refine ev_iload_n rfl ?_
            refine g_baldv (v := v79100) g ad54 (by omega) (by omega) (ev79100) ?_
            refine ev_goto f264_18 ?_
            refine ev_ret rfl (by decide) (by decide) ?_
            show jEv _ _ _ _ _ _ _ (_, [(2, 42), (0, a1), (0, 0), (0, (a1 + 1)), (0, 1), (0, 0), (0, 0)], [(0, v79100), (0, 0)], _, _, _)
            refine ev_iadd (r := v79100) (by unfold w32; omega) ?_
            refine ev_bipush ?_
            refine ev_isub (r := (v79100 - 48)) (by unfold w32; omega) ?_
            refine ev_istore (L' := [(2, 42), (0, a1), (0, 0), (0, (a1 + 1)), (0, 1), (0, (v79100 - 48)), (0, 0)]) (Nat.le_of_ble_eq_true rfl) rfl ?_
            refine ev_iinc (w := 1) (L' := [(2, 42), (0, a1), (0, 0), (0, (a1 + 1)), (0, 1), (0, (v79100 - 48)), (0, 1)]) rfl (by decide) rfl ?_
            refine ev_iinc (w := (a1 + 2)) (L' := [(2, 42), (0, a1), (0, 0), (0, (a1 + 2)), (0, 1), (0, (v79100 - 48)), (0, 1)]) rfl (by unfold w32; omega) rfl ?_
            refine ev_goto f269_47 ?_
            refine ev_iload rfl ?_
            refine ev_iconst ?_
            refine ev_icmpge f269_86 (fun c79114 => absurd c79114 (by omega)) (fun c79114 => ?_)
            refine ev_aload_n rfl ?_
            refine ev_iload_n rfl ?_
            refine ev_in (d := 1) (a := 0) (b := 0) (cd' := c265_0) (m := 2) (L0 := [(2, 42), (0, (a1 + 2))]) (jcall_v (A := [(0, (a1 + 2))]) (S' := []) (r := 42) rfl (g.lt ad42) (g.tg ad42) (Nat.le_of_ble_eq_true rfl)) (by decide) ml265 pp265 (Nat.le_of_ble_eq_true rfl) rfl (by decide) (by decide) ?_
            refine ev_aload_n rfl ?_
            refine ev_iload_n rfl ?_
            refine ev_in (d := 0) (a := 0) (b := 0) (cd' := c264_0) (m := 2) (L0 := [(2, 42), (0, (a1 + 2))]) (jcall_v (A := [(0, (a1 + 2))]) (S' := []) (r := 42) rfl (g.lt ad42) (g.tg ad42) (Nat.le_of_ble_eq_true rfl)) (by decide) ml264 pp264 (Nat.le_of_ble_eq_true rfl) rfl (by decide) (by decide) ?_
            refine ev_iload_n rfl ?_
            refine ev_aload_n rfl ?_
            refine g_getv (r := 42) (v := w0) g ad42 (by decide) ft12_17 (ew0) ?_
            refine ev_icmpge f264_17 (fun c79115 => ?_) (fun c79115 => ?_)
            · refine ev_iconst ?_
              refine ev_ret rfl (by decide) (by decide) ?_
              show jEv _ _ _ _ _ _ _ (_, [(2, 42), (0, (a1 + 2))], [(0, (-1))], _, _, _)
              refine ev_bipush ?_
              refine ev_bipush ?_
              refine ev_in (d := 0) (a := 0) (b := 0) (cd' := c242_0) (m := 3) (L0 := [(0, (-1)), (0, 48), (0, 57)]) (jcall_s (A := [(0, 57), (0, 48), (0, (-1))]) (S' := []) (by decide) rfl (Nat.le_of_ble_eq_true rfl)) (by decide) ml242 pp242 (Nat.le_of_ble_eq_true rfl) rfl (by decide) (by decide) ?_
              refine ev_iload_n rfl ?_
              refine ev_iload_n rfl ?_
              refine ev_icmplt f242_14 (fun c79116 => ?_) (fun c79116 => absurd c79116 (by omega))
              refine ev_iconst ?_
              refine ev_ret rfl (by decide) (by decide) ?_
              show jEv _ _ _ _ _ _ _ (_, [(2, 42), (0, (a1 + 2))], [(0, 0)], _, _, _)
              refine ev_ret rfl (by decide) (by decide) ?_
              show jEv _ _ _ _ _ _ _ (_, [(2, 42), (0, a1), (0, 0), (0, (a1 + 2)), (0, 1), (0, (v79100 - 48)), (0, 1)], [(0, 0)], _, _, _)
              refine ev_ifeq f269_86 (fun c79117 => ?_) (fun c79117 => absurd c79117 (by omega))
              refine ev_aload_n rfl ?_
              refine ev_iload_n rfl ?_
              refine ev_in (d := 1) (a := 0) (b := 0) (cd' := c265_0) (m := 2) (L0 := [(2, 42), (0, (a1 + 2))]) (jcall_v (A := [(0, (a1 + 2))]) (S' := []) (r := 42) rfl (g.lt ad42) (g.tg ad42) (Nat.le_of_ble_eq_true rfl)) (by decide) ml265 pp265 (Nat.le_of_ble_eq_true rfl) rfl (by decide) (by decide) ?_
              refine ev_aload_n rfl ?_
              refine ev_iload_n rfl ?_
              refine ev_in (d := 0) (a := 0) (b := 0) (cd' := c264_0) (m := 2) (L0 := [(2, 42), (0, (a1 + 2))]) (jcall_v (A := [(0, (a1 + 2))]) (S' := []) (r := 42) rfl (g.lt ad42) (g.tg ad42) (Nat.le_of_ble_eq_true rfl)) (by decide) ml264 pp264 (Nat.le_of_ble_eq_true rfl) rfl (by decide) (by decide) ?_
              refine ev_iload_n rfl ?_
              refine ev_aload_n rfl ?_
              refine g_getv (r := 42) (v := w0) g ad42 (by decide) ft12_17 (ew0) ?_
              refine ev_icmpge f264_17 (fun c79118 => ?_) (fun c79118 => absurd c79118 (by omega))
              refine ev_iconst ?_
              refine ev_ret rfl (by decide) (by decide) ?_
              show jEv _ _ _ _ _ _ _ (_, [(2, 42), (0, (a1 + 2))], [(0, (-1))], _, _, _)
              refine ev_bipush ?_
              refine ev_bipush ?_
              refine ev_in (d := 0) (a := 0) (b := 0) (cd' := c242_0) (m := 3) (L0 := [(0, (-1)), (0, 48), (0, 57)]) (jcall_s (A := [(0, 57), (0, 48), (0, (-1))]) (S' := []) (by decide) rfl (Nat.le_of_ble_eq_true rfl)) (by decide) ml242 pp242 (Nat.le_of_ble_eq_true rfl) rfl (by decide) (by decide) ?_
              refine ev_iload_n rfl ?_
              refine ev_iload_n rfl ?_
              refine ev_icmplt f242_14 (fun c79119 => ?_) (fun c79119 => absurd c79119 (by omega))
              refine ev_iconst ?_
              refine ev_ret rfl (by decide) (by decide) ?_
              show jEv _ _ _ _ _ _ _ (_, [(2, 42), (0, (a1 + 2))], [(0, 0)], _, _, _)
              refine ev_ret rfl (by decide) (by decide) ?_
              show jEv _ _ _ _ _ _ _ (_, [(2, 42), (0, a1), (0, 0), (0, (a1 + 2)), (0, 1), (0, (v79100 - 48)), (0, 1)], [(0, 0)], _, _, _)
              refine ev_ifeq f269_100 (fun c79120 => ?_) (fun c79120 => absurd c79120 (by omega))
              refine ev_aload_n rfl ?_
              refine ev_iload_n rfl ?_
              refine ev_iconst ?_
              refine ev_iload rfl ?_
              refine ev_ifeq f269_114 (fun c79121 => absurd c79121 (by omega)) (fun c79121 => ?_)
              refine ev_iload rfl ?_
              refine ev_ineg (r := ((-v79100) + 48)) (by unfold w32; omega) ?_
              refine ev_goto f269_116 ?_
              refine ev_in (d := 1) (a := 0) (b := 0) (cd' := c267_0) (m := 6) (L0 := [(2, 42), (0, 0), (0, 0), (0, ((-v79100) + 48)), (9, 0), (9, 0)]) (jcall_v (A := [(0, ((-v79100) + 48)), (0, 0), (0, 0)]) (S' := []) (r := 42) rfl (g.lt ad42) (g.tg ad42) (Nat.le_of_ble_eq_true rfl)) (by decide) ml267 pp267 (Nat.le_of_ble_eq_true rfl) rfl (by decide) (by decide) ?_
              refine ev_iload_n rfl ?_
              refine ev_ifne f267_6 (fun c79122 => absurd c79122 (by omega)) (fun c79122 => ?_)
              refine ev_iconst ?_
              refine ev_ret rfl (by decide) (by decide) ?_
              show jEv _ _ _ _ _ _ _ (_, [(2, 42), (0, a1), (0, 0), (0, (a1 + 2)), (0, 1), (0, (v79100 - 48)), (0, 1)], [(0, (-1))], _, _, _)
              refine ev_pop (by decide) ?_
              refine ev_iload_n rfl ?_
              exact ev_ret rfl (by decide) (by decide) ⟨⟨_, rfl, by omega, by omega, g, k0⟩, fun r hr h0 => by cases hr; exact (Ad.step (r' := (a1 + 2)) (Ad.step (r' := (a1 + 1)) (Ad.rf _ _ _) (by omega) k0 (fun _ => rfl) (ev79007) (by omega) (by omega) (by omega)) (by omega) k0 (fun _ => rfl) (ev79100) (by omega) (by omega) (by omega)), fun r hr => by cases hr; exact okF (show (if bR h a1 = 45 then enR (bR h) (a1 + 1) else enR (bR h) a1) = ((a1 + 2), 0, 0, 1) by rw [if_pos ((bR_at (p := a1) k0 (fun _ => rfl) ew0 (ev79007) (by omega) (by omega)).trans (by omega))]; unfold enR; rw [show nm3 (bR h) (a1 + 1) = (a1 + 2) by unfold nm3; rw [show (a1 + 1 + 1 : Int) = a1 + 2 by omega, show (a1 + 1 + 2 : Int) = a1 + 3 by omega, (bR_at (p := (a1 + 1)) k0 (fun _ => rfl) ew0 (ev79100) (by omega) (by omega)), (bR_end (p := (a1 + 2)) ew0 (by omega))]; (repeat' split) <;> omega, if_neg (by omega)]) (by omega) (by omega)⟩
            · refine ev_aload_n rfl ?_
              refine g_getp (r := 42) (c := 54) g ad42 (by decide) (by decide) rf42_16 ft12_16 ?_
              refine ev_iload_n rfl ?_
              refine g_bald g ad54 rt54 (by omega) (by omega) (fun v79123 ev79123 lv79123 uv79123 => ?_)
              refine ev_goto f264_18 ?_
              refine ev_ret rfl (by decide) (by decide) ?_
              show jEv _ _ _ _ _ _ _ (_, [(2, 42), (0, (a1 + 2))], [(0, v79123)], _, _, _)
              refine ev_bipush ?_
              refine ev_bipush ?_
              refine ev_in (d := 0) (a := 0) (b := 0) (cd' := c242_0) (m := 3) (L0 := [(0, v79123), (0, 48), (0, 57)]) (jcall_s (A := [(0, 57), (0, 48), (0, v79123)]) (S' := []) (by decide) rfl (Nat.le_of_ble_eq_true rfl)) (by decide) ml242 pp242 (Nat.le_of_ble_eq_true rfl) rfl (by decide) (by decide) ?_
              refine ev_iload_n rfl ?_
              refine ev_iload_n rfl ?_
              refine ev_icmplt f242_14 (fun c79124 => ?_) (fun c79124 => ?_)
              · refine ev_iconst ?_
                refine ev_ret rfl (by decide) (by decide) ?_
                show jEv _ _ _ _ _ _ _ (_, [(2, 42), (0, (a1 + 2))], [(0, 0)], _, _, _)
                refine ev_ret rfl (by decide) (by decide) ?_
                show jEv _ _ _ _ _ _ _ (_, [(2, 42), (0, a1), (0, 0), (0, (a1 + 2)), (0, 1), (0, (v79100 - 48)), (0, 1)], [(0, 0)], _, _, _)
                refine ev_ifeq f269_86 (fun c79125 => ?_) (fun c79125 => absurd c79125 (by omega))
                refine ev_aload_n rfl ?_
                refine ev_iload_n rfl ?_
                refine ev_in (d := 1) (a := 0) (b := 0) (cd' := c265_0) (m := 2) (L0 := [(2, 42), (0, (a1 + 2))]) (jcall_v (A := [(0, (a1 + 2))]) (S' := []) (r := 42) rfl (g.lt ad42) (g.tg ad42) (Nat.le_of_ble_eq_true rfl)) (by decide) ml265 pp265 (Nat.le_of_ble_eq_true rfl) rfl (by decide) (by decide) ?_
                refine ev_aload_n rfl ?_
                refine ev_iload_n rfl ?_
                refine ev_in (d := 0) (a := 0) (b := 0) (cd' := c264_0) (m := 2) (L0 := [(2, 42), (0, (a1 + 2))]) (jcall_v (A := [(0, (a1 + 2))]) (S' := []) (r := 42) rfl (g.lt ad42) (g.tg ad42) (Nat.le_of_ble_eq_true rfl)) (by decide) ml264 pp264 (Nat.le_of_ble_eq_true rfl) rfl (by decide) (by decide) ?_
                refine ev_iload_n rfl ?_
                refine ev_aload_n rfl ?_
                refine g_getv (r := 42) (v := w0) g ad42 (by decide) ft12_17 (ew0) ?_
                refine ev_icmpge f264_17 (fun c79126 => absurd c79126 (by omega)) (fun c79126 => ?_)
                refine ev_aload_n rfl ?_
                refine g_getp (r := 42) (c := 54) g ad42 (by decide) (by decide) rf42_16 ft12_16 ?_
                refine ev_iload_n rfl ?_
                refine g_baldv (v := v79123) g ad54 (by omega) (by omega) (ev79123) ?_
                refine ev_goto f264_18 ?_
                refine ev_ret rfl (by decide) (by decide) ?_
                show jEv _ _ _ _ _ _ _ (_, [(2, 42), (0, (a1 + 2))], [(0, v79123)], _, _, _)
                refine ev_bipush ?_
                refine ev_bipush ?_
                refine ev_in (d := 0) (a := 0) (b := 0) (cd' := c242_0) (m := 3) (L0 := [(0, v79123), (0, 48), (0, 57)]) (jcall_s (A := [(0, 57), (0, 48), (0, v79123)]) (S' := []) (by decide) rfl (Nat.le_of_ble_eq_true rfl)) (by decide) ml242 pp242 (Nat.le_of_ble_eq_true rfl) rfl (by decide) (by decide) ?_
                refine ev_iload_n rfl ?_
                refine ev_iload_n rfl ?_
                refine ev_icmplt f242_14 (fun c79127 => ?_) (fun c79127 => absurd c79127 (by omega))
                refine ev_iconst ?_
                refine ev_ret rfl (by decide) (by decide) ?_
                show jEv _ _ _ _ _ _ _ (_, [(2, 42), (0, (a1 + 2))], [(0, 0)], _, _, _)
                refine ev_ret rfl (by decide) (by decide) ?_
                show jEv _ _ _ _ _ _ _ (_, [(2, 42), (0, a1), (0, 0), (0, (a1 + 2)), (0, 1), (0, (v79100 - 48)), (0, 1)], [(0, 0)], _, _, _)
                refine ev_ifeq f269_100 (fun c79128 => ?_) (fun c79128 => absurd c79128 (by omega))
                refine ev_aload_n rfl ?_
                refine ev_iload_n rfl ?_
                refine ev_iconst ?_
                refine ev_iload rfl ?_
                refine ev_ifeq f269_114 (fun c79129 => absurd c79129 (by omega)) (fun c79129 => ?_)
                refine ev_iload rfl ?_
                refine ev_ineg (r := ((-v79100) + 48)) (by unfold w32; omega) ?_
                refine ev_goto f269_116 ?_
                refine ev_in (d := 1) (a := 0) (b := 0) (cd' := c267_0) (m := 6) (L0 := [(2, 42), (0, 0), (0, 0), (0, ((-v79100) + 48)), (9, 0), (9, 0)]) (jcall_v (A := [(0, ((-v79100) + 48)), (0, 0), (0, 0)]) (S' := []) (r := 42) rfl (g.lt ad42) (g.tg ad42) (Nat.le_of_ble_eq_true rfl)) (by decide) ml267 pp267 (Nat.le_of_ble_eq_true rfl) rfl (by decide) (by decide) ?_
                refine ev_iload_n rfl ?_
                refine ev_ifne f267_6 (fun c79130 => absurd c79130 (by omega)) (fun c79130 => ?_)
                refine ev_iconst ?_
                refine ev_ret rfl (by decide) (by decide) ?_
                show jEv _ _ _ _ _ _ _ (_, [(2, 42), (0, a1), (0, 0), (0, (a1 + 2)), (0, 1), (0, (v79100 - 48)), (0, 1)], [(0, (-1))], _, _, _)
                refine ev_pop (by decide) ?_
                refine ev_iload_n rfl ?_
                exact ev_ret rfl (by decide) (by decide) ⟨⟨_, rfl, by omega, by omega, g, k0⟩, fun r hr h0 => by cases hr; exact (Ad.step (r' := (a1 + 2)) (Ad.step (r' := (a1 + 1)) (Ad.rf _ _ _) (by omega) k0 (fun _ => rfl) (ev79007) (by omega) (by omega) (by omega)) (by omega) k0 (fun _ => rfl) (ev79100) (by omega) (by omega) (by omega)), fun r hr => by cases hr; exact okF (show (if bR h a1 = 45 then enR (bR h) (a1 + 1) else enR (bR h) a1) = ((a1 + 2), 0, 0, 1) by rw [if_pos ((bR_at (p := a1) k0 (fun _ => rfl) ew0 (ev79007) (by omega) (by omega)).trans (by omega))]; unfold enR; rw [show nm3 (bR h) (a1 + 1) = (a1 + 2) by unfold nm3; rw [show (a1 + 1 + 1 : Int) = a1 + 2 by omega, show (a1 + 1 + 2 : Int) = a1 + 3 by omega, (bR_at (p := (a1 + 1)) k0 (fun _ => rfl) ew0 (ev79100) (by omega) (by omega)), (bR_at (p := (a1 + 2)) k0 (fun _ => rfl) ew0 (ev79123) (by omega) (by omega))]; (repeat' split) <;> omega, if_neg (by omega)]) (by omega) (by omega)⟩
              · refine ev_iload_n rfl ?_
                refine ev_iload_n rfl ?_
                refine ev_icmpgt f242_14 (fun c79131 => ?_) (fun c79131 => ?_)
                · refine ev_iconst ?_
                  refine ev_ret rfl (by decide) (by decide) ?_
                  show jEv _ _ _ _ _ _ _ (_, [(2, 42), (0, (a1 + 2))], [(0, 0)], _, _, _)
                  refine ev_ret rfl (by decide) (by decide) ?_
                  show jEv _ _ _ _ _ _ _ (_, [(2, 42), (0, a1), (0, 0), (0, (a1 + 2)), (0, 1), (0, (v79100 - 48)), (0, 1)], [(0, 0)], _, _, _)
                  refine ev_ifeq f269_86 (fun c79132 => ?_) (fun c79132 => absurd c79132 (by omega))
                  refine ev_aload_n rfl ?_
                  refine ev_iload_n rfl ?_
                  refine ev_in (d := 1) (a := 0) (b := 0) (cd' := c265_0) (m := 2) (L0 := [(2, 42), (0, (a1 + 2))]) (jcall_v (A := [(0, (a1 + 2))]) (S' := []) (r := 42) rfl (g.lt ad42) (g.tg ad42) (Nat.le_of_ble_eq_true rfl)) (by decide) ml265 pp265 (Nat.le_of_ble_eq_true rfl) rfl (by decide) (by decide) ?_
                  refine ev_aload_n rfl ?_
                  refine ev_iload_n rfl ?_
                  refine ev_in (d := 0) (a := 0) (b := 0) (cd' := c264_0) (m := 2) (L0 := [(2, 42), (0, (a1 + 2))]) (jcall_v (A := [(0, (a1 + 2))]) (S' := []) (r := 42) rfl (g.lt ad42) (g.tg ad42) (Nat.le_of_ble_eq_true rfl)) (by decide) ml264 pp264 (Nat.le_of_ble_eq_true rfl) rfl (by decide) (by decide) ?_
                  refine ev_iload_n rfl ?_
                  refine ev_aload_n rfl ?_
                  refine g_getv (r := 42) (v := w0) g ad42 (by decide) ft12_17 (ew0) ?_
                  refine ev_icmpge f264_17 (fun c79133 => absurd c79133 (by omega)) (fun c79133 => ?_)
                  refine ev_aload_n rfl ?_
                  refine g_getp (r := 42) (c := 54) g ad42 (by decide) (by decide) rf42_16 ft12_16 ?_
                  refine ev_iload_n rfl ?_
                  refine g_baldv (v := v79123) g ad54 (by omega) (by omega) (ev79123) ?_
                  refine ev_goto f264_18 ?_
                  refine ev_ret rfl (by decide) (by decide) ?_
                  show jEv _ _ _ _ _ _ _ (_, [(2, 42), (0, (a1 + 2))], [(0, v79123)], _, _, _)
                  refine ev_bipush ?_
                  refine ev_bipush ?_
                  refine ev_in (d := 0) (a := 0) (b := 0) (cd' := c242_0) (m := 3) (L0 := [(0, v79123), (0, 48), (0, 57)]) (jcall_s (A := [(0, 57), (0, 48), (0, v79123)]) (S' := []) (by decide) rfl (Nat.le_of_ble_eq_true rfl)) (by decide) ml242 pp242 (Nat.le_of_ble_eq_true rfl) rfl (by decide) (by decide) ?_
                  refine ev_iload_n rfl ?_
                  refine ev_iload_n rfl ?_
                  refine ev_icmplt f242_14 (fun c79134 => absurd c79134 (by omega)) (fun c79134 => ?_)
                  refine ev_iload_n rfl ?_
                  refine ev_iload_n rfl ?_
                  refine ev_icmpgt f242_14 (fun c79135 => ?_) (fun c79135 => absurd c79135 (by omega))
                  refine ev_iconst ?_
                  refine ev_ret rfl (by decide) (by decide) ?_
                  show jEv _ _ _ _ _ _ _ (_, [(2, 42), (0, (a1 + 2))], [(0, 0)], _, _, _)
                  refine ev_ret rfl (by decide) (by decide) ?_
                  show jEv _ _ _ _ _ _ _ (_, [(2, 42), (0, a1), (0, 0), (0, (a1 + 2)), (0, 1), (0, (v79100 - 48)), (0, 1)], [(0, 0)], _, _, _)
                  refine ev_ifeq f269_100 (fun c79136 => ?_) (fun c79136 => absurd c79136 (by omega))
                  refine ev_aload_n rfl ?_
                  refine ev_iload_n rfl ?_
                  refine ev_iconst ?_
                  refine ev_iload rfl ?_
                  refine ev_ifeq f269_114 (fun c79137 => absurd c79137 (by omega)) (fun c79137 => ?_)
                  refine ev_iload rfl ?_
                  refine ev_ineg (r := ((-v79100) + 48)) (by unfold w32; omega) ?_
                  refine ev_goto f269_116 ?_
                  refine ev_in (d := 1) (a := 0) (b := 0) (cd' := c267_0) (m := 6) (L0 := [(2, 42), (0, 0), (0, 0), (0, ((-v79100) + 48)), (9, 0), (9, 0)]) (jcall_v (A := [(0, ((-v79100) + 48)), (0, 0), (0, 0)]) (S' := []) (r := 42) rfl (g.lt ad42) (g.tg ad42) (Nat.le_of_ble_eq_true rfl)) (by decide) ml267 pp267 (Nat.le_of_ble_eq_true rfl) rfl (by decide) (by decide) ?_
                  refine ev_iload_n rfl ?_
                  refine ev_ifne f267_6 (fun c79138 => absurd c79138 (by omega)) (fun c79138 => ?_)
                  refine ev_iconst ?_
                  refine ev_ret rfl (by decide) (by decide) ?_
                  show jEv _ _ _ _ _ _ _ (_, [(2, 42), (0, a1), (0, 0), (0, (a1 + 2)), (0, 1), (0, (v79100 - 48)), (0, 1)], [(0, (-1))], _, _, _)
                  refine ev_pop (by decide) ?_
                  refine ev_iload_n rfl ?_
                  exact ev_ret rfl (by decide) (by decide) ⟨⟨_, rfl, by omega, by omega, g, k0⟩, fun r hr h0 => by cases hr; exact (Ad.step (r' := (a1 + 2)) (Ad.step (r' := (a1 + 1)) (Ad.rf _ _ _) (by omega) k0 (fun _ => rfl) (ev79007) (by omega) (by omega) (by omega)) (by omega) k0 (fun _ => rfl) (ev79100) (by omega) (by omega) (by omega)), fun r hr => by cases hr; exact okF (show (if bR h a1 = 45 then enR (bR h) (a1 + 1) else enR (bR h) a1) = ((a1 + 2), 0, 0, 1) by rw [if_pos ((bR_at (p := a1) k0 (fun _ => rfl) ew0 (ev79007) (by omega) (by omega)).trans (by omega))]; unfold enR; rw [show nm3 (bR h) (a1 + 1) = (a1 + 2) by unfold nm3; rw [show (a1 + 1 + 1 : Int) = a1 + 2 by omega, show (a1 + 1 + 2 : Int) = a1 + 3 by omega, (bR_at (p := (a1 + 1)) k0 (fun _ => rfl) ew0 (ev79100) (by omega) (by omega)), (bR_at (p := (a1 + 2)) k0 (fun _ => rfl) ew0 (ev79123) (by omega) (by omega))]; (repeat' split) <;> omega, if_neg (by omega)]) (by omega) (by omega)⟩
                · refine ev_iconst ?_
                  refine ev_goto f242_15 ?_
                  refine ev_ret rfl (by decide) (by decide) ?_
                  show jEv _ _ _ _ _ _ _ (_, [(2, 42), (0, (a1 + 2))], [(0, 1)], _, _, _)
                  refine ev_ret rfl (by decide) (by decide) ?_
                  show jEv _ _ _ _ _ _ _ (_, [(2, 42), (0, a1), (0, 0), (0, (a1 + 2)), (0, 1), (0, (v79100 - 48)), (0, 1)], [(0, 1)], _, _, _)
                  refine ev_ifeq f269_86 (fun c79139 => absurd c79139 (by omega)) (fun c79139 => ?_)
                  refine ev_bipush ?_
                  refine ev_iload rfl ?_
                  refine ev_imul (r := (10 * v79100 - 480)) (by unfold w32; omega) ?_
                  refine ev_aload_n rfl ?_
                  refine ev_iload_n rfl ?_
                  refine ev_in (d := 1) (a := 0) (b := 0) (cd' := c264_0) (m := 2) (L0 := [(2, 42), (0, (a1 + 2))]) (jcall_v (A := [(0, (a1 + 2))]) (S' := [(0, (10 * v79100 - 480))]) (r := 42) rfl (g.lt ad42) (g.tg ad42) (Nat.le_of_ble_eq_true rfl)) (by decide) ml264 pp264 (Nat.le_of_ble_eq_true rfl) rfl (by decide) (by decide) ?_
                  refine ev_iload_n rfl ?_
                  refine ev_aload_n rfl ?_
                  refine g_getv (r := 42) (v := w0) g ad42 (by decide) ft12_17 (ew0) ?_
                  refine ev_icmpge f264_17 (fun c79140 => absurd c79140 (by omega)) (fun c79140 => ?_)
                  refine ev_aload_n rfl ?_
                  refine g_getp (r := 42) (c := 54) g ad42 (by decide) (by decide) rf42_16 ft12_16 ?_
                  refine ev_iload_n rfl ?_
                  refine g_baldv (v := v79123) g ad54 (by omega) (by omega) (ev79123) ?_
                  refine ev_goto f264_18 ?_
                  refine ev_ret rfl (by decide) (by decide) ?_
                  show jEv _ _ _ _ _ _ _ (_, [(2, 42), (0, a1), (0, 0), (0, (a1 + 2)), (0, 1), (0, (v79100 - 48)), (0, 1)], [(0, v79123), (0, (10 * v79100 - 480))], _, _, _)
                  refine ev_iadd (r := (10 * v79100 + v79123 - 480)) (by unfold w32; omega) ?_
                  refine ev_bipush ?_
                  refine ev_isub (r := (10 * v79100 + v79123 - 528)) (by unfold w32; omega) ?_
                  refine ev_istore (L' := [(2, 42), (0, a1), (0, 0), (0, (a1 + 2)), (0, 1), (0, (10 * v79100 + v79123 - 528)), (0, 1)]) (Nat.le_of_ble_eq_true rfl) rfl ?_
                  refine ev_iinc (w := 2) (L' := [(2, 42), (0, a1), (0, 0), (0, (a1 + 2)), (0, 1), (0, (10 * v79100 + v79123 - 528)), (0, 2)]) rfl (by decide) rfl ?_
                  refine ev_iinc (w := (a1 + 3)) (L' := [(2, 42), (0, a1), (0, 0), (0, (a1 + 3)), (0, 1), (0, (10 * v79100 + v79123 - 528)), (0, 2)]) rfl (by unfold w32; omega) rfl ?_
                  refine ev_goto f269_47 ?_
                  refine ev_iload rfl ?_
                  refine ev_iconst ?_
                  refine ev_icmpge f269_86 (fun c79141 => absurd c79141 (by omega)) (fun c79141 => ?_)
                  refine ev_aload_n rfl ?_
                  refine ev_iload_n rfl ?_
                  refine ev_in (d := 1) (a := 0) (b := 0) (cd' := c265_0) (m := 2) (L0 := [(2, 42), (0, (a1 + 3))]) (jcall_v (A := [(0, (a1 + 3))]) (S' := []) (r := 42) rfl (g.lt ad42) (g.tg ad42) (Nat.le_of_ble_eq_true rfl)) (by decide) ml265 pp265 (Nat.le_of_ble_eq_true rfl) rfl (by decide) (by decide) ?_
                  refine ev_aload_n rfl ?_
                  refine ev_iload_n rfl ?_
                  refine ev_in (d := 0) (a := 0) (b := 0) (cd' := c264_0) (m := 2) (L0 := [(2, 42), (0, (a1 + 3))]) (jcall_v (A := [(0, (a1 + 3))]) (S' := []) (r := 42) rfl (g.lt ad42) (g.tg ad42) (Nat.le_of_ble_eq_true rfl)) (by decide) ml264 pp264 (Nat.le_of_ble_eq_true rfl) rfl (by decide) (by decide) ?_
                  refine ev_iload_n rfl ?_
                  refine ev_aload_n rfl ?_
                  refine g_getv (r := 42) (v := w0) g ad42 (by decide) ft12_17 (ew0) ?_
                  refine ev_icmpge f264_17 (fun c79142 => ?_) (fun c79142 => ?_)
                  · refine ev_iconst ?_
                    refine ev_ret rfl (by decide) (by decide) ?_
                    show jEv _ _ _ _ _ _ _ (_, [(2, 42), (0, (a1 + 3))], [(0, (-1))], _, _, _)
                    refine ev_bipush ?_
                    refine ev_bipush ?_
                    refine ev_in (d := 0) (a := 0) (b := 0) (cd' := c242_0) (m := 3) (L0 := [(0, (-1)), (0, 48), (0, 57)]) (jcall_s (A := [(0, 57), (0, 48), (0, (-1))]) (S' := []) (by decide) rfl (Nat.le_of_ble_eq_true rfl)) (by decide) ml242 pp242 (Nat.le_of_ble_eq_true rfl) rfl (by decide) (by decide) ?_
                    refine ev_iload_n rfl ?_
                    refine ev_iload_n rfl ?_
                    refine ev_icmplt f242_14 (fun c79143 => ?_) (fun c79143 => absurd c79143 (by omega))
                    refine ev_iconst ?_
                    refine ev_ret rfl (by decide) (by decide) ?_
                    show jEv _ _ _ _ _ _ _ (_, [(2, 42), (0, (a1 + 3))], [(0, 0)], _, _, _)
                    refine ev_ret rfl (by decide) (by decide) ?_
                    show jEv _ _ _ _ _ _ _ (_, [(2, 42), (0, a1), (0, 0), (0, (a1 + 3)), (0, 1), (0, (10 * v79100 + v79123 - 528)), (0, 2)], [(0, 0)], _, _, _)
                    refine ev_ifeq f269_86 (fun c79144 => ?_) (fun c79144 => absurd c79144 (by omega))
                    refine ev_aload_n rfl ?_
                    refine ev_iload_n rfl ?_
                    refine ev_in (d := 1) (a := 0) (b := 0) (cd' := c265_0) (m := 2) (L0 := [(2, 42), (0, (a1 + 3))]) (jcall_v (A := [(0, (a1 + 3))]) (S' := []) (r := 42) rfl (g.lt ad42) (g.tg ad42) (Nat.le_of_ble_eq_true rfl)) (by decide) ml265 pp265 (Nat.le_of_ble_eq_true rfl) rfl (by decide) (by decide) ?_
                    refine ev_aload_n rfl ?_
                    refine ev_iload_n rfl ?_
                    refine ev_in (d := 0) (a := 0) (b := 0) (cd' := c264_0) (m := 2) (L0 := [(2, 42), (0, (a1 + 3))]) (jcall_v (A := [(0, (a1 + 3))]) (S' := []) (r := 42) rfl (g.lt ad42) (g.tg ad42) (Nat.le_of_ble_eq_true rfl)) (by decide) ml264 pp264 (Nat.le_of_ble_eq_true rfl) rfl (by decide) (by decide) ?_
                    refine ev_iload_n rfl ?_
                    refine ev_aload_n rfl ?_
                    refine g_getv (r := 42) (v := w0) g ad42 (by decide) ft12_17 (ew0) ?_
                    refine ev_icmpge f264_17 (fun c79145 => ?_) (fun c79145 => absurd c79145 (by omega))
                    refine ev_iconst ?_
                    refine ev_ret rfl (by decide) (by decide) ?_
                    show jEv _ _ _ _ _ _ _ (_, [(2, 42), (0, (a1 + 3))], [(0, (-1))], _, _, _)
                    refine ev_bipush ?_
                    refine ev_bipush ?_
                    refine ev_in (d := 0) (a := 0) (b := 0) (cd' := c242_0) (m := 3) (L0 := [(0, (-1)), (0, 48), (0, 57)]) (jcall_s (A := [(0, 57), (0, 48), (0, (-1))]) (S' := []) (by decide) rfl (Nat.le_of_ble_eq_true rfl)) (by decide) ml242 pp242 (Nat.le_of_ble_eq_true rfl) rfl (by decide) (by decide) ?_
                    refine ev_iload_n rfl ?_
                    refine ev_iload_n rfl ?_
                    refine ev_icmplt f242_14 (fun c79146 => ?_) (fun c79146 => absurd c79146 (by omega))
                    refine ev_iconst ?_
                    refine ev_ret rfl (by decide) (by decide) ?_
                    show jEv _ _ _ _ _ _ _ (_, [(2, 42), (0, (a1 + 3))], [(0, 0)], _, _, _)
                    refine ev_ret rfl (by decide) (by decide) ?_
                    show jEv _ _ _ _ _ _ _ (_, [(2, 42), (0, a1), (0, 0), (0, (a1 + 3)), (0, 1), (0, (10 * v79100 + v79123 - 528)), (0, 2)], [(0, 0)], _, _, _)
                    refine ev_ifeq f269_100 (fun c79147 => ?_) (fun c79147 => absurd c79147 (by omega))
                    refine ev_aload_n rfl ?_
                    refine ev_iload_n rfl ?_
                    refine ev_iconst ?_
                    refine ev_iload rfl ?_
                    refine ev_ifeq f269_114 (fun c79148 => absurd c79148 (by omega)) (fun c79148 => ?_)
                    refine ev_iload rfl ?_
                    refine ev_ineg (r := ((-10) * v79100 + (-v79123) + 528)) (by unfold w32; omega) ?_
                    refine ev_goto f269_116 ?_
                    refine ev_in (d := 1) (a := 0) (b := 0) (cd' := c267_0) (m := 6) (L0 := [(2, 42), (0, 0), (0, 0), (0, ((-10) * v79100 + (-v79123) + 528)), (9, 0), (9, 0)]) (jcall_v (A := [(0, ((-10) * v79100 + (-v79123) + 528)), (0, 0), (0, 0)]) (S' := []) (r := 42) rfl (g.lt ad42) (g.tg ad42) (Nat.le_of_ble_eq_true rfl)) (by decide) ml267 pp267 (Nat.le_of_ble_eq_true rfl) rfl (by decide) (by decide) ?_
                    refine ev_iload_n rfl ?_
                    refine ev_ifne f267_6 (fun c79149 => absurd c79149 (by omega)) (fun c79149 => ?_)
                    refine ev_iconst ?_
                    refine ev_ret rfl (by decide) (by decide) ?_
                    show jEv _ _ _ _ _ _ _ (_, [(2, 42), (0, a1), (0, 0), (0, (a1 + 3)), (0, 1), (0, (10 * v79100 + v79123 - 528)), (0, 2)], [(0, (-1))], _, _, _)
                    refine ev_pop (by decide) ?_
                    refine ev_iload_n rfl ?_
                    exact ev_ret rfl (by decide) (by decide) ⟨⟨_, rfl, by omega, by omega, g, k0⟩, fun r hr h0 => by cases hr; exact (Ad.step (r' := (a1 + 3)) (Ad.step (r' := (a1 + 2)) (Ad.step (r' := (a1 + 1)) (Ad.rf _ _ _) (by omega) k0 (fun _ => rfl) (ev79007) (by omega) (by omega) (by omega)) (by omega) k0 (fun _ => rfl) (ev79100) (by omega) (by omega) (by omega)) (by omega) k0 (fun _ => rfl) (ev79123) (by omega) (by omega) (by omega)), fun r hr => by cases hr; exact okF (show (if bR h a1 = 45 then enR (bR h) (a1 + 1) else enR (bR h) a1) = ((a1 + 3), 0, 0, 1) by rw [if_pos ((bR_at (p := a1) k0 (fun _ => rfl) ew0 (ev79007) (by omega) (by omega)).trans (by omega))]; unfold enR; rw [show nm3 (bR h) (a1 + 1) = (a1 + 3) by unfold nm3; rw [show (a1 + 1 + 1 : Int) = a1 + 2 by omega, show (a1 + 1 + 2 : Int) = a1 + 3 by omega, (bR_at (p := (a1 + 1)) k0 (fun _ => rfl) ew0 (ev79100) (by omega) (by omega)), (bR_at (p := (a1 + 2)) k0 (fun _ => rfl) ew0 (ev79123) (by omega) (by omega)), (bR_end (p := (a1 + 3)) ew0 (by omega))]; (repeat' split) <;> omega, if_neg (by omega)]) (by omega) (by omega)⟩
                  · refine ev_aload_n rfl ?_
                    refine g_getp (r := 42) (c := 54) g ad42 (by decide) (by decide) rf42_16 ft12_16 ?_
                    refine ev_iload_n rfl ?_
                    refine g_bald g ad54 rt54 (by omega) (by omega) (fun v79150 ev79150 lv79150 uv79150 => ?_)
                    refine ev_goto f264_18 ?_
                    refine ev_ret rfl (by decide) (by decide) ?_
                    show jEv _ _ _ _ _ _ _ (_, [(2, 42), (0, (a1 + 3))], [(0, v79150)], _, _, _)
                    refine ev_bipush ?_
                    refine ev_bipush ?_
                    refine ev_in (d := 0) (a := 0) (b := 0) (cd' := c242_0) (m := 3) (L0 := [(0, v79150), (0, 48), (0, 57)]) (jcall_s (A := [(0, 57), (0, 48), (0, v79150)]) (S' := []) (by decide) rfl (Nat.le_of_ble_eq_true rfl)) (by decide) ml242 pp242 (Nat.le_of_ble_eq_true rfl) rfl (by decide) (by decide) ?_
                    refine ev_iload_n rfl ?_
                    refine ev_iload_n rfl ?_
                    refine ev_icmplt f242_14 (fun c79151 => ?_) (fun c79151 => ?_)
                    · refine ev_iconst ?_
                      refine ev_ret rfl (by decide) (by decide) ?_
                      show jEv _ _ _ _ _ _ _ (_, [(2, 42), (0, (a1 + 3))], [(0, 0)], _, _, _)
                      refine ev_ret rfl (by decide) (by decide) ?_
                      show jEv _ _ _ _ _ _ _ (_, [(2, 42), (0, a1), (0, 0), (0, (a1 + 3)), (0, 1), (0, (10 * v79100 + v79123 - 528)), (0, 2)], [(0, 0)], _, _, _)
                      refine ev_ifeq f269_86 (fun c79152 => ?_) (fun c79152 => absurd c79152 (by omega))
                      refine ev_aload_n rfl ?_
                      refine ev_iload_n rfl ?_
                      refine ev_in (d := 1) (a := 0) (b := 0) (cd' := c265_0) (m := 2) (L0 := [(2, 42), (0, (a1 + 3))]) (jcall_v (A := [(0, (a1 + 3))]) (S' := []) (r := 42) rfl (g.lt ad42) (g.tg ad42) (Nat.le_of_ble_eq_true rfl)) (by decide) ml265 pp265 (Nat.le_of_ble_eq_true rfl) rfl (by decide) (by decide) ?_
                      refine ev_aload_n rfl ?_
                      refine ev_iload_n rfl ?_
                      refine ev_in (d := 0) (a := 0) (b := 0) (cd' := c264_0) (m := 2) (L0 := [(2, 42), (0, (a1 + 3))]) (jcall_v (A := [(0, (a1 + 3))]) (S' := []) (r := 42) rfl (g.lt ad42) (g.tg ad42) (Nat.le_of_ble_eq_true rfl)) (by decide) ml264 pp264 (Nat.le_of_ble_eq_true rfl) rfl (by decide) (by decide) ?_
                      refine ev_iload_n rfl ?_
                      refine ev_aload_n rfl ?_
                      refine g_getv (r := 42) (v := w0) g ad42 (by decide) ft12_17 (ew0) ?_
                      refine ev_icmpge f264_17 (fun c79153 => absurd c79153 (by omega)) (fun c79153 => ?_)
                      refine ev_aload_n rfl ?_
                      refine g_getp (r := 42) (c := 54) g ad42 (by decide) (by decide) rf42_16 ft12_16 ?_
                      refine ev_iload_n rfl ?_
                      refine g_baldv (v := v79150) g ad54 (by omega) (by omega) (ev79150) ?_
                      refine ev_goto f264_18 ?_
                      refine ev_ret rfl (by decide) (by decide) ?_
                      show jEv _ _ _ _ _ _ _ (_, [(2, 42), (0, (a1 + 3))], [(0, v79150)], _, _, _)
                      refine ev_bipush ?_
                      refine ev_bipush ?_
                      refine ev_in (d := 0) (a := 0) (b := 0) (cd' := c242_0) (m := 3) (L0 := [(0, v79150), (0, 48), (0, 57)]) (jcall_s (A := [(0, 57), (0, 48), (0, v79150)]) (S' := []) (by decide) rfl (Nat.le_of_ble_eq_true rfl)) (by decide) ml242 pp242 (Nat.le_of_ble_eq_true rfl) rfl (by decide) (by decide) ?_
                      refine ev_iload_n rfl ?_
                      refine ev_iload_n rfl ?_
                      refine ev_icmplt f242_14 (fun c79154 => ?_) (fun c79154 => absurd c79154 (by omega))
                      refine ev_iconst ?_
                      refine ev_ret rfl (by decide) (by decide) ?_
                      show jEv _ _ _ _ _ _ _ (_, [(2, 42), (0, (a1 + 3))], [(0, 0)], _, _, _)
                      refine ev_ret rfl (by decide) (by decide) ?_
                      show jEv _ _ _ _ _ _ _ (_, [(2, 42), (0, a1), (0, 0), (0, (a1 + 3)), (0, 1), (0, (10 * v79100 + v79123 - 528)), (0, 2)], [(0, 0)], _, _, _)
                      refine ev_ifeq f269_100 (fun c79155 => ?_) (fun c79155 => absurd c79155 (by omega))
                      refine ev_aload_n rfl ?_
                      refine ev_iload_n rfl ?_
                      refine ev_iconst ?_
                      refine ev_iload rfl ?_
                      refine ev_ifeq f269_114 (fun c79156 => absurd c79156 (by omega)) (fun c79156 => ?_)
                      refine ev_iload rfl ?_
                      refine ev_ineg (r := ((-10) * v79100 + (-v79123) + 528)) (by unfold w32; omega) ?_
                      refine ev_goto f269_116 ?_
                      refine ev_in (d := 1) (a := 0) (b := 0) (cd' := c267_0) (m := 6) (L0 := [(2, 42), (0, 0), (0, 0), (0, ((-10) * v79100 + (-v79123) + 528)), (9, 0), (9, 0)]) (jcall_v (A := [(0, ((-10) * v79100 + (-v79123) + 528)), (0, 0), (0, 0)]) (S' := []) (r := 42) rfl (g.lt ad42) (g.tg ad42) (Nat.le_of_ble_eq_true rfl)) (by decide) ml267 pp267 (Nat.le_of_ble_eq_true rfl) rfl (by decide) (by decide) ?_
                      refine ev_iload_n rfl ?_
                      refine ev_ifne f267_6 (fun c79157 => absurd c79157 (by omega)) (fun c79157 => ?_)
                      refine ev_iconst ?_
                      refine ev_ret rfl (by decide) (by decide) ?_
                      show jEv _ _ _ _ _ _ _ (_, [(2, 42), (0, a1), (0, 0), (0, (a1 + 3)), (0, 1), (0, (10 * v79100 + v79123 - 528)), (0, 2)], [(0, (-1))], _, _, _)
                      refine ev_pop (by decide) ?_
                      refine ev_iload_n rfl ?_
                      exact ev_ret rfl (by decide) (by decide) ⟨⟨_, rfl, by omega, by omega, g, k0⟩, fun r hr h0 => by cases hr; exact (Ad.step (r' := (a1 + 3)) (Ad.step (r' := (a1 + 2)) (Ad.step (r' := (a1 + 1)) (Ad.rf _ _ _) (by omega) k0 (fun _ => rfl) (ev79007) (by omega) (by omega) (by omega)) (by omega) k0 (fun _ => rfl) (ev79100) (by omega) (by omega) (by omega)) (by omega) k0 (fun _ => rfl) (ev79123) (by omega) (by omega) (by omega)), fun r hr => by cases hr; exact okF (show (if bR h a1 = 45 then enR (bR h) (a1 + 1) else enR (bR h) a1) = ((a1 + 3), 0, 0, 1) by rw [if_pos ((bR_at (p := a1) k0 (fun _ => rfl) ew0 (ev79007) (by omega) (by omega)).trans (by omega))]; unfold enR; rw [show nm3 (bR h) (a1 + 1) = (a1 + 3) by unfold nm3; rw [show (a1 + 1 + 1 : Int) = a1 + 2 by omega, show (a1 + 1 + 2 : Int) = a1 + 3 by omega, (bR_at (p := (a1 + 1)) k0 (fun _ => rfl) ew0 (ev79100) (by omega) (by omega)), (bR_at (p := (a1 + 2)) k0 (fun _ => rfl) ew0 (ev79123) (by omega) (by omega)), (bR_at (p := (a1 + 3)) k0 (fun _ => rfl) ew0 (ev79150) (by omega) (by omega))]; (repeat' split) <;> omega, if_neg (by omega)]) (by omega) (by omega)⟩
                    · refine ev_iload_n rfl ?_
                      refine ev_iload_n rfl ?_
                      refine ev_icmpgt f242_14 (fun c79158 => ?_) (fun c79158 => ?_)
                      · refine ev_iconst ?_
                        refine ev_ret rfl (by decide) (by decide) ?_
                        show jEv _ _ _ _ _ _ _ (_, [(2, 42), (0, (a1 + 3))], [(0, 0)], _, _, _)
                        refine ev_ret rfl (by decide) (by decide) ?_
                        show jEv _ _ _ _ _ _ _ (_, [(2, 42), (0, a1), (0, 0), (0, (a1 + 3)), (0, 1), (0, (10 * v79100 + v79123 - 528)), (0, 2)], [(0, 0)], _, _, _)
                        refine ev_ifeq f269_86 (fun c79159 => ?_) (fun c79159 => absurd c79159 (by omega))
                        refine ev_aload_n rfl ?_
                        refine ev_iload_n rfl ?_
                        refine ev_in (d := 1) (a := 0) (b := 0) (cd' := c265_0) (m := 2) (L0 := [(2, 42), (0, (a1 + 3))]) (jcall_v (A := [(0, (a1 + 3))]) (S' := []) (r := 42) rfl (g.lt ad42) (g.tg ad42) (Nat.le_of_ble_eq_true rfl)) (by decide) ml265 pp265 (Nat.le_of_ble_eq_true rfl) rfl (by decide) (by decide) ?_
                        refine ev_aload_n rfl ?_
                        refine ev_iload_n rfl ?_
                        refine ev_in (d := 0) (a := 0) (b := 0) (cd' := c264_0) (m := 2) (L0 := [(2, 42), (0, (a1 + 3))]) (jcall_v (A := [(0, (a1 + 3))]) (S' := []) (r := 42) rfl (g.lt ad42) (g.tg ad42) (Nat.le_of_ble_eq_true rfl)) (by decide) ml264 pp264 (Nat.le_of_ble_eq_true rfl) rfl (by decide) (by decide) ?_
                        refine ev_iload_n rfl ?_
                        refine ev_aload_n rfl ?_
                        refine g_getv (r := 42) (v := w0) g ad42 (by decide) ft12_17 (ew0) ?_
                        refine ev_icmpge f264_17 (fun c79160 => absurd c79160 (by omega)) (fun c79160 => ?_)
                        refine ev_aload_n rfl ?_
                        refine g_getp (r := 42) (c := 54) g ad42 (by decide) (by decide) rf42_16 ft12_16 ?_
                        refine ev_iload_n rfl ?_
                        refine g_baldv (v := v79150) g ad54 (by omega) (by omega) (ev79150) ?_
                        refine ev_goto f264_18 ?_
                        refine ev_ret rfl (by decide) (by decide) ?_
                        show jEv _ _ _ _ _ _ _ (_, [(2, 42), (0, (a1 + 3))], [(0, v79150)], _, _, _)
                        refine ev_bipush ?_
                        refine ev_bipush ?_
                        refine ev_in (d := 0) (a := 0) (b := 0) (cd' := c242_0) (m := 3) (L0 := [(0, v79150), (0, 48), (0, 57)]) (jcall_s (A := [(0, 57), (0, 48), (0, v79150)]) (S' := []) (by decide) rfl (Nat.le_of_ble_eq_true rfl)) (by decide) ml242 pp242 (Nat.le_of_ble_eq_true rfl) rfl (by decide) (by decide) ?_
                        refine ev_iload_n rfl ?_
                        refine ev_iload_n rfl ?_
                        refine ev_icmplt f242_14 (fun c79161 => absurd c79161 (by omega)) (fun c79161 => ?_)
                        refine ev_iload_n rfl ?_
                        refine ev_iload_n rfl ?_
                        refine ev_icmpgt f242_14 (fun c79162 => ?_) (fun c79162 => absurd c79162 (by omega))
                        refine ev_iconst ?_
                        refine ev_ret rfl (by decide) (by decide) ?_
                        show jEv _ _ _ _ _ _ _ (_, [(2, 42), (0, (a1 + 3))], [(0, 0)], _, _, _)
                        refine ev_ret rfl (by decide) (by decide) ?_
                        show jEv _ _ _ _ _ _ _ (_, [(2, 42), (0, a1), (0, 0), (0, (a1 + 3)), (0, 1), (0, (10 * v79100 + v79123 - 528)), (0, 2)], [(0, 0)], _, _, _)
                        refine ev_ifeq f269_100 (fun c79163 => ?_) (fun c79163 => absurd c79163 (by omega))
                        refine ev_aload_n rfl ?_
                        refine ev_iload_n rfl ?_
                        refine ev_iconst ?_
                        refine ev_iload rfl ?_
                        refine ev_ifeq f269_114 (fun c79164 => absurd c79164 (by omega)) (fun c79164 => ?_)
                        refine ev_iload rfl ?_
                        refine ev_ineg (r := ((-10) * v79100 + (-v79123) + 528)) (by unfold w32; omega) ?_
                        refine ev_goto f269_116 ?_
                        refine ev_in (d := 1) (a := 0) (b := 0) (cd' := c267_0) (m := 6) (L0 := [(2, 42), (0, 0), (0, 0), (0, ((-10) * v79100 + (-v79123) + 528)), (9, 0), (9, 0)]) (jcall_v (A := [(0, ((-10) * v79100 + (-v79123) + 528)), (0, 0), (0, 0)]) (S' := []) (r := 42) rfl (g.lt ad42) (g.tg ad42) (Nat.le_of_ble_eq_true rfl)) (by decide) ml267 pp267 (Nat.le_of_ble_eq_true rfl) rfl (by decide) (by decide) ?_
                        refine ev_iload_n rfl ?_
                        refine ev_ifne f267_6 (fun c79165 => absurd c79165 (by omega)) (fun c79165 => ?_)
                        refine ev_iconst ?_
                        refine ev_ret rfl (by decide) (by decide) ?_
                        show jEv _ _ _ _ _ _ _ (_, [(2, 42), (0, a1), (0, 0), (0, (a1 + 3)), (0, 1), (0, (10 * v79100 + v79123 - 528)), (0, 2)], [(0, (-1))], _, _, _)
                        refine ev_pop (by decide) ?_
                        refine ev_iload_n rfl ?_
                        exact ev_ret rfl (by decide) (by decide) ⟨⟨_, rfl, by omega, by omega, g, k0⟩, fun r hr h0 => by cases hr; exact (Ad.step (r' := (a1 + 3)) (Ad.step (r' := (a1 + 2)) (Ad.step (r' := (a1 + 1)) (Ad.rf _ _ _) (by omega) k0 (fun _ => rfl) (ev79007) (by omega) (by omega) (by omega)) (by omega) k0 (fun _ => rfl) (ev79100) (by omega) (by omega) (by omega)) (by omega) k0 (fun _ => rfl) (ev79123) (by omega) (by omega) (by omega)), fun r hr => by cases hr; exact okF (show (if bR h a1 = 45 then enR (bR h) (a1 + 1) else enR (bR h) a1) = ((a1 + 3), 0, 0, 1) by rw [if_pos ((bR_at (p := a1) k0 (fun _ => rfl) ew0 (ev79007) (by omega) (by omega)).trans (by omega))]; unfold enR; rw [show nm3 (bR h) (a1 + 1) = (a1 + 3) by unfold nm3; rw [show (a1 + 1 + 1 : Int) = a1 + 2 by omega, show (a1 + 1 + 2 : Int) = a1 + 3 by omega, (bR_at (p := (a1 + 1)) k0 (fun _ => rfl) ew0 (ev79100) (by omega) (by omega)), (bR_at (p := (a1 + 2)) k0 (fun _ => rfl) ew0 (ev79123) (by omega) (by omega)), (bR_at (p := (a1 + 3)) k0 (fun _ => rfl) ew0 (ev79150) (by omega) (by omega))]; (repeat' split) <;> omega, if_neg (by omega)]) (by omega) (by omega)⟩
                      · refine ev_iconst ?_
                        refine ev_goto f242_15 ?_
                        refine ev_ret rfl (by decide) (by decide) ?_
                        show jEv _ _ _ _ _ _ _ (_, [(2, 42), (0, (a1 + 3))], [(0, 1)], _, _, _)
                        refine ev_ret rfl (by decide) (by decide) ?_
                        show jEv _ _ _ _ _ _ _ (_, [(2, 42), (0, a1), (0, 0), (0, (a1 + 3)), (0, 1), (0, (10 * v79100 + v79123 - 528)), (0, 2)], [(0, 1)], _, _, _)
                        refine ev_ifeq f269_86 (fun c79166 => absurd c79166 (by omega)) (fun c79166 => ?_)
                        refine ev_bipush ?_
                        refine ev_iload rfl ?_
                        refine ev_imul (r := (100 * v79100 + 10 * v79123 - 5280)) (by unfold w32; omega) ?_
                        refine ev_aload_n rfl ?_
                        refine ev_iload_n rfl ?_
                        refine ev_in (d := 1) (a := 0) (b := 0) (cd' := c264_0) (m := 2) (L0 := [(2, 42), (0, (a1 + 3))]) (jcall_v (A := [(0, (a1 + 3))]) (S' := [(0, (100 * v79100 + 10 * v79123 - 5280))]) (r := 42) rfl (g.lt ad42) (g.tg ad42) (Nat.le_of_ble_eq_true rfl)) (by decide) ml264 pp264 (Nat.le_of_ble_eq_true rfl) rfl (by decide) (by decide) ?_
                        refine ev_iload_n rfl ?_
                        refine ev_aload_n rfl ?_
                        refine g_getv (r := 42) (v := w0) g ad42 (by decide) ft12_17 (ew0) ?_
                        refine ev_icmpge f264_17 (fun c79167 => absurd c79167 (by omega)) (fun c79167 => ?_)
                        refine ev_aload_n rfl ?_
                        refine g_getp (r := 42) (c := 54) g ad42 (by decide) (by decide) rf42_16 ft12_16 ?_
                        refine ev_iload_n rfl ?_
                        refine g_baldv (v := v79150) g ad54 (by omega) (by omega) (ev79150) ?_
                        refine ev_goto f264_18 ?_
                        refine ev_ret rfl (by decide) (by decide) ?_
                        show jEv _ _ _ _ _ _ _ (_, [(2, 42), (0, a1), (0, 0), (0, (a1 + 3)), (0, 1), (0, (10 * v79100 + v79123 - 528)), (0, 2)], [(0, v79150), (0, (100 * v79100 + 10 * v79123 - 5280))], _, _, _)
                        refine ev_iadd (r := (100 * v79100 + 10 * v79123 + v79150 - 5280)) (by unfold w32; omega) ?_
                        refine ev_bipush ?_
                        refine ev_isub (r := (100 * v79100 + 10 * v79123 + v79150 - 5328)) (by unfold w32; omega) ?_
                        refine ev_istore (L' := [(2, 42), (0, a1), (0, 0), (0, (a1 + 3)), (0, 1), (0, (100 * v79100 + 10 * v79123 + v79150 - 5328)), (0, 2)]) (Nat.le_of_ble_eq_true rfl) rfl ?_
                        refine ev_iinc (w := 3) (L' := [(2, 42), (0, a1), (0, 0), (0, (a1 + 3)), (0, 1), (0, (100 * v79100 + 10 * v79123 + v79150 - 5328)), (0, 3)]) rfl (by decide) rfl ?_
                        refine ev_iinc (w := (a1 + 4)) (L' := [(2, 42), (0, a1), (0, 0), (0, (a1 + 4)), (0, 1), (0, (100 * v79100 + 10 * v79123 + v79150 - 5328)), (0, 3)]) rfl (by unfold w32; omega) rfl ?_
                        refine ev_goto f269_47 ?_
                        refine ev_iload rfl ?_
                        refine ev_iconst ?_
                        refine ev_icmpge f269_86 (fun c79168 => ?_) (fun c79168 => absurd c79168 (by omega))
                        refine ev_aload_n rfl ?_
                        refine ev_iload_n rfl ?_
                        refine ev_in (d := 1) (a := 0) (b := 0) (cd' := c265_0) (m := 2) (L0 := [(2, 42), (0, (a1 + 4))]) (jcall_v (A := [(0, (a1 + 4))]) (S' := []) (r := 42) rfl (g.lt ad42) (g.tg ad42) (Nat.le_of_ble_eq_true rfl)) (by decide) ml265 pp265 (Nat.le_of_ble_eq_true rfl) rfl (by decide) (by decide) ?_
                        refine ev_aload_n rfl ?_
                        refine ev_iload_n rfl ?_
                        refine ev_in (d := 0) (a := 0) (b := 0) (cd' := c264_0) (m := 2) (L0 := [(2, 42), (0, (a1 + 4))]) (jcall_v (A := [(0, (a1 + 4))]) (S' := []) (r := 42) rfl (g.lt ad42) (g.tg ad42) (Nat.le_of_ble_eq_true rfl)) (by decide) ml264 pp264 (Nat.le_of_ble_eq_true rfl) rfl (by decide) (by decide) ?_
                        refine ev_iload_n rfl ?_
                        refine ev_aload_n rfl ?_
                        refine g_getv (r := 42) (v := w0) g ad42 (by decide) ft12_17 (ew0) ?_
                        refine ev_icmpge f264_17 (fun c79169 => ?_) (fun c79169 => ?_)
                        · refine ev_iconst ?_
                          refine ev_ret rfl (by decide) (by decide) ?_
                          show jEv _ _ _ _ _ _ _ (_, [(2, 42), (0, (a1 + 4))], [(0, (-1))], _, _, _)
                          refine ev_bipush ?_
                          refine ev_bipush ?_
                          refine ev_in (d := 0) (a := 0) (b := 0) (cd' := c242_0) (m := 3) (L0 := [(0, (-1)), (0, 48), (0, 57)]) (jcall_s (A := [(0, 57), (0, 48), (0, (-1))]) (S' := []) (by decide) rfl (Nat.le_of_ble_eq_true rfl)) (by decide) ml242 pp242 (Nat.le_of_ble_eq_true rfl) rfl (by decide) (by decide) ?_
                          refine ev_iload_n rfl ?_
                          refine ev_iload_n rfl ?_
                          refine ev_icmplt f242_14 (fun c79170 => ?_) (fun c79170 => absurd c79170 (by omega))
                          refine ev_iconst ?_
                          refine ev_ret rfl (by decide) (by decide) ?_
                          show jEv _ _ _ _ _ _ _ (_, [(2, 42), (0, (a1 + 4))], [(0, 0)], _, _, _)
                          refine ev_ret rfl (by decide) (by decide) ?_
                          show jEv _ _ _ _ _ _ _ (_, [(2, 42), (0, a1), (0, 0), (0, (a1 + 4)), (0, 1), (0, (100 * v79100 + 10 * v79123 + v79150 - 5328)), (0, 3)], [(0, 0)], _, _, _)
                          refine ev_ifeq f269_100 (fun c79171 => ?_) (fun c79171 => absurd c79171 (by omega))
                          refine ev_aload_n rfl ?_
                          refine ev_iload_n rfl ?_
                          refine ev_iconst ?_
                          refine ev_iload rfl ?_
                          refine ev_ifeq f269_114 (fun c79172 => absurd c79172 (by omega)) (fun c79172 => ?_)
                          refine ev_iload rfl ?_
                          refine ev_ineg (r := ((-100) * v79100 + (-10) * v79123 + (-v79150) + 5328)) (by unfold w32; omega) ?_
                          refine ev_goto f269_116 ?_
                          refine ev_in (d := 1) (a := 0) (b := 0) (cd' := c267_0) (m := 6) (L0 := [(2, 42), (0, 0), (0, 0), (0, ((-100) * v79100 + (-10) * v79123 + (-v79150) + 5328)), (9, 0), (9, 0)]) (jcall_v (A := [(0, ((-100) * v79100 + (-10) * v79123 + (-v79150) + 5328)), (0, 0), (0, 0)]) (S' := []) (r := 42) rfl (g.lt ad42) (g.tg ad42) (Nat.le_of_ble_eq_true rfl)) (by decide) ml267 pp267 (Nat.le_of_ble_eq_true rfl) rfl (by decide) (by decide) ?_
                          refine ev_iload_n rfl ?_
                          refine ev_ifne f267_6 (fun c79173 => absurd c79173 (by omega)) (fun c79173 => ?_)
                          refine ev_iconst ?_
                          refine ev_ret rfl (by decide) (by decide) ?_
                          show jEv _ _ _ _ _ _ _ (_, [(2, 42), (0, a1), (0, 0), (0, (a1 + 4)), (0, 1), (0, (100 * v79100 + 10 * v79123 + v79150 - 5328)), (0, 3)], [(0, (-1))], _, _, _)
                          refine ev_pop (by decide) ?_
                          refine ev_iload_n rfl ?_
                          exact ev_ret rfl (by decide) (by decide) ⟨⟨_, rfl, by omega, by omega, g, k0⟩, fun r hr h0 => by cases hr; exact (Ad.step (r' := (a1 + 4)) (Ad.step (r' := (a1 + 3)) (Ad.step (r' := (a1 + 2)) (Ad.step (r' := (a1 + 1)) (Ad.rf _ _ _) (by omega) k0 (fun _ => rfl) (ev79007) (by omega) (by omega) (by omega)) (by omega) k0 (fun _ => rfl) (ev79100) (by omega) (by omega) (by omega)) (by omega) k0 (fun _ => rfl) (ev79123) (by omega) (by omega) (by omega)) (by omega) k0 (fun _ => rfl) (ev79150) (by omega) (by omega) (by omega)), fun r hr => by cases hr; exact okF (show (if bR h a1 = 45 then enR (bR h) (a1 + 1) else enR (bR h) a1) = ((a1 + 4), 0, 0, 1) by rw [if_pos ((bR_at (p := a1) k0 (fun _ => rfl) ew0 (ev79007) (by omega) (by omega)).trans (by omega))]; unfold enR; rw [show nm3 (bR h) (a1 + 1) = (a1 + 4) by unfold nm3; rw [show (a1 + 1 + 1 : Int) = a1 + 2 by omega, show (a1 + 1 + 2 : Int) = a1 + 3 by omega, (bR_at (p := (a1 + 1)) k0 (fun _ => rfl) ew0 (ev79100) (by omega) (by omega)), (bR_at (p := (a1 + 2)) k0 (fun _ => rfl) ew0 (ev79123) (by omega) (by omega)), (bR_at (p := (a1 + 3)) k0 (fun _ => rfl) ew0 (ev79150) (by omega) (by omega))]; (repeat' split) <;> omega, if_neg (by omega)]) (by omega) (by omega)⟩
                        · refine ev_aload_n rfl ?_
                          refine g_getp (r := 42) (c := 54) g ad42 (by decide) (by decide) rf42_16 ft12_16 ?_
                          refine ev_iload_n rfl ?_
                          refine g_bald g ad54 rt54 (by omega) (by omega) (fun v79174 ev79174 lv79174 uv79174 => ?_)
                          refine ev_goto f264_18 ?_
                          refine ev_ret rfl (by decide) (by decide) ?_
                          show jEv _ _ _ _ _ _ _ (_, [(2, 42), (0, (a1 + 4))], [(0, v79174)], _, _, _)
                          refine ev_bipush ?_
                          refine ev_bipush ?_
                          refine ev_in (d := 0) (a := 0) (b := 0) (cd' := c242_0) (m := 3) (L0 := [(0, v79174), (0, 48), (0, 57)]) (jcall_s (A := [(0, 57), (0, 48), (0, v79174)]) (S' := []) (by decide) rfl (Nat.le_of_ble_eq_true rfl)) (by decide) ml242 pp242 (Nat.le_of_ble_eq_true rfl) rfl (by decide) (by decide) ?_
                          refine ev_iload_n rfl ?_
                          refine ev_iload_n rfl ?_
                          refine ev_icmplt f242_14 (fun c79175 => ?_) (fun c79175 => ?_)
                          · refine ev_iconst ?_
                            refine ev_ret rfl (by decide) (by decide) ?_
                            show jEv _ _ _ _ _ _ _ (_, [(2, 42), (0, (a1 + 4))], [(0, 0)], _, _, _)
                            refine ev_ret rfl (by decide) (by decide) ?_
                            show jEv _ _ _ _ _ _ _ (_, [(2, 42), (0, a1), (0, 0), (0, (a1 + 4)), (0, 1), (0, (100 * v79100 + 10 * v79123 + v79150 - 5328)), (0, 3)], [(0, 0)], _, _, _)
                            refine ev_ifeq f269_100 (fun c79176 => ?_) (fun c79176 => absurd c79176 (by omega))
                            refine ev_aload_n rfl ?_
                            refine ev_iload_n rfl ?_
                            refine ev_iconst ?_
                            refine ev_iload rfl ?_
                            refine ev_ifeq f269_114 (fun c79177 => absurd c79177 (by omega)) (fun c79177 => ?_)
                            refine ev_iload rfl ?_
                            refine ev_ineg (r := ((-100) * v79100 + (-10) * v79123 + (-v79150) + 5328)) (by unfold w32; omega) ?_
                            refine ev_goto f269_116 ?_
                            refine ev_in (d := 1) (a := 0) (b := 0) (cd' := c267_0) (m := 6) (L0 := [(2, 42), (0, 0), (0, 0), (0, ((-100) * v79100 + (-10) * v79123 + (-v79150) + 5328)), (9, 0), (9, 0)]) (jcall_v (A := [(0, ((-100) * v79100 + (-10) * v79123 + (-v79150) + 5328)), (0, 0), (0, 0)]) (S' := []) (r := 42) rfl (g.lt ad42) (g.tg ad42) (Nat.le_of_ble_eq_true rfl)) (by decide) ml267 pp267 (Nat.le_of_ble_eq_true rfl) rfl (by decide) (by decide) ?_
                            refine ev_iload_n rfl ?_
                            refine ev_ifne f267_6 (fun c79178 => absurd c79178 (by omega)) (fun c79178 => ?_)
                            refine ev_iconst ?_
                            refine ev_ret rfl (by decide) (by decide) ?_
                            show jEv _ _ _ _ _ _ _ (_, [(2, 42), (0, a1), (0, 0), (0, (a1 + 4)), (0, 1), (0, (100 * v79100 + 10 * v79123 + v79150 - 5328)), (0, 3)], [(0, (-1))], _, _, _)
                            refine ev_pop (by decide) ?_
                            refine ev_iload_n rfl ?_
                            exact ev_ret rfl (by decide) (by decide) ⟨⟨_, rfl, by omega, by omega, g, k0⟩, fun r hr h0 => by cases hr; exact (Ad.step (r' := (a1 + 4)) (Ad.step (r' := (a1 + 3)) (Ad.step (r' := (a1 + 2)) (Ad.step (r' := (a1 + 1)) (Ad.rf _ _ _) (by omega) k0 (fun _ => rfl) (ev79007) (by omega) (by omega) (by omega)) (by omega) k0 (fun _ => rfl) (ev79100) (by omega) (by omega) (by omega)) (by omega) k0 (fun _ => rfl) (ev79123) (by omega) (by omega) (by omega)) (by omega) k0 (fun _ => rfl) (ev79150) (by omega) (by omega) (by omega)), fun r hr => by cases hr; exact okF (show (if bR h a1 = 45 then enR (bR h) (a1 + 1) else enR (bR h) a1) = ((a1 + 4), 0, 0, 1) by rw [if_pos ((bR_at (p := a1) k0 (fun _ => rfl) ew0 (ev79007) (by omega) (by omega)).trans (by omega))]; unfold enR; rw [show nm3 (bR h) (a1 + 1) = (a1 + 4) by unfold nm3; rw [show (a1 + 1 + 1 : Int) = a1 + 2 by omega, show (a1 + 1 + 2 : Int) = a1 + 3 by omega, (bR_at (p := (a1 + 1)) k0 (fun _ => rfl) ew0 (ev79100) (by omega) (by omega)), (bR_at (p := (a1 + 2)) k0 (fun _ => rfl) ew0 (ev79123) (by omega) (by omega)), (bR_at (p := (a1 + 3)) k0 (fun _ => rfl) ew0 (ev79150) (by omega) (by omega))]; (repeat' split) <;> omega, if_neg (by omega)]) (by omega) (by omega)⟩
                          · refine ev_iload_n rfl ?_
                            refine ev_iload_n rfl ?_
                            refine ev_icmpgt f242_14 (fun c79179 => ?_) (fun c79179 => ?_)
                            · refine ev_iconst ?_
                              refine ev_ret rfl (by decide) (by decide) ?_
                              show jEv _ _ _ _ _ _ _ (_, [(2, 42), (0, (a1 + 4))], [(0, 0)], _, _, _)
                              refine ev_ret rfl (by decide) (by decide) ?_
                              show jEv _ _ _ _ _ _ _ (_, [(2, 42), (0, a1), (0, 0), (0, (a1 + 4)), (0, 1), (0, (100 * v79100 + 10 * v79123 + v79150 - 5328)), (0, 3)], [(0, 0)], _, _, _)
                              refine ev_ifeq f269_100 (fun c79180 => ?_) (fun c79180 => absurd c79180 (by omega))
                              refine ev_aload_n rfl ?_
                              refine ev_iload_n rfl ?_
                              refine ev_iconst ?_
                              refine ev_iload rfl ?_
                              refine ev_ifeq f269_114 (fun c79181 => absurd c79181 (by omega)) (fun c79181 => ?_)
                              refine ev_iload rfl ?_
                              refine ev_ineg (r := ((-100) * v79100 + (-10) * v79123 + (-v79150) + 5328)) (by unfold w32; omega) ?_
                              refine ev_goto f269_116 ?_
                              refine ev_in (d := 1) (a := 0) (b := 0) (cd' := c267_0) (m := 6) (L0 := [(2, 42), (0, 0), (0, 0), (0, ((-100) * v79100 + (-10) * v79123 + (-v79150) + 5328)), (9, 0), (9, 0)]) (jcall_v (A := [(0, ((-100) * v79100 + (-10) * v79123 + (-v79150) + 5328)), (0, 0), (0, 0)]) (S' := []) (r := 42) rfl (g.lt ad42) (g.tg ad42) (Nat.le_of_ble_eq_true rfl)) (by decide) ml267 pp267 (Nat.le_of_ble_eq_true rfl) rfl (by decide) (by decide) ?_
                              refine ev_iload_n rfl ?_
                              refine ev_ifne f267_6 (fun c79182 => absurd c79182 (by omega)) (fun c79182 => ?_)
                              refine ev_iconst ?_
                              refine ev_ret rfl (by decide) (by decide) ?_
                              show jEv _ _ _ _ _ _ _ (_, [(2, 42), (0, a1), (0, 0), (0, (a1 + 4)), (0, 1), (0, (100 * v79100 + 10 * v79123 + v79150 - 5328)), (0, 3)], [(0, (-1))], _, _, _)
                              refine ev_pop (by decide) ?_
                              refine ev_iload_n rfl ?_
                              exact ev_ret rfl (by decide) (by decide) ⟨⟨_, rfl, by omega, by omega, g, k0⟩, fun r hr h0 => by cases hr; exact (Ad.step (r' := (a1 + 4)) (Ad.step (r' := (a1 + 3)) (Ad.step (r' := (a1 + 2)) (Ad.step (r' := (a1 + 1)) (Ad.rf _ _ _) (by omega) k0 (fun _ => rfl) (ev79007) (by omega) (by omega) (by omega)) (by omega) k0 (fun _ => rfl) (ev79100) (by omega) (by omega) (by omega)) (by omega) k0 (fun _ => rfl) (ev79123) (by omega) (by omega) (by omega)) (by omega) k0 (fun _ => rfl) (ev79150) (by omega) (by omega) (by omega)), fun r hr => by cases hr; exact okF (show (if bR h a1 = 45 then enR (bR h) (a1 + 1) else enR (bR h) a1) = ((a1 + 4), 0, 0, 1) by rw [if_pos ((bR_at (p := a1) k0 (fun _ => rfl) ew0 (ev79007) (by omega) (by omega)).trans (by omega))]; unfold enR; rw [show nm3 (bR h) (a1 + 1) = (a1 + 4) by unfold nm3; rw [show (a1 + 1 + 1 : Int) = a1 + 2 by omega, show (a1 + 1 + 2 : Int) = a1 + 3 by omega, (bR_at (p := (a1 + 1)) k0 (fun _ => rfl) ew0 (ev79100) (by omega) (by omega)), (bR_at (p := (a1 + 2)) k0 (fun _ => rfl) ew0 (ev79123) (by omega) (by omega)), (bR_at (p := (a1 + 3)) k0 (fun _ => rfl) ew0 (ev79150) (by omega) (by omega))]; (repeat' split) <;> omega, if_neg (by omega)]) (by omega) (by omega)⟩
                            · refine ev_iconst ?_
                              refine ev_goto f242_15 ?_
                              refine ev_ret rfl (by decide) (by decide) ?_
                              show jEv _ _ _ _ _ _ _ (_, [(2, 42), (0, (a1 + 4))], [(0, 1)], _, _, _)
                              refine ev_ret rfl (by decide) (by decide) ?_
                              show jEv _ _ _ _ _ _ _ (_, [(2, 42), (0, a1), (0, 0), (0, (a1 + 4)), (0, 1), (0, (100 * v79100 + 10 * v79123 + v79150 - 5328)), (0, 3)], [(0, 1)], _, _, _)
                              refine ev_ifeq f269_100 (fun c79183 => absurd c79183 (by omega)) (fun c79183 => ?_)
                              refine ev_aload_n rfl ?_
                              refine ev_iload_n rfl ?_
                              refine ev_in (d := 1) (a := 0) (b := 0) (cd' := c266_0) (m := 2) (L0 := [(2, 42), (0, (a1 + 4))]) (jcall_v (A := [(0, (a1 + 4))]) (S' := []) (r := 42) rfl (g.lt ad42) (g.tg ad42) (Nat.le_of_ble_eq_true rfl)) (by decide) ml266 pp266 (Nat.le_of_ble_eq_true rfl) rfl (by decide) (by decide) ?_
                              refine ev_aload_n rfl ?_
                              refine ev_iload_n rfl ?_
                              refine g_putf (r := 42) g ad42 (by decide) ft12_20 (by decide) (fun e => absurd e nz12_20) rf42_20 (by decide) (by omega) (by omega) (fun h79184 e79184 g79184 => ?_)
                              have k79184 := k0.wr e79184 rfl
                              refine ev_iconst ?_
                              refine ev_ret rfl (by decide) (by decide) ?_
                              show jEv _ _ _ _ _ _ _ (_, [(2, 42), (0, a1), (0, 0), (0, (a1 + 4)), (0, 1), (0, (100 * v79100 + 10 * v79123 + v79150 - 5328)), (0, 3)], [(0, (-1))], _, _, _)
                              exact ev_ret rfl (by decide) (by decide) ⟨⟨_, rfl, by omega, by omega, g79184, k79184⟩, fun r hr h0 => by cases hr; exfalso; omega, fun r hr => by cases hr; exact (Bd.F (show Bd (bR h) (if bR h a1 = 45 then enR (bR h) (a1 + 1) else enR (bR h) a1) (a1 + 4) from ⟨by omega, Or.inr (by rw [(show (if bR h a1 = 45 then enR (bR h) (a1 + 1) else enR (bR h) a1) = ((a1 + 4), 0, 0, 1) by rw [if_pos ((bR_at (p := a1) k79184 (fun _ => rfl) ew0 (((jw_ne e79184 (Or.inl (by decide))).trans ev79007)) (by omega) (by omega)).trans (by omega))]; unfold enR; rw [show nm3 (bR h) (a1 + 1) = (a1 + 4) by unfold nm3; rw [show (a1 + 1 + 1 : Int) = a1 + 2 by omega, show (a1 + 1 + 2 : Int) = a1 + 3 by omega, (bR_at (p := (a1 + 1)) k79184 (fun _ => rfl) ew0 (((jw_ne e79184 (Or.inl (by decide))).trans ev79100)) (by omega) (by omega)), (bR_at (p := (a1 + 2)) k79184 (fun _ => rfl) ew0 (((jw_ne e79184 (Or.inl (by decide))).trans ev79123)) (by omega) (by omega)), (bR_at (p := (a1 + 3)) k79184 (fun _ => rfl) ew0 (((jw_ne e79184 (Or.inl (by decide))).trans ev79150)) (by omega) (by omega))]; (repeat' split) <;> omega, if_neg (by omega)])]; exact ⟨rfl, by rw [(bR_at (p := (a1 + 4)) k79184 (fun _ => rfl) ew0 (((jw_ne e79184 (Or.inl (by decide))).trans ev79174)) (by omega) (by omega))]; omega⟩)⟩) ((jw_eq e79184)))⟩
set_option maxHeartbeats 4000000 in
theorem t270f_s_l {G : GH} {h : JH} {l0 : Int} (ll0 : 0 ≤ l0) (ul0 : l0 ≤ 6) {a1 : Int} (la1 : 0 ≤ a1) (ua1 : a1 ≤ 202) {a2 : Int} (la2 : 0 ≤ a2) (ua2 : a2 ≤ 15) {a3 : Int} (la3 : 0 ≤ a3) (ua3 : a3 ≤ 12) {w0 : Int} (ew0 : h.2.2 42 17 = w0) (lw0 : 0 ≤ w0) (uw0 : w0 ≤ 200) {K : Int → Int × Int × Int} {q : Nat} (hI : Iv h) (hL : Lv h l0 a1) (hK : KoR h K) (hq : 13 - a3 = q) (hN : h.2.2 42 1 ≤ 4) (hq3 : h.2.2 54 (a1).toNat = 63) {M : Int} (hM : M = (7 * a3 - l0)) {d : Nat} (hd : 0 ≤ d) (rih : ∀ {G : GH} {h : JH} (g : Gd G h) {l0 : Int} (ll0 : 0 ≤ l0) (ul0 : l0 ≤ 6) {a1 : Int} (la1 : 0 ≤ a1) (ua1 : a1 ≤ 202) {a2 : Int} (la2 : 0 ≤ a2) (ua2 : a2 ≤ 15) {a3 : Int} (la3 : 0 ≤ a3) (ua3 : a3 ≤ 12) {w0 : Int} (ew0 : h.2.2 42 17 = w0) (lw0 : 0 ≤ w0) (uw0 : w0 ≤ 200) {K : Int → Int × Int × Int} {q : Nat} (hI : Iv h) (hL : Lv h l0 a1) (hK : KoR h K) (hq : 13 - a3 = q) (hN : h.2.2 42 1 ≤ 4) (hm : M + 1 ≤ (7 * a3 - l0)), jOk d 0 0 272 [(2, 42), (0, a1), (0, a2), (0, a3), (0, 0)] h (fun v h' => PI G [(42, 21)] h 0 (-1) 200 v h' ∧ (∀ r, v = some (0, r) → 0 ≤ r → Ad h l0 a1 r) ∧ (∀ r, v = some (0, r) → RdF (bR h) h' (RQ h K q a2 a3 a1) r))) : ∀ N : Nat, (∀ (h1 : JH) (x5 x7 : Int) (j8 j9 : AV), Gd G h1 → Kp [(42, 21)] h h1 → 0 ≤ a1 → a1 ≤ 198 → 0 ≤ a2 → a2 ≤ 15 → 0 ≤ a3 → a3 ≤ 11 → 1 ≤ x5 → x5 ≤ 200 → 0 ≤ x7 → x7 ≤ 3 → Ad h l0 a1 x5 → (∃ md, Cr (bR h) (RQ h K (q - 1) a2 (a3 + 1)) (if bR h (a1 + 1) ≠ 40 ∨ 12 ≤ a3 then rF (a1 + 1) else chL (bR h) (RQ h K (q - 1) a2 (a3 + 1)) 4 (a1 + 2) 0 0 1) x7 x5 0 md) → ((-x7) + 3) < N → jEv (jOk (d + 2)) none (fun _ => 0) c270_0 0 0 (fun v h' => PI G [(42, 21)] h 0 (-1) 200 v h' ∧ (∀ r, v = some (0, r) → 0 ≤ r → Ad h l0 a1 r) ∧ (∀ r, v = some (0, r) → RdF (bR h) h' (if bR h (a1 + 1) ≠ 40 ∨ 12 ≤ a3 then rF (a1 + 1) else chL (bR h) (RQ h K (q - 1) a2 (a3 + 1)) 4 (a1 + 2) 0 0 1) r)) (c270_45, [(2, 42), (0, a1), (0, a2), (0, a3), (0, 0), (0, x5), (0, (-1)), (0, x7), j8, j9], [], h1, 0, 0)) := by
  intro N
  induction N with
  | zero => exact fun h1 x5 x7 j8 j9 g1 k1 b0 b1 b2 b3 b4 b5 b6 b7 b8 b9 b10 b11 hm => absurd hm (by omega)
  | succ N ih =>
    show _
    intro h1 x5 x7 j8 j9 g1 k1 b0 b1 b2 b3 b4 b5 b6 b7 b8 b9 H0 H1 hm
    refine ev_iconst ?_
    refine ev_istore (L' := [(2, 42), (0, a1), (0, a2), (0, a3), (0, 0), (0, x5), (0, (-1)), (0, x7), (0, 0), j9]) (Nat.le_of_ble_eq_true rfl) rfl ?_
    refine ev_iconst ?_
    refine ev_istore (L' := [(2, 42), (0, a1), (0, a2), (0, a3), (0, 0), (0, x5), (0, (-1)), (0, x7), (0, 0), (0, 0)]) (Nat.le_of_ble_eq_true rfl) rfl ?_
    refine ev_iload rfl ?_
    refine ev_iconst ?_
    refine ev_icmpge f270_92 (fun c79607 => absurd c79607 (by omega)) (fun c79607 => ?_)
    refine ev_aload_n rfl ?_
    refine ev_iload rfl ?_
    refine ev_in (d := (d + 1)) (a := 0) (b := 0) (cd' := c265_0) (m := 2) (L0 := [(2, 42), (0, x5)]) (jcall_v (A := [(0, x5)]) (S' := []) (r := 42) rfl (g1.lt ad42) (g1.tg ad42) (Nat.le_of_ble_eq_true rfl)) (by decide) ml265 pp265 (Nat.le_of_ble_eq_true rfl) rfl (by decide) (by decide) ?_
    refine ev_aload_n rfl ?_
    refine ev_iload_n rfl ?_
    refine ev_in (d := (d + 0)) (a := 0) (b := 0) (cd' := c264_0) (m := 2) (L0 := [(2, 42), (0, x5)]) (jcall_v (A := [(0, x5)]) (S' := []) (r := 42) rfl (g1.lt ad42) (g1.tg ad42) (Nat.le_of_ble_eq_true rfl)) (by decide) ml264 pp264 (Nat.le_of_ble_eq_true rfl) rfl (by decide) (by decide) ?_
    refine ev_iload_n rfl ?_
    refine ev_aload_n rfl ?_
    refine g_getv (r := 42) (v := w0) g1 ad42 (by decide) ft12_17 (((k1.v (by decide)).trans ew0)) ?_
    refine ev_icmpge f264_17 (fun c79608 => ?_) (fun c79608 => ?_)
    · refine ev_iconst ?_
      refine ev_ret rfl (by decide) (by decide) ?_
      show jEv _ _ _ _ _ _ _ (_, [(2, 42), (0, x5)], [(0, (-1))], _, _, _)
      refine ev_bipush ?_
      refine ev_bipush ?_
      refine ev_in (d := (d + 0)) (a := 0) (b := 0) (cd' := c242_0) (m := 3) (L0 := [(0, (-1)), (0, 48), (0, 57)]) (jcall_s (A := [(0, 57), (0, 48), (0, (-1))]) (S' := []) (by decide) rfl (Nat.le_of_ble_eq_true rfl)) (by decide) ml242 pp242 (Nat.le_of_ble_eq_true rfl) rfl (by decide) (by decide) ?_
      refine ev_iload_n rfl ?_
      refine ev_iload_n rfl ?_
      refine ev_icmplt f242_14 (fun c79609 => ?_) (fun c79609 => absurd c79609 (by omega))
      refine ev_iconst ?_
      refine ev_ret rfl (by decide) (by decide) ?_
      show jEv _ _ _ _ _ _ _ (_, [(2, 42), (0, x5)], [(0, 0)], _, _, _)
      refine ev_ret rfl (by decide) (by decide) ?_
      show jEv _ _ _ _ _ _ _ (_, [(2, 42), (0, a1), (0, a2), (0, a3), (0, 0), (0, x5), (0, (-1)), (0, x7), (0, 0), (0, 0)], [(0, 0)], _, _, _)
      refine ev_ifeq f270_92 (fun c79610 => ?_) (fun c79610 => absurd c79610 (by omega))
      refine ev_iload rfl ?_
      refine ev_ifeq f270_108 (fun c79611 => ?_) (fun c79611 => absurd c79611 (by omega))
      refine ev_aload_n rfl ?_
      refine ev_iload rfl ?_
      refine ev_in (d := (d + 1)) (a := 0) (b := 0) (cd' := c266_0) (m := 2) (L0 := [(2, 42), (0, x5)]) (jcall_v (A := [(0, x5)]) (S' := []) (r := 42) rfl (g1.lt ad42) (g1.tg ad42) (Nat.le_of_ble_eq_true rfl)) (by decide) ml266 pp266 (Nat.le_of_ble_eq_true rfl) rfl (by decide) (by decide) ?_
      refine ev_aload_n rfl ?_
      refine ev_iload_n rfl ?_
      refine g_putf (r := 42) g1 ad42 (by decide) ft12_20 (by decide) (fun e => absurd e nz12_20) rf42_20 (by decide) (by omega) (by omega) (fun h79612 e79612 g79612 => ?_)
      have k79612 := k1.wr e79612 rfl
      refine ev_iconst ?_
      refine ev_ret rfl (by decide) (by decide) ?_
      show jEv _ _ _ _ _ _ _ (_, [(2, 42), (0, a1), (0, a2), (0, a3), (0, 0), (0, x5), (0, (-1)), (0, x7), (0, 0), (0, 0)], [(0, (-1))], _, _, _)
      exact ev_ret rfl (by decide) (by decide) ⟨⟨_, rfl, by omega, by omega, g79612, k79612⟩, fun r hr h0 => by cases hr; exfalso; omega, fun r hr => by cases hr; exact (Bd.F (Exists.elim H1 (fun _ z => (cr_n z (by omega) (by omega) (by have z : nm2 (bR h) x5 = -1 - x5 := (by unfold nm2; rw [(bR_end (p := x5) ew0 (by omega))]; (repeat' split) <;> omega); omega) (by omega)))) ((jw_eq e79612)))⟩
    · refine ev_aload_n rfl ?_
      refine g_getp (r := 42) (c := 54) g1 ad42 (by decide) (by decide) rf42_16 ft12_16 ?_
      refine ev_iload_n rfl ?_
      refine g_bald g1 ad54 rt54 (by omega) (by omega) (fun v79613 ev79613 lv79613 uv79613 => ?_)
      refine ev_goto f264_18 ?_
      refine ev_ret rfl (by decide) (by decide) ?_
      show jEv _ _ _ _ _ _ _ (_, [(2, 42), (0, x5)], [(0, v79613)], _, _, _)
      refine ev_bipush ?_
      refine ev_bipush ?_
      refine ev_in (d := (d + 0)) (a := 0) (b := 0) (cd' := c242_0) (m := 3) (L0 := [(0, v79613), (0, 48), (0, 57)]) (jcall_s (A := [(0, 57), (0, 48), (0, v79613)]) (S' := []) (by decide) rfl (Nat.le_of_ble_eq_true rfl)) (by decide) ml242 pp242 (Nat.le_of_ble_eq_true rfl) rfl (by decide) (by decide) ?_
      refine ev_iload_n rfl ?_
      refine ev_iload_n rfl ?_
      refine ev_icmplt f242_14 (fun c79614 => ?_) (fun c79614 => ?_)
      · refine ev_iconst ?_
        refine ev_ret rfl (by decide) (by decide) ?_
        show jEv _ _ _ _ _ _ _ (_, [(2, 42), (0, x5)], [(0, 0)], _, _, _)
        refine ev_ret rfl (by decide) (by decide) ?_
        show jEv _ _ _ _ _ _ _ (_, [(2, 42), (0, a1), (0, a2), (0, a3), (0, 0), (0, x5), (0, (-1)), (0, x7), (0, 0), (0, 0)], [(0, 0)], _, _, _)
        refine ev_ifeq f270_92 (fun c79615 => ?_) (fun c79615 => absurd c79615 (by omega))
        refine ev_iload rfl ?_
        refine ev_ifeq f270_108 (fun c79616 => ?_) (fun c79616 => absurd c79616 (by omega))
        refine ev_aload_n rfl ?_
        refine ev_iload rfl ?_
        refine ev_in (d := (d + 1)) (a := 0) (b := 0) (cd' := c266_0) (m := 2) (L0 := [(2, 42), (0, x5)]) (jcall_v (A := [(0, x5)]) (S' := []) (r := 42) rfl (g1.lt ad42) (g1.tg ad42) (Nat.le_of_ble_eq_true rfl)) (by decide) ml266 pp266 (Nat.le_of_ble_eq_true rfl) rfl (by decide) (by decide) ?_
        refine ev_aload_n rfl ?_
        refine ev_iload_n rfl ?_
        refine g_putf (r := 42) g1 ad42 (by decide) ft12_20 (by decide) (fun e => absurd e nz12_20) rf42_20 (by decide) (by omega) (by omega) (fun h79617 e79617 g79617 => ?_)
        have k79617 := k1.wr e79617 rfl
        refine ev_iconst ?_
        refine ev_ret rfl (by decide) (by decide) ?_
        show jEv _ _ _ _ _ _ _ (_, [(2, 42), (0, a1), (0, a2), (0, a3), (0, 0), (0, x5), (0, (-1)), (0, x7), (0, 0), (0, 0)], [(0, (-1))], _, _, _)
        exact ev_ret rfl (by decide) (by decide) ⟨⟨_, rfl, by omega, by omega, g79617, k79617⟩, fun r hr h0 => by cases hr; exfalso; omega, fun r hr => by cases hr; exact (Bd.F (Exists.elim H1 (fun _ z => (cr_n z (by omega) (by omega) (by have z : nm2 (bR h) x5 = -1 - x5 := (by unfold nm2; rw [(bR_at (p := x5) k79617 (fun _ => rfl) ew0 (((jw_ne e79617 (Or.inl (by decide))).trans ev79613)) (by omega) (by omega))]; (repeat' split) <;> omega); omega) (by omega)))) ((jw_eq e79617)))⟩
      · refine ev_iload_n rfl ?_
        refine ev_iload_n rfl ?_
        refine ev_icmpgt f242_14 (fun c79618 => ?_) (fun c79618 => ?_)
        · refine ev_iconst ?_
          refine ev_ret rfl (by decide) (by decide) ?_
          show jEv _ _ _ _ _ _ _ (_, [(2, 42), (0, x5)], [(0, 0)], _, _, _)
          refine ev_ret rfl (by decide) (by decide) ?_
          show jEv _ _ _ _ _ _ _ (_, [(2, 42), (0, a1), (0, a2), (0, a3), (0, 0), (0, x5), (0, (-1)), (0, x7), (0, 0), (0, 0)], [(0, 0)], _, _, _)
          refine ev_ifeq f270_92 (fun c79619 => ?_) (fun c79619 => absurd c79619 (by omega))
          refine ev_iload rfl ?_
          refine ev_ifeq f270_108 (fun c79620 => ?_) (fun c79620 => absurd c79620 (by omega))
          refine ev_aload_n rfl ?_
          refine ev_iload rfl ?_
          refine ev_in (d := (d + 1)) (a := 0) (b := 0) (cd' := c266_0) (m := 2) (L0 := [(2, 42), (0, x5)]) (jcall_v (A := [(0, x5)]) (S' := []) (r := 42) rfl (g1.lt ad42) (g1.tg ad42) (Nat.le_of_ble_eq_true rfl)) (by decide) ml266 pp266 (Nat.le_of_ble_eq_true rfl) rfl (by decide) (by decide) ?_
          refine ev_aload_n rfl ?_
          refine ev_iload_n rfl ?_
          refine g_putf (r := 42) g1 ad42 (by decide) ft12_20 (by decide) (fun e => absurd e nz12_20) rf42_20 (by decide) (by omega) (by omega) (fun h79621 e79621 g79621 => ?_)
          have k79621 := k1.wr e79621 rfl
          refine ev_iconst ?_
          refine ev_ret rfl (by decide) (by decide) ?_
          show jEv _ _ _ _ _ _ _ (_, [(2, 42), (0, a1), (0, a2), (0, a3), (0, 0), (0, x5), (0, (-1)), (0, x7), (0, 0), (0, 0)], [(0, (-1))], _, _, _)
          exact ev_ret rfl (by decide) (by decide) ⟨⟨_, rfl, by omega, by omega, g79621, k79621⟩, fun r hr h0 => by cases hr; exfalso; omega, fun r hr => by cases hr; exact (Bd.F (Exists.elim H1 (fun _ z => (cr_n z (by omega) (by omega) (by have z : nm2 (bR h) x5 = -1 - x5 := (by unfold nm2; rw [(bR_at (p := x5) k79621 (fun _ => rfl) ew0 (((jw_ne e79621 (Or.inl (by decide))).trans ev79613)) (by omega) (by omega))]; (repeat' split) <;> omega); omega) (by omega)))) ((jw_eq e79621)))⟩
        · refine ev_iconst ?_
          refine ev_goto f242_15 ?_
          refine ev_ret rfl (by decide) (by decide) ?_
          show jEv _ _ _ _ _ _ _ (_, [(2, 42), (0, x5)], [(0, 1)], _, _, _)
          refine ev_ret rfl (by decide) (by decide) ?_
          show jEv _ _ _ _ _ _ _ (_, [(2, 42), (0, a1), (0, a2), (0, a3), (0, 0), (0, x5), (0, (-1)), (0, x7), (0, 0), (0, 0)], [(0, 1)], _, _, _)
          refine ev_ifeq f270_92 (fun c79622 => absurd c79622 (by omega)) (fun c79622 => ?_)
          refine ev_bipush ?_
          refine ev_iload rfl ?_
          refine ev_imul (r := 0) (by decide) ?_
          refine ev_aload_n rfl ?_
          refine ev_iload rfl ?_
          refine ev_in (d := (d + 1)) (a := 0) (b := 0) (cd' := c264_0) (m := 2) (L0 := [(2, 42), (0, x5)]) (jcall_v (A := [(0, x5)]) (S' := [(0, 0)]) (r := 42) rfl (g1.lt ad42) (g1.tg ad42) (Nat.le_of_ble_eq_true rfl)) (by decide) ml264 pp264 (Nat.le_of_ble_eq_true rfl) rfl (by decide) (by decide) ?_
          refine ev_iload_n rfl ?_
          refine ev_aload_n rfl ?_
          refine g_getv (r := 42) (v := w0) g1 ad42 (by decide) ft12_17 (((k1.v (by decide)).trans ew0)) ?_
          refine ev_icmpge f264_17 (fun c79623 => absurd c79623 (by omega)) (fun c79623 => ?_)
          refine ev_aload_n rfl ?_
          refine g_getp (r := 42) (c := 54) g1 ad42 (by decide) (by decide) rf42_16 ft12_16 ?_
          refine ev_iload_n rfl ?_
          refine g_baldv (v := v79613) g1 ad54 (by omega) (by omega) (ev79613) ?_
          refine ev_goto f264_18 ?_
          refine ev_ret rfl (by decide) (by decide) ?_
          show jEv _ _ _ _ _ _ _ (_, [(2, 42), (0, a1), (0, a2), (0, a3), (0, 0), (0, x5), (0, (-1)), (0, x7), (0, 0), (0, 0)], [(0, v79613), (0, 0)], _, _, _)
          refine ev_iadd (r := v79613) (by unfold w32; omega) ?_
          refine ev_bipush ?_
          refine ev_isub (r := (v79613 - 48)) (by unfold w32; omega) ?_
          refine ev_istore (L' := [(2, 42), (0, a1), (0, a2), (0, a3), (0, 0), (0, x5), (0, (-1)), (0, x7), (0, (v79613 - 48)), (0, 0)]) (Nat.le_of_ble_eq_true rfl) rfl ?_
          refine ev_iinc (w := 1) (L' := [(2, 42), (0, a1), (0, a2), (0, a3), (0, 0), (0, x5), (0, (-1)), (0, x7), (0, (v79613 - 48)), (0, 1)]) rfl (by decide) rfl ?_
          refine ev_iinc (w := (x5 + 1)) (L' := [(2, 42), (0, a1), (0, a2), (0, a3), (0, 0), (0, (x5 + 1)), (0, (-1)), (0, x7), (0, (v79613 - 48)), (0, 1)]) rfl (by unfold w32; omega) rfl ?_
          refine ev_goto f270_51 ?_
          refine ev_iload rfl ?_
          refine ev_iconst ?_
          refine ev_icmpge f270_92 (fun c79624 => absurd c79624 (by omega)) (fun c79624 => ?_)
          refine ev_aload_n rfl ?_
          refine ev_iload rfl ?_
          refine ev_in (d := (d + 1)) (a := 0) (b := 0) (cd' := c265_0) (m := 2) (L0 := [(2, 42), (0, (x5 + 1))]) (jcall_v (A := [(0, (x5 + 1))]) (S' := []) (r := 42) rfl (g1.lt ad42) (g1.tg ad42) (Nat.le_of_ble_eq_true rfl)) (by decide) ml265 pp265 (Nat.le_of_ble_eq_true rfl) rfl (by decide) (by decide) ?_
          refine ev_aload_n rfl ?_
          refine ev_iload_n rfl ?_
          refine ev_in (d := (d + 0)) (a := 0) (b := 0) (cd' := c264_0) (m := 2) (L0 := [(2, 42), (0, (x5 + 1))]) (jcall_v (A := [(0, (x5 + 1))]) (S' := []) (r := 42) rfl (g1.lt ad42) (g1.tg ad42) (Nat.le_of_ble_eq_true rfl)) (by decide) ml264 pp264 (Nat.le_of_ble_eq_true rfl) rfl (by decide) (by decide) ?_
          refine ev_iload_n rfl ?_
          refine ev_aload_n rfl ?_
          refine g_getv (r := 42) (v := w0) g1 ad42 (by decide) ft12_17 (((k1.v (by decide)).trans ew0)) ?_
          refine ev_icmpge f264_17 (fun c79625 => ?_) (fun c79625 => ?_)
          · refine ev_iconst ?_
            refine ev_ret rfl (by decide) (by decide) ?_
            show jEv _ _ _ _ _ _ _ (_, [(2, 42), (0, (x5 + 1))], [(0, (-1))], _, _, _)
            refine ev_bipush ?_
            refine ev_bipush ?_
            refine ev_in (d := (d + 0)) (a := 0) (b := 0) (cd' := c242_0) (m := 3) (L0 := [(0, (-1)), (0, 48), (0, 57)]) (jcall_s (A := [(0, 57), (0, 48), (0, (-1))]) (S' := []) (by decide) rfl (Nat.le_of_ble_eq_true rfl)) (by decide) ml242 pp242 (Nat.le_of_ble_eq_true rfl) rfl (by decide) (by decide) ?_
            refine ev_iload_n rfl ?_
            refine ev_iload_n rfl ?_
            refine ev_icmplt f242_14 (fun c79626 => ?_) (fun c79626 => absurd c79626 (by omega))
            refine ev_iconst ?_
            refine ev_ret rfl (by decide) (by decide) ?_
            show jEv _ _ _ _ _ _ _ (_, [(2, 42), (0, (x5 + 1))], [(0, 0)], _, _, _)
            refine ev_ret rfl (by decide) (by decide) ?_
            show jEv _ _ _ _ _ _ _ (_, [(2, 42), (0, a1), (0, a2), (0, a3), (0, 0), (0, (x5 + 1)), (0, (-1)), (0, x7), (0, (v79613 - 48)), (0, 1)], [(0, 0)], _, _, _)
            refine ev_ifeq f270_92 (fun c79627 => ?_) (fun c79627 => absurd c79627 (by omega))
            refine ev_iload rfl ?_
            refine ev_ifeq f270_108 (fun c79628 => absurd c79628 (by omega)) (fun c79628 => ?_)
            refine ev_aload_n rfl ?_
            refine ev_iload rfl ?_
            refine ev_in (d := (d + 1)) (a := 0) (b := 0) (cd' := c264_0) (m := 2) (L0 := [(2, 42), (0, (x5 + 1))]) (jcall_v (A := [(0, (x5 + 1))]) (S' := []) (r := 42) rfl (g1.lt ad42) (g1.tg ad42) (Nat.le_of_ble_eq_true rfl)) (by decide) ml264 pp264 (Nat.le_of_ble_eq_true rfl) rfl (by decide) (by decide) ?_
            refine ev_iload_n rfl ?_
            refine ev_aload_n rfl ?_
            refine g_getv (r := 42) (v := w0) g1 ad42 (by decide) ft12_17 (((k1.v (by decide)).trans ew0)) ?_
            refine ev_icmpge f264_17 (fun c79629 => ?_) (fun c79629 => absurd c79629 (by omega))
            refine ev_iconst ?_
            refine ev_ret rfl (by decide) (by decide) ?_
            show jEv _ _ _ _ _ _ _ (_, [(2, 42), (0, a1), (0, a2), (0, a3), (0, 0), (0, (x5 + 1)), (0, (-1)), (0, x7), (0, (v79613 - 48)), (0, 1)], [(0, (-1))], _, _, _)
            refine ev_bipush ?_
            refine ev_icmpeq f270_115 (fun c79630 => absurd c79630 (by omega)) (fun c79630 => ?_)
            refine ev_aload_n rfl ?_
            refine ev_iload rfl ?_
            refine ev_in (d := (d + 1)) (a := 0) (b := 0) (cd' := c266_0) (m := 2) (L0 := [(2, 42), (0, (x5 + 1))]) (jcall_v (A := [(0, (x5 + 1))]) (S' := []) (r := 42) rfl (g1.lt ad42) (g1.tg ad42) (Nat.le_of_ble_eq_true rfl)) (by decide) ml266 pp266 (Nat.le_of_ble_eq_true rfl) rfl (by decide) (by decide) ?_
            refine ev_aload_n rfl ?_
            refine ev_iload_n rfl ?_
            refine g_putf (r := 42) g1 ad42 (by decide) ft12_20 (by decide) (fun e => absurd e nz12_20) rf42_20 (by decide) (by omega) (by omega) (fun h79631 e79631 g79631 => ?_)
            have k79631 := k1.wr e79631 rfl
            refine ev_iconst ?_
            refine ev_ret rfl (by decide) (by decide) ?_
            show jEv _ _ _ _ _ _ _ (_, [(2, 42), (0, a1), (0, a2), (0, a3), (0, 0), (0, (x5 + 1)), (0, (-1)), (0, x7), (0, (v79613 - 48)), (0, 1)], [(0, (-1))], _, _, _)
            exact ev_ret rfl (by decide) (by decide) ⟨⟨_, rfl, by omega, by omega, g79631, k79631⟩, fun r hr h0 => by cases hr; exfalso; omega, fun r hr => by cases hr; exact (Bd.F (Exists.elim H1 (fun _ z => (cr_c (q := (x5 + 1)) z (by omega) (by unfold nm2; rw [(bR_at (p := x5) k79631 (fun _ => rfl) ew0 (((jw_ne e79631 (Or.inl (by decide))).trans ev79613)) (by omega) (by omega)), (bR_end (p := (x5 + 1)) ew0 (by omega))]; (repeat' split) <;> omega) (by omega) (fun z => absurd ((bR_end (p := (x5 + 1)) ew0 (by omega)).symm.trans z) (by omega)) (by omega)))) ((jw_eq e79631)))⟩
          · refine ev_aload_n rfl ?_
            refine g_getp (r := 42) (c := 54) g1 ad42 (by decide) (by decide) rf42_16 ft12_16 ?_
            refine ev_iload_n rfl ?_
            refine g_bald g1 ad54 rt54 (by omega) (by omega) (fun v79632 ev79632 lv79632 uv79632 => ?_)
            refine ev_goto f264_18 ?_
            refine ev_ret rfl (by decide) (by decide) ?_
            show jEv _ _ _ _ _ _ _ (_, [(2, 42), (0, (x5 + 1))], [(0, v79632)], _, _, _)
            refine ev_bipush ?_
            refine ev_bipush ?_
            refine ev_in (d := (d + 0)) (a := 0) (b := 0) (cd' := c242_0) (m := 3) (L0 := [(0, v79632), (0, 48), (0, 57)]) (jcall_s (A := [(0, 57), (0, 48), (0, v79632)]) (S' := []) (by decide) rfl (Nat.le_of_ble_eq_true rfl)) (by decide) ml242 pp242 (Nat.le_of_ble_eq_true rfl) rfl (by decide) (by decide) ?_
            refine ev_iload_n rfl ?_
            refine ev_iload_n rfl ?_
            refine ev_icmplt f242_14 (fun c79633 => ?_) (fun c79633 => ?_)
            · refine ev_iconst ?_
              refine ev_ret rfl (by decide) (by decide) ?_
              show jEv _ _ _ _ _ _ _ (_, [(2, 42), (0, (x5 + 1))], [(0, 0)], _, _, _)
              refine ev_ret rfl (by decide) (by decide) ?_
              show jEv _ _ _ _ _ _ _ (_, [(2, 42), (0, a1), (0, a2), (0, a3), (0, 0), (0, (x5 + 1)), (0, (-1)), (0, x7), (0, (v79613 - 48)), (0, 1)], [(0, 0)], _, _, _)
              refine ev_ifeq f270_92 (fun c79634 => ?_) (fun c79634 => absurd c79634 (by omega))
              refine ev_iload rfl ?_
              refine ev_ifeq f270_108 (fun c79635 => absurd c79635 (by omega)) (fun c79635 => ?_)
              refine ev_aload_n rfl ?_
              refine ev_iload rfl ?_
              refine ev_in (d := (d + 1)) (a := 0) (b := 0) (cd' := c264_0) (m := 2) (L0 := [(2, 42), (0, (x5 + 1))]) (jcall_v (A := [(0, (x5 + 1))]) (S' := []) (r := 42) rfl (g1.lt ad42) (g1.tg ad42) (Nat.le_of_ble_eq_true rfl)) (by decide) ml264 pp264 (Nat.le_of_ble_eq_true rfl) rfl (by decide) (by decide) ?_
              refine ev_iload_n rfl ?_
              refine ev_aload_n rfl ?_
              refine g_getv (r := 42) (v := w0) g1 ad42 (by decide) ft12_17 (((k1.v (by decide)).trans ew0)) ?_
              refine ev_icmpge f264_17 (fun c79636 => absurd c79636 (by omega)) (fun c79636 => ?_)
              refine ev_aload_n rfl ?_
              refine g_getp (r := 42) (c := 54) g1 ad42 (by decide) (by decide) rf42_16 ft12_16 ?_
              refine ev_iload_n rfl ?_
              refine g_baldv (v := v79632) g1 ad54 (by omega) (by omega) (ev79632) ?_
              refine ev_goto f264_18 ?_
              refine ev_ret rfl (by decide) (by decide) ?_
              show jEv _ _ _ _ _ _ _ (_, [(2, 42), (0, a1), (0, a2), (0, a3), (0, 0), (0, (x5 + 1)), (0, (-1)), (0, x7), (0, (v79613 - 48)), (0, 1)], [(0, v79632)], _, _, _)
              refine ev_bipush ?_
              refine ev_icmpeq f270_115 (fun c79637 => absurd c79637 (by omega)) (fun c79637 => ?_)
              refine ev_aload_n rfl ?_
              refine ev_iload rfl ?_
              refine ev_in (d := (d + 1)) (a := 0) (b := 0) (cd' := c266_0) (m := 2) (L0 := [(2, 42), (0, (x5 + 1))]) (jcall_v (A := [(0, (x5 + 1))]) (S' := []) (r := 42) rfl (g1.lt ad42) (g1.tg ad42) (Nat.le_of_ble_eq_true rfl)) (by decide) ml266 pp266 (Nat.le_of_ble_eq_true rfl) rfl (by decide) (by decide) ?_
              refine ev_aload_n rfl ?_
              refine ev_iload_n rfl ?_
              refine g_putf (r := 42) g1 ad42 (by decide) ft12_20 (by decide) (fun e => absurd e nz12_20) rf42_20 (by decide) (by omega) (by omega) (fun h79638 e79638 g79638 => ?_)
              have k79638 := k1.wr e79638 rfl
              refine ev_iconst ?_
              refine ev_ret rfl (by decide) (by decide) ?_
              show jEv _ _ _ _ _ _ _ (_, [(2, 42), (0, a1), (0, a2), (0, a3), (0, 0), (0, (x5 + 1)), (0, (-1)), (0, x7), (0, (v79613 - 48)), (0, 1)], [(0, (-1))], _, _, _)
              exact ev_ret rfl (by decide) (by decide) ⟨⟨_, rfl, by omega, by omega, g79638, k79638⟩, fun r hr h0 => by cases hr; exfalso; omega, fun r hr => by cases hr; exact (Bd.F (Exists.elim H1 (fun _ z => (cr_c (q := (x5 + 1)) z (by omega) (by unfold nm2; rw [(bR_at (p := x5) k79638 (fun _ => rfl) ew0 (((jw_ne e79638 (Or.inl (by decide))).trans ev79613)) (by omega) (by omega)), (bR_at (p := (x5 + 1)) k79638 (fun _ => rfl) ew0 (((jw_ne e79638 (Or.inl (by decide))).trans ev79632)) (by omega) (by omega))]; (repeat' split) <;> omega) (by omega) (fun z => absurd ((bR_at (p := (x5 + 1)) k79638 (fun _ => rfl) ew0 (((jw_ne e79638 (Or.inl (by decide))).trans ev79632)) (by omega) (by omega)).symm.trans z) (by omega)) (by omega)))) ((jw_eq e79638)))⟩
            · refine ev_iload_n rfl ?_
              refine ev_iload_n rfl ?_
              refine ev_icmpgt f242_14 (fun c79639 => ?_) (fun c79639 => ?_)
              · refine ev_iconst ?_
                refine ev_ret rfl (by decide) (by decide) ?_
                show jEv _ _ _ _ _ _ _ (_, [(2, 42), (0, (x5 + 1))], [(0, 0)], _, _, _)
                refine ev_ret rfl (by decide) (by decide) ?_
                show jEv _ _ _ _ _ _ _ (_, [(2, 42), (0, a1), (0, a2), (0, a3), (0, 0), (0, (x5 + 1)), (0, (-1)), (0, x7), (0, (v79613 - 48)), (0, 1)], [(0, 0)], _, _, _)
                refine ev_ifeq f270_92 (fun c79640 => ?_) (fun c79640 => absurd c79640 (by omega))
                refine ev_iload rfl ?_
                refine ev_ifeq f270_108 (fun c79641 => absurd c79641 (by omega)) (fun c79641 => ?_)
                refine ev_aload_n rfl ?_
                refine ev_iload rfl ?_
                refine ev_in (d := (d + 1)) (a := 0) (b := 0) (cd' := c264_0) (m := 2) (L0 := [(2, 42), (0, (x5 + 1))]) (jcall_v (A := [(0, (x5 + 1))]) (S' := []) (r := 42) rfl (g1.lt ad42) (g1.tg ad42) (Nat.le_of_ble_eq_true rfl)) (by decide) ml264 pp264 (Nat.le_of_ble_eq_true rfl) rfl (by decide) (by decide) ?_
                refine ev_iload_n rfl ?_
                refine ev_aload_n rfl ?_
                refine g_getv (r := 42) (v := w0) g1 ad42 (by decide) ft12_17 (((k1.v (by decide)).trans ew0)) ?_
                refine ev_icmpge f264_17 (fun c79642 => absurd c79642 (by omega)) (fun c79642 => ?_)
                refine ev_aload_n rfl ?_
                refine g_getp (r := 42) (c := 54) g1 ad42 (by decide) (by decide) rf42_16 ft12_16 ?_
                refine ev_iload_n rfl ?_
                refine g_baldv (v := v79632) g1 ad54 (by omega) (by omega) (ev79632) ?_
                refine ev_goto f264_18 ?_
                refine ev_ret rfl (by decide) (by decide) ?_
                show jEv _ _ _ _ _ _ _ (_, [(2, 42), (0, a1), (0, a2), (0, a3), (0, 0), (0, (x5 + 1)), (0, (-1)), (0, x7), (0, (v79613 - 48)), (0, 1)], [(0, v79632)], _, _, _)
                refine ev_bipush ?_
                refine ev_icmpeq f270_115 (fun c79643 => ?_) (fun c79643 => ?_)
                · refine ev_aload_n rfl ?_
                  refine ev_iload rfl ?_
                  refine ev_iload rfl ?_
                  refine ev_iload rfl ?_
                  refine ev_in (d := (d + 1)) (a := 0) (b := 0) (cd' := c268_0) (m := 4) (L0 := [(2, 42), (0, (-1)), (0, x7), (0, (v79613 - 48))]) (jcall_v (A := [(0, (v79613 - 48)), (0, x7), (0, (-1))]) (S' := []) (r := 42) rfl (g1.lt ad42) (g1.tg ad42) (Nat.le_of_ble_eq_true rfl)) (by decide) ml268 pp268 (Nat.le_of_ble_eq_true rfl) rfl (by decide) (by decide) ?_
                  refine ev_iload_n rfl ?_
                  refine ev_ifge f268_5 (fun c79644 => absurd c79644 (by omega)) (fun c79644 => ?_)
                  refine ev_ret rfl (by decide) (by decide) ?_
                  show jEv _ _ _ _ _ _ _ (_, [(2, 42), (0, a1), (0, a2), (0, a3), (0, 0), (0, (x5 + 1)), (0, (-1)), (0, x7), (0, (v79613 - 48)), (0, 1)], [], _, _, _)
                  refine ev_aload_n rfl ?_
                  refine ev_iload rfl ?_
                  refine ev_iconst ?_
                  refine ev_iadd (r := (x5 + 2)) (by unfold w32; omega) ?_
                  refine ev_iload_n rfl ?_
                  refine ev_iload_n rfl ?_
                  refine ev_iconst ?_
                  refine ev_iadd (r := (a3 + 1)) (by unfold w32; omega) ?_
                  refine ev_iload rfl ?_
                  refine ev_call (jcall_v (A := [(0, 0), (0, (a3 + 1)), (0, a2), (0, (x5 + 2))]) (S' := []) (r := 42) rfl (g1.lt ad42) (g1.tg ad42) (Nat.le_of_ble_eq_true rfl)) (jOk_le (by omega) (rih g1 (by omega) (by omega) (by omega) (by omega) (by omega) (by omega) (by omega) (by omega) (((k1.v (by decide)).trans ew0)) (by omega) (by omega) (l0 := l0) (Iv.kp hI k1 (fun _ => rfl) (fun _ => rfl) rfl) (Lv.at hL (Ad.step (r' := (x5 + 2)) (Ad.step (r' := (x5 + 1)) H0 (by omega) k1 (fun _ => rfl) (ev79613) (by omega) (by omega) (by omega)) (by omega) k1 (fun _ => rfl) (ev79632) (by omega) (by omega) (by omega)) k1 (fun _ => rfl) rfl) (K := K) (q := q - 1) (hK.kp k1 (fun _ => rfl) rfl (fun _ => rfl) rfl rfl (fun _ => rfl)) (by omega) (by rw [k1.v rfl]; exact hN) (by omega))) (by decide) (by decide) (fun w79645 h79645 q79645 => ?_)
                  obtain ⟨q79645, ad79645, nr79645⟩ := q79645
                  obtain ⟨v79646, rfl, lv79646, uv79646, g79645, kk79645⟩ := q79645
                  have ad79645 := ad79645 _ rfl
                  have nr79645 := nr79645 _ rfl
                  have k79645 := k1.tr kk79645 (by decide)
                  rw [RQ_kp k1 (fun _ => rfl) rfl (fun _ => rfl) rfl rfl, bR_kp k1 (fun _ => rfl) rfl] at nr79645
                  show jEv _ _ _ _ _ _ _ (_, [(2, 42), (0, a1), (0, a2), (0, a3), (0, 0), (0, (x5 + 1)), (0, (-1)), (0, x7), (0, (v79613 - 48)), (0, 1)], [(0, v79646)], _, _, _)
                  refine ev_istore (L' := [(2, 42), (0, a1), (0, a2), (0, a3), (0, 0), (0, v79646), (0, (-1)), (0, x7), (0, (v79613 - 48)), (0, 1)]) (Nat.le_of_ble_eq_true rfl) rfl ?_
                  refine ev_iload rfl ?_
                  refine ev_ifge f270_148 (fun c79647 => ?_) (fun c79647 => ?_)
                  · refine ev_iinc (w := (x7 + 1)) (L' := [(2, 42), (0, a1), (0, a2), (0, a3), (0, 0), (0, v79646), (0, (-1)), (0, (x7 + 1)), (0, (v79613 - 48)), (0, 1)]) rfl (by unfold w32; omega) rfl ?_
                    refine ev_aload_n rfl ?_
                    refine ev_iload rfl ?_
                    refine ev_in (d := (d + 1)) (a := 0) (b := 0) (cd' := c264_0) (m := 2) (L0 := [(2, 42), (0, v79646)]) (jcall_v (A := [(0, v79646)]) (S' := []) (r := 42) rfl (g79645.lt ad42) (g79645.tg ad42) (Nat.le_of_ble_eq_true rfl)) (by decide) ml264 pp264 (Nat.le_of_ble_eq_true rfl) rfl (by decide) (by decide) ?_
                    refine ev_iload_n rfl ?_
                    refine ev_aload_n rfl ?_
                    refine g_getv (r := 42) (v := w0) g79645 ad42 (by decide) ft12_17 (((kk79645.v (by decide)).trans ((k1.v (by decide)).trans ew0))) ?_
                    refine ev_icmpge f264_17 (fun c79648 => ?_) (fun c79648 => ?_)
                    · refine ev_iconst ?_
                      refine ev_ret rfl (by decide) (by decide) ?_
                      show jEv _ _ _ _ _ _ _ (_, [(2, 42), (0, a1), (0, a2), (0, a3), (0, 0), (0, v79646), (0, (-1)), (0, (x7 + 1)), (0, (v79613 - 48)), (0, 1)], [(0, (-1))], _, _, _)
                      refine ev_bipush ?_
                      refine ev_icmpne f270_165 (fun c79649 => ?_) (fun c79649 => absurd c79649 (by omega))
                      refine ev_aload_n rfl ?_
                      refine ev_iload rfl ?_
                      refine ev_in (d := (d + 1)) (a := 0) (b := 0) (cd' := c264_0) (m := 2) (L0 := [(2, 42), (0, v79646)]) (jcall_v (A := [(0, v79646)]) (S' := []) (r := 42) rfl (g79645.lt ad42) (g79645.tg ad42) (Nat.le_of_ble_eq_true rfl)) (by decide) ml264 pp264 (Nat.le_of_ble_eq_true rfl) rfl (by decide) (by decide) ?_
                      refine ev_iload_n rfl ?_
                      refine ev_aload_n rfl ?_
                      refine g_getv (r := 42) (v := w0) g79645 ad42 (by decide) ft12_17 (((kk79645.v (by decide)).trans ((k1.v (by decide)).trans ew0))) ?_
                      refine ev_icmpge f264_17 (fun c79650 => ?_) (fun c79650 => absurd c79650 (by omega))
                      refine ev_iconst ?_
                      refine ev_ret rfl (by decide) (by decide) ?_
                      show jEv _ _ _ _ _ _ _ (_, [(2, 42), (0, a1), (0, a2), (0, a3), (0, 0), (0, v79646), (0, (-1)), (0, (x7 + 1)), (0, (v79613 - 48)), (0, 1)], [(0, (-1))], _, _, _)
                      refine ev_bipush ?_
                      refine ev_icmpne f270_182 (fun c79651 => ?_) (fun c79651 => absurd c79651 (by omega))
                      refine ev_aload_n rfl ?_
                      refine ev_iload rfl ?_
                      refine ev_in (d := (d + 1)) (a := 0) (b := 0) (cd' := c266_0) (m := 2) (L0 := [(2, 42), (0, v79646)]) (jcall_v (A := [(0, v79646)]) (S' := []) (r := 42) rfl (g79645.lt ad42) (g79645.tg ad42) (Nat.le_of_ble_eq_true rfl)) (by decide) ml266 pp266 (Nat.le_of_ble_eq_true rfl) rfl (by decide) (by decide) ?_
                      refine ev_aload_n rfl ?_
                      refine ev_iload_n rfl ?_
                      refine g_putf (r := 42) g79645 ad42 (by decide) ft12_20 (by decide) (fun e => absurd e nz12_20) rf42_20 (by decide) (by omega) (by omega) (fun h79652 e79652 g79652 => ?_)
                      have k79652 := k79645.wr e79652 rfl
                      refine ev_iconst ?_
                      refine ev_ret rfl (by decide) (by decide) ?_
                      show jEv _ _ _ _ _ _ _ (_, [(2, 42), (0, a1), (0, a2), (0, a3), (0, 0), (0, v79646), (0, (-1)), (0, (x7 + 1)), (0, (v79613 - 48)), (0, 1)], [(0, (-1))], _, _, _)
                      exact ev_ret rfl (by decide) (by decide) ⟨⟨_, rfl, by omega, by omega, g79652, k79652⟩, fun r hr h0 => by cases hr; exfalso; omega, fun r hr => by cases hr; exact (Bd.F (Exists.elim H1 (fun _ z => (cr_x (q := (x5 + 1)) (v := v79646) z (by omega) (by unfold nm2; rw [(bR_at (p := x5) k79652 (fun _ => rfl) ew0 (((jw_ne e79652 (Or.inl (by decide))).trans ((kk79645.v rfl).trans ev79613))) (by omega) (by omega)), (bR_at (p := (x5 + 1)) k79652 (fun _ => rfl) ew0 (((jw_ne e79652 (Or.inl (by decide))).trans ((kk79645.v rfl).trans ev79632))) (by omega) (by omega))]; (repeat' split) <;> omega) (by omega) ((bR_at (p := (x5 + 1)) k79652 (fun _ => rfl) ew0 (((jw_ne e79652 (Or.inl (by decide))).trans ((kk79645.v rfl).trans ev79632))) (by omega) (by omega)).trans (by omega)) (by rw [show ((x5 + 1) + 1 : Int) = (x5 + 2) by omega]; exact (nr79645.ok (by omega))) (fun z => absurd ((bR_end (p := v79646) ew0 (by omega)).symm.trans z) (by omega)) (Or.inl (fun z => absurd ((bR_end (p := v79646) ew0 (by omega)).symm.trans z) (by omega))) (by omega)))) ((jw_eq e79652)))⟩
                    · refine ev_aload_n rfl ?_
                      refine g_getp (r := 42) (c := 54) g79645 ad42 (by decide) (by decide) rf42_16 ft12_16 ?_
                      refine ev_iload_n rfl ?_
                      refine g_bald g79645 ad54 rt54 (by omega) (by omega) (fun v79653 ev79653 lv79653 uv79653 => ?_)
                      refine ev_goto f264_18 ?_
                      refine ev_ret rfl (by decide) (by decide) ?_
                      show jEv _ _ _ _ _ _ _ (_, [(2, 42), (0, a1), (0, a2), (0, a3), (0, 0), (0, v79646), (0, (-1)), (0, (x7 + 1)), (0, (v79613 - 48)), (0, 1)], [(0, v79653)], _, _, _)
                      refine ev_bipush ?_
                      refine ev_icmpne f270_165 (fun c79654 => ?_) (fun c79654 => ?_)
                      · refine ev_aload_n rfl ?_
                        refine ev_iload rfl ?_
                        refine ev_in (d := (d + 1)) (a := 0) (b := 0) (cd' := c264_0) (m := 2) (L0 := [(2, 42), (0, v79646)]) (jcall_v (A := [(0, v79646)]) (S' := []) (r := 42) rfl (g79645.lt ad42) (g79645.tg ad42) (Nat.le_of_ble_eq_true rfl)) (by decide) ml264 pp264 (Nat.le_of_ble_eq_true rfl) rfl (by decide) (by decide) ?_
                        refine ev_iload_n rfl ?_
                        refine ev_aload_n rfl ?_
                        refine g_getv (r := 42) (v := w0) g79645 ad42 (by decide) ft12_17 (((kk79645.v (by decide)).trans ((k1.v (by decide)).trans ew0))) ?_
                        refine ev_icmpge f264_17 (fun c79655 => absurd c79655 (by omega)) (fun c79655 => ?_)
                        refine ev_aload_n rfl ?_
                        refine g_getp (r := 42) (c := 54) g79645 ad42 (by decide) (by decide) rf42_16 ft12_16 ?_
                        refine ev_iload_n rfl ?_
                        refine g_baldv (v := v79653) g79645 ad54 (by omega) (by omega) (ev79653) ?_
                        refine ev_goto f264_18 ?_
                        refine ev_ret rfl (by decide) (by decide) ?_
                        show jEv _ _ _ _ _ _ _ (_, [(2, 42), (0, a1), (0, a2), (0, a3), (0, 0), (0, v79646), (0, (-1)), (0, (x7 + 1)), (0, (v79613 - 48)), (0, 1)], [(0, v79653)], _, _, _)
                        refine ev_bipush ?_
                        refine ev_icmpne f270_182 (fun c79656 => ?_) (fun c79656 => ?_)
                        · refine ev_aload_n rfl ?_
                          refine ev_iload rfl ?_
                          refine ev_in (d := (d + 1)) (a := 0) (b := 0) (cd' := c266_0) (m := 2) (L0 := [(2, 42), (0, v79646)]) (jcall_v (A := [(0, v79646)]) (S' := []) (r := 42) rfl (g79645.lt ad42) (g79645.tg ad42) (Nat.le_of_ble_eq_true rfl)) (by decide) ml266 pp266 (Nat.le_of_ble_eq_true rfl) rfl (by decide) (by decide) ?_
                          refine ev_aload_n rfl ?_
                          refine ev_iload_n rfl ?_
                          refine g_putf (r := 42) g79645 ad42 (by decide) ft12_20 (by decide) (fun e => absurd e nz12_20) rf42_20 (by decide) (by omega) (by omega) (fun h79657 e79657 g79657 => ?_)
                          have k79657 := k79645.wr e79657 rfl
                          refine ev_iconst ?_
                          refine ev_ret rfl (by decide) (by decide) ?_
                          show jEv _ _ _ _ _ _ _ (_, [(2, 42), (0, a1), (0, a2), (0, a3), (0, 0), (0, v79646), (0, (-1)), (0, (x7 + 1)), (0, (v79613 - 48)), (0, 1)], [(0, (-1))], _, _, _)
                          exact ev_ret rfl (by decide) (by decide) ⟨⟨_, rfl, by omega, by omega, g79657, k79657⟩, fun r hr h0 => by cases hr; exfalso; omega, fun r hr => by cases hr; exact (Bd.F (Exists.elim H1 (fun _ z => (cr_x (q := (x5 + 1)) (v := v79646) z (by omega) (by unfold nm2; rw [(bR_at (p := x5) k79657 (fun _ => rfl) ew0 (((jw_ne e79657 (Or.inl (by decide))).trans ((kk79645.v rfl).trans ev79613))) (by omega) (by omega)), (bR_at (p := (x5 + 1)) k79657 (fun _ => rfl) ew0 (((jw_ne e79657 (Or.inl (by decide))).trans ((kk79645.v rfl).trans ev79632))) (by omega) (by omega))]; (repeat' split) <;> omega) (by omega) ((bR_at (p := (x5 + 1)) k79657 (fun _ => rfl) ew0 (((jw_ne e79657 (Or.inl (by decide))).trans ((kk79645.v rfl).trans ev79632))) (by omega) (by omega)).trans (by omega)) (by rw [show ((x5 + 1) + 1 : Int) = (x5 + 2) by omega]; exact (nr79645.ok (by omega))) (fun z => absurd ((bR_at (p := v79646) k79657 (fun _ => rfl) ew0 (((jw_ne e79657 (Or.inl (by decide))).trans ev79653)) (by omega) (by omega)).symm.trans z) (by omega)) (Or.inl (fun z => absurd ((bR_at (p := v79646) k79657 (fun _ => rfl) ew0 (((jw_ne e79657 (Or.inl (by decide))).trans ev79653)) (by omega) (by omega)).symm.trans z) (by omega))) (by omega)))) ((jw_eq e79657)))⟩
                        · refine ev_iload rfl ?_
                          refine ev_iconst ?_
                          refine ev_icmpne f270_189 (fun c79658 => ?_) (fun c79658 => ?_)
                          · refine ev_iinc (w := (v79646 + 1)) (L' := [(2, 42), (0, a1), (0, a2), (0, a3), (0, 0), (0, (v79646 + 1)), (0, (-1)), (0, (x7 + 1)), (0, (v79613 - 48)), (0, 1)]) rfl (by unfold w32; omega) rfl ?_
                            refine ev_goto f270_45 ?_
                            exact ih _ _ _ _ _ g79645 k79645 (by omega) (by omega) (by omega) (by omega) (by omega) (by omega) (by omega) (by omega) (by omega) (by omega) (Ad.step (r' := (v79646 + 1)) (Ad.tr (Ad.step (r' := (x5 + 2)) (Ad.step (r' := (x5 + 1)) H0 (by omega) k1 (fun _ => rfl) (ev79613) (by omega) (by omega) (by omega)) (by omega) k1 (fun _ => rfl) (ev79632) (by omega) (by omega) (by omega)) k1 (fun _ => rfl) (ad79645 (by omega))) (by omega) k79645 (fun _ => rfl) (ev79653) (by omega) (by omega) (by omega)) (Exists.elim H1 (fun _ z => ⟨_, (cr_k (q := (x5 + 1)) (v := v79646) z (by omega) (by unfold nm2; rw [(bR_at (p := x5) k79645 (fun _ => rfl) ew0 (((kk79645.v rfl).trans ev79613)) (by omega) (by omega)), (bR_at (p := (x5 + 1)) k79645 (fun _ => rfl) ew0 (((kk79645.v rfl).trans ev79632)) (by omega) (by omega))]; (repeat' split) <;> omega) (by omega) ((bR_at (p := (x5 + 1)) k79645 (fun _ => rfl) ew0 (((kk79645.v rfl).trans ev79632)) (by omega) (by omega)).trans (by omega)) (by rw [show ((x5 + 1) + 1 : Int) = (x5 + 2) by omega]; exact (nr79645.ok (by omega))) ((bR_at (p := v79646) k79645 (fun _ => rfl) ew0 (ev79653) (by omega) (by omega)).trans (by omega)) (by omega) (by omega) rfl)⟩)) (by omega)
                          · refine ev_aload_n rfl ?_
                            refine ev_iload rfl ?_
                            refine ev_in (d := (d + 1)) (a := 0) (b := 0) (cd' := c266_0) (m := 2) (L0 := [(2, 42), (0, v79646)]) (jcall_v (A := [(0, v79646)]) (S' := []) (r := 42) rfl (g79645.lt ad42) (g79645.tg ad42) (Nat.le_of_ble_eq_true rfl)) (by decide) ml266 pp266 (Nat.le_of_ble_eq_true rfl) rfl (by decide) (by decide) ?_
                            refine ev_aload_n rfl ?_
                            refine ev_iload_n rfl ?_
                            refine g_putf (r := 42) g79645 ad42 (by decide) ft12_20 (by decide) (fun e => absurd e nz12_20) rf42_20 (by decide) (by omega) (by omega) (fun h79659 e79659 g79659 => ?_)
                            have k79659 := k79645.wr e79659 rfl
                            refine ev_iconst ?_
                            refine ev_ret rfl (by decide) (by decide) ?_
                            show jEv _ _ _ _ _ _ _ (_, [(2, 42), (0, a1), (0, a2), (0, a3), (0, 0), (0, v79646), (0, (-1)), (0, (x7 + 1)), (0, (v79613 - 48)), (0, 1)], [(0, (-1))], _, _, _)
                            exact ev_ret rfl (by decide) (by decide) ⟨⟨_, rfl, by omega, by omega, g79659, k79659⟩, fun r hr h0 => by cases hr; exfalso; omega, fun r hr => by cases hr; exact (Bd.F (Exists.elim H1 (fun _ z => (cr_x (q := (x5 + 1)) (v := v79646) z (by omega) (by unfold nm2; rw [(bR_at (p := x5) k79659 (fun _ => rfl) ew0 (((jw_ne e79659 (Or.inl (by decide))).trans ((kk79645.v rfl).trans ev79613))) (by omega) (by omega)), (bR_at (p := (x5 + 1)) k79659 (fun _ => rfl) ew0 (((jw_ne e79659 (Or.inl (by decide))).trans ((kk79645.v rfl).trans ev79632))) (by omega) (by omega))]; (repeat' split) <;> omega) (by omega) ((bR_at (p := (x5 + 1)) k79659 (fun _ => rfl) ew0 (((jw_ne e79659 (Or.inl (by decide))).trans ((kk79645.v rfl).trans ev79632))) (by omega) (by omega)).trans (by omega)) (by rw [show ((x5 + 1) + 1 : Int) = (x5 + 2) by omega]; exact (nr79645.ok (by omega))) (fun z => absurd ((bR_at (p := v79646) k79659 (fun _ => rfl) ew0 (((jw_ne e79659 (Or.inl (by decide))).trans ev79653)) (by omega) (by omega)).symm.trans z) (by omega)) (Or.inr (by omega)) (by omega)))) ((jw_eq e79659)))⟩
                      · refine ev_goto f270_195 ?_
                        refine ev_iload rfl ?_
                        refine ev_iflt f270_209 (fun c79660 => ?_) (fun c79660 => absurd c79660 (by omega))
                        refine ev_iload rfl ?_
                        refine ev_iconst ?_
                        refine ev_iadd (r := (v79646 + 1)) (by unfold w32; omega) ?_
                        exact ev_ret rfl (by decide) (by decide) ⟨⟨_, rfl, by omega, by omega, g79645, k79645⟩, fun r hr h0 => by cases hr; exact (Ad.step (r' := (v79646 + 1)) (Ad.tr (Ad.step (r' := (x5 + 2)) (Ad.step (r' := (x5 + 1)) H0 (by omega) k1 (fun _ => rfl) (ev79613) (by omega) (by omega) (by omega)) (by omega) k1 (fun _ => rfl) (ev79632) (by omega) (by omega) (by omega)) k1 (fun _ => rfl) (ad79645 (by omega))) (by omega) k79645 (fun _ => rfl) (ev79653) (by omega) (by omega) (by omega)), fun r hr => by cases hr; exact Or.inl (Exists.elim H1 (fun _ z => (let y := cr_e (q := (x5 + 1)) (v := v79646) (r := (v79646 + 1)) z (by omega) (by unfold nm2; rw [(bR_at (p := x5) k79645 (fun _ => rfl) ew0 (((kk79645.v rfl).trans ev79613)) (by omega) (by omega)), (bR_at (p := (x5 + 1)) k79645 (fun _ => rfl) ew0 (((kk79645.v rfl).trans ev79632)) (by omega) (by omega))]; (repeat' split) <;> omega) (by omega) ((bR_at (p := (x5 + 1)) k79645 (fun _ => rfl) ew0 (((kk79645.v rfl).trans ev79632)) (by omega) (by omega)).trans (by omega)) (by rw [show ((x5 + 1) + 1 : Int) = (x5 + 2) by omega]; exact (nr79645.ok (by omega))) ((bR_at (p := v79646) k79645 (fun _ => rfl) ew0 (ev79653) (by omega) (by omega)).trans (by omega)) (by omega) rfl; ⟨y.1, y.2.1⟩)))⟩
                  · refine ev_iconst ?_
                    exact ev_ret rfl (by decide) (by decide) ⟨⟨_, rfl, by omega, by omega, g79645, k79645⟩, fun r hr h0 => by cases hr; exfalso; omega, fun r hr => by cases hr; exact Bd.F (Exists.elim H1 (fun _ z => (cr_b (q := (x5 + 1)) z (by omega) (by unfold nm2; rw [(bR_at (p := x5) k79645 (fun _ => rfl) ew0 (((kk79645.v rfl).trans ev79613)) (by omega) (by omega)), (bR_at (p := (x5 + 1)) k79645 (fun _ => rfl) ew0 (((kk79645.v rfl).trans ev79632)) (by omega) (by omega))]; (repeat' split) <;> omega) (by omega) ((bR_at (p := (x5 + 1)) k79645 (fun _ => rfl) ew0 (((kk79645.v rfl).trans ev79632)) (by omega) (by omega)).trans (by omega)) (by rw [show ((x5 + 1) + 1 : Int) = (x5 + 2) by omega]; exact nr79645.bd (by omega))))) rfl⟩
                · refine ev_aload_n rfl ?_
                  refine ev_iload rfl ?_
                  refine ev_in (d := (d + 1)) (a := 0) (b := 0) (cd' := c266_0) (m := 2) (L0 := [(2, 42), (0, (x5 + 1))]) (jcall_v (A := [(0, (x5 + 1))]) (S' := []) (r := 42) rfl (g1.lt ad42) (g1.tg ad42) (Nat.le_of_ble_eq_true rfl)) (by decide) ml266 pp266 (Nat.le_of_ble_eq_true rfl) rfl (by decide) (by decide) ?_
                  refine ev_aload_n rfl ?_
                  refine ev_iload_n rfl ?_
                  refine g_putf (r := 42) g1 ad42 (by decide) ft12_20 (by decide) (fun e => absurd e nz12_20) rf42_20 (by decide) (by omega) (by omega) (fun h79661 e79661 g79661 => ?_)
                  have k79661 := k1.wr e79661 rfl
                  refine ev_iconst ?_
                  refine ev_ret rfl (by decide) (by decide) ?_
                  show jEv _ _ _ _ _ _ _ (_, [(2, 42), (0, a1), (0, a2), (0, a3), (0, 0), (0, (x5 + 1)), (0, (-1)), (0, x7), (0, (v79613 - 48)), (0, 1)], [(0, (-1))], _, _, _)
                  exact ev_ret rfl (by decide) (by decide) ⟨⟨_, rfl, by omega, by omega, g79661, k79661⟩, fun r hr h0 => by cases hr; exfalso; omega, fun r hr => by cases hr; exact (Bd.F (Exists.elim H1 (fun _ z => (cr_c (q := (x5 + 1)) z (by omega) (by unfold nm2; rw [(bR_at (p := x5) k79661 (fun _ => rfl) ew0 (((jw_ne e79661 (Or.inl (by decide))).trans ev79613)) (by omega) (by omega)), (bR_at (p := (x5 + 1)) k79661 (fun _ => rfl) ew0 (((jw_ne e79661 (Or.inl (by decide))).trans ev79632)) (by omega) (by omega))]; (repeat' split) <;> omega) (by omega) (fun z => absurd ((bR_at (p := (x5 + 1)) k79661 (fun _ => rfl) ew0 (((jw_ne e79661 (Or.inl (by decide))).trans ev79632)) (by omega) (by omega)).symm.trans z) (by omega)) (by omega)))) ((jw_eq e79661)))⟩
              · refine ev_iconst ?_
                refine ev_goto f242_15 ?_
                refine ev_ret rfl (by decide) (by decide) ?_
                show jEv _ _ _ _ _ _ _ (_, [(2, 42), (0, (x5 + 1))], [(0, 1)], _, _, _)
                refine ev_ret rfl (by decide) (by decide) ?_
                show jEv _ _ _ _ _ _ _ (_, [(2, 42), (0, a1), (0, a2), (0, a3), (0, 0), (0, (x5 + 1)), (0, (-1)), (0, x7), (0, (v79613 - 48)), (0, 1)], [(0, 1)], _, _, _)
                refine ev_ifeq f270_92 (fun c79662 => absurd c79662 (by omega)) (fun c79662 => ?_)
                refine ev_bipush ?_
                refine ev_iload rfl ?_
                refine ev_imul (r := (10 * v79613 - 480)) (by unfold w32; omega) ?_
                refine ev_aload_n rfl ?_
                refine ev_iload rfl ?_
                refine ev_in (d := (d + 1)) (a := 0) (b := 0) (cd' := c264_0) (m := 2) (L0 := [(2, 42), (0, (x5 + 1))]) (jcall_v (A := [(0, (x5 + 1))]) (S' := [(0, (10 * v79613 - 480))]) (r := 42) rfl (g1.lt ad42) (g1.tg ad42) (Nat.le_of_ble_eq_true rfl)) (by decide) ml264 pp264 (Nat.le_of_ble_eq_true rfl) rfl (by decide) (by decide) ?_
                refine ev_iload_n rfl ?_
                refine ev_aload_n rfl ?_
                refine g_getv (r := 42) (v := w0) g1 ad42 (by decide) ft12_17 (((k1.v (by decide)).trans ew0)) ?_
                refine ev_icmpge f264_17 (fun c79663 => absurd c79663 (by omega)) (fun c79663 => ?_)
                refine ev_aload_n rfl ?_
                refine g_getp (r := 42) (c := 54) g1 ad42 (by decide) (by decide) rf42_16 ft12_16 ?_
                refine ev_iload_n rfl ?_
                refine g_baldv (v := v79632) g1 ad54 (by omega) (by omega) (ev79632) ?_
                refine ev_goto f264_18 ?_
                refine ev_ret rfl (by decide) (by decide) ?_
                show jEv _ _ _ _ _ _ _ (_, [(2, 42), (0, a1), (0, a2), (0, a3), (0, 0), (0, (x5 + 1)), (0, (-1)), (0, x7), (0, (v79613 - 48)), (0, 1)], [(0, v79632), (0, (10 * v79613 - 480))], _, _, _)
                refine ev_iadd (r := (10 * v79613 + v79632 - 480)) (by unfold w32; omega) ?_
                refine ev_bipush ?_
                refine ev_isub (r := (10 * v79613 + v79632 - 528)) (by unfold w32; omega) ?_
                refine ev_istore (L' := [(2, 42), (0, a1), (0, a2), (0, a3), (0, 0), (0, (x5 + 1)), (0, (-1)), (0, x7), (0, (10 * v79613 + v79632 - 528)), (0, 1)]) (Nat.le_of_ble_eq_true rfl) rfl ?_
                refine ev_iinc (w := 2) (L' := [(2, 42), (0, a1), (0, a2), (0, a3), (0, 0), (0, (x5 + 1)), (0, (-1)), (0, x7), (0, (10 * v79613 + v79632 - 528)), (0, 2)]) rfl (by decide) rfl ?_
                refine ev_iinc (w := (x5 + 2)) (L' := [(2, 42), (0, a1), (0, a2), (0, a3), (0, 0), (0, (x5 + 2)), (0, (-1)), (0, x7), (0, (10 * v79613 + v79632 - 528)), (0, 2)]) rfl (by unfold w32; omega) rfl ?_
                refine ev_goto f270_51 ?_
                refine ev_iload rfl ?_
                refine ev_iconst ?_
                refine ev_icmpge f270_92 (fun c79664 => ?_) (fun c79664 => absurd c79664 (by omega))
                refine ev_iload rfl ?_
                refine ev_ifeq f270_108 (fun c79665 => absurd c79665 (by omega)) (fun c79665 => ?_)
                refine ev_aload_n rfl ?_
                refine ev_iload rfl ?_
                refine ev_in (d := (d + 1)) (a := 0) (b := 0) (cd' := c264_0) (m := 2) (L0 := [(2, 42), (0, (x5 + 2))]) (jcall_v (A := [(0, (x5 + 2))]) (S' := []) (r := 42) rfl (g1.lt ad42) (g1.tg ad42) (Nat.le_of_ble_eq_true rfl)) (by decide) ml264 pp264 (Nat.le_of_ble_eq_true rfl) rfl (by decide) (by decide) ?_
                refine ev_iload_n rfl ?_
                refine ev_aload_n rfl ?_
                refine g_getv (r := 42) (v := w0) g1 ad42 (by decide) ft12_17 (((k1.v (by decide)).trans ew0)) ?_
                refine ev_icmpge f264_17 (fun c79666 => ?_) (fun c79666 => ?_)
                · refine ev_iconst ?_
                  refine ev_ret rfl (by decide) (by decide) ?_
                  show jEv _ _ _ _ _ _ _ (_, [(2, 42), (0, a1), (0, a2), (0, a3), (0, 0), (0, (x5 + 2)), (0, (-1)), (0, x7), (0, (10 * v79613 + v79632 - 528)), (0, 2)], [(0, (-1))], _, _, _)
                  refine ev_bipush ?_
                  refine ev_icmpeq f270_115 (fun c79667 => absurd c79667 (by omega)) (fun c79667 => ?_)
                  refine ev_aload_n rfl ?_
                  refine ev_iload rfl ?_
                  refine ev_in (d := (d + 1)) (a := 0) (b := 0) (cd' := c266_0) (m := 2) (L0 := [(2, 42), (0, (x5 + 2))]) (jcall_v (A := [(0, (x5 + 2))]) (S' := []) (r := 42) rfl (g1.lt ad42) (g1.tg ad42) (Nat.le_of_ble_eq_true rfl)) (by decide) ml266 pp266 (Nat.le_of_ble_eq_true rfl) rfl (by decide) (by decide) ?_
                  refine ev_aload_n rfl ?_
                  refine ev_iload_n rfl ?_
                  refine g_putf (r := 42) g1 ad42 (by decide) ft12_20 (by decide) (fun e => absurd e nz12_20) rf42_20 (by decide) (by omega) (by omega) (fun h79668 e79668 g79668 => ?_)
                  have k79668 := k1.wr e79668 rfl
                  refine ev_iconst ?_
                  refine ev_ret rfl (by decide) (by decide) ?_
                  show jEv _ _ _ _ _ _ _ (_, [(2, 42), (0, a1), (0, a2), (0, a3), (0, 0), (0, (x5 + 2)), (0, (-1)), (0, x7), (0, (10 * v79613 + v79632 - 528)), (0, 2)], [(0, (-1))], _, _, _)
                  exact ev_ret rfl (by decide) (by decide) ⟨⟨_, rfl, by omega, by omega, g79668, k79668⟩, fun r hr h0 => by cases hr; exfalso; omega, fun r hr => by cases hr; exact (Bd.F (Exists.elim H1 (fun _ z => (cr_c (q := (x5 + 2)) z (by omega) (by unfold nm2; rw [(bR_at (p := x5) k79668 (fun _ => rfl) ew0 (((jw_ne e79668 (Or.inl (by decide))).trans ev79613)) (by omega) (by omega)), (bR_at (p := (x5 + 1)) k79668 (fun _ => rfl) ew0 (((jw_ne e79668 (Or.inl (by decide))).trans ev79632)) (by omega) (by omega))]; (repeat' split) <;> omega) (by omega) (fun z => absurd ((bR_end (p := (x5 + 2)) ew0 (by omega)).symm.trans z) (by omega)) (by omega)))) ((jw_eq e79668)))⟩
                · refine ev_aload_n rfl ?_
                  refine g_getp (r := 42) (c := 54) g1 ad42 (by decide) (by decide) rf42_16 ft12_16 ?_
                  refine ev_iload_n rfl ?_
                  refine g_bald g1 ad54 rt54 (by omega) (by omega) (fun v79669 ev79669 lv79669 uv79669 => ?_)
                  refine ev_goto f264_18 ?_
                  refine ev_ret rfl (by decide) (by decide) ?_
                  show jEv _ _ _ _ _ _ _ (_, [(2, 42), (0, a1), (0, a2), (0, a3), (0, 0), (0, (x5 + 2)), (0, (-1)), (0, x7), (0, (10 * v79613 + v79632 - 528)), (0, 2)], [(0, v79669)], _, _, _)
                  refine ev_bipush ?_
                  refine ev_icmpeq f270_115 (fun c79670 => ?_) (fun c79670 => ?_)
                  · refine ev_aload_n rfl ?_
                    refine ev_iload rfl ?_
                    refine ev_iload rfl ?_
                    refine ev_iload rfl ?_
                    refine ev_in (d := (d + 1)) (a := 0) (b := 0) (cd' := c268_0) (m := 4) (L0 := [(2, 42), (0, (-1)), (0, x7), (0, (10 * v79613 + v79632 - 528))]) (jcall_v (A := [(0, (10 * v79613 + v79632 - 528)), (0, x7), (0, (-1))]) (S' := []) (r := 42) rfl (g1.lt ad42) (g1.tg ad42) (Nat.le_of_ble_eq_true rfl)) (by decide) ml268 pp268 (Nat.le_of_ble_eq_true rfl) rfl (by decide) (by decide) ?_
                    refine ev_iload_n rfl ?_
                    refine ev_ifge f268_5 (fun c79671 => absurd c79671 (by omega)) (fun c79671 => ?_)
                    refine ev_ret rfl (by decide) (by decide) ?_
                    show jEv _ _ _ _ _ _ _ (_, [(2, 42), (0, a1), (0, a2), (0, a3), (0, 0), (0, (x5 + 2)), (0, (-1)), (0, x7), (0, (10 * v79613 + v79632 - 528)), (0, 2)], [], _, _, _)
                    refine ev_aload_n rfl ?_
                    refine ev_iload rfl ?_
                    refine ev_iconst ?_
                    refine ev_iadd (r := (x5 + 3)) (by unfold w32; omega) ?_
                    refine ev_iload_n rfl ?_
                    refine ev_iload_n rfl ?_
                    refine ev_iconst ?_
                    refine ev_iadd (r := (a3 + 1)) (by unfold w32; omega) ?_
                    refine ev_iload rfl ?_
                    refine ev_call (jcall_v (A := [(0, 0), (0, (a3 + 1)), (0, a2), (0, (x5 + 3))]) (S' := []) (r := 42) rfl (g1.lt ad42) (g1.tg ad42) (Nat.le_of_ble_eq_true rfl)) (jOk_le (by omega) (rih g1 (by omega) (by omega) (by omega) (by omega) (by omega) (by omega) (by omega) (by omega) (((k1.v (by decide)).trans ew0)) (by omega) (by omega) (l0 := l0) (Iv.kp hI k1 (fun _ => rfl) (fun _ => rfl) rfl) (Lv.at hL (Ad.step (r' := (x5 + 3)) (Ad.step (r' := (x5 + 2)) (Ad.step (r' := (x5 + 1)) H0 (by omega) k1 (fun _ => rfl) (ev79613) (by omega) (by omega) (by omega)) (by omega) k1 (fun _ => rfl) (ev79632) (by omega) (by omega) (by omega)) (by omega) k1 (fun _ => rfl) (ev79669) (by omega) (by omega) (by omega)) k1 (fun _ => rfl) rfl) (K := K) (q := q - 1) (hK.kp k1 (fun _ => rfl) rfl (fun _ => rfl) rfl rfl (fun _ => rfl)) (by omega) (by rw [k1.v rfl]; exact hN) (by omega))) (by decide) (by decide) (fun w79672 h79672 q79672 => ?_)
                    obtain ⟨q79672, ad79672, nr79672⟩ := q79672
                    obtain ⟨v79673, rfl, lv79673, uv79673, g79672, kk79672⟩ := q79672
                    have ad79672 := ad79672 _ rfl
                    have nr79672 := nr79672 _ rfl
                    have k79672 := k1.tr kk79672 (by decide)
                    rw [RQ_kp k1 (fun _ => rfl) rfl (fun _ => rfl) rfl rfl, bR_kp k1 (fun _ => rfl) rfl] at nr79672
                    show jEv _ _ _ _ _ _ _ (_, [(2, 42), (0, a1), (0, a2), (0, a3), (0, 0), (0, (x5 + 2)), (0, (-1)), (0, x7), (0, (10 * v79613 + v79632 - 528)), (0, 2)], [(0, v79673)], _, _, _)
                    refine ev_istore (L' := [(2, 42), (0, a1), (0, a2), (0, a3), (0, 0), (0, v79673), (0, (-1)), (0, x7), (0, (10 * v79613 + v79632 - 528)), (0, 2)]) (Nat.le_of_ble_eq_true rfl) rfl ?_
                    refine ev_iload rfl ?_
                    refine ev_ifge f270_148 (fun c79674 => ?_) (fun c79674 => ?_)
                    · refine ev_iinc (w := (x7 + 1)) (L' := [(2, 42), (0, a1), (0, a2), (0, a3), (0, 0), (0, v79673), (0, (-1)), (0, (x7 + 1)), (0, (10 * v79613 + v79632 - 528)), (0, 2)]) rfl (by unfold w32; omega) rfl ?_
                      refine ev_aload_n rfl ?_
                      refine ev_iload rfl ?_
                      refine ev_in (d := (d + 1)) (a := 0) (b := 0) (cd' := c264_0) (m := 2) (L0 := [(2, 42), (0, v79673)]) (jcall_v (A := [(0, v79673)]) (S' := []) (r := 42) rfl (g79672.lt ad42) (g79672.tg ad42) (Nat.le_of_ble_eq_true rfl)) (by decide) ml264 pp264 (Nat.le_of_ble_eq_true rfl) rfl (by decide) (by decide) ?_
                      refine ev_iload_n rfl ?_
                      refine ev_aload_n rfl ?_
                      refine g_getv (r := 42) (v := w0) g79672 ad42 (by decide) ft12_17 (((kk79672.v (by decide)).trans ((k1.v (by decide)).trans ew0))) ?_
                      refine ev_icmpge f264_17 (fun c79675 => ?_) (fun c79675 => ?_)
                      · refine ev_iconst ?_
                        refine ev_ret rfl (by decide) (by decide) ?_
                        show jEv _ _ _ _ _ _ _ (_, [(2, 42), (0, a1), (0, a2), (0, a3), (0, 0), (0, v79673), (0, (-1)), (0, (x7 + 1)), (0, (10 * v79613 + v79632 - 528)), (0, 2)], [(0, (-1))], _, _, _)
                        refine ev_bipush ?_
                        refine ev_icmpne f270_165 (fun c79676 => ?_) (fun c79676 => absurd c79676 (by omega))
                        refine ev_aload_n rfl ?_
                        refine ev_iload rfl ?_
                        refine ev_in (d := (d + 1)) (a := 0) (b := 0) (cd' := c264_0) (m := 2) (L0 := [(2, 42), (0, v79673)]) (jcall_v (A := [(0, v79673)]) (S' := []) (r := 42) rfl (g79672.lt ad42) (g79672.tg ad42) (Nat.le_of_ble_eq_true rfl)) (by decide) ml264 pp264 (Nat.le_of_ble_eq_true rfl) rfl (by decide) (by decide) ?_
                        refine ev_iload_n rfl ?_
                        refine ev_aload_n rfl ?_
                        refine g_getv (r := 42) (v := w0) g79672 ad42 (by decide) ft12_17 (((kk79672.v (by decide)).trans ((k1.v (by decide)).trans ew0))) ?_
                        refine ev_icmpge f264_17 (fun c79677 => ?_) (fun c79677 => absurd c79677 (by omega))
                        refine ev_iconst ?_
                        refine ev_ret rfl (by decide) (by decide) ?_
                        show jEv _ _ _ _ _ _ _ (_, [(2, 42), (0, a1), (0, a2), (0, a3), (0, 0), (0, v79673), (0, (-1)), (0, (x7 + 1)), (0, (10 * v79613 + v79632 - 528)), (0, 2)], [(0, (-1))], _, _, _)
                        refine ev_bipush ?_
                        refine ev_icmpne f270_182 (fun c79678 => ?_) (fun c79678 => absurd c79678 (by omega))
                        refine ev_aload_n rfl ?_
                        refine ev_iload rfl ?_
                        refine ev_in (d := (d + 1)) (a := 0) (b := 0) (cd' := c266_0) (m := 2) (L0 := [(2, 42), (0, v79673)]) (jcall_v (A := [(0, v79673)]) (S' := []) (r := 42) rfl (g79672.lt ad42) (g79672.tg ad42) (Nat.le_of_ble_eq_true rfl)) (by decide) ml266 pp266 (Nat.le_of_ble_eq_true rfl) rfl (by decide) (by decide) ?_
                        refine ev_aload_n rfl ?_
                        refine ev_iload_n rfl ?_
                        refine g_putf (r := 42) g79672 ad42 (by decide) ft12_20 (by decide) (fun e => absurd e nz12_20) rf42_20 (by decide) (by omega) (by omega) (fun h79679 e79679 g79679 => ?_)
                        have k79679 := k79672.wr e79679 rfl
                        refine ev_iconst ?_
                        refine ev_ret rfl (by decide) (by decide) ?_
                        show jEv _ _ _ _ _ _ _ (_, [(2, 42), (0, a1), (0, a2), (0, a3), (0, 0), (0, v79673), (0, (-1)), (0, (x7 + 1)), (0, (10 * v79613 + v79632 - 528)), (0, 2)], [(0, (-1))], _, _, _)
                        exact ev_ret rfl (by decide) (by decide) ⟨⟨_, rfl, by omega, by omega, g79679, k79679⟩, fun r hr h0 => by cases hr; exfalso; omega, fun r hr => by cases hr; exact (Bd.F (Exists.elim H1 (fun _ z => (cr_x (q := (x5 + 2)) (v := v79673) z (by omega) (by unfold nm2; rw [(bR_at (p := x5) k79679 (fun _ => rfl) ew0 (((jw_ne e79679 (Or.inl (by decide))).trans ((kk79672.v rfl).trans ev79613))) (by omega) (by omega)), (bR_at (p := (x5 + 1)) k79679 (fun _ => rfl) ew0 (((jw_ne e79679 (Or.inl (by decide))).trans ((kk79672.v rfl).trans ev79632))) (by omega) (by omega))]; (repeat' split) <;> omega) (by omega) ((bR_at (p := (x5 + 2)) k79679 (fun _ => rfl) ew0 (((jw_ne e79679 (Or.inl (by decide))).trans ((kk79672.v rfl).trans ev79669))) (by omega) (by omega)).trans (by omega)) (by rw [show ((x5 + 2) + 1 : Int) = (x5 + 3) by omega]; exact (nr79672.ok (by omega))) (fun z => absurd ((bR_end (p := v79673) ew0 (by omega)).symm.trans z) (by omega)) (Or.inl (fun z => absurd ((bR_end (p := v79673) ew0 (by omega)).symm.trans z) (by omega))) (by omega)))) ((jw_eq e79679)))⟩
                      · refine ev_aload_n rfl ?_
                        refine g_getp (r := 42) (c := 54) g79672 ad42 (by decide) (by decide) rf42_16 ft12_16 ?_
                        refine ev_iload_n rfl ?_
                        refine g_bald g79672 ad54 rt54 (by omega) (by omega) (fun v79680 ev79680 lv79680 uv79680 => ?_)
                        refine ev_goto f264_18 ?_
                        refine ev_ret rfl (by decide) (by decide) ?_
                        show jEv _ _ _ _ _ _ _ (_, [(2, 42), (0, a1), (0, a2), (0, a3), (0, 0), (0, v79673), (0, (-1)), (0, (x7 + 1)), (0, (10 * v79613 + v79632 - 528)), (0, 2)], [(0, v79680)], _, _, _)
                        refine ev_bipush ?_
                        refine ev_icmpne f270_165 (fun c79681 => ?_) (fun c79681 => ?_)
                        · refine ev_aload_n rfl ?_
                          refine ev_iload rfl ?_
                          refine ev_in (d := (d + 1)) (a := 0) (b := 0) (cd' := c264_0) (m := 2) (L0 := [(2, 42), (0, v79673)]) (jcall_v (A := [(0, v79673)]) (S' := []) (r := 42) rfl (g79672.lt ad42) (g79672.tg ad42) (Nat.le_of_ble_eq_true rfl)) (by decide) ml264 pp264 (Nat.le_of_ble_eq_true rfl) rfl (by decide) (by decide) ?_
                          refine ev_iload_n rfl ?_
                          refine ev_aload_n rfl ?_
                          refine g_getv (r := 42) (v := w0) g79672 ad42 (by decide) ft12_17 (((kk79672.v (by decide)).trans ((k1.v (by decide)).trans ew0))) ?_
                          refine ev_icmpge f264_17 (fun c79682 => absurd c79682 (by omega)) (fun c79682 => ?_)
                          refine ev_aload_n rfl ?_
                          refine g_getp (r := 42) (c := 54) g79672 ad42 (by decide) (by decide) rf42_16 ft12_16 ?_
                          refine ev_iload_n rfl ?_
                          refine g_baldv (v := v79680) g79672 ad54 (by omega) (by omega) (ev79680) ?_
                          refine ev_goto f264_18 ?_
                          refine ev_ret rfl (by decide) (by decide) ?_
                          show jEv _ _ _ _ _ _ _ (_, [(2, 42), (0, a1), (0, a2), (0, a3), (0, 0), (0, v79673), (0, (-1)), (0, (x7 + 1)), (0, (10 * v79613 + v79632 - 528)), (0, 2)], [(0, v79680)], _, _, _)
                          refine ev_bipush ?_
                          refine ev_icmpne f270_182 (fun c79683 => ?_) (fun c79683 => ?_)
                          · refine ev_aload_n rfl ?_
                            refine ev_iload rfl ?_
                            refine ev_in (d := (d + 1)) (a := 0) (b := 0) (cd' := c266_0) (m := 2) (L0 := [(2, 42), (0, v79673)]) (jcall_v (A := [(0, v79673)]) (S' := []) (r := 42) rfl (g79672.lt ad42) (g79672.tg ad42) (Nat.le_of_ble_eq_true rfl)) (by decide) ml266 pp266 (Nat.le_of_ble_eq_true rfl) rfl (by decide) (by decide) ?_
                            refine ev_aload_n rfl ?_
                            refine ev_iload_n rfl ?_
                            refine g_putf (r := 42) g79672 ad42 (by decide) ft12_20 (by decide) (fun e => absurd e nz12_20) rf42_20 (by decide) (by omega) (by omega) (fun h79684 e79684 g79684 => ?_)
                            have k79684 := k79672.wr e79684 rfl
                            refine ev_iconst ?_
                            refine ev_ret rfl (by decide) (by decide) ?_
                            show jEv _ _ _ _ _ _ _ (_, [(2, 42), (0, a1), (0, a2), (0, a3), (0, 0), (0, v79673), (0, (-1)), (0, (x7 + 1)), (0, (10 * v79613 + v79632 - 528)), (0, 2)], [(0, (-1))], _, _, _)
                            exact ev_ret rfl (by decide) (by decide) ⟨⟨_, rfl, by omega, by omega, g79684, k79684⟩, fun r hr h0 => by cases hr; exfalso; omega, fun r hr => by cases hr; exact (Bd.F (Exists.elim H1 (fun _ z => (cr_x (q := (x5 + 2)) (v := v79673) z (by omega) (by unfold nm2; rw [(bR_at (p := x5) k79684 (fun _ => rfl) ew0 (((jw_ne e79684 (Or.inl (by decide))).trans ((kk79672.v rfl).trans ev79613))) (by omega) (by omega)), (bR_at (p := (x5 + 1)) k79684 (fun _ => rfl) ew0 (((jw_ne e79684 (Or.inl (by decide))).trans ((kk79672.v rfl).trans ev79632))) (by omega) (by omega))]; (repeat' split) <;> omega) (by omega) ((bR_at (p := (x5 + 2)) k79684 (fun _ => rfl) ew0 (((jw_ne e79684 (Or.inl (by decide))).trans ((kk79672.v rfl).trans ev79669))) (by omega) (by omega)).trans (by omega)) (by rw [show ((x5 + 2) + 1 : Int) = (x5 + 3) by omega]; exact (nr79672.ok (by omega))) (fun z => absurd ((bR_at (p := v79673) k79684 (fun _ => rfl) ew0 (((jw_ne e79684 (Or.inl (by decide))).trans ev79680)) (by omega) (by omega)).symm.trans z) (by omega)) (Or.inl (fun z => absurd ((bR_at (p := v79673) k79684 (fun _ => rfl) ew0 (((jw_ne e79684 (Or.inl (by decide))).trans ev79680)) (by omega) (by omega)).symm.trans z) (by omega))) (by omega)))) ((jw_eq e79684)))⟩
                          · refine ev_iload rfl ?_
                            refine ev_iconst ?_
                            refine ev_icmpne f270_189 (fun c79685 => ?_) (fun c79685 => ?_)
                            · refine ev_iinc (w := (v79673 + 1)) (L' := [(2, 42), (0, a1), (0, a2), (0, a3), (0, 0), (0, (v79673 + 1)), (0, (-1)), (0, (x7 + 1)), (0, (10 * v79613 + v79632 - 528)), (0, 2)]) rfl (by unfold w32; omega) rfl ?_
                              refine ev_goto f270_45 ?_
                              exact ih _ _ _ _ _ g79672 k79672 (by omega) (by omega) (by omega) (by omega) (by omega) (by omega) (by omega) (by omega) (by omega) (by omega) (Ad.step (r' := (v79673 + 1)) (Ad.tr (Ad.step (r' := (x5 + 3)) (Ad.step (r' := (x5 + 2)) (Ad.step (r' := (x5 + 1)) H0 (by omega) k1 (fun _ => rfl) (ev79613) (by omega) (by omega) (by omega)) (by omega) k1 (fun _ => rfl) (ev79632) (by omega) (by omega) (by omega)) (by omega) k1 (fun _ => rfl) (ev79669) (by omega) (by omega) (by omega)) k1 (fun _ => rfl) (ad79672 (by omega))) (by omega) k79672 (fun _ => rfl) (ev79680) (by omega) (by omega) (by omega)) (Exists.elim H1 (fun _ z => ⟨_, (cr_k (q := (x5 + 2)) (v := v79673) z (by omega) (by unfold nm2; rw [(bR_at (p := x5) k79672 (fun _ => rfl) ew0 (((kk79672.v rfl).trans ev79613)) (by omega) (by omega)), (bR_at (p := (x5 + 1)) k79672 (fun _ => rfl) ew0 (((kk79672.v rfl).trans ev79632)) (by omega) (by omega))]; (repeat' split) <;> omega) (by omega) ((bR_at (p := (x5 + 2)) k79672 (fun _ => rfl) ew0 (((kk79672.v rfl).trans ev79669)) (by omega) (by omega)).trans (by omega)) (by rw [show ((x5 + 2) + 1 : Int) = (x5 + 3) by omega]; exact (nr79672.ok (by omega))) ((bR_at (p := v79673) k79672 (fun _ => rfl) ew0 (ev79680) (by omega) (by omega)).trans (by omega)) (by omega) (by omega) rfl)⟩)) (by omega)
                            · refine ev_aload_n rfl ?_
                              refine ev_iload rfl ?_
                              refine ev_in (d := (d + 1)) (a := 0) (b := 0) (cd' := c266_0) (m := 2) (L0 := [(2, 42), (0, v79673)]) (jcall_v (A := [(0, v79673)]) (S' := []) (r := 42) rfl (g79672.lt ad42) (g79672.tg ad42) (Nat.le_of_ble_eq_true rfl)) (by decide) ml266 pp266 (Nat.le_of_ble_eq_true rfl) rfl (by decide) (by decide) ?_
                              refine ev_aload_n rfl ?_
                              refine ev_iload_n rfl ?_
                              refine g_putf (r := 42) g79672 ad42 (by decide) ft12_20 (by decide) (fun e => absurd e nz12_20) rf42_20 (by decide) (by omega) (by omega) (fun h79686 e79686 g79686 => ?_)
                              have k79686 := k79672.wr e79686 rfl
                              refine ev_iconst ?_
                              refine ev_ret rfl (by decide) (by decide) ?_
                              show jEv _ _ _ _ _ _ _ (_, [(2, 42), (0, a1), (0, a2), (0, a3), (0, 0), (0, v79673), (0, (-1)), (0, (x7 + 1)), (0, (10 * v79613 + v79632 - 528)), (0, 2)], [(0, (-1))], _, _, _)
                              exact ev_ret rfl (by decide) (by decide) ⟨⟨_, rfl, by omega, by omega, g79686, k79686⟩, fun r hr h0 => by cases hr; exfalso; omega, fun r hr => by cases hr; exact (Bd.F (Exists.elim H1 (fun _ z => (cr_x (q := (x5 + 2)) (v := v79673) z (by omega) (by unfold nm2; rw [(bR_at (p := x5) k79686 (fun _ => rfl) ew0 (((jw_ne e79686 (Or.inl (by decide))).trans ((kk79672.v rfl).trans ev79613))) (by omega) (by omega)), (bR_at (p := (x5 + 1)) k79686 (fun _ => rfl) ew0 (((jw_ne e79686 (Or.inl (by decide))).trans ((kk79672.v rfl).trans ev79632))) (by omega) (by omega))]; (repeat' split) <;> omega) (by omega) ((bR_at (p := (x5 + 2)) k79686 (fun _ => rfl) ew0 (((jw_ne e79686 (Or.inl (by decide))).trans ((kk79672.v rfl).trans ev79669))) (by omega) (by omega)).trans (by omega)) (by rw [show ((x5 + 2) + 1 : Int) = (x5 + 3) by omega]; exact (nr79672.ok (by omega))) (fun z => absurd ((bR_at (p := v79673) k79686 (fun _ => rfl) ew0 (((jw_ne e79686 (Or.inl (by decide))).trans ev79680)) (by omega) (by omega)).symm.trans z) (by omega)) (Or.inr (by omega)) (by omega)))) ((jw_eq e79686)))⟩
                        · refine ev_goto f270_195 ?_
                          refine ev_iload rfl ?_
                          refine ev_iflt f270_209 (fun c79687 => ?_) (fun c79687 => absurd c79687 (by omega))
                          refine ev_iload rfl ?_
                          refine ev_iconst ?_
                          refine ev_iadd (r := (v79673 + 1)) (by unfold w32; omega) ?_
                          exact ev_ret rfl (by decide) (by decide) ⟨⟨_, rfl, by omega, by omega, g79672, k79672⟩, fun r hr h0 => by cases hr; exact (Ad.step (r' := (v79673 + 1)) (Ad.tr (Ad.step (r' := (x5 + 3)) (Ad.step (r' := (x5 + 2)) (Ad.step (r' := (x5 + 1)) H0 (by omega) k1 (fun _ => rfl) (ev79613) (by omega) (by omega) (by omega)) (by omega) k1 (fun _ => rfl) (ev79632) (by omega) (by omega) (by omega)) (by omega) k1 (fun _ => rfl) (ev79669) (by omega) (by omega) (by omega)) k1 (fun _ => rfl) (ad79672 (by omega))) (by omega) k79672 (fun _ => rfl) (ev79680) (by omega) (by omega) (by omega)), fun r hr => by cases hr; exact Or.inl (Exists.elim H1 (fun _ z => (let y := cr_e (q := (x5 + 2)) (v := v79673) (r := (v79673 + 1)) z (by omega) (by unfold nm2; rw [(bR_at (p := x5) k79672 (fun _ => rfl) ew0 (((kk79672.v rfl).trans ev79613)) (by omega) (by omega)), (bR_at (p := (x5 + 1)) k79672 (fun _ => rfl) ew0 (((kk79672.v rfl).trans ev79632)) (by omega) (by omega))]; (repeat' split) <;> omega) (by omega) ((bR_at (p := (x5 + 2)) k79672 (fun _ => rfl) ew0 (((kk79672.v rfl).trans ev79669)) (by omega) (by omega)).trans (by omega)) (by rw [show ((x5 + 2) + 1 : Int) = (x5 + 3) by omega]; exact (nr79672.ok (by omega))) ((bR_at (p := v79673) k79672 (fun _ => rfl) ew0 (ev79680) (by omega) (by omega)).trans (by omega)) (by omega) rfl; ⟨y.1, y.2.1⟩)))⟩
                    · refine ev_iconst ?_
                      exact ev_ret rfl (by decide) (by decide) ⟨⟨_, rfl, by omega, by omega, g79672, k79672⟩, fun r hr h0 => by cases hr; exfalso; omega, fun r hr => by cases hr; exact Bd.F (Exists.elim H1 (fun _ z => (cr_b (q := (x5 + 2)) z (by omega) (by unfold nm2; rw [(bR_at (p := x5) k79672 (fun _ => rfl) ew0 (((kk79672.v rfl).trans ev79613)) (by omega) (by omega)), (bR_at (p := (x5 + 1)) k79672 (fun _ => rfl) ew0 (((kk79672.v rfl).trans ev79632)) (by omega) (by omega))]; (repeat' split) <;> omega) (by omega) ((bR_at (p := (x5 + 2)) k79672 (fun _ => rfl) ew0 (((kk79672.v rfl).trans ev79669)) (by omega) (by omega)).trans (by omega)) (by rw [show ((x5 + 2) + 1 : Int) = (x5 + 3) by omega]; exact nr79672.bd (by omega))))) rfl⟩
                  · refine ev_aload_n rfl ?_
                    refine ev_iload rfl ?_
                    refine ev_in (d := (d + 1)) (a := 0) (b := 0) (cd' := c266_0) (m := 2) (L0 := [(2, 42), (0, (x5 + 2))]) (jcall_v (A := [(0, (x5 + 2))]) (S' := []) (r := 42) rfl (g1.lt ad42) (g1.tg ad42) (Nat.le_of_ble_eq_true rfl)) (by decide) ml266 pp266 (Nat.le_of_ble_eq_true rfl) rfl (by decide) (by decide) ?_
                    refine ev_aload_n rfl ?_
                    refine ev_iload_n rfl ?_
                    refine g_putf (r := 42) g1 ad42 (by decide) ft12_20 (by decide) (fun e => absurd e nz12_20) rf42_20 (by decide) (by omega) (by omega) (fun h79688 e79688 g79688 => ?_)
                    have k79688 := k1.wr e79688 rfl
                    refine ev_iconst ?_
                    refine ev_ret rfl (by decide) (by decide) ?_
                    show jEv _ _ _ _ _ _ _ (_, [(2, 42), (0, a1), (0, a2), (0, a3), (0, 0), (0, (x5 + 2)), (0, (-1)), (0, x7), (0, (10 * v79613 + v79632 - 528)), (0, 2)], [(0, (-1))], _, _, _)
                    exact ev_ret rfl (by decide) (by decide) ⟨⟨_, rfl, by omega, by omega, g79688, k79688⟩, fun r hr h0 => by cases hr; exfalso; omega, fun r hr => by cases hr; exact (Bd.F (Exists.elim H1 (fun _ z => (cr_c (q := (x5 + 2)) z (by omega) (by unfold nm2; rw [(bR_at (p := x5) k79688 (fun _ => rfl) ew0 (((jw_ne e79688 (Or.inl (by decide))).trans ev79613)) (by omega) (by omega)), (bR_at (p := (x5 + 1)) k79688 (fun _ => rfl) ew0 (((jw_ne e79688 (Or.inl (by decide))).trans ev79632)) (by omega) (by omega))]; (repeat' split) <;> omega) (by omega) (fun z => absurd ((bR_at (p := (x5 + 2)) k79688 (fun _ => rfl) ew0 (((jw_ne e79688 (Or.inl (by decide))).trans ev79669)) (by omega) (by omega)).symm.trans z) (by omega)) (by omega)))) ((jw_eq e79688)))⟩
set_option maxHeartbeats 4000000 in
theorem t270f_s {G : GH} {h : JH} (g : Gd G h) {l0 : Int} (ll0 : 0 ≤ l0) (ul0 : l0 ≤ 6) {a1 : Int} (la1 : 0 ≤ a1) (ua1 : a1 ≤ 202) {a2 : Int} (la2 : 0 ≤ a2) (ua2 : a2 ≤ 15) {a3 : Int} (la3 : 0 ≤ a3) (ua3 : a3 ≤ 12) {w0 : Int} (ew0 : h.2.2 42 17 = w0) (lw0 : 0 ≤ w0) (uw0 : w0 ≤ 200) {K : Int → Int × Int × Int} {q : Nat} (hI : Iv h) (hL : Lv h l0 a1) (hK : KoR h K) (hq : 13 - a3 = q) (hN : h.2.2 42 1 ≤ 4) (hq3 : h.2.2 54 (a1).toNat = 63) {M : Int} (hM : M = (7 * a3 - l0)) {d : Nat} (hd : 0 ≤ d) (rih : ∀ {G : GH} {h : JH} (g : Gd G h) {l0 : Int} (ll0 : 0 ≤ l0) (ul0 : l0 ≤ 6) {a1 : Int} (la1 : 0 ≤ a1) (ua1 : a1 ≤ 202) {a2 : Int} (la2 : 0 ≤ a2) (ua2 : a2 ≤ 15) {a3 : Int} (la3 : 0 ≤ a3) (ua3 : a3 ≤ 12) {w0 : Int} (ew0 : h.2.2 42 17 = w0) (lw0 : 0 ≤ w0) (uw0 : w0 ≤ 200) {K : Int → Int × Int × Int} {q : Nat} (hI : Iv h) (hL : Lv h l0 a1) (hK : KoR h K) (hq : 13 - a3 = q) (hN : h.2.2 42 1 ≤ 4) (hm : M + 1 ≤ (7 * a3 - l0)), jOk d 0 0 272 [(2, 42), (0, a1), (0, a2), (0, a3), (0, 0)] h (fun v h' => PI G [(42, 21)] h 0 (-1) 200 v h' ∧ (∀ r, v = some (0, r) → 0 ≤ r → Ad h l0 a1 r) ∧ (∀ r, v = some (0, r) → RdF (bR h) h' (RQ h K q a2 a3 a1) r))) : jOk (d + 3) 0 0 270 [(2, 42), (0, a1), (0, a2), (0, a3), (0, 0)] h (fun v h' => PI G [(42, 21)] h 0 (-1) 200 v h' ∧ (∀ r, v = some (0, r) → 0 ≤ r → Ad h l0 a1 r) ∧ (∀ r, v = some (0, r) → RdF (bR h) h' (if bR h (a1 + 1) ≠ 40 ∨ 12 ≤ a3 then rF (a1 + 1) else chL (bR h) (RQ h K (q - 1) a2 (a3 + 1)) 4 (a1 + 2) 0 0 1) r)) := by
  refine ⟨by decide, by rw [ml270]; exact Nat.le_of_ble_eq_true rfl, ?_⟩
  rw [ml270, pp270]
  show jEv _ none _ c270_0 0 0 _ (c270_0, [(2, 42), (0, a1), (0, a2), (0, a3), (0, 0), (9, 0), (9, 0), (9, 0), (9, 0), (9, 0)], [], h, 0, 0)
  have k0 := Kp.rf [(42, 21)] h
  refine ev_iload_n rfl ?_
  refine ev_iconst ?_
  refine ev_iadd (r := (a1 + 1)) (by unfold w32; omega) ?_
  refine ev_istore (L' := [(2, 42), (0, a1), (0, a2), (0, a3), (0, 0), (0, (a1 + 1)), (9, 0), (9, 0), (9, 0), (9, 0)]) (Nat.le_of_ble_eq_true rfl) rfl ?_
  refine ev_aload_n rfl ?_
  refine ev_iload rfl ?_
  refine ev_in (d := (d + 1)) (a := 0) (b := 0) (cd' := c264_0) (m := 2) (L0 := [(2, 42), (0, (a1 + 1))]) (jcall_v (A := [(0, (a1 + 1))]) (S' := []) (r := 42) rfl (g.lt ad42) (g.tg ad42) (Nat.le_of_ble_eq_true rfl)) (by decide) ml264 pp264 (Nat.le_of_ble_eq_true rfl) rfl (by decide) (by decide) ?_
  refine ev_iload_n rfl ?_
  refine ev_aload_n rfl ?_
  refine g_getv (r := 42) (v := w0) g ad42 (by decide) ft12_17 (ew0) ?_
  refine ev_icmpge f264_17 (fun c79689 => ?_) (fun c79689 => ?_)
  · refine ev_iconst ?_
    refine ev_ret rfl (by decide) (by decide) ?_
    show jEv _ _ _ _ _ _ _ (_, [(2, 42), (0, a1), (0, a2), (0, a3), (0, 0), (0, (a1 + 1)), (9, 0), (9, 0), (9, 0), (9, 0)], [(0, (-1))], _, _, _)
    refine ev_bipush ?_
    refine ev_icmpne f270_22 (fun c79690 => ?_) (fun c79690 => absurd c79690 (by omega))
    refine ev_aload_n rfl ?_
    refine ev_iload rfl ?_
    refine ev_in (d := (d + 1)) (a := 0) (b := 0) (cd' := c266_0) (m := 2) (L0 := [(2, 42), (0, (a1 + 1))]) (jcall_v (A := [(0, (a1 + 1))]) (S' := []) (r := 42) rfl (g.lt ad42) (g.tg ad42) (Nat.le_of_ble_eq_true rfl)) (by decide) ml266 pp266 (Nat.le_of_ble_eq_true rfl) rfl (by decide) (by decide) ?_
    refine ev_aload_n rfl ?_
    refine ev_iload_n rfl ?_
    refine g_putf (r := 42) g ad42 (by decide) ft12_20 (by decide) (fun e => absurd e nz12_20) rf42_20 (by decide) (by omega) (by omega) (fun h79691 e79691 g79691 => ?_)
    have k79691 := k0.wr e79691 rfl
    refine ev_iconst ?_
    refine ev_ret rfl (by decide) (by decide) ?_
    show jEv _ _ _ _ _ _ _ (_, [(2, 42), (0, a1), (0, a2), (0, a3), (0, 0), (0, (a1 + 1)), (9, 0), (9, 0), (9, 0), (9, 0)], [(0, (-1))], _, _, _)
    exact ev_ret rfl (by decide) (by decide) ⟨⟨_, rfl, by omega, by omega, g79691, k79691⟩, fun r hr h0 => by cases hr; exfalso; omega, fun r hr => by cases hr; exact (Bd.F (bd_rF (p := a1 + 1) (if_pos (Or.inl (fun z => absurd ((bR_end (p := (a1 + 1)) ew0 (by omega)).symm.trans z) (by omega)))) (by omega) (by omega)) ((jw_eq e79691)))⟩
  · refine ev_aload_n rfl ?_
    refine g_getp (r := 42) (c := 54) g ad42 (by decide) (by decide) rf42_16 ft12_16 ?_
    refine ev_iload_n rfl ?_
    refine g_bald g ad54 rt54 (by omega) (by omega) (fun v79692 ev79692 lv79692 uv79692 => ?_)
    refine ev_goto f264_18 ?_
    refine ev_ret rfl (by decide) (by decide) ?_
    show jEv _ _ _ _ _ _ _ (_, [(2, 42), (0, a1), (0, a2), (0, a3), (0, 0), (0, (a1 + 1)), (9, 0), (9, 0), (9, 0), (9, 0)], [(0, v79692)], _, _, _)
    refine ev_bipush ?_
    refine ev_icmpne f270_22 (fun c79693 => ?_) (fun c79693 => ?_)
    · refine ev_aload_n rfl ?_
      refine ev_iload rfl ?_
      refine ev_in (d := (d + 1)) (a := 0) (b := 0) (cd' := c266_0) (m := 2) (L0 := [(2, 42), (0, (a1 + 1))]) (jcall_v (A := [(0, (a1 + 1))]) (S' := []) (r := 42) rfl (g.lt ad42) (g.tg ad42) (Nat.le_of_ble_eq_true rfl)) (by decide) ml266 pp266 (Nat.le_of_ble_eq_true rfl) rfl (by decide) (by decide) ?_
      refine ev_aload_n rfl ?_
      refine ev_iload_n rfl ?_
      refine g_putf (r := 42) g ad42 (by decide) ft12_20 (by decide) (fun e => absurd e nz12_20) rf42_20 (by decide) (by omega) (by omega) (fun h79694 e79694 g79694 => ?_)
      have k79694 := k0.wr e79694 rfl
      refine ev_iconst ?_
      refine ev_ret rfl (by decide) (by decide) ?_
      show jEv _ _ _ _ _ _ _ (_, [(2, 42), (0, a1), (0, a2), (0, a3), (0, 0), (0, (a1 + 1)), (9, 0), (9, 0), (9, 0), (9, 0)], [(0, (-1))], _, _, _)
      exact ev_ret rfl (by decide) (by decide) ⟨⟨_, rfl, by omega, by omega, g79694, k79694⟩, fun r hr h0 => by cases hr; exfalso; omega, fun r hr => by cases hr; exact (Bd.F (bd_rF (p := a1 + 1) (if_pos (Or.inl (fun z => absurd ((bR_at (p := (a1 + 1)) k79694 (fun _ => rfl) ew0 (((jw_ne e79694 (Or.inl (by decide))).trans ev79692)) (by omega) (by omega)).symm.trans z) (by omega)))) (by omega) (by omega)) ((jw_eq e79694)))⟩
    · refine ev_iload_n rfl ?_
      refine ev_bipush ?_
      refine ev_icmpne f270_29 (fun c79695 => ?_) (fun c79695 => ?_)
      · refine ev_aload_n rfl ?_
        refine ev_iload rfl ?_
        refine ev_iconst ?_
        refine ev_iconst ?_
        refine ev_in (d := (d + 1)) (a := 0) (b := 0) (cd' := c267_0) (m := 6) (L0 := [(2, 42), (0, 0), (0, 1), (0, 0), (9, 0), (9, 0)]) (jcall_v (A := [(0, 0), (0, 1), (0, 0)]) (S' := []) (r := 42) rfl (g.lt ad42) (g.tg ad42) (Nat.le_of_ble_eq_true rfl)) (by decide) ml267 pp267 (Nat.le_of_ble_eq_true rfl) rfl (by decide) (by decide) ?_
        refine ev_iload_n rfl ?_
        refine ev_ifne f267_6 (fun c79696 => absurd c79696 (by omega)) (fun c79696 => ?_)
        refine ev_iconst ?_
        refine ev_ret rfl (by decide) (by decide) ?_
        show jEv _ _ _ _ _ _ _ (_, [(2, 42), (0, a1), (0, a2), (0, a3), (0, 0), (0, (a1 + 1)), (9, 0), (9, 0), (9, 0), (9, 0)], [(0, (-1))], _, _, _)
        refine ev_istore (L' := [(2, 42), (0, a1), (0, a2), (0, a3), (0, 0), (0, (a1 + 1)), (0, (-1)), (9, 0), (9, 0), (9, 0)]) (Nat.le_of_ble_eq_true rfl) rfl ?_
        refine ev_iconst ?_
        refine ev_istore (L' := [(2, 42), (0, a1), (0, a2), (0, a3), (0, 0), (0, (a1 + 1)), (0, (-1)), (0, 0), (9, 0), (9, 0)]) (Nat.le_of_ble_eq_true rfl) rfl ?_
        refine ev_iinc (w := (a1 + 2)) (L' := [(2, 42), (0, a1), (0, a2), (0, a3), (0, 0), (0, (a1 + 2)), (0, (-1)), (0, 0), (9, 0), (9, 0)]) rfl (by unfold w32; omega) rfl ?_
        exact (t270f_s_l ll0 ul0 la1 ua1 la2 ua2 la3 ua3 ew0 lw0 uw0 hI hL hK hq hN hq3 hM hd rih 8) _ _ _ _ _ g k0 (by omega) (by omega) (by omega) (by omega) (by omega) (by omega) (by omega) (by omega) (by omega) (by omega) (Ad.step (r' := (a1 + 2)) (Ad.step (r' := (a1 + 1)) (Ad.rf _ _ _) (by omega) k0 (fun _ => rfl) (hq3) (by omega) (by omega) (by omega)) (by omega) k0 (fun _ => rfl) (ev79692) (by omega) (by omega) (by omega)) ⟨_, cr_start (show (if bR h (a1 + 1) ≠ 40 ∨ 12 ≤ a3 then rF (a1 + 1) else chL (bR h) (RQ h K (q - 1) a2 (a3 + 1)) 4 (a1 + 2) 0 0 1) = chL (bR h) (RQ h K (q - 1) a2 (a3 + 1)) 4 (a1 + 2) 0 0 1 from if_neg (fun z => by rw [(bR_at (p := (a1 + 1)) k0 (fun _ => rfl) ew0 (ev79692) (by omega) (by omega))] at z; omega)) (by omega) rfl⟩ (by omega)
      · refine ev_aload_n rfl ?_
        refine ev_iload rfl ?_
        refine ev_in (d := (d + 1)) (a := 0) (b := 0) (cd' := c266_0) (m := 2) (L0 := [(2, 42), (0, (a1 + 1))]) (jcall_v (A := [(0, (a1 + 1))]) (S' := []) (r := 42) rfl (g.lt ad42) (g.tg ad42) (Nat.le_of_ble_eq_true rfl)) (by decide) ml266 pp266 (Nat.le_of_ble_eq_true rfl) rfl (by decide) (by decide) ?_
        refine ev_aload_n rfl ?_
        refine ev_iload_n rfl ?_
        refine g_putf (r := 42) g ad42 (by decide) ft12_20 (by decide) (fun e => absurd e nz12_20) rf42_20 (by decide) (by omega) (by omega) (fun h79697 e79697 g79697 => ?_)
        have k79697 := k0.wr e79697 rfl
        refine ev_iconst ?_
        refine ev_ret rfl (by decide) (by decide) ?_
        show jEv _ _ _ _ _ _ _ (_, [(2, 42), (0, a1), (0, a2), (0, a3), (0, 0), (0, (a1 + 1)), (9, 0), (9, 0), (9, 0), (9, 0)], [(0, (-1))], _, _, _)
        exact ev_ret rfl (by decide) (by decide) ⟨⟨_, rfl, by omega, by omega, g79697, k79697⟩, fun r hr h0 => by cases hr; exfalso; omega, fun r hr => by cases hr; exact (Bd.F (bd_rF (p := a1 + 1) (if_pos (Or.inr (by omega))) (by omega) (by omega)) ((jw_eq e79697)))⟩
set_option maxHeartbeats 4000000 in
theorem t271f_s_l {G : GH} {h : JH} {l0 : Int} (ll0 : 0 ≤ l0) (ul0 : l0 ≤ 6) {a1 : Int} (la1 : 0 ≤ a1) (ua1 : a1 ≤ 202) {a2 : Int} (la2 : 0 ≤ a2) (ua2 : a2 ≤ 15) {a3 : Int} (la3 : 0 ≤ a3) (ua3 : a3 ≤ 12) {w0 : Int} (ew0 : h.2.2 42 17 = w0) (lw0 : 0 ≤ w0) (uw0 : w0 ≤ 200) {K : Int → Int × Int × Int} {q : Nat} (hI : Iv h) (hL : Lv h l0 a1) (hK : KoR h K) (hq : 13 - a3 = q) (hN : h.2.2 42 1 ≤ 4) (hq3 : h.2.2 54 (a1).toNat = 33) {M : Int} (hM : M = (7 * a3 - l0)) {d : Nat} (hd : 0 ≤ d) (rih : ∀ {G : GH} {h : JH} (g : Gd G h) {l0 : Int} (ll0 : 0 ≤ l0) (ul0 : l0 ≤ 6) {a1 : Int} (la1 : 0 ≤ a1) (ua1 : a1 ≤ 202) {a2 : Int} (la2 : 0 ≤ a2) (ua2 : a2 ≤ 15) {a3 : Int} (la3 : 0 ≤ a3) (ua3 : a3 ≤ 12) {w0 : Int} (ew0 : h.2.2 42 17 = w0) (lw0 : 0 ≤ w0) (uw0 : w0 ≤ 200) {K : Int → Int × Int × Int} {q : Nat} (hI : Iv h) (hL : Lv h l0 a1) (hK : KoR h K) (hq : 13 - a3 = q) (hN : h.2.2 42 1 ≤ 4) (hm : M + 1 ≤ (7 * a3 - l0)), jOk d 0 0 272 [(2, 42), (0, a1), (0, a2), (0, a3), (0, 0)] h (fun v h' => PI G [(42, 21)] h 0 (-1) 200 v h' ∧ (∀ r, v = some (0, r) → 0 ≤ r → Ad h l0 a1 r) ∧ (∀ r, v = some (0, r) → RdF (bR h) h' (RQ h K q a2 a3 a1) r))) : ∀ N : Nat, (∀ (h1 : JH) (x5 x6 x8 y0 y1 : Int), Gd G h1 → Kp [(42, 21)] h h1 → 0 ≤ a1 → a1 ≤ 197 → 0 ≤ a2 → a2 ≤ 15 → 0 ≤ a3 → a3 ≤ 11 → 0 ≤ x5 → x5 ≤ 3 → 1 ≤ x6 → x6 ≤ 200 → 0 ≤ x8 → x8 ≤ 3 → (x5 + (-y0)) ≤ (-1) → (x8 + (-y1)) ≤ 0 → h1.2.2 42 1 = y0 → 0 ≤ y0 → y0 ≤ 4 → h1.2.2 43 (x5).toNat = y1 → 2 ≤ y1 → y1 ≤ 3 → Ad h l0 a1 x6 → (∃ md, Tq (bR h) (RQ h K (q - 1) (jor a2 (jshl 1 x5)) (a3 + 1)) (tuL (bR h) (RQ h K (q - 1) (jor a2 (jshl 1 x5)) (a3 + 1)) (y1).toNat (a1 + 3) 0 0 1) x8 y1 x6 0 md) → (tuN (bR h) (h.2.2 42 1) (yR h) (fun t => RQ h K (q - 1) t (a3 + 1)) a2 a3 a1) = tuE (tuL (bR h) (RQ h K (q - 1) (jor a2 (jshl 1 x5)) (a3 + 1)) (y1).toNat (a1 + 3) 0 0 1) x5 → ((-x8) + 3) < N → jEv (jOk (d + 2)) none (fun _ => 0) c271_0 0 0 (fun v h' => PI G [(42, 21)] h 0 (-1) 200 v h' ∧ (∀ r, v = some (0, r) → 0 ≤ r → Ad h l0 a1 r) ∧ (∀ r, v = some (0, r) → RdF (bR h) h' (tuN (bR h) (h.2.2 42 1) (yR h) (fun t => RQ h K (q - 1) t (a3 + 1)) a2 a3 a1) r)) (c271_85, [(2, 42), (0, a1), (0, a2), (0, a3), (0, 0), (0, x5), (0, x6), (0, (-1)), (0, x8)], [], h1, 0, 0)) := by
  intro N
  induction N with
  | zero => exact fun h1 x5 x6 x8 y0 y1 g1 k1 b0 b1 b2 b3 b4 b5 b6 b7 b8 b9 b10 b11 b12 b13 b14 b15 b16 b17 b18 b19 b20 b21 b22 hm => absurd hm (by omega)
  | succ N ih =>
    show _
    intro h1 x5 x6 x8 y0 y1 g1 k1 b0 b1 b2 b3 b4 b5 b6 b7 b8 b9 b10 b11 b12 b13 ey0 ly0 uy0 ey1 ly1 uy1 H0 H1 H2 hm
    refine ev_iload rfl ?_
    refine ev_aload_n rfl ?_
    refine g_getp (r := 42) (c := 43) g1 ad42 (by decide) (by decide) rf42_2 ft12_2 ?_
    refine ev_iload rfl ?_
    refine g_ialdv (v := y1) g1 ad43 (by omega) (by omega) (ey1) ?_
    refine ev_icmpge f271_178 (fun c79845 => ?_) (fun c79845 => ?_)
    · refine ev_iload rfl ?_
      exact ev_ret rfl (by decide) (by decide) ⟨⟨_, rfl, by omega, by omega, g1, k1⟩, fun r hr h0 => by cases hr; exact H0, fun r hr => by cases hr; exact Or.inl (Exists.elim H1 (fun _ z => (let y := tq_e z H2 (by omega) (by omega) (show x6 = x6 from rfl); ⟨y.1, y.2.1⟩)))⟩
    · refine ev_aload_n rfl ?_
      refine ev_iload rfl ?_
      refine ev_iload rfl ?_
      refine ev_iconst ?_
      refine ev_in (d := (d + 1)) (a := 0) (b := 0) (cd' := c268_0) (m := 4) (L0 := [(2, 42), (0, (-1)), (0, x8), (0, 0)]) (jcall_v (A := [(0, 0), (0, x8), (0, (-1))]) (S' := []) (r := 42) rfl (g1.lt ad42) (g1.tg ad42) (Nat.le_of_ble_eq_true rfl)) (by decide) ml268 pp268 (Nat.le_of_ble_eq_true rfl) rfl (by decide) (by decide) ?_
      refine ev_iload_n rfl ?_
      refine ev_ifge f268_5 (fun c79846 => absurd c79846 (by omega)) (fun c79846 => ?_)
      refine ev_ret rfl (by decide) (by decide) ?_
      show jEv _ _ _ _ _ _ _ (_, [(2, 42), (0, a1), (0, a2), (0, a3), (0, 0), (0, x5), (0, x6), (0, (-1)), (0, x8)], [], _, _, _)
      refine ev_aload_n rfl ?_
      refine ev_iload rfl ?_
      refine ev_iload_n rfl ?_
      refine ev_iconst ?_
      refine ev_iload rfl ?_
      refine g_ishlB (a' := 1) (a := 1) (b := 3) (hi := 8) (by omega) (by omega) (by omega) (by omega) (by decide) (by decide) (fun v79847 ev79847 lv79847 uv79847 => ?_)
      refine g_iorB (k := 4) (hi := 15) (by decide) (by decide) (by omega) (by omega) (by omega) (by omega) (fun v79848 ev79848 lv79848 uv79848 => ?_)
      refine ev_iload_n rfl ?_
      refine ev_iconst ?_
      refine ev_iadd (r := (a3 + 1)) (by unfold w32; omega) ?_
      refine ev_iload rfl ?_
      refine ev_call (jcall_v (A := [(0, 0), (0, (a3 + 1)), (0, v79848), (0, x6)]) (S' := []) (r := 42) rfl (g1.lt ad42) (g1.tg ad42) (Nat.le_of_ble_eq_true rfl)) (jOk_le (by omega) (rih g1 (by omega) (by omega) (by omega) (by omega) (by omega) (by omega) (by omega) (by omega) (((k1.v (by decide)).trans ew0)) (by omega) (by omega) (l0 := l0) (Iv.kp hI k1 (fun _ => rfl) (fun _ => rfl) rfl) (Lv.at hL H0 k1 (fun _ => rfl) rfl) (K := K) (q := q - 1) (hK.kp k1 (fun _ => rfl) rfl (fun _ => rfl) rfl rfl (fun _ => rfl)) (by omega) (by rw [k1.v rfl]; exact hN) (by omega))) (by decide) (by decide) (fun w79849 h79849 q79849 => ?_)
      obtain ⟨q79849, ad79849, nr79849⟩ := q79849
      obtain ⟨v79850, rfl, lv79850, uv79850, g79849, kk79849⟩ := q79849
      have ad79849 := ad79849 _ rfl
      have nr79849 := nr79849 _ rfl
      have k79849 := k1.tr kk79849 (by decide)
      rw [RQ_kp k1 (fun _ => rfl) rfl (fun _ => rfl) rfl rfl, bR_kp k1 (fun _ => rfl) rfl] at nr79849
      show jEv _ _ _ _ _ _ _ (_, [(2, 42), (0, a1), (0, a2), (0, a3), (0, 0), (0, x5), (0, x6), (0, (-1)), (0, x8)], [(0, v79850)], _, _, _)
      refine ev_istore (L' := [(2, 42), (0, a1), (0, a2), (0, a3), (0, 0), (0, x5), (0, v79850), (0, (-1)), (0, x8)]) (Nat.le_of_ble_eq_true rfl) rfl ?_
      refine ev_iload rfl ?_
      refine ev_ifge f271_132 (fun c79851 => ?_) (fun c79851 => ?_)
      · refine ev_aload_n rfl ?_
        refine ev_iload rfl ?_
        refine ev_in (d := (d + 1)) (a := 0) (b := 0) (cd' := c264_0) (m := 2) (L0 := [(2, 42), (0, v79850)]) (jcall_v (A := [(0, v79850)]) (S' := []) (r := 42) rfl (g79849.lt ad42) (g79849.tg ad42) (Nat.le_of_ble_eq_true rfl)) (by decide) ml264 pp264 (Nat.le_of_ble_eq_true rfl) rfl (by decide) (by decide) ?_
        refine ev_iload_n rfl ?_
        refine ev_aload_n rfl ?_
        refine g_getv (r := 42) (v := w0) g79849 ad42 (by decide) ft12_17 (((kk79849.v (by decide)).trans ((k1.v (by decide)).trans ew0))) ?_
        refine ev_icmpge f264_17 (fun c79852 => ?_) (fun c79852 => ?_)
        · refine ev_iconst ?_
          refine ev_ret rfl (by decide) (by decide) ?_
          show jEv _ _ _ _ _ _ _ (_, [(2, 42), (0, a1), (0, a2), (0, a3), (0, 0), (0, x5), (0, v79850), (0, (-1)), (0, x8)], [(0, (-1))], _, _, _)
          refine ev_iload rfl ?_
          refine ev_iconst ?_
          refine ev_iadd (r := (x8 + 1)) (by unfold w32; omega) ?_
          refine ev_aload_n rfl ?_
          refine g_getp (r := 42) (c := 43) g79849 ad42 (by decide) (by decide) rf42_2 ft12_2 ?_
          refine ev_iload rfl ?_
          refine g_ialdv (v := y1) g79849 ad43 (by omega) (by omega) (((kk79849.v rfl).trans ey1)) ?_
          refine ev_icmpge f271_157 (fun c79853 => ?_) (fun c79853 => ?_)
          · refine ev_bipush ?_
            refine ev_icmpeq f271_169 (fun c79854 => absurd c79854 (by omega)) (fun c79854 => ?_)
            refine ev_aload_n rfl ?_
            refine ev_iload rfl ?_
            refine ev_in (d := (d + 1)) (a := 0) (b := 0) (cd' := c266_0) (m := 2) (L0 := [(2, 42), (0, v79850)]) (jcall_v (A := [(0, v79850)]) (S' := []) (r := 42) rfl (g79849.lt ad42) (g79849.tg ad42) (Nat.le_of_ble_eq_true rfl)) (by decide) ml266 pp266 (Nat.le_of_ble_eq_true rfl) rfl (by decide) (by decide) ?_
            refine ev_aload_n rfl ?_
            refine ev_iload_n rfl ?_
            refine g_putf (r := 42) g79849 ad42 (by decide) ft12_20 (by decide) (fun e => absurd e nz12_20) rf42_20 (by decide) (by omega) (by omega) (fun h79855 e79855 g79855 => ?_)
            have k79855 := k79849.wr e79855 rfl
            refine ev_iconst ?_
            refine ev_ret rfl (by decide) (by decide) ?_
            show jEv _ _ _ _ _ _ _ (_, [(2, 42), (0, a1), (0, a2), (0, a3), (0, 0), (0, x5), (0, v79850), (0, (-1)), (0, x8)], [(0, (-1))], _, _, _)
            exact ev_ret rfl (by decide) (by decide) ⟨⟨_, rfl, by omega, by omega, g79855, k79855⟩, fun r hr h0 => by cases hr; exfalso; omega, fun r hr => by cases hr; exact (Bd.F (Exists.elim H1 (fun _ z => (tq_x (v := v79850) z H2 (by omega) (by rw [(show (RQ h K (q - 1) (jor a2 (jshl 1 x5)) (a3 + 1)) _ = RQ h K (q - 1) v79848 (a3 + 1) x6 by rw [ev79847, ev79848])]; exact (nr79849.ok (by omega))) (Or.inr ⟨by omega, fun z => absurd ((bR_end (p := v79850) ew0 (by omega)).symm.trans z) (by omega)⟩) (by omega)))) ((jw_eq e79855)))⟩
          · refine ev_bipush ?_
            refine ev_goto f271_159 ?_
            refine ev_icmpeq f271_169 (fun c79856 => absurd c79856 (by omega)) (fun c79856 => ?_)
            refine ev_aload_n rfl ?_
            refine ev_iload rfl ?_
            refine ev_in (d := (d + 1)) (a := 0) (b := 0) (cd' := c266_0) (m := 2) (L0 := [(2, 42), (0, v79850)]) (jcall_v (A := [(0, v79850)]) (S' := []) (r := 42) rfl (g79849.lt ad42) (g79849.tg ad42) (Nat.le_of_ble_eq_true rfl)) (by decide) ml266 pp266 (Nat.le_of_ble_eq_true rfl) rfl (by decide) (by decide) ?_
            refine ev_aload_n rfl ?_
            refine ev_iload_n rfl ?_
            refine g_putf (r := 42) g79849 ad42 (by decide) ft12_20 (by decide) (fun e => absurd e nz12_20) rf42_20 (by decide) (by omega) (by omega) (fun h79857 e79857 g79857 => ?_)
            have k79857 := k79849.wr e79857 rfl
            refine ev_iconst ?_
            refine ev_ret rfl (by decide) (by decide) ?_
            show jEv _ _ _ _ _ _ _ (_, [(2, 42), (0, a1), (0, a2), (0, a3), (0, 0), (0, x5), (0, v79850), (0, (-1)), (0, x8)], [(0, (-1))], _, _, _)
            exact ev_ret rfl (by decide) (by decide) ⟨⟨_, rfl, by omega, by omega, g79857, k79857⟩, fun r hr h0 => by cases hr; exfalso; omega, fun r hr => by cases hr; exact (Bd.F (Exists.elim H1 (fun _ z => (tq_x (v := v79850) z H2 (by omega) (by rw [(show (RQ h K (q - 1) (jor a2 (jshl 1 x5)) (a3 + 1)) _ = RQ h K (q - 1) v79848 (a3 + 1) x6 by rw [ev79847, ev79848])]; exact (nr79849.ok (by omega))) (Or.inl ⟨by omega, fun z => absurd ((bR_end (p := v79850) ew0 (by omega)).symm.trans z) (by omega)⟩) (by omega)))) ((jw_eq e79857)))⟩
        · refine ev_aload_n rfl ?_
          refine g_getp (r := 42) (c := 54) g79849 ad42 (by decide) (by decide) rf42_16 ft12_16 ?_
          refine ev_iload_n rfl ?_
          refine g_bald g79849 ad54 rt54 (by omega) (by omega) (fun v79858 ev79858 lv79858 uv79858 => ?_)
          refine ev_goto f264_18 ?_
          refine ev_ret rfl (by decide) (by decide) ?_
          show jEv _ _ _ _ _ _ _ (_, [(2, 42), (0, a1), (0, a2), (0, a3), (0, 0), (0, x5), (0, v79850), (0, (-1)), (0, x8)], [(0, v79858)], _, _, _)
          refine ev_iload rfl ?_
          refine ev_iconst ?_
          refine ev_iadd (r := (x8 + 1)) (by unfold w32; omega) ?_
          refine ev_aload_n rfl ?_
          refine g_getp (r := 42) (c := 43) g79849 ad42 (by decide) (by decide) rf42_2 ft12_2 ?_
          refine ev_iload rfl ?_
          refine g_ialdv (v := y1) g79849 ad43 (by omega) (by omega) (((kk79849.v rfl).trans ey1)) ?_
          refine ev_icmpge f271_157 (fun c79859 => ?_) (fun c79859 => ?_)
          · refine ev_bipush ?_
            refine ev_icmpeq f271_169 (fun c79860 => ?_) (fun c79860 => ?_)
            · refine ev_iinc (w := (v79850 + 1)) (L' := [(2, 42), (0, a1), (0, a2), (0, a3), (0, 0), (0, x5), (0, (v79850 + 1)), (0, (-1)), (0, x8)]) rfl (by unfold w32; omega) rfl ?_
              refine ev_iinc (w := (x8 + 1)) (L' := [(2, 42), (0, a1), (0, a2), (0, a3), (0, 0), (0, x5), (0, (v79850 + 1)), (0, (-1)), (0, (x8 + 1))]) rfl (by unfold w32; omega) rfl ?_
              refine ev_goto f271_85 ?_
              exact ih _ _ _ _ _ _ g79849 k79849 (by omega) (by omega) (by omega) (by omega) (by omega) (by omega) (by omega) (by omega) (by omega) (by omega) (by omega) (by omega) (by omega) (by omega) (((kk79849.v (by decide)).trans ey0)) (by omega) (by omega) (((kk79849.v rfl).trans ey1)) (by omega) (by omega) (Ad.step (r' := (v79850 + 1)) (Ad.tr H0 k1 (fun _ => rfl) (ad79849 (by omega))) (by omega) k79849 (fun _ => rfl) (ev79858) (by omega) (by omega) (by omega)) (Exists.elim H1 (fun _ z => ⟨_, (tq_k (v := v79850) z (by omega) (by rw [(show (RQ h K (q - 1) (jor a2 (jshl 1 x5)) (a3 + 1)) _ = RQ h K (q - 1) v79848 (a3 + 1) x6 by rw [ev79847, ev79848])]; exact (nr79849.ok (by omega))) (Or.inr ⟨by omega, (bR_at (p := v79850) k79849 (fun _ => rfl) ew0 (ev79858) (by omega) (by omega)).trans (by omega)⟩) (by omega) (by omega) rfl)⟩)) H2 (by omega)
            · refine ev_aload_n rfl ?_
              refine ev_iload rfl ?_
              refine ev_in (d := (d + 1)) (a := 0) (b := 0) (cd' := c266_0) (m := 2) (L0 := [(2, 42), (0, v79850)]) (jcall_v (A := [(0, v79850)]) (S' := []) (r := 42) rfl (g79849.lt ad42) (g79849.tg ad42) (Nat.le_of_ble_eq_true rfl)) (by decide) ml266 pp266 (Nat.le_of_ble_eq_true rfl) rfl (by decide) (by decide) ?_
              refine ev_aload_n rfl ?_
              refine ev_iload_n rfl ?_
              refine g_putf (r := 42) g79849 ad42 (by decide) ft12_20 (by decide) (fun e => absurd e nz12_20) rf42_20 (by decide) (by omega) (by omega) (fun h79861 e79861 g79861 => ?_)
              have k79861 := k79849.wr e79861 rfl
              refine ev_iconst ?_
              refine ev_ret rfl (by decide) (by decide) ?_
              show jEv _ _ _ _ _ _ _ (_, [(2, 42), (0, a1), (0, a2), (0, a3), (0, 0), (0, x5), (0, v79850), (0, (-1)), (0, x8)], [(0, (-1))], _, _, _)
              exact ev_ret rfl (by decide) (by decide) ⟨⟨_, rfl, by omega, by omega, g79861, k79861⟩, fun r hr h0 => by cases hr; exfalso; omega, fun r hr => by cases hr; exact (Bd.F (Exists.elim H1 (fun _ z => (tq_x (v := v79850) z H2 (by omega) (by rw [(show (RQ h K (q - 1) (jor a2 (jshl 1 x5)) (a3 + 1)) _ = RQ h K (q - 1) v79848 (a3 + 1) x6 by rw [ev79847, ev79848])]; exact (nr79849.ok (by omega))) (Or.inr ⟨by omega, fun z => absurd ((bR_at (p := v79850) k79861 (fun _ => rfl) ew0 (((jw_ne e79861 (Or.inl (by decide))).trans ev79858)) (by omega) (by omega)).symm.trans z) (by omega)⟩) (by omega)))) ((jw_eq e79861)))⟩
          · refine ev_bipush ?_
            refine ev_goto f271_159 ?_
            refine ev_icmpeq f271_169 (fun c79862 => ?_) (fun c79862 => ?_)
            · refine ev_iinc (w := (v79850 + 1)) (L' := [(2, 42), (0, a1), (0, a2), (0, a3), (0, 0), (0, x5), (0, (v79850 + 1)), (0, (-1)), (0, x8)]) rfl (by unfold w32; omega) rfl ?_
              refine ev_iinc (w := (x8 + 1)) (L' := [(2, 42), (0, a1), (0, a2), (0, a3), (0, 0), (0, x5), (0, (v79850 + 1)), (0, (-1)), (0, (x8 + 1))]) rfl (by unfold w32; omega) rfl ?_
              refine ev_goto f271_85 ?_
              exact ih _ _ _ _ _ _ g79849 k79849 (by omega) (by omega) (by omega) (by omega) (by omega) (by omega) (by omega) (by omega) (by omega) (by omega) (by omega) (by omega) (by omega) (by omega) (((kk79849.v (by decide)).trans ey0)) (by omega) (by omega) (((kk79849.v rfl).trans ey1)) (by omega) (by omega) (Ad.step (r' := (v79850 + 1)) (Ad.tr H0 k1 (fun _ => rfl) (ad79849 (by omega))) (by omega) k79849 (fun _ => rfl) (ev79858) (by omega) (by omega) (by omega)) (Exists.elim H1 (fun _ z => ⟨_, (tq_k (v := v79850) z (by omega) (by rw [(show (RQ h K (q - 1) (jor a2 (jshl 1 x5)) (a3 + 1)) _ = RQ h K (q - 1) v79848 (a3 + 1) x6 by rw [ev79847, ev79848])]; exact (nr79849.ok (by omega))) (Or.inl ⟨by omega, (bR_at (p := v79850) k79849 (fun _ => rfl) ew0 (ev79858) (by omega) (by omega)).trans (by omega)⟩) (by omega) (by omega) rfl)⟩)) H2 (by omega)
            · refine ev_aload_n rfl ?_
              refine ev_iload rfl ?_
              refine ev_in (d := (d + 1)) (a := 0) (b := 0) (cd' := c266_0) (m := 2) (L0 := [(2, 42), (0, v79850)]) (jcall_v (A := [(0, v79850)]) (S' := []) (r := 42) rfl (g79849.lt ad42) (g79849.tg ad42) (Nat.le_of_ble_eq_true rfl)) (by decide) ml266 pp266 (Nat.le_of_ble_eq_true rfl) rfl (by decide) (by decide) ?_
              refine ev_aload_n rfl ?_
              refine ev_iload_n rfl ?_
              refine g_putf (r := 42) g79849 ad42 (by decide) ft12_20 (by decide) (fun e => absurd e nz12_20) rf42_20 (by decide) (by omega) (by omega) (fun h79863 e79863 g79863 => ?_)
              have k79863 := k79849.wr e79863 rfl
              refine ev_iconst ?_
              refine ev_ret rfl (by decide) (by decide) ?_
              show jEv _ _ _ _ _ _ _ (_, [(2, 42), (0, a1), (0, a2), (0, a3), (0, 0), (0, x5), (0, v79850), (0, (-1)), (0, x8)], [(0, (-1))], _, _, _)
              exact ev_ret rfl (by decide) (by decide) ⟨⟨_, rfl, by omega, by omega, g79863, k79863⟩, fun r hr h0 => by cases hr; exfalso; omega, fun r hr => by cases hr; exact (Bd.F (Exists.elim H1 (fun _ z => (tq_x (v := v79850) z H2 (by omega) (by rw [(show (RQ h K (q - 1) (jor a2 (jshl 1 x5)) (a3 + 1)) _ = RQ h K (q - 1) v79848 (a3 + 1) x6 by rw [ev79847, ev79848])]; exact (nr79849.ok (by omega))) (Or.inl ⟨by omega, fun z => absurd ((bR_at (p := v79850) k79863 (fun _ => rfl) ew0 (((jw_ne e79863 (Or.inl (by decide))).trans ev79858)) (by omega) (by omega)).symm.trans z) (by omega)⟩) (by omega)))) ((jw_eq e79863)))⟩
      · refine ev_iconst ?_
        exact ev_ret rfl (by decide) (by decide) ⟨⟨_, rfl, by omega, by omega, g79849, k79849⟩, fun r hr h0 => by cases hr; exfalso; omega, fun r hr => by cases hr; exact Bd.F (Exists.elim H1 (fun _ z => (tq_b z H2 (by omega) (by rw [(show (RQ h K (q - 1) (jor a2 (jshl 1 x5)) (a3 + 1)) _ = RQ h K (q - 1) v79848 (a3 + 1) x6 by rw [ev79847, ev79848])]; exact nr79849.bd (by omega))))) rfl⟩
set_option maxHeartbeats 4000000 in
theorem t271f_s {G : GH} {h : JH} (g : Gd G h) {l0 : Int} (ll0 : 0 ≤ l0) (ul0 : l0 ≤ 6) {a1 : Int} (la1 : 0 ≤ a1) (ua1 : a1 ≤ 202) {a2 : Int} (la2 : 0 ≤ a2) (ua2 : a2 ≤ 15) {a3 : Int} (la3 : 0 ≤ a3) (ua3 : a3 ≤ 12) {w0 : Int} (ew0 : h.2.2 42 17 = w0) (lw0 : 0 ≤ w0) (uw0 : w0 ≤ 200) {K : Int → Int × Int × Int} {q : Nat} (hI : Iv h) (hL : Lv h l0 a1) (hK : KoR h K) (hq : 13 - a3 = q) (hN : h.2.2 42 1 ≤ 4) (hq3 : h.2.2 54 (a1).toNat = 33) {M : Int} (hM : M = (7 * a3 - l0)) {d : Nat} (hd : 0 ≤ d) (rih : ∀ {G : GH} {h : JH} (g : Gd G h) {l0 : Int} (ll0 : 0 ≤ l0) (ul0 : l0 ≤ 6) {a1 : Int} (la1 : 0 ≤ a1) (ua1 : a1 ≤ 202) {a2 : Int} (la2 : 0 ≤ a2) (ua2 : a2 ≤ 15) {a3 : Int} (la3 : 0 ≤ a3) (ua3 : a3 ≤ 12) {w0 : Int} (ew0 : h.2.2 42 17 = w0) (lw0 : 0 ≤ w0) (uw0 : w0 ≤ 200) {K : Int → Int × Int × Int} {q : Nat} (hI : Iv h) (hL : Lv h l0 a1) (hK : KoR h K) (hq : 13 - a3 = q) (hN : h.2.2 42 1 ≤ 4) (hm : M + 1 ≤ (7 * a3 - l0)), jOk d 0 0 272 [(2, 42), (0, a1), (0, a2), (0, a3), (0, 0)] h (fun v h' => PI G [(42, 21)] h 0 (-1) 200 v h' ∧ (∀ r, v = some (0, r) → 0 ≤ r → Ad h l0 a1 r) ∧ (∀ r, v = some (0, r) → RdF (bR h) h' (RQ h K q a2 a3 a1) r))) : jOk (d + 3) 0 0 271 [(2, 42), (0, a1), (0, a2), (0, a3), (0, 0)] h (fun v h' => PI G [(42, 21)] h 0 (-1) 200 v h' ∧ (∀ r, v = some (0, r) → 0 ≤ r → Ad h l0 a1 r) ∧ (∀ r, v = some (0, r) → RdF (bR h) h' (tuN (bR h) (h.2.2 42 1) (yR h) (fun t => RQ h K (q - 1) t (a3 + 1)) a2 a3 a1) r)) := by
  refine ⟨by decide, by rw [ml271]; exact Nat.le_of_ble_eq_true rfl, ?_⟩
  rw [ml271, pp271]
  show jEv _ none _ c271_0 0 0 _ (c271_0, [(2, 42), (0, a1), (0, a2), (0, a3), (0, 0), (9, 0), (9, 0), (9, 0), (9, 0)], [], h, 0, 0)
  have k0 := Kp.rf [(42, 21)] h
  refine ev_aload_n rfl ?_
  refine ev_iload_n rfl ?_
  refine ev_iconst ?_
  refine ev_iadd (r := (a1 + 1)) (by unfold w32; omega) ?_
  refine ev_in (d := (d + 1)) (a := 0) (b := 0) (cd' := c264_0) (m := 2) (L0 := [(2, 42), (0, (a1 + 1))]) (jcall_v (A := [(0, (a1 + 1))]) (S' := []) (r := 42) rfl (g.lt ad42) (g.tg ad42) (Nat.le_of_ble_eq_true rfl)) (by decide) ml264 pp264 (Nat.le_of_ble_eq_true rfl) rfl (by decide) (by decide) ?_
  refine ev_iload_n rfl ?_
  refine ev_aload_n rfl ?_
  refine g_getv (r := 42) (v := w0) g ad42 (by decide) ft12_17 (ew0) ?_
  refine ev_icmpge f264_17 (fun c79864 => ?_) (fun c79864 => ?_)
  · refine ev_iconst ?_
    refine ev_ret rfl (by decide) (by decide) ?_
    show jEv _ _ _ _ _ _ _ (_, [(2, 42), (0, a1), (0, a2), (0, a3), (0, 0), (9, 0), (9, 0), (9, 0), (9, 0)], [(0, (-1))], _, _, _)
    refine ev_bipush ?_
    refine ev_isub (r := (-98)) (by decide) ?_
    refine ev_istore (L' := [(2, 42), (0, a1), (0, a2), (0, a3), (0, 0), (0, (-98)), (9, 0), (9, 0), (9, 0)]) (Nat.le_of_ble_eq_true rfl) rfl ?_
    refine ev_aload_n rfl ?_
    refine ev_iload rfl ?_
    refine ev_in (d := (d + 1)) (a := 0) (b := 0) (cd' := c245_0) (m := 2) (L0 := [(2, 42), (0, (-98))]) (jcall_v (A := [(0, (-98))]) (S' := []) (r := 42) rfl (g.lt ad42) (g.tg ad42) (Nat.le_of_ble_eq_true rfl)) (by decide) ml245 pp245 (Nat.le_of_ble_eq_true rfl) rfl (by decide) (by decide) ?_
    refine ev_iload_n rfl ?_
    refine ev_iconst ?_
    refine ev_aload_n rfl ?_
    obtain ⟨v79865, ev79865, lv79865, uv79865⟩ := g.rd ad42 (show 1 < 66 by decide) rf42_1
    refine g_getv (r := 42) (v := v79865) g ad42 (by decide) ft12_1 ev79865 ?_
    refine ev_iconst ?_
    refine ev_isub (r := (v79865 - 1)) (by unfold w32; omega) ?_
    refine ev_in (d := (d + 0)) (a := 0) (b := 0) (cd' := c242_0) (m := 3) (L0 := [(0, (-98)), (0, 0), (0, (v79865 - 1))]) (jcall_s (A := [(0, (v79865 - 1)), (0, 0), (0, (-98))]) (S' := []) (by decide) rfl (Nat.le_of_ble_eq_true rfl)) (by decide) ml242 pp242 (Nat.le_of_ble_eq_true rfl) rfl (by decide) (by decide) ?_
    refine ev_iload_n rfl ?_
    refine ev_iload_n rfl ?_
    refine ev_icmplt f242_14 (fun c79866 => ?_) (fun c79866 => absurd c79866 (by omega))
    refine ev_iconst ?_
    refine ev_ret rfl (by decide) (by decide) ?_
    show jEv _ _ _ _ _ _ _ (_, [(2, 42), (0, (-98))], [(0, 0)], _, _, _)
    refine ev_ret rfl (by decide) (by decide) ?_
    show jEv _ _ _ _ _ _ _ (_, [(2, 42), (0, a1), (0, a2), (0, a3), (0, 0), (0, (-98)), (9, 0), (9, 0), (9, 0)], [(0, 0)], _, _, _)
    refine ev_ifeq f271_31 (fun c79867 => ?_) (fun c79867 => absurd c79867 (by omega))
    refine ev_aload_n rfl ?_
    refine ev_iload_n rfl ?_
    refine ev_iconst ?_
    refine ev_iadd (r := (a1 + 1)) (by unfold w32; omega) ?_
    refine ev_in (d := (d + 1)) (a := 0) (b := 0) (cd' := c266_0) (m := 2) (L0 := [(2, 42), (0, (a1 + 1))]) (jcall_v (A := [(0, (a1 + 1))]) (S' := []) (r := 42) rfl (g.lt ad42) (g.tg ad42) (Nat.le_of_ble_eq_true rfl)) (by decide) ml266 pp266 (Nat.le_of_ble_eq_true rfl) rfl (by decide) (by decide) ?_
    refine ev_aload_n rfl ?_
    refine ev_iload_n rfl ?_
    refine g_putf (r := 42) g ad42 (by decide) ft12_20 (by decide) (fun e => absurd e nz12_20) rf42_20 (by decide) (by omega) (by omega) (fun h79868 e79868 g79868 => ?_)
    have k79868 := k0.wr e79868 rfl
    refine ev_iconst ?_
    refine ev_ret rfl (by decide) (by decide) ?_
    show jEv _ _ _ _ _ _ _ (_, [(2, 42), (0, a1), (0, a2), (0, a3), (0, 0), (0, (-98)), (9, 0), (9, 0), (9, 0)], [(0, (-1))], _, _, _)
    exact ev_ret rfl (by decide) (by decide) ⟨⟨_, rfl, by omega, by omega, g79868, k79868⟩, fun r hr h0 => by cases hr; exfalso; omega, fun r hr => by cases hr; exact (Bd.F (bd_rF (p := a1 + 1) (tuN_1 (bR_end (p := (a1 + 1)) ew0 (by omega)) (Or.inl (by rw [show h.2.2 42 1 = v79865 from (k79868.v rfl).symm.trans (((jw_ne e79868 (Or.inr (by decide))).trans ev79865))]; omega))) (by omega) (by omega)) ((jw_eq e79868)))⟩
  · refine ev_aload_n rfl ?_
    refine g_getp (r := 42) (c := 54) g ad42 (by decide) (by decide) rf42_16 ft12_16 ?_
    refine ev_iload_n rfl ?_
    refine g_bald g ad54 rt54 (by omega) (by omega) (fun v79869 ev79869 lv79869 uv79869 => ?_)
    refine ev_goto f264_18 ?_
    refine ev_ret rfl (by decide) (by decide) ?_
    show jEv _ _ _ _ _ _ _ (_, [(2, 42), (0, a1), (0, a2), (0, a3), (0, 0), (9, 0), (9, 0), (9, 0), (9, 0)], [(0, v79869)], _, _, _)
    refine ev_bipush ?_
    refine ev_isub (r := (v79869 - 97)) (by unfold w32; omega) ?_
    refine ev_istore (L' := [(2, 42), (0, a1), (0, a2), (0, a3), (0, 0), (0, (v79869 - 97)), (9, 0), (9, 0), (9, 0)]) (Nat.le_of_ble_eq_true rfl) rfl ?_
    refine ev_aload_n rfl ?_
    refine ev_iload rfl ?_
    refine ev_in (d := (d + 1)) (a := 0) (b := 0) (cd' := c245_0) (m := 2) (L0 := [(2, 42), (0, (v79869 - 97))]) (jcall_v (A := [(0, (v79869 - 97))]) (S' := []) (r := 42) rfl (g.lt ad42) (g.tg ad42) (Nat.le_of_ble_eq_true rfl)) (by decide) ml245 pp245 (Nat.le_of_ble_eq_true rfl) rfl (by decide) (by decide) ?_
    refine ev_iload_n rfl ?_
    refine ev_iconst ?_
    refine ev_aload_n rfl ?_
    obtain ⟨v79870, ev79870, lv79870, uv79870⟩ := g.rd ad42 (show 1 < 66 by decide) rf42_1
    refine g_getv (r := 42) (v := v79870) g ad42 (by decide) ft12_1 ev79870 ?_
    refine ev_iconst ?_
    refine ev_isub (r := (v79870 - 1)) (by unfold w32; omega) ?_
    refine ev_in (d := (d + 0)) (a := 0) (b := 0) (cd' := c242_0) (m := 3) (L0 := [(0, (v79869 - 97)), (0, 0), (0, (v79870 - 1))]) (jcall_s (A := [(0, (v79870 - 1)), (0, 0), (0, (v79869 - 97))]) (S' := []) (by decide) rfl (Nat.le_of_ble_eq_true rfl)) (by decide) ml242 pp242 (Nat.le_of_ble_eq_true rfl) rfl (by decide) (by decide) ?_
    refine ev_iload_n rfl ?_
    refine ev_iload_n rfl ?_
    refine ev_icmplt f242_14 (fun c79871 => ?_) (fun c79871 => ?_)
    · refine ev_iconst ?_
      refine ev_ret rfl (by decide) (by decide) ?_
      show jEv _ _ _ _ _ _ _ (_, [(2, 42), (0, (v79869 - 97))], [(0, 0)], _, _, _)
      refine ev_ret rfl (by decide) (by decide) ?_
      show jEv _ _ _ _ _ _ _ (_, [(2, 42), (0, a1), (0, a2), (0, a3), (0, 0), (0, (v79869 - 97)), (9, 0), (9, 0), (9, 0)], [(0, 0)], _, _, _)
      refine ev_ifeq f271_31 (fun c79872 => ?_) (fun c79872 => absurd c79872 (by omega))
      refine ev_aload_n rfl ?_
      refine ev_iload_n rfl ?_
      refine ev_iconst ?_
      refine ev_iadd (r := (a1 + 1)) (by unfold w32; omega) ?_
      refine ev_in (d := (d + 1)) (a := 0) (b := 0) (cd' := c266_0) (m := 2) (L0 := [(2, 42), (0, (a1 + 1))]) (jcall_v (A := [(0, (a1 + 1))]) (S' := []) (r := 42) rfl (g.lt ad42) (g.tg ad42) (Nat.le_of_ble_eq_true rfl)) (by decide) ml266 pp266 (Nat.le_of_ble_eq_true rfl) rfl (by decide) (by decide) ?_
      refine ev_aload_n rfl ?_
      refine ev_iload_n rfl ?_
      refine g_putf (r := 42) g ad42 (by decide) ft12_20 (by decide) (fun e => absurd e nz12_20) rf42_20 (by decide) (by omega) (by omega) (fun h79873 e79873 g79873 => ?_)
      have k79873 := k0.wr e79873 rfl
      refine ev_iconst ?_
      refine ev_ret rfl (by decide) (by decide) ?_
      show jEv _ _ _ _ _ _ _ (_, [(2, 42), (0, a1), (0, a2), (0, a3), (0, 0), (0, (v79869 - 97)), (9, 0), (9, 0), (9, 0)], [(0, (-1))], _, _, _)
      exact ev_ret rfl (by decide) (by decide) ⟨⟨_, rfl, by omega, by omega, g79873, k79873⟩, fun r hr h0 => by cases hr; exfalso; omega, fun r hr => by cases hr; exact (Bd.F (bd_rF (p := a1 + 1) (tuN_1 (bR_at (p := (a1 + 1)) k79873 (fun _ => rfl) ew0 (((jw_ne e79873 (Or.inl (by decide))).trans ev79869)) (by omega) (by omega)) (Or.inl (by rw [show h.2.2 42 1 = v79870 from (k79873.v rfl).symm.trans (((jw_ne e79873 (Or.inr (by decide))).trans ev79870))]; omega))) (by omega) (by omega)) ((jw_eq e79873)))⟩
    · refine ev_iload_n rfl ?_
      refine ev_iload_n rfl ?_
      refine ev_icmpgt f242_14 (fun c79874 => ?_) (fun c79874 => ?_)
      · refine ev_iconst ?_
        refine ev_ret rfl (by decide) (by decide) ?_
        show jEv _ _ _ _ _ _ _ (_, [(2, 42), (0, (v79869 - 97))], [(0, 0)], _, _, _)
        refine ev_ret rfl (by decide) (by decide) ?_
        show jEv _ _ _ _ _ _ _ (_, [(2, 42), (0, a1), (0, a2), (0, a3), (0, 0), (0, (v79869 - 97)), (9, 0), (9, 0), (9, 0)], [(0, 0)], _, _, _)
        refine ev_ifeq f271_31 (fun c79875 => ?_) (fun c79875 => absurd c79875 (by omega))
        refine ev_aload_n rfl ?_
        refine ev_iload_n rfl ?_
        refine ev_iconst ?_
        refine ev_iadd (r := (a1 + 1)) (by unfold w32; omega) ?_
        refine ev_in (d := (d + 1)) (a := 0) (b := 0) (cd' := c266_0) (m := 2) (L0 := [(2, 42), (0, (a1 + 1))]) (jcall_v (A := [(0, (a1 + 1))]) (S' := []) (r := 42) rfl (g.lt ad42) (g.tg ad42) (Nat.le_of_ble_eq_true rfl)) (by decide) ml266 pp266 (Nat.le_of_ble_eq_true rfl) rfl (by decide) (by decide) ?_
        refine ev_aload_n rfl ?_
        refine ev_iload_n rfl ?_
        refine g_putf (r := 42) g ad42 (by decide) ft12_20 (by decide) (fun e => absurd e nz12_20) rf42_20 (by decide) (by omega) (by omega) (fun h79876 e79876 g79876 => ?_)
        have k79876 := k0.wr e79876 rfl
        refine ev_iconst ?_
        refine ev_ret rfl (by decide) (by decide) ?_
        show jEv _ _ _ _ _ _ _ (_, [(2, 42), (0, a1), (0, a2), (0, a3), (0, 0), (0, (v79869 - 97)), (9, 0), (9, 0), (9, 0)], [(0, (-1))], _, _, _)
        exact ev_ret rfl (by decide) (by decide) ⟨⟨_, rfl, by omega, by omega, g79876, k79876⟩, fun r hr h0 => by cases hr; exfalso; omega, fun r hr => by cases hr; exact (Bd.F (bd_rF (p := a1 + 1) (tuN_1 (bR_at (p := (a1 + 1)) k79876 (fun _ => rfl) ew0 (((jw_ne e79876 (Or.inl (by decide))).trans ev79869)) (by omega) (by omega)) (Or.inl (by rw [show h.2.2 42 1 = v79870 from (k79876.v rfl).symm.trans (((jw_ne e79876 (Or.inr (by decide))).trans ev79870))]; omega))) (by omega) (by omega)) ((jw_eq e79876)))⟩
      · refine ev_iconst ?_
        refine ev_goto f242_15 ?_
        refine ev_ret rfl (by decide) (by decide) ?_
        show jEv _ _ _ _ _ _ _ (_, [(2, 42), (0, (v79869 - 97))], [(0, 1)], _, _, _)
        refine ev_ret rfl (by decide) (by decide) ?_
        show jEv _ _ _ _ _ _ _ (_, [(2, 42), (0, a1), (0, a2), (0, a3), (0, 0), (0, (v79869 - 97)), (9, 0), (9, 0), (9, 0)], [(0, 1)], _, _, _)
        refine ev_ifeq f271_31 (fun c79877 => absurd c79877 (by omega)) (fun c79877 => ?_)
        refine ev_iload_n rfl ?_
        refine ev_iload rfl ?_
        refine g_ishrB (a := 15) (by omega) (by omega) (by decide) (fun v79878 ev79878 lv79878 uv79878 => ?_)
        refine ev_iconst ?_
        refine g_iandB (b := 1) (by omega) (by omega) (by decide) (fun v79879 ev79879 lv79879 uv79879 => ?_)
        refine ev_iconst ?_
        refine ev_icmpne f271_39 (fun c79880 => ?_) (fun c79880 => ?_)
        · refine ev_iload_n rfl ?_
          refine ev_iconst ?_
          refine ev_iadd (r := (a1 + 2)) (by unfold w32; omega) ?_
          refine ev_istore (L' := [(2, 42), (0, a1), (0, a2), (0, a3), (0, 0), (0, (v79869 - 97)), (0, (a1 + 2)), (9, 0), (9, 0)]) (Nat.le_of_ble_eq_true rfl) rfl ?_
          refine ev_aload_n rfl ?_
          refine ev_iload rfl ?_
          refine ev_in (d := (d + 1)) (a := 0) (b := 0) (cd' := c264_0) (m := 2) (L0 := [(2, 42), (0, (a1 + 2))]) (jcall_v (A := [(0, (a1 + 2))]) (S' := []) (r := 42) rfl (g.lt ad42) (g.tg ad42) (Nat.le_of_ble_eq_true rfl)) (by decide) ml264 pp264 (Nat.le_of_ble_eq_true rfl) rfl (by decide) (by decide) ?_
          refine ev_iload_n rfl ?_
          refine ev_aload_n rfl ?_
          refine g_getv (r := 42) (v := w0) g ad42 (by decide) ft12_17 (ew0) ?_
          refine ev_icmpge f264_17 (fun c79881 => ?_) (fun c79881 => ?_)
          · refine ev_iconst ?_
            refine ev_ret rfl (by decide) (by decide) ?_
            show jEv _ _ _ _ _ _ _ (_, [(2, 42), (0, a1), (0, a2), (0, a3), (0, 0), (0, (v79869 - 97)), (0, (a1 + 2)), (9, 0), (9, 0)], [(0, (-1))], _, _, _)
            refine ev_bipush ?_
            refine ev_icmpne f271_61 (fun c79882 => ?_) (fun c79882 => absurd c79882 (by omega))
            refine ev_aload_n rfl ?_
            refine ev_iload rfl ?_
            refine ev_in (d := (d + 1)) (a := 0) (b := 0) (cd' := c266_0) (m := 2) (L0 := [(2, 42), (0, (a1 + 2))]) (jcall_v (A := [(0, (a1 + 2))]) (S' := []) (r := 42) rfl (g.lt ad42) (g.tg ad42) (Nat.le_of_ble_eq_true rfl)) (by decide) ml266 pp266 (Nat.le_of_ble_eq_true rfl) rfl (by decide) (by decide) ?_
            refine ev_aload_n rfl ?_
            refine ev_iload_n rfl ?_
            refine g_putf (r := 42) g ad42 (by decide) ft12_20 (by decide) (fun e => absurd e nz12_20) rf42_20 (by decide) (by omega) (by omega) (fun h79883 e79883 g79883 => ?_)
            have k79883 := k0.wr e79883 rfl
            refine ev_iconst ?_
            refine ev_ret rfl (by decide) (by decide) ?_
            show jEv _ _ _ _ _ _ _ (_, [(2, 42), (0, a1), (0, a2), (0, a3), (0, 0), (0, (v79869 - 97)), (0, (a1 + 2)), (9, 0), (9, 0)], [(0, (-1))], _, _, _)
            exact ev_ret rfl (by decide) (by decide) ⟨⟨_, rfl, by omega, by omega, g79883, k79883⟩, fun r hr h0 => by cases hr; exfalso; omega, fun r hr => by cases hr; exact (Bd.F (bd_rF (p := a1 + 2) (tuN_2 (by rw [(bR_at (p := (a1 + 1)) k79883 (fun _ => rfl) ew0 (((jw_ne e79883 (Or.inl (by decide))).trans ev79869)) (by omega) (by omega))] <;> omega) (by omega) (by rw [show h.2.2 42 1 = v79870 from (k79883.v rfl).symm.trans (((jw_ne e79883 (Or.inr (by decide))).trans ev79870))]; omega) (fun z => absurd ((show bt a2 (v79869 - 97) = v79879 by unfold bt; rw [ev79878, ev79879]).symm.trans z) (by omega)) (Or.inl (fun z => absurd ((bR_end (p := (a1 + 2)) ew0 (by omega)).symm.trans z) (by omega)))) (by omega) (by omega)) ((jw_eq e79883)))⟩
          · refine ev_aload_n rfl ?_
            refine g_getp (r := 42) (c := 54) g ad42 (by decide) (by decide) rf42_16 ft12_16 ?_
            refine ev_iload_n rfl ?_
            refine g_bald g ad54 rt54 (by omega) (by omega) (fun v79884 ev79884 lv79884 uv79884 => ?_)
            refine ev_goto f264_18 ?_
            refine ev_ret rfl (by decide) (by decide) ?_
            show jEv _ _ _ _ _ _ _ (_, [(2, 42), (0, a1), (0, a2), (0, a3), (0, 0), (0, (v79869 - 97)), (0, (a1 + 2)), (9, 0), (9, 0)], [(0, v79884)], _, _, _)
            refine ev_bipush ?_
            refine ev_icmpne f271_61 (fun c79885 => ?_) (fun c79885 => ?_)
            · refine ev_aload_n rfl ?_
              refine ev_iload rfl ?_
              refine ev_in (d := (d + 1)) (a := 0) (b := 0) (cd' := c266_0) (m := 2) (L0 := [(2, 42), (0, (a1 + 2))]) (jcall_v (A := [(0, (a1 + 2))]) (S' := []) (r := 42) rfl (g.lt ad42) (g.tg ad42) (Nat.le_of_ble_eq_true rfl)) (by decide) ml266 pp266 (Nat.le_of_ble_eq_true rfl) rfl (by decide) (by decide) ?_
              refine ev_aload_n rfl ?_
              refine ev_iload_n rfl ?_
              refine g_putf (r := 42) g ad42 (by decide) ft12_20 (by decide) (fun e => absurd e nz12_20) rf42_20 (by decide) (by omega) (by omega) (fun h79886 e79886 g79886 => ?_)
              have k79886 := k0.wr e79886 rfl
              refine ev_iconst ?_
              refine ev_ret rfl (by decide) (by decide) ?_
              show jEv _ _ _ _ _ _ _ (_, [(2, 42), (0, a1), (0, a2), (0, a3), (0, 0), (0, (v79869 - 97)), (0, (a1 + 2)), (9, 0), (9, 0)], [(0, (-1))], _, _, _)
              exact ev_ret rfl (by decide) (by decide) ⟨⟨_, rfl, by omega, by omega, g79886, k79886⟩, fun r hr h0 => by cases hr; exfalso; omega, fun r hr => by cases hr; exact (Bd.F (bd_rF (p := a1 + 2) (tuN_2 (by rw [(bR_at (p := (a1 + 1)) k79886 (fun _ => rfl) ew0 (((jw_ne e79886 (Or.inl (by decide))).trans ev79869)) (by omega) (by omega))] <;> omega) (by omega) (by rw [show h.2.2 42 1 = v79870 from (k79886.v rfl).symm.trans (((jw_ne e79886 (Or.inr (by decide))).trans ev79870))]; omega) (fun z => absurd ((show bt a2 (v79869 - 97) = v79879 by unfold bt; rw [ev79878, ev79879]).symm.trans z) (by omega)) (Or.inl (fun z => absurd ((bR_at (p := (a1 + 2)) k79886 (fun _ => rfl) ew0 (((jw_ne e79886 (Or.inl (by decide))).trans ev79884)) (by omega) (by omega)).symm.trans z) (by omega)))) (by omega) (by omega)) ((jw_eq e79886)))⟩
            · refine ev_iload_n rfl ?_
              refine ev_bipush ?_
              refine ev_icmpne f271_68 (fun c79887 => ?_) (fun c79887 => ?_)
              · refine ev_aload_n rfl ?_
                refine ev_iload rfl ?_
                refine ev_iconst ?_
                refine ev_iload rfl ?_
                refine ev_in (d := (d + 1)) (a := 0) (b := 0) (cd' := c267_0) (m := 6) (L0 := [(2, 42), (0, 0), (0, 2), (0, (v79869 - 97)), (9, 0), (9, 0)]) (jcall_v (A := [(0, (v79869 - 97)), (0, 2), (0, 0)]) (S' := []) (r := 42) rfl (g.lt ad42) (g.tg ad42) (Nat.le_of_ble_eq_true rfl)) (by decide) ml267 pp267 (Nat.le_of_ble_eq_true rfl) rfl (by decide) (by decide) ?_
                refine ev_iload_n rfl ?_
                refine ev_ifne f267_6 (fun c79888 => absurd c79888 (by omega)) (fun c79888 => ?_)
                refine ev_iconst ?_
                refine ev_ret rfl (by decide) (by decide) ?_
                show jEv _ _ _ _ _ _ _ (_, [(2, 42), (0, a1), (0, a2), (0, a3), (0, 0), (0, (v79869 - 97)), (0, (a1 + 2)), (9, 0), (9, 0)], [(0, (-1))], _, _, _)
                refine ev_istore (L' := [(2, 42), (0, a1), (0, a2), (0, a3), (0, 0), (0, (v79869 - 97)), (0, (a1 + 2)), (0, (-1)), (9, 0)]) (Nat.le_of_ble_eq_true rfl) rfl ?_
                refine ev_iinc (w := (a1 + 3)) (L' := [(2, 42), (0, a1), (0, a2), (0, a3), (0, 0), (0, (v79869 - 97)), (0, (a1 + 3)), (0, (-1)), (9, 0)]) rfl (by unfold w32; omega) rfl ?_
                refine ev_iconst ?_
                refine ev_istore (L' := [(2, 42), (0, a1), (0, a2), (0, a3), (0, 0), (0, (v79869 - 97)), (0, (a1 + 3)), (0, (-1)), (0, 0)]) (Nat.le_of_ble_eq_true rfl) rfl ?_
                obtain ⟨v79889, ev79889, lv79889, uv79889⟩ := g.rd ad43 (show ((v79869 - 97)).toNat < 4 by omega) (rt43 _)
                have xv79889 := (g.ex.2.1 ((v79869 - 97) : Int).toNat (by rw [(ev79870)]; omega))
                rw [ev79889] at xv79889
                exact (t271f_s_l ll0 ul0 la1 ua1 la2 ua2 la3 ua3 ew0 lw0 uw0 hI hL hK hq hN hq3 hM hd rih 8) _ _ _ _ _ _ g k0 (by omega) (by omega) (by omega) (by omega) (by omega) (by omega) (by omega) (by omega) (by omega) (by omega) (by omega) (by omega) (by omega) (by omega) (ev79870) (by omega) (by omega) ev79889 (by omega) (by omega) (Ad.step (r' := (a1 + 3)) (Ad.step (r' := (a1 + 2)) (Ad.step (r' := (a1 + 1)) (Ad.rf _ _ _) (by omega) k0 (fun _ => rfl) (hq3) (by omega) (by omega) (by omega)) (by omega) k0 (fun _ => rfl) (ev79869) (by omega) (by omega) (by omega)) (by omega) k0 (fun _ => rfl) (ev79884) (by omega) (by omega) (by omega)) ⟨_, tq_start (by omega) (by omega) rfl⟩ (tuN_3 (y := v79889) (by rw [(bR_at (p := (a1 + 1)) k0 (fun _ => rfl) ew0 (ev79869) (by omega) (by omega))] <;> omega) (by omega) (by rw [show h.2.2 42 1 = v79870 from (k0.v rfl).symm.trans (ev79870)]; omega) (fun z => absurd ((show bt a2 (v79869 - 97) = v79879 by unfold bt; rw [ev79878, ev79879]).symm.trans z) (by omega)) ((bR_at (p := (a1 + 2)) k0 (fun _ => rfl) ew0 (ev79884) (by omega) (by omega)).trans (by omega)) (by omega) (yR_at k0 (fun _ => rfl) rfl (ev79870) (ev79889) (by omega) (by omega))) (by omega)
              · refine ev_aload_n rfl ?_
                refine ev_iload rfl ?_
                refine ev_in (d := (d + 1)) (a := 0) (b := 0) (cd' := c266_0) (m := 2) (L0 := [(2, 42), (0, (a1 + 2))]) (jcall_v (A := [(0, (a1 + 2))]) (S' := []) (r := 42) rfl (g.lt ad42) (g.tg ad42) (Nat.le_of_ble_eq_true rfl)) (by decide) ml266 pp266 (Nat.le_of_ble_eq_true rfl) rfl (by decide) (by decide) ?_
                refine ev_aload_n rfl ?_
                refine ev_iload_n rfl ?_
                refine g_putf (r := 42) g ad42 (by decide) ft12_20 (by decide) (fun e => absurd e nz12_20) rf42_20 (by decide) (by omega) (by omega) (fun h79890 e79890 g79890 => ?_)
                have k79890 := k0.wr e79890 rfl
                refine ev_iconst ?_
                refine ev_ret rfl (by decide) (by decide) ?_
                show jEv _ _ _ _ _ _ _ (_, [(2, 42), (0, a1), (0, a2), (0, a3), (0, 0), (0, (v79869 - 97)), (0, (a1 + 2)), (9, 0), (9, 0)], [(0, (-1))], _, _, _)
                exact ev_ret rfl (by decide) (by decide) ⟨⟨_, rfl, by omega, by omega, g79890, k79890⟩, fun r hr h0 => by cases hr; exfalso; omega, fun r hr => by cases hr; exact (Bd.F (bd_rF (p := a1 + 2) (tuN_2 (by rw [(bR_at (p := (a1 + 1)) k79890 (fun _ => rfl) ew0 (((jw_ne e79890 (Or.inl (by decide))).trans ev79869)) (by omega) (by omega))] <;> omega) (by omega) (by rw [show h.2.2 42 1 = v79870 from (k79890.v rfl).symm.trans (((jw_ne e79890 (Or.inr (by decide))).trans ev79870))]; omega) (fun z => absurd ((show bt a2 (v79869 - 97) = v79879 by unfold bt; rw [ev79878, ev79879]).symm.trans z) (by omega)) (Or.inr (by omega))) (by omega) (by omega)) ((jw_eq e79890)))⟩
        · refine ev_aload_n rfl ?_
          refine ev_iload_n rfl ?_
          refine ev_iconst ?_
          refine ev_iadd (r := (a1 + 1)) (by unfold w32; omega) ?_
          refine ev_in (d := (d + 1)) (a := 0) (b := 0) (cd' := c266_0) (m := 2) (L0 := [(2, 42), (0, (a1 + 1))]) (jcall_v (A := [(0, (a1 + 1))]) (S' := []) (r := 42) rfl (g.lt ad42) (g.tg ad42) (Nat.le_of_ble_eq_true rfl)) (by decide) ml266 pp266 (Nat.le_of_ble_eq_true rfl) rfl (by decide) (by decide) ?_
          refine ev_aload_n rfl ?_
          refine ev_iload_n rfl ?_
          refine g_putf (r := 42) g ad42 (by decide) ft12_20 (by decide) (fun e => absurd e nz12_20) rf42_20 (by decide) (by omega) (by omega) (fun h79891 e79891 g79891 => ?_)
          have k79891 := k0.wr e79891 rfl
          refine ev_iconst ?_
          refine ev_ret rfl (by decide) (by decide) ?_
          show jEv _ _ _ _ _ _ _ (_, [(2, 42), (0, a1), (0, a2), (0, a3), (0, 0), (0, (v79869 - 97)), (9, 0), (9, 0), (9, 0)], [(0, (-1))], _, _, _)
          exact ev_ret rfl (by decide) (by decide) ⟨⟨_, rfl, by omega, by omega, g79891, k79891⟩, fun r hr h0 => by cases hr; exfalso; omega, fun r hr => by cases hr; exact (Bd.F (bd_rF (p := a1 + 1) (tuN_1 (bR_at (p := (a1 + 1)) k79891 (fun _ => rfl) ew0 (((jw_ne e79891 (Or.inl (by decide))).trans ev79869)) (by omega) (by omega)) (Or.inr (by rw [show v79869 - 97 = (v79869 - 97) by omega]; show jand (jshr a2 (v79869 - 97)) 1 = 1; rw [ev79878, ev79879]; omega))) (by omega) (by omega)) ((jw_eq e79891)))⟩
