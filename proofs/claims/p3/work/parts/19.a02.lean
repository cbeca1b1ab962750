set_option maxHeartbeats 4000000 in
theorem t272f_s {G : GH} {h : JH} (g : Gd G h) {l0 : Int} (ll0 : 0 ≤ l0) (ul0 : l0 ≤ 6) {a1 : Int} (la1 : 0 ≤ a1) (ua1 : a1 ≤ 202) {a2 : Int} (la2 : 0 ≤ a2) (ua2 : a2 ≤ 15) {a3 : Int} (la3 : 0 ≤ a3) (ua3 : a3 ≤ 12) {w0 : Int} (ew0 : h.2.2 42 17 = w0) (lw0 : 0 ≤ w0) (uw0 : w0 ≤ 200) {K : Int → Int × Int × Int} {q : Nat} (hI : Iv h) (hL : Lv h l0 a1) (hK : KoR h K) (hq : 13 - a3 = q) (hN : h.2.2 42 1 ≤ 4) {M : Int} (hM : M = (7 * a3 - l0)) {d : Nat} (hd : 3 ≤ d) (rih : ∀ {G : GH} {h : JH} (g : Gd G h) {l0 : Int} (ll0 : 0 ≤ l0) (ul0 : l0 ≤ 6) {a1 : Int} (la1 : 0 ≤ a1) (ua1 : a1 ≤ 202) {a2 : Int} (la2 : 0 ≤ a2) (ua2 : a2 ≤ 15) {a3 : Int} (la3 : 0 ≤ a3) (ua3 : a3 ≤ 12) {w0 : Int} (ew0 : h.2.2 42 17 = w0) (lw0 : 0 ≤ w0) (uw0 : w0 ≤ 200) {K : Int → Int × Int × Int} {q : Nat} (hI : Iv h) (hL : Lv h l0 a1) (hK : KoR h K) (hq : 13 - a3 = q) (hN : h.2.2 42 1 ≤ 4) (hm : M + 1 ≤ (7 * a3 - l0)), jOk d 0 0 272 [(2, 42), (0, a1), (0, a2), (0, a3), (0, 0)] h (fun v h' => PI G [(42, 21)] h 0 (-1) 200 v h' ∧ (∀ r, v = some (0, r) → 0 ≤ r → Ad h l0 a1 r) ∧ (∀ r, v = some (0, r) → RdF (bR h) h' (RQ h K q a2 a3 a1) r))) : jOk (d + 4) 0 0 272 [(2, 42), (0, a1), (0, a2), (0, a3), (0, 0)] h (fun v h' => PI G [(42, 21)] h 0 (-1) 200 v h' ∧ (∀ r, v = some (0, r) → 0 ≤ r → Ad h l0 a1 r) ∧ (∀ r, v = some (0, r) → RdF (bR h) h' (RQ h K q a2 a3 a1) r)) := by
  refine ⟨by decide, by rw [ml272]; exact Nat.le_of_ble_eq_true rfl, ?_⟩
  rw [ml272, pp272]
  show jEv _ none _ c272_0 0 0 _ (c272_0, [(2, 42), (0, a1), (0, a2), (0, a3), (0, 0), (9, 0), (9, 0)], [], h, 0, 0)
  have k0 := Kp.rf [(42, 21)] h
  refine ev_aload_n rfl ?_
  refine ev_iload_n rfl ?_
  refine ev_in (d := (d + 2)) (a := 0) (b := 0) (cd' := c264_0) (m := 2) (L0 := [(2, 42), (0, a1)]) (jcall_v (A := [(0, a1)]) (S' := []) (r := 42) rfl (g.lt ad42) (g.tg ad42) (Nat.le_of_ble_eq_true rfl)) (by decide) ml264 pp264 (Nat.le_of_ble_eq_true rfl) rfl (by decide) (by decide) ?_
  refine ev_iload_n rfl ?_
  refine ev_aload_n rfl ?_
  refine g_getv (r := 42) (v := w0) g ad42 (by decide) ft12_17 (ew0) ?_
  refine ev_icmpge f264_17 (fun c79986 => ?_) (fun c79986 => ?_)
  · refine ev_iconst ?_
    refine ev_ret rfl (by decide) (by decide) ?_
    show jEv _ _ _ _ _ _ _ (_, [(2, 42), (0, a1), (0, a2), (0, a3), (0, 0), (9, 0), (9, 0)], [(0, (-1))], _, _, _)
    refine ev_istore (L' := [(2, 42), (0, a1), (0, a2), (0, a3), (0, 0), (0, (-1)), (9, 0)]) (Nat.le_of_ble_eq_true rfl) rfl ?_
    refine ev_iload rfl ?_
    refine ev_bipush ?_
    refine ev_icmpne f272_24 (fun c79987 => ?_) (fun c79987 => absurd c79987 (by omega))
    refine ev_iload rfl ?_
    refine ev_bipush ?_
    refine ev_icmpne f272_41 (fun c79988 => ?_) (fun c79988 => absurd c79988 (by omega))
    refine ev_iload rfl ?_
    refine ev_bipush ?_
    refine ev_icmpeq f272_56 (fun c79989 => absurd c79989 (by omega)) (fun c79989 => ?_)
    refine ev_aload_n rfl ?_
    refine ev_iload_n rfl ?_
    refine ev_in (d := (d + 2)) (a := 0) (b := 0) (cd' := c265_0) (m := 2) (L0 := [(2, 42), (0, a1)]) (jcall_v (A := [(0, a1)]) (S' := []) (r := 42) rfl (g.lt ad42) (g.tg ad42) (Nat.le_of_ble_eq_true rfl)) (by decide) ml265 pp265 (Nat.le_of_ble_eq_true rfl) rfl (by decide) (by decide) ?_
    refine ev_aload_n rfl ?_
    refine ev_iload_n rfl ?_
    refine ev_in (d := (d + 1)) (a := 0) (b := 0) (cd' := c264_0) (m := 2) (L0 := [(2, 42), (0, a1)]) (jcall_v (A := [(0, a1)]) (S' := []) (r := 42) rfl (g.lt ad42) (g.tg ad42) (Nat.le_of_ble_eq_true rfl)) (by decide) ml264 pp264 (Nat.le_of_ble_eq_true rfl) rfl (by decide) (by decide) ?_
    refine ev_iload_n rfl ?_
    refine ev_aload_n rfl ?_
    refine g_getv (r := 42) (v := w0) g ad42 (by decide) ft12_17 (ew0) ?_
    refine ev_icmpge f264_17 (fun c79990 => ?_) (fun c79990 => absurd c79990 (by omega))
    refine ev_iconst ?_
    refine ev_ret rfl (by decide) (by decide) ?_
    show jEv _ _ _ _ _ _ _ (_, [(2, 42), (0, a1)], [(0, (-1))], _, _, _)
    refine ev_bipush ?_
    refine ev_bipush ?_
    refine ev_in (d := (d + 1)) (a := 0) (b := 0) (cd' := c242_0) (m := 3) (L0 := [(0, (-1)), (0, 48), (0, 57)]) (jcall_s (A := [(0, 57), (0, 48), (0, (-1))]) (S' := []) (by decide) rfl (Nat.le_of_ble_eq_true rfl)) (by decide) ml242 pp242 (Nat.le_of_ble_eq_true rfl) rfl (by decide) (by decide) ?_
    refine ev_iload_n rfl ?_
    refine ev_iload_n rfl ?_
    refine ev_icmplt f242_14 (fun c79991 => ?_) (fun c79991 => absurd c79991 (by omega))
    refine ev_iconst ?_
    refine ev_ret rfl (by decide) (by decide) ?_
    show jEv _ _ _ _ _ _ _ (_, [(2, 42), (0, a1)], [(0, 0)], _, _, _)
    refine ev_ret rfl (by decide) (by decide) ?_
    show jEv _ _ _ _ _ _ _ (_, [(2, 42), (0, a1), (0, a2), (0, a3), (0, 0), (0, (-1)), (9, 0)], [(0, 0)], _, _, _)
    refine ev_ifeq f272_64 (fun c79992 => ?_) (fun c79992 => absurd c79992 (by omega))
    refine ev_iload rfl ?_
    refine ev_bipush ?_
    refine ev_isub (r := (-66)) (by decide) ?_
    refine ev_istore (L' := [(2, 42), (0, a1), (0, a2), (0, a3), (0, 0), (0, (-1)), (0, (-66))]) (Nat.le_of_ble_eq_true rfl) rfl ?_
    refine ev_iload rfl ?_
    refine ev_iconst ?_
    refine ev_aload_n rfl ?_
    obtain ⟨v79993, ev79993, lv79993, uv79993⟩ := g.rd ad42 (show 19 < 66 by decide) rf42_19
    refine g_getv (r := 42) (v := v79993) g ad42 (by decide) ft12_19 ev79993 ?_
    refine ev_iconst ?_
    refine ev_isub (r := (v79993 - 1)) (by unfold w32; omega) ?_
    refine ev_in (d := (d + 2)) (a := 0) (b := 0) (cd' := c242_0) (m := 3) (L0 := [(0, (-66)), (0, 0), (0, (v79993 - 1))]) (jcall_s (A := [(0, (v79993 - 1)), (0, 0), (0, (-66))]) (S' := []) (by decide) rfl (Nat.le_of_ble_eq_true rfl)) (by decide) ml242 pp242 (Nat.le_of_ble_eq_true rfl) rfl (by decide) (by decide) ?_
    refine ev_iload_n rfl ?_
    refine ev_iload_n rfl ?_
    refine ev_icmplt f242_14 (fun c79994 => ?_) (fun c79994 => absurd c79994 (by omega))
    refine ev_iconst ?_
    refine ev_ret rfl (by decide) (by decide) ?_
    show jEv _ _ _ _ _ _ _ (_, [(2, 42), (0, a1), (0, a2), (0, a3), (0, 0), (0, (-1)), (0, (-66))], [(0, 0)], _, _, _)
    refine ev_ifne f272_92 (fun c79995 => absurd c79995 (by omega)) (fun c79995 => ?_)
    refine ev_aload_n rfl ?_
    refine ev_iload_n rfl ?_
    refine ev_in (d := (d + 2)) (a := 0) (b := 0) (cd' := c266_0) (m := 2) (L0 := [(2, 42), (0, a1)]) (jcall_v (A := [(0, a1)]) (S' := []) (r := 42) rfl (g.lt ad42) (g.tg ad42) (Nat.le_of_ble_eq_true rfl)) (by decide) ml266 pp266 (Nat.le_of_ble_eq_true rfl) rfl (by decide) (by decide) ?_
    refine ev_aload_n rfl ?_
    refine ev_iload_n rfl ?_
    refine g_putf (r := 42) g ad42 (by decide) ft12_20 (by decide) (fun e => absurd e nz12_20) rf42_20 (by decide) (by omega) (by omega) (fun h79996 e79996 g79996 => ?_)
    have k79996 := k0.wr e79996 rfl
    refine ev_iconst ?_
    refine ev_ret rfl (by decide) (by decide) ?_
    show jEv _ _ _ _ _ _ _ (_, [(2, 42), (0, a1), (0, a2), (0, a3), (0, 0), (0, (-1)), (0, (-66))], [(0, (-1))], _, _, _)
    exact ev_ret rfl (by decide) (by decide) ⟨⟨_, rfl, by omega, by omega, g79996, k79996⟩, fun r hr h0 => by cases hr; exfalso; omega, fun r hr => by cases hr; exact (Bd.F (bd_rF (p := a1) (nocap (by omega) (by omega) (bR_end (p := a1) ew0 (by omega)) (by omega) (by omega) (by omega) (by omega) (by rw [(show h.2.2 42 19 = v79993 from (k79996.v rfl).symm.trans (((jw_ne e79996 (Or.inr (by decide))).trans ev79993)))]; omega)) (by omega) (by omega)) ((jw_eq e79996)))⟩
  · refine ev_aload_n rfl ?_
    refine g_getp (r := 42) (c := 54) g ad42 (by decide) (by decide) rf42_16 ft12_16 ?_
    refine ev_iload_n rfl ?_
    refine g_bald g ad54 rt54 (by omega) (by omega) (fun v79997 ev79997 lv79997 uv79997 => ?_)
    refine ev_goto f264_18 ?_
    refine ev_ret rfl (by decide) (by decide) ?_
    show jEv _ _ _ _ _ _ _ (_, [(2, 42), (0, a1), (0, a2), (0, a3), (0, 0), (9, 0), (9, 0)], [(0, v79997)], _, _, _)
    refine ev_istore (L' := [(2, 42), (0, a1), (0, a2), (0, a3), (0, 0), (0, v79997), (9, 0)]) (Nat.le_of_ble_eq_true rfl) rfl ?_
    refine ev_iload rfl ?_
    refine ev_bipush ?_
    refine ev_icmpne f272_24 (fun c79998 => ?_) (fun c79998 => ?_)
    · refine ev_iload rfl ?_
      refine ev_bipush ?_
      refine ev_icmpne f272_41 (fun c79999 => ?_) (fun c79999 => ?_)
      · refine ev_iload rfl ?_
        refine ev_bipush ?_
        refine ev_icmpeq f272_56 (fun c80000 => ?_) (fun c80000 => ?_)
        · refine ev_aload_n rfl ?_
          refine ev_iload_n rfl ?_
          refine ev_iload rfl ?_
          refine ev_call (jcall_v (A := [(0, 0), (0, a1)]) (S' := []) (r := 42) rfl (g.lt ad42) (g.tg ad42) (Nat.le_of_ble_eq_true rfl)) (jOk_le (by omega) (t269f g (by omega) (by omega) (by omega) (by omega) (ew0) (by omega) (by omega) (l0 := l0) )) (by decide) (by decide) (fun w80001 h80001 q80001 => ?_)
          obtain ⟨q80001, ad80001, nr80001⟩ := q80001
          obtain ⟨v80002, rfl, lv80002, uv80002, g80001, kk80001⟩ := q80001
          have ad80001 := ad80001 _ rfl
          have nr80001 := nr80001 _ rfl
          have k80001 := k0.tr kk80001 (by decide)
          show jEv _ _ _ _ _ _ _ (_, [(2, 42), (0, a1), (0, a2), (0, a3), (0, 0), (0, v79997), (9, 0)], [(0, v80002)], _, _, _)
          exact ev_ret rfl (by decide) (by decide) ⟨⟨_, rfl, by omega, by omega, g80001, k80001⟩, fun r hr h0 => by cases hr; exact ad80001 h0, fun r hr => by cases hr; exact (show _ from by rw [show (RQ h K q a2 a3 a1) = _ from ((((rd_s (B := bR h) (N := h.2.2 42 1) (Y := yR h) (m := h.2.2 42 19) (K := K) (q := q) (by omega) a2 a3 a1).trans (if_neg (fun z => absurd ((bR_at (p := a1) k80001 (fun _ => rfl) ew0 (((kk80001.v rfl).trans ev79997)) (by omega) (by omega)).symm.trans z) (by omega)))).trans (if_neg (fun z => absurd ((bR_at (p := a1) k80001 (fun _ => rfl) ew0 (((kk80001.v rfl).trans ev79997)) (by omega) (by omega)).symm.trans z) (by omega)))).trans (if_neg (fun z => by rw [(bR_at (p := a1) k80001 (fun _ => rfl) ew0 (((kk80001.v rfl).trans ev79997)) (by omega) (by omega))] at z; omega)))]; exact nr80001)⟩
        · refine ev_aload_n rfl ?_
          refine ev_iload_n rfl ?_
          refine ev_in (d := (d + 2)) (a := 0) (b := 0) (cd' := c265_0) (m := 2) (L0 := [(2, 42), (0, a1)]) (jcall_v (A := [(0, a1)]) (S' := []) (r := 42) rfl (g.lt ad42) (g.tg ad42) (Nat.le_of_ble_eq_true rfl)) (by decide) ml265 pp265 (Nat.le_of_ble_eq_true rfl) rfl (by decide) (by decide) ?_
          refine ev_aload_n rfl ?_
          refine ev_iload_n rfl ?_
          refine ev_in (d := (d + 1)) (a := 0) (b := 0) (cd' := c264_0) (m := 2) (L0 := [(2, 42), (0, a1)]) (jcall_v (A := [(0, a1)]) (S' := []) (r := 42) rfl (g.lt ad42) (g.tg ad42) (Nat.le_of_ble_eq_true rfl)) (by decide) ml264 pp264 (Nat.le_of_ble_eq_true rfl) rfl (by decide) (by decide) ?_
          refine ev_iload_n rfl ?_
          refine ev_aload_n rfl ?_
          refine g_getv (r := 42) (v := w0) g ad42 (by decide) ft12_17 (ew0) ?_
          refine ev_icmpge f264_17 (fun c80003 => absurd c80003 (by omega)) (fun c80003 => ?_)
          refine ev_aload_n rfl ?_
          refine g_getp (r := 42) (c := 54) g ad42 (by decide) (by decide) rf42_16 ft12_16 ?_
          refine ev_iload_n rfl ?_
          refine g_baldv (v := v79997) g ad54 (by omega) (by omega) (ev79997) ?_
          refine ev_goto f264_18 ?_
          refine ev_ret rfl (by decide) (by decide) ?_
          show jEv _ _ _ _ _ _ _ (_, [(2, 42), (0, a1)], [(0, v79997)], _, _, _)
          refine ev_bipush ?_
          refine ev_bipush ?_
          refine ev_in (d := (d + 1)) (a := 0) (b := 0) (cd' := c242_0) (m := 3) (L0 := [(0, v79997), (0, 48), (0, 57)]) (jcall_s (A := [(0, 57), (0, 48), (0, v79997)]) (S' := []) (by decide) rfl (Nat.le_of_ble_eq_true rfl)) (by decide) ml242 pp242 (Nat.le_of_ble_eq_true rfl) rfl (by decide) (by decide) ?_
          refine ev_iload_n rfl ?_
          refine ev_iload_n rfl ?_
          refine ev_icmplt f242_14 (fun c80004 => ?_) (fun c80004 => ?_)
          · refine ev_iconst ?_
            refine ev_ret rfl (by decide) (by decide) ?_
            show jEv _ _ _ _ _ _ _ (_, [(2, 42), (0, a1)], [(0, 0)], _, _, _)
            refine ev_ret rfl (by decide) (by decide) ?_
            show jEv _ _ _ _ _ _ _ (_, [(2, 42), (0, a1), (0, a2), (0, a3), (0, 0), (0, v79997), (9, 0)], [(0, 0)], _, _, _)
            refine ev_ifeq f272_64 (fun c80005 => ?_) (fun c80005 => absurd c80005 (by omega))
            refine ev_iload rfl ?_
            refine ev_bipush ?_
            refine ev_isub (r := (v79997 - 65)) (by unfold w32; omega) ?_
            refine ev_istore (L' := [(2, 42), (0, a1), (0, a2), (0, a3), (0, 0), (0, v79997), (0, (v79997 - 65))]) (Nat.le_of_ble_eq_true rfl) rfl ?_
            refine ev_iload rfl ?_
            refine ev_iconst ?_
            refine ev_aload_n rfl ?_
            obtain ⟨v80006, ev80006, lv80006, uv80006⟩ := g.rd ad42 (show 19 < 66 by decide) rf42_19
            refine g_getv (r := 42) (v := v80006) g ad42 (by decide) ft12_19 ev80006 ?_
            refine ev_iconst ?_
            refine ev_isub (r := (v80006 - 1)) (by unfold w32; omega) ?_
            refine ev_in (d := (d + 2)) (a := 0) (b := 0) (cd' := c242_0) (m := 3) (L0 := [(0, (v79997 - 65)), (0, 0), (0, (v80006 - 1))]) (jcall_s (A := [(0, (v80006 - 1)), (0, 0), (0, (v79997 - 65))]) (S' := []) (by decide) rfl (Nat.le_of_ble_eq_true rfl)) (by decide) ml242 pp242 (Nat.le_of_ble_eq_true rfl) rfl (by decide) (by decide) ?_
            refine ev_iload_n rfl ?_
            refine ev_iload_n rfl ?_
            refine ev_icmplt f242_14 (fun c80007 => ?_) (fun c80007 => absurd c80007 (by omega))
            refine ev_iconst ?_
            refine ev_ret rfl (by decide) (by decide) ?_
            show jEv _ _ _ _ _ _ _ (_, [(2, 42), (0, a1), (0, a2), (0, a3), (0, 0), (0, v79997), (0, (v79997 - 65))], [(0, 0)], _, _, _)
            refine ev_ifne f272_92 (fun c80008 => absurd c80008 (by omega)) (fun c80008 => ?_)
            refine ev_aload_n rfl ?_
            refine ev_iload_n rfl ?_
            refine ev_in (d := (d + 2)) (a := 0) (b := 0) (cd' := c266_0) (m := 2) (L0 := [(2, 42), (0, a1)]) (jcall_v (A := [(0, a1)]) (S' := []) (r := 42) rfl (g.lt ad42) (g.tg ad42) (Nat.le_of_ble_eq_true rfl)) (by decide) ml266 pp266 (Nat.le_of_ble_eq_true rfl) rfl (by decide) (by decide) ?_
            refine ev_aload_n rfl ?_
            refine ev_iload_n rfl ?_
            refine g_putf (r := 42) g ad42 (by decide) ft12_20 (by decide) (fun e => absurd e nz12_20) rf42_20 (by decide) (by omega) (by omega) (fun h80009 e80009 g80009 => ?_)
            have k80009 := k0.wr e80009 rfl
            refine ev_iconst ?_
            refine ev_ret rfl (by decide) (by decide) ?_
            show jEv _ _ _ _ _ _ _ (_, [(2, 42), (0, a1), (0, a2), (0, a3), (0, 0), (0, v79997), (0, (v79997 - 65))], [(0, (-1))], _, _, _)
            exact ev_ret rfl (by decide) (by decide) ⟨⟨_, rfl, by omega, by omega, g80009, k80009⟩, fun r hr h0 => by cases hr; exfalso; omega, fun r hr => by cases hr; exact (Bd.F (bd_rF (p := a1) (nocap (by omega) (by omega) (bR_at (p := a1) k80009 (fun _ => rfl) ew0 (((jw_ne e80009 (Or.inl (by decide))).trans ev79997)) (by omega) (by omega)) (by omega) (by omega) (by omega) (by omega) (by rw [(show h.2.2 42 19 = v80006 from (k80009.v rfl).symm.trans (((jw_ne e80009 (Or.inr (by decide))).trans ev80006)))]; omega)) (by omega) (by omega)) ((jw_eq e80009)))⟩
          · refine ev_iload_n rfl ?_
            refine ev_iload_n rfl ?_
            refine ev_icmpgt f242_14 (fun c80010 => ?_) (fun c80010 => ?_)
            · refine ev_iconst ?_
              refine ev_ret rfl (by decide) (by decide) ?_
              show jEv _ _ _ _ _ _ _ (_, [(2, 42), (0, a1)], [(0, 0)], _, _, _)
              refine ev_ret rfl (by decide) (by decide) ?_
              show jEv _ _ _ _ _ _ _ (_, [(2, 42), (0, a1), (0, a2), (0, a3), (0, 0), (0, v79997), (9, 0)], [(0, 0)], _, _, _)
              refine ev_ifeq f272_64 (fun c80011 => ?_) (fun c80011 => absurd c80011 (by omega))
              refine ev_iload rfl ?_
              refine ev_bipush ?_
              refine ev_isub (r := (v79997 - 65)) (by unfold w32; omega) ?_
              refine ev_istore (L' := [(2, 42), (0, a1), (0, a2), (0, a3), (0, 0), (0, v79997), (0, (v79997 - 65))]) (Nat.le_of_ble_eq_true rfl) rfl ?_
              refine ev_iload rfl ?_
              refine ev_iconst ?_
              refine ev_aload_n rfl ?_
              obtain ⟨v80012, ev80012, lv80012, uv80012⟩ := g.rd ad42 (show 19 < 66 by decide) rf42_19
              refine g_getv (r := 42) (v := v80012) g ad42 (by decide) ft12_19 ev80012 ?_
              refine ev_iconst ?_
              refine ev_isub (r := (v80012 - 1)) (by unfold w32; omega) ?_
              refine ev_in (d := (d + 2)) (a := 0) (b := 0) (cd' := c242_0) (m := 3) (L0 := [(0, (v79997 - 65)), (0, 0), (0, (v80012 - 1))]) (jcall_s (A := [(0, (v80012 - 1)), (0, 0), (0, (v79997 - 65))]) (S' := []) (by decide) rfl (Nat.le_of_ble_eq_true rfl)) (by decide) ml242 pp242 (Nat.le_of_ble_eq_true rfl) rfl (by decide) (by decide) ?_
              refine ev_iload_n rfl ?_
              refine ev_iload_n rfl ?_
              refine ev_icmplt f242_14 (fun c80013 => ?_) (fun c80013 => ?_)
              · refine ev_iconst ?_
                refine ev_ret rfl (by decide) (by decide) ?_
                show jEv _ _ _ _ _ _ _ (_, [(2, 42), (0, a1), (0, a2), (0, a3), (0, 0), (0, v79997), (0, (v79997 - 65))], [(0, 0)], _, _, _)
                refine ev_ifne f272_92 (fun c80014 => absurd c80014 (by omega)) (fun c80014 => ?_)
                refine ev_aload_n rfl ?_
                refine ev_iload_n rfl ?_
                refine ev_in (d := (d + 2)) (a := 0) (b := 0) (cd' := c266_0) (m := 2) (L0 := [(2, 42), (0, a1)]) (jcall_v (A := [(0, a1)]) (S' := []) (r := 42) rfl (g.lt ad42) (g.tg ad42) (Nat.le_of_ble_eq_true rfl)) (by decide) ml266 pp266 (Nat.le_of_ble_eq_true rfl) rfl (by decide) (by decide) ?_
                refine ev_aload_n rfl ?_
                refine ev_iload_n rfl ?_
                refine g_putf (r := 42) g ad42 (by decide) ft12_20 (by decide) (fun e => absurd e nz12_20) rf42_20 (by decide) (by omega) (by omega) (fun h80015 e80015 g80015 => ?_)
                have k80015 := k0.wr e80015 rfl
                refine ev_iconst ?_
                refine ev_ret rfl (by decide) (by decide) ?_
                show jEv _ _ _ _ _ _ _ (_, [(2, 42), (0, a1), (0, a2), (0, a3), (0, 0), (0, v79997), (0, (v79997 - 65))], [(0, (-1))], _, _, _)
                exact ev_ret rfl (by decide) (by decide) ⟨⟨_, rfl, by omega, by omega, g80015, k80015⟩, fun r hr h0 => by cases hr; exfalso; omega, fun r hr => by cases hr; exact (Bd.F (bd_rF (p := a1) (nocap (by omega) (by omega) (bR_at (p := a1) k80015 (fun _ => rfl) ew0 (((jw_ne e80015 (Or.inl (by decide))).trans ev79997)) (by omega) (by omega)) (by omega) (by omega) (by omega) (by omega) (by rw [(show h.2.2 42 19 = v80012 from (k80015.v rfl).symm.trans (((jw_ne e80015 (Or.inr (by decide))).trans ev80012)))]; omega)) (by omega) (by omega)) ((jw_eq e80015)))⟩
              · refine ev_iload_n rfl ?_
                refine ev_iload_n rfl ?_
                refine ev_icmpgt f242_14 (fun c80016 => ?_) (fun c80016 => ?_)
                · refine ev_iconst ?_
                  refine ev_ret rfl (by decide) (by decide) ?_
                  show jEv _ _ _ _ _ _ _ (_, [(2, 42), (0, a1), (0, a2), (0, a3), (0, 0), (0, v79997), (0, (v79997 - 65))], [(0, 0)], _, _, _)
                  refine ev_ifne f272_92 (fun c80017 => absurd c80017 (by omega)) (fun c80017 => ?_)
                  refine ev_aload_n rfl ?_
                  refine ev_iload_n rfl ?_
                  refine ev_in (d := (d + 2)) (a := 0) (b := 0) (cd' := c266_0) (m := 2) (L0 := [(2, 42), (0, a1)]) (jcall_v (A := [(0, a1)]) (S' := []) (r := 42) rfl (g.lt ad42) (g.tg ad42) (Nat.le_of_ble_eq_true rfl)) (by decide) ml266 pp266 (Nat.le_of_ble_eq_true rfl) rfl (by decide) (by decide) ?_
                  refine ev_aload_n rfl ?_
                  refine ev_iload_n rfl ?_
                  refine g_putf (r := 42) g ad42 (by decide) ft12_20 (by decide) (fun e => absurd e nz12_20) rf42_20 (by decide) (by omega) (by omega) (fun h80018 e80018 g80018 => ?_)
                  have k80018 := k0.wr e80018 rfl
                  refine ev_iconst ?_
                  refine ev_ret rfl (by decide) (by decide) ?_
                  show jEv _ _ _ _ _ _ _ (_, [(2, 42), (0, a1), (0, a2), (0, a3), (0, 0), (0, v79997), (0, (v79997 - 65))], [(0, (-1))], _, _, _)
                  exact ev_ret rfl (by decide) (by decide) ⟨⟨_, rfl, by omega, by omega, g80018, k80018⟩, fun r hr h0 => by cases hr; exfalso; omega, fun r hr => by cases hr; exact (Bd.F (bd_rF (p := a1) (nocap (by omega) (by omega) (bR_at (p := a1) k80018 (fun _ => rfl) ew0 (((jw_ne e80018 (Or.inl (by decide))).trans ev79997)) (by omega) (by omega)) (by omega) (by omega) (by omega) (by omega) (by rw [(show h.2.2 42 19 = v80012 from (k80018.v rfl).symm.trans (((jw_ne e80018 (Or.inr (by decide))).trans ev80012)))]; omega)) (by omega) (by omega)) ((jw_eq e80018)))⟩
                · refine ev_iconst ?_
                  refine ev_goto f242_15 ?_
                  refine ev_ret rfl (by decide) (by decide) ?_
                  show jEv _ _ _ _ _ _ _ (_, [(2, 42), (0, a1), (0, a2), (0, a3), (0, 0), (0, v79997), (0, (v79997 - 65))], [(0, 1)], _, _, _)
                  refine ev_ifne f272_92 (fun c80019 => ?_) (fun c80019 => absurd c80019 (by omega))
                  have zc80020 := Lv.cap hL (by omega) (ev79997) (ev80012) (by omega) (by omega)
                  refine ev_aload_n rfl ?_
                  refine ev_aload_n rfl ?_
                  refine g_getp (r := 42) (c := 55) g ad42 (by decide) (by decide) rf42_18 ft12_18 ?_
                  refine ev_iload rfl ?_
                  refine g_iald g ad55 rt55 (by omega) (by omega) (fun v80021 ev80021 lv80021 uv80021 => ?_)
                  refine ev_iload_n rfl ?_
                  refine ev_iload_n rfl ?_
                  refine ev_iload rfl ?_
                  refine ev_call (jcall_v (A := [(0, 0), (0, a3), (0, a2), (0, v80021)]) (S' := []) (r := 42) rfl (g.lt ad42) (g.tg ad42) (Nat.le_of_ble_eq_true rfl)) (jOk_le (by omega) (rih g (by omega) (by omega) (by omega) (by omega) (by omega) (by omega) (by omega) (by omega) (ew0) (by omega) (by omega) (l0 := (v79997 - 65)) hI (Iv.lv hI (by omega) (ev80012) (by omega) (by omega) (ev80021)) (K := K) (q := q) hK hq hN (by omega))) (by decide) (by decide) (fun w80022 h80022 q80022 => ?_)
                  obtain ⟨q80022, ad80022, nr80022⟩ := q80022
                  obtain ⟨v80023, rfl, lv80023, uv80023, g80022, kk80022⟩ := q80022
                  have ad80022 := ad80022 _ rfl
                  have nr80022 := nr80022 _ rfl
                  have k80022 := k0.tr kk80022 (by decide)
                  show jEv _ _ _ _ _ _ _ (_, [(2, 42), (0, a1), (0, a2), (0, a3), (0, 0), (0, v79997), (0, (v79997 - 65))], [(0, v80023)], _, _, _)
                  refine ev_ifge f272_116 (fun c80024 => ?_) (fun c80024 => ?_)
                  · refine ev_iload_n rfl ?_
                    refine ev_iconst ?_
                    refine ev_iadd (r := (a1 + 1)) (by unfold w32; omega) ?_
                    exact ev_ret rfl (by decide) (by decide) ⟨⟨_, rfl, by omega, by omega, g80022, k80022⟩, fun r hr h0 => by cases hr; exact (Ad.step (r' := (a1 + 1)) (Ad.rf _ _ _) (by omega) k80022 (fun _ => rfl) (((kk80022.v rfl).trans ev79997)) (by omega) (by omega) (by omega)), fun r hr => by cases hr; exact okF (((((rd_s (B := bR h) (N := h.2.2 42 1) (Y := yR h) (m := h.2.2 42 19) (K := K) (q := q) (by omega) a2 a3 a1).trans (if_neg (fun z => absurd ((bR_at (p := a1) k80022 (fun _ => rfl) ew0 (((kk80022.v rfl).trans ev79997)) (by omega) (by omega)).symm.trans z) (by omega)))).trans (if_neg (fun z => absurd ((bR_at (p := a1) k80022 (fun _ => rfl) ew0 (((kk80022.v rfl).trans ev79997)) (by omega) (by omega)).symm.trans z) (by omega)))).trans (if_pos ⟨by rw [(bR_at (p := a1) k80022 (fun _ => rfl) ew0 (((kk80022.v rfl).trans ev79997)) (by omega) (by omega))]; omega, by rw [(bR_at (p := a1) k80022 (fun _ => rfl) ew0 (((kk80022.v rfl).trans ev79997)) (by omega) (by omega))]; omega⟩)).trans ((by rw [show bR h a1 - 65 = (v79997 - 65) by rw [(bR_at (p := a1) k80022 (fun _ => rfl) ew0 (((kk80022.v rfl).trans ev79997)) (by omega) (by omega))] <;> omega] : _ = cpR (h.2.2 42 19) K a2 a3 a1 ((v79997 - 65))).trans (cap_F (r := a1 + 1) hK hN (by omega) (by rw [show h.2.2 42 19 = v80012 from (k80022.v rfl).symm.trans (((kk80022.v (by decide)).trans ev80012))]; omega) (show h.2.2 55 ((v79997 - 65)).toNat = v80021 from ((k80022.v rfl).symm.trans (((kk80022.v rfl).trans ev80021)))) (by omega) (by omega) (by omega) (by omega) (by omega) (by omega) (by omega) (nr80022.ok (by omega)).1 rfl).1)) (by omega) (by omega)⟩
                  · refine ev_aload_n rfl ?_
                    refine ev_iload_n rfl ?_
                    refine ev_in (d := (d + 2)) (a := 0) (b := 0) (cd' := c266_0) (m := 2) (L0 := [(2, 42), (0, a1)]) (jcall_v (A := [(0, a1)]) (S' := []) (r := 42) rfl (g80022.lt ad42) (g80022.tg ad42) (Nat.le_of_ble_eq_true rfl)) (by decide) ml266 pp266 (Nat.le_of_ble_eq_true rfl) rfl (by decide) (by decide) ?_
                    refine ev_aload_n rfl ?_
                    refine ev_iload_n rfl ?_
                    refine g_putf (r := 42) g80022 ad42 (by decide) ft12_20 (by decide) (fun e => absurd e nz12_20) rf42_20 (by decide) (by omega) (by omega) (fun h80025 e80025 g80025 => ?_)
                    have k80025 := k80022.wr e80025 rfl
                    refine ev_iconst ?_
                    refine ev_ret rfl (by decide) (by decide) ?_
                    show jEv _ _ _ _ _ _ _ (_, [(2, 42), (0, a1), (0, a2), (0, a3), (0, 0), (0, v79997), (0, (v79997 - 65))], [(0, (-1))], _, _, _)
                    exact ev_ret rfl (by decide) (by decide) ⟨⟨_, rfl, by omega, by omega, g80025, k80025⟩, fun r hr h0 => by cases hr; exfalso; omega, fun r hr => by cases hr; exact (Bd.F (bd_to (((((rd_s (B := bR h) (N := h.2.2 42 1) (Y := yR h) (m := h.2.2 42 19) (K := K) (q := q) (by omega) a2 a3 a1).trans (if_neg (fun z => absurd ((bR_at (p := a1) k80025 (fun _ => rfl) ew0 (((jw_ne e80025 (Or.inl (by decide))).trans ((kk80022.v rfl).trans ev79997))) (by omega) (by omega)).symm.trans z) (by omega)))).trans (if_neg (fun z => absurd ((bR_at (p := a1) k80025 (fun _ => rfl) ew0 (((jw_ne e80025 (Or.inl (by decide))).trans ((kk80022.v rfl).trans ev79997))) (by omega) (by omega)).symm.trans z) (by omega)))).trans (if_pos ⟨by rw [(bR_at (p := a1) k80025 (fun _ => rfl) ew0 (((jw_ne e80025 (Or.inl (by decide))).trans ((kk80022.v rfl).trans ev79997))) (by omega) (by omega))]; omega, by rw [(bR_at (p := a1) k80025 (fun _ => rfl) ew0 (((jw_ne e80025 (Or.inl (by decide))).trans ((kk80022.v rfl).trans ev79997))) (by omega) (by omega))]; omega⟩)).trans (by rw [show bR h a1 - 65 = (v79997 - 65) by rw [(bR_at (p := a1) k80025 (fun _ => rfl) ew0 (((jw_ne e80025 (Or.inl (by decide))).trans ((kk80022.v rfl).trans ev79997))) (by omega) (by omega))] <;> omega])) (cap_bd hK hN (by omega) (by rw [show h.2.2 42 19 = v80012 from (k80025.v rfl).symm.trans (((jw_ne e80025 (Or.inr (by decide))).trans ((kk80022.v (by decide)).trans ev80012)))]; omega) (show h.2.2 55 ((v79997 - 65)).toNat = v80021 from ((k80025.v rfl).symm.trans (((jw_ne e80025 (Or.inl (by decide))).trans ((kk80022.v rfl).trans ev80021))))) (by omega) (by omega) (by omega) (by omega) (by omega) (by omega) (by omega) (nr80022.bd (by omega)) (by omega))) ((jw_eq e80025)))⟩
            · refine ev_iconst ?_
              refine ev_goto f242_15 ?_
              refine ev_ret rfl (by decide) (by decide) ?_
              show jEv _ _ _ _ _ _ _ (_, [(2, 42), (0, a1)], [(0, 1)], _, _, _)
              refine ev_ret rfl (by decide) (by decide) ?_
              show jEv _ _ _ _ _ _ _ (_, [(2, 42), (0, a1), (0, a2), (0, a3), (0, 0), (0, v79997), (9, 0)], [(0, 1)], _, _, _)
              refine ev_ifeq f272_64 (fun c80026 => absurd c80026 (by omega)) (fun c80026 => ?_)
              refine ev_aload_n rfl ?_
              refine ev_iload_n rfl ?_
              refine ev_iload rfl ?_
              refine ev_call (jcall_v (A := [(0, 0), (0, a1)]) (S' := []) (r := 42) rfl (g.lt ad42) (g.tg ad42) (Nat.le_of_ble_eq_true rfl)) (jOk_le (by omega) (t269f g (by omega) (by omega) (by omega) (by omega) (ew0) (by omega) (by omega) (l0 := l0) )) (by decide) (by decide) (fun w80027 h80027 q80027 => ?_)
              obtain ⟨q80027, ad80027, nr80027⟩ := q80027
              obtain ⟨v80028, rfl, lv80028, uv80028, g80027, kk80027⟩ := q80027
              have ad80027 := ad80027 _ rfl
              have nr80027 := nr80027 _ rfl
              have k80027 := k0.tr kk80027 (by decide)
              show jEv _ _ _ _ _ _ _ (_, [(2, 42), (0, a1), (0, a2), (0, a3), (0, 0), (0, v79997), (9, 0)], [(0, v80028)], _, _, _)
              exact ev_ret rfl (by decide) (by decide) ⟨⟨_, rfl, by omega, by omega, g80027, k80027⟩, fun r hr h0 => by cases hr; exact ad80027 h0, fun r hr => by cases hr; exact (show _ from by rw [show (RQ h K q a2 a3 a1) = _ from ((((rd_s (B := bR h) (N := h.2.2 42 1) (Y := yR h) (m := h.2.2 42 19) (K := K) (q := q) (by omega) a2 a3 a1).trans (if_neg (fun z => absurd ((bR_at (p := a1) k80027 (fun _ => rfl) ew0 (((kk80027.v rfl).trans ev79997)) (by omega) (by omega)).symm.trans z) (by omega)))).trans (if_neg (fun z => absurd ((bR_at (p := a1) k80027 (fun _ => rfl) ew0 (((kk80027.v rfl).trans ev79997)) (by omega) (by omega)).symm.trans z) (by omega)))).trans (if_neg (fun z => by rw [(bR_at (p := a1) k80027 (fun _ => rfl) ew0 (((kk80027.v rfl).trans ev79997)) (by omega) (by omega))] at z; omega)))]; exact nr80027)⟩
      · refine ev_aload_n rfl ?_
        refine ev_iload_n rfl ?_
        refine ev_iload_n rfl ?_
        refine ev_iload_n rfl ?_
        refine ev_iload rfl ?_
        refine ev_call (jcall_v (A := [(0, 0), (0, a3), (0, a2), (0, a1)]) (S' := []) (r := 42) rfl (g.lt ad42) (g.tg ad42) (Nat.le_of_ble_eq_true rfl)) (jOk_le (by omega) (t271f_s g (by omega) (by omega) (by omega) (by omega) (by omega) (by omega) (by omega) (by omega) (ew0) (by omega) (by omega) (l0 := l0) hI hL (K := K) (q := q) hK hq hN (by rw [(ev79997)]; omega)  hM (by omega) rih)) (by decide) (by decide) (fun w80029 h80029 q80029 => ?_)
        obtain ⟨q80029, ad80029, nr80029⟩ := q80029
        obtain ⟨v80030, rfl, lv80030, uv80030, g80029, kk80029⟩ := q80029
        have ad80029 := ad80029 _ rfl
        have nr80029 := nr80029 _ rfl
        have k80029 := k0.tr kk80029 (by decide)
        show jEv _ _ _ _ _ _ _ (_, [(2, 42), (0, a1), (0, a2), (0, a3), (0, 0), (0, v79997), (9, 0)], [(0, v80030)], _, _, _)
        exact ev_ret rfl (by decide) (by decide) ⟨⟨_, rfl, by omega, by omega, g80029, k80029⟩, fun r hr h0 => by cases hr; exact ad80029 h0, fun r hr => by cases hr; exact (show _ from by rw [show (RQ h K q a2 a3 a1) = _ from (((rd_s (B := bR h) (N := h.2.2 42 1) (Y := yR h) (m := h.2.2 42 19) (K := K) (q := q) (by omega) a2 a3 a1).trans (if_neg (fun z => absurd ((bR_at (p := a1) k80029 (fun _ => rfl) ew0 (((kk80029.v rfl).trans ev79997)) (by omega) (by omega)).symm.trans z) (by omega)))).trans (if_pos ((bR_at (p := a1) k80029 (fun _ => rfl) ew0 (((kk80029.v rfl).trans ev79997)) (by omega) (by omega)).trans (by omega))))]; exact nr80029)⟩
    · refine ev_aload_n rfl ?_
      refine ev_iload_n rfl ?_
      refine ev_iload_n rfl ?_
      refine ev_iload_n rfl ?_
      refine ev_iload rfl ?_
      refine ev_call (jcall_v (A := [(0, 0), (0, a3), (0, a2), (0, a1)]) (S' := []) (r := 42) rfl (g.lt ad42) (g.tg ad42) (Nat.le_of_ble_eq_true rfl)) (jOk_le (by omega) (t270f_s g (by omega) (by omega) (by omega) (by omega) (by omega) (by omega) (by omega) (by omega) (ew0) (by omega) (by omega) (l0 := l0) hI hL (K := K) (q := q) hK hq hN (by rw [(ev79997)]; omega)  hM (by omega) rih)) (by decide) (by decide) (fun w80031 h80031 q80031 => ?_)
      obtain ⟨q80031, ad80031, nr80031⟩ := q80031
      obtain ⟨v80032, rfl, lv80032, uv80032, g80031, kk80031⟩ := q80031
      have ad80031 := ad80031 _ rfl
      have nr80031 := nr80031 _ rfl
      have k80031 := k0.tr kk80031 (by decide)
      show jEv _ _ _ _ _ _ _ (_, [(2, 42), (0, a1), (0, a2), (0, a3), (0, 0), (0, v79997), (9, 0)], [(0, v80032)], _, _, _)
      exact ev_ret rfl (by decide) (by decide) ⟨⟨_, rfl, by omega, by omega, g80031, k80031⟩, fun r hr h0 => by cases hr; exact ad80031 h0, fun r hr => by cases hr; exact (show _ from by rw [show (RQ h K q a2 a3 a1) = _ from ((rd_s (B := bR h) (N := h.2.2 42 1) (Y := yR h) (m := h.2.2 42 19) (K := K) (q := q) (by omega) a2 a3 a1).trans (if_pos ((bR_at (p := a1) k80031 (fun _ => rfl) ew0 (((kk80031.v rfl).trans ev79997)) (by omega) (by omega)).trans (by omega))))]; exact nr80031)⟩
theorem t272f_n (N : Nat) : ∀ {G : GH} {h : JH} (g : Gd G h) {l0 : Int} (ll0 : 0 ≤ l0) (ul0 : l0 ≤ 6) {a1 : Int} (la1 : 0 ≤ a1) (ua1 : a1 ≤ 202) {a2 : Int} (la2 : 0 ≤ a2) (ua2 : a2 ≤ 15) {a3 : Int} (la3 : 0 ≤ a3) (ua3 : a3 ≤ 12) {w0 : Int} (ew0 : h.2.2 42 17 = w0) (lw0 : 0 ≤ w0) (uw0 : w0 ≤ 200) {K : Int → Int × Int × Int} {q : Nat} (hI : Iv h) (hL : Lv h l0 a1) (hK : KoR h K) (hq : 13 - a3 = q) (hN : h.2.2 42 1 ≤ 4) (hN2 : 85 - (7 * a3 - l0) ≤ (N : Int)), jOk (3 + 4 * N) 0 0 272 [(2, 42), (0, a1), (0, a2), (0, a3), (0, 0)] h (fun v h' => PI G [(42, 21)] h 0 (-1) 200 v h' ∧ (∀ r, v = some (0, r) → 0 ≤ r → Ad h l0 a1 r) ∧ (∀ r, v = some (0, r) → RdF (bR h) h' (RQ h K q a2 a3 a1) r)) := by
  induction N with
  | zero => intro G h g l0 ll0 ul0 a1 la1 ua1 a2 la2 ua2 a3 la3 ua3 w0 ew0 lw0 uw0 K q hI hL hK hq hN hN2; exfalso; omega
  | succ N ih =>
    intro G h g l0 ll0 ul0 a1 la1 ua1 a2 la2 ua2 a3 la3 ua3 w0 ew0 lw0 uw0 K q hI hL hK hq hN hN2
    exact jOk_le (by omega) (t272f_s g ll0 ul0 la1 ua1 la2 ua2 la3 ua3 ew0 lw0 uw0 hI hL hK hq hN (M := (7 * a3 - l0)) rfl (d := 3 + 4 * N) (by omega) (fun {G} {h} g {l0} ll0 ul0 {a1} la1 ua1 {a2} la2 ua2 {a3} la3 ua3 {w0} ew0 lw0 uw0 {K} {q} hI hL hK hq hN hm => ih g ll0 ul0 la1 ua1 la2 ua2 la3 ua3 ew0 lw0 uw0 hI hL hK hq hN (by omega)))
theorem t272f {G : GH} {h : JH} (g : Gd G h) {l0 : Int} (ll0 : 0 ≤ l0) (ul0 : l0 ≤ 6) {a1 : Int} (la1 : 0 ≤ a1) (ua1 : a1 ≤ 202) {a2 : Int} (la2 : 0 ≤ a2) (ua2 : a2 ≤ 15) {a3 : Int} (la3 : 0 ≤ a3) (ua3 : a3 ≤ 12) {w0 : Int} (ew0 : h.2.2 42 17 = w0) (lw0 : 0 ≤ w0) (uw0 : w0 ≤ 200) {K : Int → Int × Int × Int} {q : Nat} (hI : Iv h) (hL : Lv h l0 a1) (hK : KoR h K) (hq : 13 - a3 = q) (hN : h.2.2 42 1 ≤ 4) : jOk 371 0 0 272 [(2, 42), (0, a1), (0, a2), (0, a3), (0, 0)] h (fun v h' => PI G [(42, 21)] h 0 (-1) 200 v h' ∧ (∀ r, v = some (0, r) → 0 ≤ r → Ad h l0 a1 r) ∧ (∀ r, v = some (0, r) → RdF (bR h) h' (RQ h K q a2 a3 a1) r)) := jOk_le (by decide) (t272f_n 92 g ll0 ul0 la1 ua1 la2 ua2 la3 ua3 ew0 lw0 uw0 hI hL hK hq hN (by omega))
set_option maxHeartbeats 4000000 in
theorem t269o {G : GH} {h : JH} (g : Gd G h) {l0 : Int} (ll0 : 0 ≤ l0) (ul0 : l0 ≤ 6) {b0 : Int} (lb0 : 1 ≤ b0) (ub0 : b0 ≤ 30000000) {a1 : Int} (la1 : 0 ≤ a1) (ua1 : a1 ≤ 202) {w0 : Int} (ew0 : h.2.2 42 21 = w0) (lw0 : 100 ≤ w0) (uw0 : w0 ≤ 200000000) {w1 : Int} (ew1 : h.2.2 42 17 = w1) (lw1 : 0 ≤ w1) (uw1 : w1 ≤ 200) (F0 : (b0 + w0) ≤ 200000000) : jOk 3 0 0 269 [(2, 42), (0, a1), (0, 1)] h (fun v h' => PI G [(42, 21), (42, 22)] h 0 (-1) 200 v h' ∧ (∀ r, v = some (0, r) → 0 ≤ r → Ad h l0 a1 r) ∧ (∀ r, v = some (0, r) → RO h' w0 b0 r) ∧ (∀ r, v = some (0, r) → RdM (bR h) h' w0 (if bR h a1 = 45 then enR (bR h) (a1 + 1) else enR (bR h) a1) r)) := by
  refine ⟨by decide, by rw [ml269]; exact Nat.le_of_ble_eq_true rfl, ?_⟩
  rw [ml269, pp269]
  show jEv _ none _ c269_0 0 0 _ (c269_0, [(2, 42), (0, a1), (0, 1), (9, 0), (9, 0), (9, 0), (9, 0)], [], h, 0, 0)
  have k0 := Kp.rf [(42, 21), (42, 22)] h
  refine ev_iload_n rfl ?_
  refine ev_istore_n (L' := [(2, 42), (0, a1), (0, 1), (0, a1), (9, 0), (9, 0), (9, 0)]) (Nat.le_of_ble_eq_true rfl) rfl ?_
  refine ev_aload_n rfl ?_
  refine ev_iload_n rfl ?_
  refine ev_in (d := 1) (a := 0) (b := 0) (cd' := c264_0) (m := 2) (L0 := [(2, 42), (0, a1)]) (jcall_v (A := [(0, a1)]) (S' := []) (r := 42) rfl (g.lt ad42) (g.tg ad42) (Nat.le_of_ble_eq_true rfl)) (by decide) ml264 pp264 (Nat.le_of_ble_eq_true rfl) rfl (by decide) (by decide) ?_
  refine ev_iload_n rfl ?_
  refine ev_aload_n rfl ?_
  refine g_getv (r := 42) (v := w1) g ad42 (by decide) ft12_17 (ew1) ?_
  refine ev_icmpge f264_17 (fun c80475 => ?_) (fun c80475 => ?_)
  · refine ev_iconst ?_
    refine ev_ret rfl (by decide) (by decide) ?_
    show jEv _ _ _ _ _ _ _ (_, [(2, 42), (0, a1), (0, 1), (0, a1), (9, 0), (9, 0), (9, 0)], [(0, (-1))], _, _, _)
    refine ev_bipush ?_
    refine ev_icmpne f269_16 (fun c80476 => ?_) (fun c80476 => absurd c80476 (by omega))
    refine ev_iconst ?_
    refine ev_istore (L' := [(2, 42), (0, a1), (0, 1), (0, a1), (0, 0), (9, 0), (9, 0)]) (Nat.le_of_ble_eq_true rfl) rfl ?_
    refine ev_iload rfl ?_
    refine ev_ifeq f269_27 (fun c80477 => ?_) (fun c80477 => absurd c80477 (by omega))
    refine ev_aload_n rfl ?_
    refine ev_iload_n rfl ?_
    refine ev_in (d := 1) (a := 0) (b := 0) (cd' := c265_0) (m := 2) (L0 := [(2, 42), (0, a1)]) (jcall_v (A := [(0, a1)]) (S' := []) (r := 42) rfl (g.lt ad42) (g.tg ad42) (Nat.le_of_ble_eq_true rfl)) (by decide) ml265 pp265 (Nat.le_of_ble_eq_true rfl) rfl (by decide) (by decide) ?_
    refine ev_aload_n rfl ?_
    refine ev_iload_n rfl ?_
    refine ev_in (d := 0) (a := 0) (b := 0) (cd' := c264_0) (m := 2) (L0 := [(2, 42), (0, a1)]) (jcall_v (A := [(0, a1)]) (S' := []) (r := 42) rfl (g.lt ad42) (g.tg ad42) (Nat.le_of_ble_eq_true rfl)) (by decide) ml264 pp264 (Nat.le_of_ble_eq_true rfl) rfl (by decide) (by decide) ?_
    refine ev_iload_n rfl ?_
    refine ev_aload_n rfl ?_
    refine g_getv (r := 42) (v := w1) g ad42 (by decide) ft12_17 (ew1) ?_
    refine ev_icmpge f264_17 (fun c80478 => ?_) (fun c80478 => absurd c80478 (by omega))
    refine ev_iconst ?_
    refine ev_ret rfl (by decide) (by decide) ?_
    show jEv _ _ _ _ _ _ _ (_, [(2, 42), (0, a1)], [(0, (-1))], _, _, _)
    refine ev_bipush ?_
    refine ev_bipush ?_
    refine ev_in (d := 0) (a := 0) (b := 0) (cd' := c242_0) (m := 3) (L0 := [(0, (-1)), (0, 48), (0, 57)]) (jcall_s (A := [(0, 57), (0, 48), (0, (-1))]) (S' := []) (by decide) rfl (Nat.le_of_ble_eq_true rfl)) (by decide) ml242 pp242 (Nat.le_of_ble_eq_true rfl) rfl (by decide) (by decide) ?_
    refine ev_iload_n rfl ?_
    refine ev_iload_n rfl ?_
    refine ev_icmplt f242_14 (fun c80479 => ?_) (fun c80479 => absurd c80479 (by omega))
    refine ev_iconst ?_
    refine ev_ret rfl (by decide) (by decide) ?_
    show jEv _ _ _ _ _ _ _ (_, [(2, 42), (0, a1)], [(0, 0)], _, _, _)
    refine ev_ret rfl (by decide) (by decide) ?_
    show jEv _ _ _ _ _ _ _ (_, [(2, 42), (0, a1), (0, 1), (0, a1), (0, 0), (9, 0), (9, 0)], [(0, 0)], _, _, _)
    refine ev_ifne f269_41 (fun c80480 => absurd c80480 (by omega)) (fun c80480 => ?_)
    refine ev_aload_n rfl ?_
    refine ev_iload_n rfl ?_
    refine ev_in (d := 1) (a := 0) (b := 0) (cd' := c266_0) (m := 2) (L0 := [(2, 42), (0, a1)]) (jcall_v (A := [(0, a1)]) (S' := []) (r := 42) rfl (g.lt ad42) (g.tg ad42) (Nat.le_of_ble_eq_true rfl)) (by decide) ml266 pp266 (Nat.le_of_ble_eq_true rfl) rfl (by decide) (by decide) ?_
    refine ev_aload_n rfl ?_
    refine ev_iload_n rfl ?_
    refine g_putf (r := 42) g ad42 (by decide) ft12_20 (by decide) (fun e => absurd e nz12_20) rf42_20 (by decide) (by omega) (by omega) (fun h80481 e80481 g80481 => ?_)
    have k80481 := k0.wr e80481 rfl
    refine ev_iconst ?_
    refine ev_ret rfl (by decide) (by decide) ?_
    show jEv _ _ _ _ _ _ _ (_, [(2, 42), (0, a1), (0, 1), (0, a1), (0, 0), (9, 0), (9, 0)], [(0, (-1))], _, _, _)
    exact ev_ret rfl (by decide) (by decide) ⟨⟨_, rfl, by omega, by omega, g80481, k80481⟩, fun r hr h0 => by cases hr; exfalso; omega, fun r hr => by cases hr; exact ⟨_, (((jw_ne e80481 (Or.inr (by decide))).trans ew0)), by omega, by omega, fun h0 => by exfalso; omega⟩, fun r hr => by cases hr; exact (Bd.M (bd_rF (p := a1) (by rw [if_neg (fun z => absurd ((bR_end (p := a1) ew1 (by omega)).symm.trans z) (by omega))]; unfold enR; rw [if_pos (by unfold nm3; rw [(bR_end (p := a1) ew1 (by omega))]; (repeat' split) <;> omega)]) (by omega) (by omega)) ((jw_eq e80481)))⟩
  · refine ev_aload_n rfl ?_
    refine g_getp (r := 42) (c := 54) g ad42 (by decide) (by decide) rf42_16 ft12_16 ?_
    refine ev_iload_n rfl ?_
    refine g_bald g ad54 rt54 (by omega) (by omega) (fun v80482 ev80482 lv80482 uv80482 => ?_)
    refine ev_goto f264_18 ?_
    refine ev_ret rfl (by decide) (by decide) ?_
    show jEv _ _ _ _ _ _ _ (_, [(2, 42), (0, a1), (0, 1), (0, a1), (9, 0), (9, 0), (9, 0)], [(0, v80482)], _, _, _)
    refine ev_bipush ?_
    refine ev_icmpne f269_16 (fun c80483 => ?_) (fun c80483 => ?_)
    · refine ev_iconst ?_
      refine ev_istore (L' := [(2, 42), (0, a1), (0, 1), (0, a1), (0, 0), (9, 0), (9, 0)]) (Nat.le_of_ble_eq_true rfl) rfl ?_
      refine ev_iload rfl ?_
      refine ev_ifeq f269_27 (fun c80484 => ?_) (fun c80484 => absurd c80484 (by omega))
      refine ev_aload_n rfl ?_
      refine ev_iload_n rfl ?_
      refine ev_in (d := 1) (a := 0) (b := 0) (cd' := c265_0) (m := 2) (L0 := [(2, 42), (0, a1)]) (jcall_v (A := [(0, a1)]) (S' := []) (r := 42) rfl (g.lt ad42) (g.tg ad42) (Nat.le_of_ble_eq_true rfl)) (by decide) ml265 pp265 (Nat.le_of_ble_eq_true rfl) rfl (by decide) (by decide) ?_
      refine ev_aload_n rfl ?_
      refine ev_iload_n rfl ?_
      refine ev_in (d := 0) (a := 0) (b := 0) (cd' := c264_0) (m := 2) (L0 := [(2, 42), (0, a1)]) (jcall_v (A := [(0, a1)]) (S' := []) (r := 42) rfl (g.lt ad42) (g.tg ad42) (Nat.le_of_ble_eq_true rfl)) (by decide) ml264 pp264 (Nat.le_of_ble_eq_true rfl) rfl (by decide) (by decide) ?_
      refine ev_iload_n rfl ?_
      refine ev_aload_n rfl ?_
      refine g_getv (r := 42) (v := w1) g ad42 (by decide) ft12_17 (ew1) ?_
      refine ev_icmpge f264_17 (fun c80485 => absurd c80485 (by omega)) (fun c80485 => ?_)
      refine ev_aload_n rfl ?_
      refine g_getp (r := 42) (c := 54) g ad42 (by decide) (by decide) rf42_16 ft12_16 ?_
      refine ev_iload_n rfl ?_
      refine g_baldv (v := v80482) g ad54 (by omega) (by omega) (ev80482) ?_
      refine ev_goto f264_18 ?_
      refine ev_ret rfl (by decide) (by decide) ?_
      show jEv _ _ _ _ _ _ _ (_, [(2, 42), (0, a1)], [(0, v80482)], _, _, _)
      refine ev_bipush ?_
      refine ev_bipush ?_
      refine ev_in (d := 0) (a := 0) (b := 0) (cd' := c242_0) (m := 3) (L0 := [(0, v80482), (0, 48), (0, 57)]) (jcall_s (A := [(0, 57), (0, 48), (0, v80482)]) (S' := []) (by decide) rfl (Nat.le_of_ble_eq_true rfl)) (by decide) ml242 pp242 (Nat.le_of_ble_eq_true rfl) rfl (by decide) (by decide) ?_
      refine ev_iload_n rfl ?_
      refine ev_iload_n rfl ?_
      refine ev_icmplt f242_14 (fun c80486 => ?_) (fun c80486 => ?_)
      · refine ev_iconst ?_
        refine ev_ret rfl (by decide) (by decide) ?_
        show jEv _ _ _ _ _ _ _ (_, [(2, 42), (0, a1)], [(0, 0)], _, _, _)
        refine ev_ret rfl (by decide) (by decide) ?_
        show jEv _ _ _ _ _ _ _ (_, [(2, 42), (0, a1), (0, 1), (0, a1), (0, 0), (9, 0), (9, 0)], [(0, 0)], _, _, _)
        refine ev_ifne f269_41 (fun c80487 => absurd c80487 (by omega)) (fun c80487 => ?_)
        refine ev_aload_n rfl ?_
        refine ev_iload_n rfl ?_
        refine ev_in (d := 1) (a := 0) (b := 0) (cd' := c266_0) (m := 2) (L0 := [(2, 42), (0, a1)]) (jcall_v (A := [(0, a1)]) (S' := []) (r := 42) rfl (g.lt ad42) (g.tg ad42) (Nat.le_of_ble_eq_true rfl)) (by decide) ml266 pp266 (Nat.le_of_ble_eq_true rfl) rfl (by decide) (by decide) ?_
        refine ev_aload_n rfl ?_
        refine ev_iload_n rfl ?_
        refine g_putf (r := 42) g ad42 (by decide) ft12_20 (by decide) (fun e => absurd e nz12_20) rf42_20 (by decide) (by omega) (by omega) (fun h80488 e80488 g80488 => ?_)
        have k80488 := k0.wr e80488 rfl
        refine ev_iconst ?_
        refine ev_ret rfl (by decide) (by decide) ?_
        show jEv _ _ _ _ _ _ _ (_, [(2, 42), (0, a1), (0, 1), (0, a1), (0, 0), (9, 0), (9, 0)], [(0, (-1))], _, _, _)
        exact ev_ret rfl (by decide) (by decide) ⟨⟨_, rfl, by omega, by omega, g80488, k80488⟩, fun r hr h0 => by cases hr; exfalso; omega, fun r hr => by cases hr; exact ⟨_, (((jw_ne e80488 (Or.inr (by decide))).trans ew0)), by omega, by omega, fun h0 => by exfalso; omega⟩, fun r hr => by cases hr; exact (Bd.M (bd_rF (p := a1) (by rw [if_neg (fun z => absurd ((bR_at (p := a1) k80488 (fun _ => rfl) ew1 (((jw_ne e80488 (Or.inl (by decide))).trans ev80482)) (by omega) (by omega)).symm.trans z) (by omega))]; unfold enR; rw [if_pos (by unfold nm3; rw [(bR_at (p := a1) k80488 (fun _ => rfl) ew1 (((jw_ne e80488 (Or.inl (by decide))).trans ev80482)) (by omega) (by omega))]; (repeat' split) <;> omega)]) (by omega) (by omega)) ((jw_eq e80488)))⟩
      · refine ev_iload_n rfl ?_
        refine ev_iload_n rfl ?_
        refine ev_icmpgt f242_14 (fun c80489 => ?_) (fun c80489 => ?_)
        · refine ev_iconst ?_
          refine ev_ret rfl (by decide) (by decide) ?_
          show jEv _ _ _ _ _ _ _ (_, [(2, 42), (0, a1)], [(0, 0)], _, _, _)
          refine ev_ret rfl (by decide) (by decide) ?_
          show jEv _ _ _ _ _ _ _ (_, [(2, 42), (0, a1), (0, 1), (0, a1), (0, 0), (9, 0), (9, 0)], [(0, 0)], _, _, _)
          refine ev_ifne f269_41 (fun c80490 => absurd c80490 (by omega)) (fun c80490 => ?_)
          refine ev_aload_n rfl ?_
          refine ev_iload_n rfl ?_
          refine ev_in (d := 1) (a := 0) (b := 0) (cd' := c266_0) (m := 2) (L0 := [(2, 42), (0, a1)]) (jcall_v (A := [(0, a1)]) (S' := []) (r := 42) rfl (g.lt ad42) (g.tg ad42) (Nat.le_of_ble_eq_true rfl)) (by decide) ml266 pp266 (Nat.le_of_ble_eq_true rfl) rfl (by decide) (by decide) ?_
          refine ev_aload_n rfl ?_
          refine ev_iload_n rfl ?_
          refine g_putf (r := 42) g ad42 (by decide) ft12_20 (by decide) (fun e => absurd e nz12_20) rf42_20 (by decide) (by omega) (by omega) (fun h80491 e80491 g80491 => ?_)
          have k80491 := k0.wr e80491 rfl
          refine ev_iconst ?_
          refine ev_ret rfl (by decide) (by decide) ?_
          show jEv _ _ _ _ _ _ _ (_, [(2, 42), (0, a1), (0, 1), (0, a1), (0, 0), (9, 0), (9, 0)], [(0, (-1))], _, _, _)
          exact ev_ret rfl (by decide) (by decide) ⟨⟨_, rfl, by omega, by omega, g80491, k80491⟩, fun r hr h0 => by cases hr; exfalso; omega, fun r hr => by cases hr; exact ⟨_, (((jw_ne e80491 (Or.inr (by decide))).trans ew0)), by omega, by omega, fun h0 => by exfalso; omega⟩, fun r hr => by cases hr; exact (Bd.M (bd_rF (p := a1) (by rw [if_neg (fun z => absurd ((bR_at (p := a1) k80491 (fun _ => rfl) ew1 (((jw_ne e80491 (Or.inl (by decide))).trans ev80482)) (by omega) (by omega)).symm.trans z) (by omega))]; unfold enR; rw [if_pos (by unfold nm3; rw [(bR_at (p := a1) k80491 (fun _ => rfl) ew1 (((jw_ne e80491 (Or.inl (by decide))).trans ev80482)) (by omega) (by omega))]; (repeat' split) <;> omega)]) (by omega) (by omega)) ((jw_eq e80491)))⟩
        · refine ev_iconst ?_
          refine ev_goto f242_15 ?_
          refine ev_ret rfl (by decide) (by decide) ?_
          show jEv _ _ _ _ _ _ _ (_, [(2, 42), (0, a1)], [(0, 1)], _, _, _)
          refine ev_ret rfl (by decide) (by decide) ?_
          show jEv _ _ _ _ _ _ _ (_, [(2, 42), (0, a1), (0, 1), (0, a1), (0, 0), (9, 0), (9, 0)], [(0, 1)], _, _, _)
          refine ev_ifne f269_41 (fun c80492 => ?_) (fun c80492 => absurd c80492 (by omega))
          refine ev_iconst ?_
          refine ev_istore (L' := [(2, 42), (0, a1), (0, 1), (0, a1), (0, 0), (0, 0), (9, 0)]) (Nat.le_of_ble_eq_true rfl) rfl ?_
          refine ev_iconst ?_
          refine ev_istore (L' := [(2, 42), (0, a1), (0, 1), (0, a1), (0, 0), (0, 0), (0, 0)]) (Nat.le_of_ble_eq_true rfl) rfl ?_
          refine ev_iload rfl ?_
          refine ev_iconst ?_
          refine ev_icmpge f269_86 (fun c80493 => absurd c80493 (by omega)) (fun c80493 => ?_)
          refine ev_aload_n rfl ?_
          refine ev_iload_n rfl ?_
          refine ev_in (d := 1) (a := 0) (b := 0) (cd' := c265_0) (m := 2) (L0 := [(2, 42), (0, a1)]) (jcall_v (A := [(0, a1)]) (S' := []) (r := 42) rfl (g.lt ad42) (g.tg ad42) (Nat.le_of_ble_eq_true rfl)) (by decide) ml265 pp265 (Nat.le_of_ble_eq_true rfl) rfl (by decide) (by decide) ?_
          refine ev_aload_n rfl ?_
          refine ev_iload_n rfl ?_
          refine ev_in (d := 0) (a := 0) (b := 0) (cd' := c264_0) (m := 2) (L0 := [(2, 42), (0, a1)]) (jcall_v (A := [(0, a1)]) (S' := []) (r := 42) rfl (g.lt ad42) (g.tg ad42) (Nat.le_of_ble_eq_true rfl)) (by decide) ml264 pp264 (Nat.le_of_ble_eq_true rfl) rfl (by decide) (by decide) ?_
          refine ev_iload_n rfl ?_
          refine ev_aload_n rfl ?_
          refine g_getv (r := 42) (v := w1) g ad42 (by decide) ft12_17 (ew1) ?_
          refine ev_icmpge f264_17 (fun c80494 => absurd c80494 (by omega)) (fun c80494 => ?_)
          refine ev_aload_n rfl ?_
          refine g_getp (r := 42) (c := 54) g ad42 (by decide) (by decide) rf42_16 ft12_16 ?_
          refine ev_iload_n rfl ?_
          refine g_baldv (v := v80482) g ad54 (by omega) (by omega) (ev80482) ?_
          refine ev_goto f264_18 ?_
          refine ev_ret rfl (by decide) (by decide) ?_
          show jEv _ _ _ _ _ _ _ (_, [(2, 42), (0, a1)], [(0, v80482)], _, _, _)
          refine ev_bipush ?_
          refine ev_bipush ?_
          refine ev_in (d := 0) (a := 0) (b := 0) (cd' := c242_0) (m := 3) (L0 := [(0, v80482), (0, 48), (0, 57)]) (jcall_s (A := [(0, 57), (0, 48), (0, v80482)]) (S' := []) (by decide) rfl (Nat.le_of_ble_eq_true rfl)) (by decide) ml242 pp242 (Nat.le_of_ble_eq_true rfl) rfl (by decide) (by decide) ?_
          refine ev_iload_n rfl ?_
          refine ev_iload_n rfl ?_
          refine ev_icmplt f242_14 (fun c80495 => absurd c80495 (by omega)) (fun c80495 => ?_)
          refine ev_iload_n rfl ?_
          refine ev_iload_n rfl ?_
          refine ev_icmpgt f242_14 (fun c80496 => absurd c80496 (by omega)) (fun c80496 => ?_)
          refine ev_iconst ?_
          refine ev_goto f242_15 ?_
          refine ev_ret rfl (by decide) (by decide) ?_
          show jEv _ _ _ _ _ _ _ (_, [(2, 42), (0, a1)], [(0, 1)], _, _, _)
          refine ev_ret rfl (by decide) (by decide) ?_
          show jEv _ _ _ _ _ _ _ (_, [(2, 42), (0, a1), (0, 1), (0, a1), (0, 0), (0, 0), (0, 0)], [(0, 1)], _, _, _)
          refine ev_ifeq f269_86 (fun c80497 => absurd c80497 (by omega)) (fun c80497 => ?_)
          refine ev_bipush ?_
          refine ev_iload rfl ?_
          refine ev_imul (r := 0) (by decide) ?_
          refine ev_aload_n rfl ?_
          refine ev_iload_n rfl ?_
          refine ev_in (d := 1) (a := 0) (b := 0) (cd' := c264_0) (m := 2) (L0 := [(2, 42), (0, a1)]) (jcall_v (A := [(0, a1)]) (S' := [(0, 0)]) (r := 42) rfl (g.lt ad42) (g.tg ad42) (Nat.le_of_ble_eq_true rfl)) (by decide) ml264 pp264 (Nat.le_of_ble_eq_true rfl) rfl (by decide) (by decide) ?_
          refine ev_iload_n rfl ?_
          refine ev_aload_n rfl ?_
          refine g_getv (r := 42) (v := w1) g ad42 (by decide) ft12_17 (ew1) ?_
          refine ev_icmpge f264_17 (fun c80498 => absurd c80498 (by omega)) (fun c80498 => ?_)
          refine ev_aload_n rfl ?_
          refine g_getp (r := 42) (c := 54) g ad42 (by decide) (by decide) rf42_16 ft12_16 ?_
          refine ev_iload_n rfl ?_
          refine g_baldv (v := v80482) g ad54 (by omega) (by omega) (ev80482) ?_
          refine ev_goto f264_18 ?_
          refine ev_ret rfl (by decide) (by decide) ?_
          show jEv _ _ _ _ _ _ _ (_, [(2, 42), (0, a1), (0, 1), (0, a1), (0, 0), (0, 0), (0, 0)], [(0, v80482), (0, 0)], _, _, _)
          refine ev_iadd (r := v80482) (by unfold w32; omega) ?_
          refine ev_bipush ?_
          refine ev_isub (r := (v80482 - 48)) (by unfold w32; omega) ?_
          refine ev_istore (L' := [(2, 42), (0, a1), (0, 1), (0, a1), (0, 0), (0, (v80482 - 48)), (0, 0)]) (Nat.le_of_ble_eq_true rfl) rfl ?_
          refine ev_iinc (w := 1) (L' := [(2, 42), (0, a1), (0, 1), (0, a1), (0, 0), (0, (v80482 - 48)), (0, 1)]) rfl (by decide) rfl ?_
          refine ev_iinc (w := (a1 + 1)) (L' := [(2, 42), (0, a1), (0, 1), (0, (a1 + 1)), (0, 0), (0, (v80482 - 48)), (0, 1)]) rfl (by unfold w32; omega) rfl ?_
          refine ev_goto f269_47 ?_
          refine ev_iload rfl ?_
          refine ev_iconst ?_
          refine ev_icmpge f269_86 (fun c80499 => absurd c80499 (by omega)) (fun c80499 => ?_)
          refine ev_aload_n rfl ?_
          refine ev_iload_n rfl ?_
          refine ev_in (d := 1) (a := 0) (b := 0) (cd' := c265_0) (m := 2) (L0 := [(2, 42), (0, (a1 + 1))]) (jcall_v (A := [(0, (a1 + 1))]) (S' := []) (r := 42) rfl (g.lt ad42) (g.tg ad42) (Nat.le_of_ble_eq_true rfl)) (by decide) ml265 pp265 (Nat.le_of_ble_eq_true rfl) rfl (by decide) (by decide) ?_
          refine ev_aload_n rfl ?_
          refine ev_iload_n rfl ?_
          refine ev_in (d := 0) (a := 0) (b := 0) (cd' := c264_0) (m := 2) (L0 := [(2, 42), (0, (a1 + 1))]) (jcall_v (A := [(0, (a1 + 1))]) (S' := []) (r := 42) rfl (g.lt ad42) (g.tg ad42) (Nat.le_of_ble_eq_true rfl)) (by decide) ml264 pp264 (Nat.le_of_ble_eq_true rfl) rfl (by decide) (by decide) ?_
          refine ev_iload_n rfl ?_
          refine ev_aload_n rfl ?_
          refine g_getv (r := 42) (v := w1) g ad42 (by decide) ft12_17 (ew1) ?_
          refine ev_icmpge f264_17 (fun c80500 => ?_) (fun c80500 => ?_)
          · refine ev_iconst ?_
            refine ev_ret rfl (by decide) (by decide) ?_
            show jEv _ _ _ _ _ _ _ (_, [(2, 42), (0, (a1 + 1))], [(0, (-1))], _, _, _)
            refine ev_bipush ?_
            refine ev_bipush ?_
            refine ev_in (d := 0) (a := 0) (b := 0) (cd' := c242_0) (m := 3) (L0 := [(0, (-1)), (0, 48), (0, 57)]) (jcall_s (A := [(0, 57), (0, 48), (0, (-1))]) (S' := []) (by decide) rfl (Nat.le_of_ble_eq_true rfl)) (by decide) ml242 pp242 (Nat.le_of_ble_eq_true rfl) rfl (by decide) (by decide) ?_
            refine ev_iload_n rfl ?_
            refine ev_iload_n rfl ?_
            refine ev_icmplt f242_14 (fun c80501 => ?_) (fun c80501 => absurd c80501 (by omega))
            refine ev_iconst ?_
            refine ev_ret rfl (by decide) (by decide) ?_
            show jEv _ _ _ _ _ _ _ (_, [(2, 42), (0, (a1 + 1))], [(0, 0)], _, _, _)
            refine ev_ret rfl (by decide) (by decide) ?_
            show jEv _ _ _ _ _ _ _ (_, [(2, 42), (0, a1), (0, 1), (0, (a1 + 1)), (0, 0), (0, (v80482 - 48)), (0, 1)], [(0, 0)], _, _, _)
            refine ev_ifeq f269_86 (fun c80502 => ?_) (fun c80502 => absurd c80502 (by omega))
            refine ev_aload_n rfl ?_
            refine ev_iload_n rfl ?_
            refine ev_in (d := 1) (a := 0) (b := 0) (cd' := c265_0) (m := 2) (L0 := [(2, 42), (0, (a1 + 1))]) (jcall_v (A := [(0, (a1 + 1))]) (S' := []) (r := 42) rfl (g.lt ad42) (g.tg ad42) (Nat.le_of_ble_eq_true rfl)) (by decide) ml265 pp265 (Nat.le_of_ble_eq_true rfl) rfl (by decide) (by decide) ?_
            refine ev_aload_n rfl ?_
            refine ev_iload_n rfl ?_
            refine ev_in (d := 0) (a := 0) (b := 0) (cd' := c264_0) (m := 2) (L0 := [(2, 42), (0, (a1 + 1))]) (jcall_v (A := [(0, (a1 + 1))]) (S' := []) (r := 42) rfl (g.lt ad42) (g.tg ad42) (Nat.le_of_ble_eq_true rfl)) (by decide) ml264 pp264 (Nat.le_of_ble_eq_true rfl) rfl (by decide) (by decide) ?_
            refine ev_iload_n rfl ?_
            refine ev_aload_n rfl ?_
            refine g_getv (r := 42) (v := w1) g ad42 (by decide) ft12_17 (ew1) ?_
            refine ev_icmpge f264_17 (fun c80503 => ?_) (fun c80503 => absurd c80503 (by omega))
            refine ev_iconst ?_
            refine ev_ret rfl (by decide) (by decide) ?_
            show jEv _ _ _ _ _ _ _ (_, [(2, 42), (0, (a1 + 1))], [(0, (-1))], _, _, _)
            refine ev_bipush ?_
            refine ev_bipush ?_
            refine ev_in (d := 0) (a := 0) (b := 0) (cd' := c242_0) (m := 3) (L0 := [(0, (-1)), (0, 48), (0, 57)]) (jcall_s (A := [(0, 57), (0, 48), (0, (-1))]) (S' := []) (by decide) rfl (Nat.le_of_ble_eq_true rfl)) (by decide) ml242 pp242 (Nat.le_of_ble_eq_true rfl) rfl (by decide) (by decide) ?_
            refine ev_iload_n rfl ?_
            refine ev_iload_n rfl ?_
            refine ev_icmplt f242_14 (fun c80504 => ?_) (fun c80504 => absurd c80504 (by omega))
            refine ev_iconst ?_
            refine ev_ret rfl (by decide) (by decide) ?_
            show jEv _ _ _ _ _ _ _ (_, [(2, 42), (0, (a1 + 1))], [(0, 0)], _, _, _)
            refine ev_ret rfl (by decide) (by decide) ?_
            show jEv _ _ _ _ _ _ _ (_, [(2, 42), (0, a1), (0, 1), (0, (a1 + 1)), (0, 0), (0, (v80482 - 48)), (0, 1)], [(0, 0)], _, _, _)
            refine ev_ifeq f269_100 (fun c80505 => ?_) (fun c80505 => absurd c80505 (by omega))
            refine ev_aload_n rfl ?_
            refine ev_iload_n rfl ?_
            refine ev_iconst ?_
            refine ev_iload rfl ?_
            refine ev_ifeq f269_114 (fun c80506 => ?_) (fun c80506 => absurd c80506 (by omega))
            refine ev_iload rfl ?_
            refine ev_in (d := 1) (a := 0) (b := 0) (cd' := c267_0) (m := 6) (L0 := [(2, 42), (0, 1), (0, 0), (0, (v80482 - 48)), (9, 0), (9, 0)]) (jcall_v (A := [(0, (v80482 - 48)), (0, 0), (0, 1)]) (S' := []) (r := 42) rfl (g.lt ad42) (g.tg ad42) (Nat.le_of_ble_eq_true rfl)) (by decide) ml267 pp267 (Nat.le_of_ble_eq_true rfl) rfl (by decide) (by decide) ?_
            refine ev_iload_n rfl ?_
            refine ev_ifne f267_6 (fun c80507 => ?_) (fun c80507 => absurd c80507 (by omega))
            refine ev_aload_n rfl ?_
            refine ev_dup (by decide) ?_
            refine g_getv (r := 42) (v := w0) g ad42 (by decide) ft12_21 (ew0) ?_
            refine ev_iconst ?_
            refine ev_iadd (r := (w0 + 1)) (by unfold w32; omega) ?_
            refine g_putf (r := 42) g ad42 (by decide) ft12_21 (by decide) (fun e => absurd e nz12_21) rf42_21 (by decide) (by omega) (by omega) (fun h80508 e80508 g80508 => ?_)
            have k80508 := k0.wr e80508 rfl
            refine ev_aload_n rfl ?_
            refine g_getv (r := 42) (v := (w0 + 1)) g80508 ad42 (by decide) ft12_21 ((jw_eq e80508)) ?_
            refine ev_bipush ?_
            refine ev_icmple f267_27 (fun c80509 => absurd c80509 (by omega)) (fun c80509 => ?_)
            refine ev_iconst ?_
            refine ev_ret rfl (by decide) (by decide) ?_
            show jEv _ _ _ _ _ _ _ (_, [(2, 42), (0, a1), (0, 1), (0, (a1 + 1)), (0, 0), (0, (v80482 - 48)), (0, 1)], [(0, (-1))], _, _, _)
            refine ev_pop (by decide) ?_
            refine ev_iload_n rfl ?_
            exact ev_ret rfl (by decide) (by decide) ⟨⟨_, rfl, by omega, by omega, g80508, k80508⟩, fun r hr h0 => by cases hr; exact (Ad.step (r' := (a1 + 1)) (Ad.rf _ _ _) (by omega) k80508 (fun _ => rfl) (((jw_ne e80508 (Or.inl (by decide))).trans ev80482)) (by omega) (by omega) (by omega)), fun r hr => by cases hr; exact ⟨_, ((jw_eq e80508)), by omega, by omega, fun h0 => by omega⟩, fun r hr => by cases hr; exact okM (show (if bR h a1 = 45 then enR (bR h) (a1 + 1) else enR (bR h) a1) = ((a1 + 1), 0, 0, 1) by rw [if_neg (fun z => absurd ((bR_at (p := a1) k80508 (fun _ => rfl) ew1 (((jw_ne e80508 (Or.inl (by decide))).trans ev80482)) (by omega) (by omega)).symm.trans z) (by omega))]; unfold enR; rw [show nm3 (bR h) a1 = (a1 + 1) by unfold nm3; rw [(bR_at (p := a1) k80508 (fun _ => rfl) ew1 (((jw_ne e80508 (Or.inl (by decide))).trans ev80482)) (by omega) (by omega)), (bR_end (p := (a1 + 1)) ew1 (by omega))]; (repeat' split) <;> omega, if_neg (by omega)]) (by omega) (by omega) ((jw_eq e80508)) (by omega)⟩
          · refine ev_aload_n rfl ?_
            refine g_getp (r := 42) (c := 54) g ad42 (by decide) (by decide) rf42_16 ft12_16 ?_
            refine ev_iload_n rfl ?_
            refine g_bald g ad54 rt54 (by omega) (by omega) (fun v80510 ev80510 lv80510 uv80510 => ?_)
            refine ev_goto f264_18 ?_
            refine ev_ret rfl (by decide) (by decide) ?_
            show jEv _ _ _ _ _ _ _ (_, [(2, 42), (0, (a1 + 1))], [(0, v80510)], _, _, _)
            refine ev_bipush ?_
            refine ev_bipush ?_
            refine ev_in (d := 0) (a := 0) (b := 0) (cd' := c242_0) (m := 3) (L0 := [(0, v80510), (0, 48), (0, 57)]) (jcall_s (A := [(0, 57), (0, 48), (0, v80510)]) (S' := []) (by decide) rfl (Nat.le_of_ble_eq_true rfl)) (by decide) ml242 pp242 (Nat.le_of_ble_eq_true rfl) rfl (by decide) (by decide) ?_
            refine ev_iload_n rfl ?_
            refine ev_iload_n rfl ?_
            refine ev_icmplt f242_14 (fun c80511 => ?_) (fun c80511 => ?_)
            · refine ev_iconst ?_
              refine ev_ret rfl (by decide) (by decide) ?_
              show jEv _ _ _ _ _ _ _ (_, [(2, 42), (0, (a1 + 1))], [(0, 0)], _, _, _)
              refine ev_ret rfl (by decide) (by decide) ?_
              show jEv _ _ _ _ _ _ _ (_, [(2, 42), (0, a1), (0, 1), (0, (a1 + 1)), (0, 0), (0, (v80482 - 48)), (0, 1)], [(0, 0)], _, _, _)
              refine ev_ifeq f269_86 (fun c80512 => ?_) (fun c80512 => absurd c80512 (by omega))
              refine ev_aload_n rfl ?_
              refine ev_iload_n rfl ?_
              refine ev_in (d := 1) (a := 0) (b := 0) (cd' := c265_0) (m := 2) (L0 := [(2, 42), (0, (a1 + 1))]) (jcall_v (A := [(0, (a1 + 1))]) (S' := []) (r := 42) rfl (g.lt ad42) (g.tg ad42) (Nat.le_of_ble_eq_true rfl)) (by decide) ml265 pp265 (Nat.le_of_ble_eq_true rfl) rfl (by decide) (by decide) ?_
              refine ev_aload_n rfl ?_
              refine ev_iload_n rfl ?_
              refine ev_in (d := 0) (a := 0) (b := 0) (cd' := c264_0) (m := 2) (L0 := [(2, 42), (0, (a1 + 1))]) (jcall_v (A := [(0, (a1 + 1))]) (S' := []) (r := 42) rfl (g.lt ad42) (g.tg ad42) (Nat.le_of_ble_eq_true rfl)) (by decide) ml264 pp264 (Nat.le_of_ble_eq_true rfl) rfl (by decide) (by decide) ?_
              refine ev_iload_n rfl ?_
              refine ev_aload_n rfl ?_
              refine g_getv (r := 42) (v := w1) g ad42 (by decide) ft12_17 (ew1) ?_
              refine ev_icmpge f264_17 (fun c80513 => absurd c80513 (by omega)) (fun c80513 => ?_)
              refine ev_aload_n rfl ?_
              refine g_getp (r := 42) (c := 54) g ad42 (by decide) (by decide) rf42_16 ft12_16 ?_
              refine ev_iload_n rfl ?_
              refine g_baldv (v := v80510) g ad54 (by omega) (by omega) (ev80510) ?_
              refine ev_goto f264_18 ?_
              refine ev_ret rfl (by decide) (by decide) ?_
              show jEv _ _ _ _ _ _ _ (_, [(2, 42), (0, (a1 + 1))], [(0, v80510)], _, _, _)
              refine ev_bipush ?_
              refine ev_bipush ?_
              refine ev_in (d := 0) (a := 0) (b := 0) (cd' := c242_0) (m := 3) (L0 := [(0, v80510), (0, 48), (0, 57)]) (jcall_s (A := [(0, 57), (0, 48), (0, v80510)]) (S' := []) (by decide) rfl (Nat.le_of_ble_eq_true rfl)) (by decide) ml242 pp242 (Nat.le_of_ble_eq_true rfl) rfl (by decide) (by decide) ?_
              refine ev_iload_n rfl ?_
              refine ev_iload_n rfl ?_
              refine ev_icmplt f242_14 (fun c80514 => ?_) (fun c80514 => absurd c80514 (by omega))
              refine ev_iconst ?_
              refine ev_ret rfl (by decide) (by decide) ?_
              show jEv _ _ _ _ _ _ _ (_, [(2, 42), (0, (a1 + 1))], [(0, 0)], _, _, _)
              refine ev_ret rfl (by decide) (by decide) ?_
              show jEv _ _ _ _ _ _ _ (_, [(2, 42), (0, a1), (0, 1), (0, (a1 + 1)), (0, 0), (0, (v80482 - 48)), (0, 1)], [(0, 0)], _, _, _)
              refine ev_ifeq f269_100 (fun c80515 => ?_) (fun c80515 => absurd c80515 (by omega))
              refine ev_aload_n rfl ?_
              refine ev_iload_n rfl ?_
              refine ev_iconst ?_
              refine ev_iload rfl ?_
              refine ev_ifeq f269_114 (fun c80516 => ?_) (fun c80516 => absurd c80516 (by omega))
              refine ev_iload rfl ?_
              refine ev_in (d := 1) (a := 0) (b := 0) (cd' := c267_0) (m := 6) (L0 := [(2, 42), (0, 1), (0, 0), (0, (v80482 - 48)), (9, 0), (9, 0)]) (jcall_v (A := [(0, (v80482 - 48)), (0, 0), (0, 1)]) (S' := []) (r := 42) rfl (g.lt ad42) (g.tg ad42) (Nat.le_of_ble_eq_true rfl)) (by decide) ml267 pp267 (Nat.le_of_ble_eq_true rfl) rfl (by decide) (by decide) ?_
              refine ev_iload_n rfl ?_
              refine ev_ifne f267_6 (fun c80517 => ?_) (fun c80517 => absurd c80517 (by omega))
              refine ev_aload_n rfl ?_
              refine ev_dup (by decide) ?_
              refine g_getv (r := 42) (v := w0) g ad42 (by decide) ft12_21 (ew0) ?_
              refine ev_iconst ?_
              refine ev_iadd (r := (w0 + 1)) (by unfold w32; omega) ?_
              refine g_putf (r := 42) g ad42 (by decide) ft12_21 (by decide) (fun e => absurd e nz12_21) rf42_21 (by decide) (by omega) (by omega) (fun h80518 e80518 g80518 => ?_)
              have k80518 := k0.wr e80518 rfl
              refine ev_aload_n rfl ?_
              refine g_getv (r := 42) (v := (w0 + 1)) g80518 ad42 (by decide) ft12_21 ((jw_eq e80518)) ?_
              refine ev_bipush ?_
              refine ev_icmple f267_27 (fun c80519 => absurd c80519 (by omega)) (fun c80519 => ?_)
              refine ev_iconst ?_
              refine ev_ret rfl (by decide) (by decide) ?_
              show jEv _ _ _ _ _ _ _ (_, [(2, 42), (0, a1), (0, 1), (0, (a1 + 1)), (0, 0), (0, (v80482 - 48)), (0, 1)], [(0, (-1))], _, _, _)
              refine ev_pop (by decide) ?_
              refine ev_iload_n rfl ?_
              exact ev_ret rfl (by decide) (by decide) ⟨⟨_, rfl, by omega, by omega, g80518, k80518⟩, fun r hr h0 => by cases hr; exact (Ad.step (r' := (a1 + 1)) (Ad.rf _ _ _) (by omega) k80518 (fun _ => rfl) (((jw_ne e80518 (Or.inl (by decide))).trans ev80482)) (by omega) (by omega) (by omega)), fun r hr => by cases hr; exact ⟨_, ((jw_eq e80518)), by omega, by omega, fun h0 => by omega⟩, fun r hr => by cases hr; exact okM (show (if bR h a1 = 45 then enR (bR h) (a1 + 1) else enR (bR h) a1) = ((a1 + 1), 0, 0, 1) by rw [if_neg (fun z => absurd ((bR_at (p := a1) k80518 (fun _ => rfl) ew1 (((jw_ne e80518 (Or.inl (by decide))).trans ev80482)) (by omega) (by omega)).symm.trans z) (by omega))]; unfold enR; rw [show nm3 (bR h) a1 = (a1 + 1) by unfold nm3; rw [(bR_at (p := a1) k80518 (fun _ => rfl) ew1 (((jw_ne e80518 (Or.inl (by decide))).trans ev80482)) (by omega) (by omega)), (bR_at (p := (a1 + 1)) k80518 (fun _ => rfl) ew1 (((jw_ne e80518 (Or.inl (by decide))).trans ev80510)) (by omega) (by omega))]; (repeat' split) <;> omega, if_neg (by omega)]) (by omega) (by omega) ((jw_eq e80518)) (by omega)⟩
            · refine ev_iload_n rfl ?_
              refine ev_iload_n rfl ?_
              refine ev_icmpgt f242_14 (fun c80520 => ?_) (fun c80520 => ?_)
              · refine ev_iconst ?_
                refine ev_ret rfl (by decide) (by decide) ?_
                show jEv _ _ _ _ _ _ _ (_, [(2, 42), (0, (a1 + 1))], [(0, 0)], _, _, _)
                refine ev_ret rfl (by decide) (by decide) ?_
                show jEv _ _ _ _ _ _ _ (_, [(2, 42), (0, a1), (0, 1), (0, (a1 + 1)), (0, 0), (0, (v80482 - 48)), (0, 1)], [(0, 0)], _, _, _)
                refine ev_ifeq f269_86 (fun c80521 => ?_) (fun c80521 => absurd c80521 (by omega))
                refine ev_aload_n rfl ?_
                refine ev_iload_n rfl ?_
                refine ev_in (d := 1) (a := 0) (b := 0) (cd' := c265_0) (m := 2) (L0 := [(2, 42), (0, (a1 + 1))]) (jcall_v (A := [(0, (a1 + 1))]) (S' := []) (r := 42) rfl (g.lt ad42) (g.tg ad42) (Nat.le_of_ble_eq_true rfl)) (by decide) ml265 pp265 (Nat.le_of_ble_eq_true rfl) rfl (by decide) (by decide) ?_
                refine ev_aload_n rfl ?_
                refine ev_iload_n rfl ?_
                refine ev_in (d := 0) (a := 0) (b := 0) (cd' := c264_0) (m := 2) (L0 := [(2, 42), (0, (a1 + 1))]) (jcall_v (A := [(0, (a1 + 1))]) (S' := []) (r := 42) rfl (g.lt ad42) (g.tg ad42) (Nat.le_of_ble_eq_true rfl)) (by decide) ml264 pp264 (Nat.le_of_ble_eq_true rfl) rfl (by decide) (by decide) ?_
                refine ev_iload_n rfl ?_
                refine ev_aload_n rfl ?_
                refine g_getv (r := 42) (v := w1) g ad42 (by decide) ft12_17 (ew1) ?_
                refine ev_icmpge f264_17 (fun c80522 => absurd c80522 (by omega)) (fun c80522 => ?_)
                refine ev_aload_n rfl ?_
                refine g_getp (r := 42) (c := 54) g ad42 (by decide) (by decide) rf42_16 ft12_16 ?_
                refine ev_iload_n rfl ?_
                refine g_baldv (v := v80510) g ad54 (by omega) (by omega) (ev80510) ?_
                refine ev_goto f264_18 ?_
                refine ev_ret rfl (by decide) (by decide) ?_
                show jEv _ _ _ _ _ _ _ (_, [(2, 42), (0, (a1 + 1))], [(0, v80510)], _, _, _)
                refine ev_bipush ?_
                refine ev_bipush ?_
                refine ev_in (d := 0) (a := 0) (b := 0) (cd' := c242_0) (m := 3) (L0 := [(0, v80510), (0, 48), (0, 57)]) (jcall_s (A := [(0, 57), (0, 48), (0, v80510)]) (S' := []) (by decide) rfl (Nat.le_of_ble_eq_true rfl)) (by decide) ml242 pp242 (Nat.le_of_ble_eq_true rfl) rfl (by decide) (by decide) ?_
                refine ev_iload_n rfl ?_
                refine ev_iload_n rfl ?_
                refine ev_icmplt f242_14 (fun c80523 => absurd c80523 (by omega)) (fun c80523 => ?_)
                refine ev_iload_n rfl ?_
                refine ev_iload_n rfl ?_
                refine ev_icmpgt f242_14 (fun c80524 => ?_) (fun c80524 => absurd c80524 (by omega))
                refine ev_iconst ?_
                refine ev_ret rfl (by decide) (by decide) ?_
                show jEv _ _ _ _ _ _ _ (_, [(2, 42), (0, (a1 + 1))], [(0, 0)], _, _, _)
                refine ev_ret rfl (by decide) (by decide) ?_
                show jEv _ _ _ _ _ _ _ (_, [(2, 42), (0, a1), (0, 1), (0, (a1 + 1)), (0, 0), (0, (v80482 - 48)), (0, 1)], [(0, 0)], _, _, _)
                refine ev_ifeq f269_100 (fun c80525 => ?_) (fun c80525 => absurd c80525 (by omega))
                refine ev_aload_n rfl ?_
                refine ev_iload_n rfl ?_
                refine ev_iconst ?_
                refine ev_iload rfl ?_
                refine ev_ifeq f269_114 (fun c80526 => ?_) (fun c80526 => absurd c80526 (by omega))
                refine ev_iload rfl ?_
                refine ev_in (d := 1) (a := 0) (b := 0) (cd' := c267_0) (m := 6) (L0 := [(2, 42), (0, 1), (0, 0), (0, (v80482 - 48)), (9, 0), (9, 0)]) (jcall_v (A := [(0, (v80482 - 48)), (0, 0), (0, 1)]) (S' := []) (r := 42) rfl (g.lt ad42) (g.tg ad42) (Nat.le_of_ble_eq_true rfl)) (by decide) ml267 pp267 (Nat.le_of_ble_eq_true rfl) rfl (by decide) (by decide) ?_
                refine ev_iload_n rfl ?_
                refine ev_ifne f267_6 (fun c80527 => ?_) (fun c80527 => absurd c80527 (by omega))
                refine ev_aload_n rfl ?_
                refine ev_dup (by decide) ?_
                refine g_getv (r := 42) (v := w0) g ad42 (by decide) ft12_21 (ew0) ?_
                refine ev_iconst ?_
                refine ev_iadd (r := (w0 + 1)) (by unfold w32; omega) ?_
                refine g_putf (r := 42) g ad42 (by decide) ft12_21 (by decide) (fun e => absurd e nz12_21) rf42_21 (by decide) (by omega) (by omega) (fun h80528 e80528 g80528 => ?_)
                have k80528 := k0.wr e80528 rfl
                refine ev_aload_n rfl ?_
                refine g_getv (r := 42) (v := (w0 + 1)) g80528 ad42 (by decide) ft12_21 ((jw_eq e80528)) ?_
                refine ev_bipush ?_
                refine ev_icmple f267_27 (fun c80529 => absurd c80529 (by omega)) (fun c80529 => ?_)
                refine ev_iconst ?_
                refine ev_ret rfl (by decide) (by decide) ?_
                show jEv _ _ _ _ _ _ _ (_, [(2, 42), (0, a1), (0, 1), (0, (a1 + 1)), (0, 0), (0, (v80482 - 48)), (0, 1)], [(0, (-1))], _, _, _)
                refine ev_pop (by decide) ?_
                refine ev_iload_n rfl ?_
                exact ev_ret rfl (by decide) (by decide) ⟨⟨_, rfl, by omega, by omega, g80528, k80528⟩, fun r hr h0 => by cases hr; exact (Ad.step (r' := (a1 + 1)) (Ad.rf _ _ _) (by omega) k80528 (fun _ => rfl) (((jw_ne e80528 (Or.inl (by decide))).trans ev80482)) (by omega) (by omega) (by omega)), fun r hr => by cases hr; exact ⟨_, ((jw_eq e80528)), by omega, by omega, fun h0 => by omega⟩, fun r hr => by cases hr; exact okM (show (if bR h a1 = 45 then enR (bR h) (a1 + 1) else enR (bR h) a1) = ((a1 + 1), 0, 0, 1) by rw [if_neg (fun z => absurd ((bR_at (p := a1) k80528 (fun _ => rfl) ew1 (((jw_ne e80528 (Or.inl (by decide))).trans ev80482)) (by omega) (by omega)).symm.trans z) (by omega))]; unfold enR; rw [show nm3 (bR h) a1 = (a1 + 1) by unfold nm3; rw [(bR_at (p := a1) k80528 (fun _ => rfl) ew1 (((jw_ne e80528 (Or.inl (by decide))).trans ev80482)) (by omega) (by omega)), (bR_at (p := (a1 + 1)) k80528 (fun _ => rfl) ew1 (((jw_ne e80528 (Or.inl (by decide))).trans ev80510)) (by omega) (by omega))]; (repeat' split) <;> omega, if_neg (by omega)]) (by omega) (by omega) ((jw_eq e80528)) (by omega)⟩
              · refine ev_iconst ?_
                refine ev_goto f242_15 ?_
                refine ev_ret rfl (by decide) (by decide) ?_
                show jEv _ _ _ _ _ _ _ (_, [(2, 42), (0, (a1 + 1))], [(0, 1)], _, _, _)
                refine ev_ret rfl (by decide) (by decide) ?_
                show jEv _ _ _ _ _ _ _ (_, [(2, 42), (0, a1), (0, 1), (0, (a1 + 1)), (0, 0), (0, (v80482 - 48)), (0, 1)], [(0, 1)], _, _, _)
                refine ev_ifeq f269_86 (fun c80530 => absurd c80530 (by omega)) (fun c80530 => ?_)
                refine ev_bipush ?_
                refine ev_iload rfl ?_
                refine ev_imul (r := (10 * v80482 - 480)) (by unfold w32; omega) ?_
                refine ev_aload_n rfl ?_
                refine ev_iload_n rfl ?_
                refine ev_in (d := 1) (a := 0) (b := 0) (cd' := c264_0) (m := 2) (L0 := [(2, 42), (0, (a1 + 1))]) (jcall_v (A := [(0, (a1 + 1))]) (S' := [(0, (10 * v80482 - 480))]) (r := 42) rfl (g.lt ad42) (g.tg ad42) (Nat.le_of_ble_eq_true rfl)) (by decide) ml264 pp264 (Nat.le_of_ble_eq_true rfl) rfl (by decide) (by decide) ?_
                refine ev_iload_n rfl ?_
                refine ev_aload_n rfl ?_
                refine g_getv (r := 42) (v := w1) g ad42 (by decide) ft12_17 (ew1) ?_
                refine ev_icmpge f264_17 (fun c80531 => absurd c80531 (by omega)) (fun c80531 => ?_)
                refine ev_aload_n rfl ?_
                refine g_getp (r := 42) (c := 54) g ad42 (by decide) (by decide) rf42_16 ft12_16 ?_
                refine ev_iload_n rfl ?_
                refine g_baldv (v := v80510) g ad54 (by omega) (by omega) (ev80510) ?_
                refine ev_goto f264_18 ?_
                refine ev_ret rfl (by decide) (by decide) ?_
                show jEv _ _ _ _ _ _ _ (_, [(2, 42), (0, a1), (0, 1), (0, (a1 + 1)), (0, 0), (0, (v80482 - 48)), (0, 1)], [(0, v80510), (0, (10 * v80482 - 480))], _, _, _)
                refine ev_iadd (r := (10 * v80482 + v80510 - 480)) (by unfold w32; omega) ?_
                refine ev_bipush ?_
                refine ev_isub (r := (10 * v80482 + v80510 - 528)) (by unfold w32; omega) ?_
                refine ev_istore (L' := [(2, 42), (0, a1), (0, 1), (0, (a1 + 1)), (0, 0), (0, (10 * v80482 + v80510 - 528)), (0, 1)]) (Nat.le_of_ble_eq_true rfl) rfl ?_
                refine ev_iinc (w := 2) (L' := [(2, 42), (0, a1), (0, 1), (0, (a1 + 1)), (0, 0), (0, (10 * v80482 + v80510 - 528)), (0, 2)]) rfl (by decide) rfl ?_
                refine ev_iinc (w := (a1 + 2)) (L' := [(2, 42), (0, a1), (0, 1), (0, (a1 + 2)), (0, 0), (0, (10 * v80482 + v80510 - 528)), (0, 2)]) rfl (by unfold w32; omega) rfl ?_
                refine ev_goto f269_47 ?_
                refine ev_iload rfl ?_
                refine ev_iconst ?_
                refine ev_icmpge f269_86 (fun c80532 => absurd c80532 (by omega)) (fun c80532 => ?_)
                refine ev_aload_n rfl ?_
                refine ev_iload_n rfl ?_
                refine ev_in (d := 1) (a := 0) (b := 0) (cd' := c265_0) (m := 2) (L0 := [(2, 42), (0, (a1 + 2))]) (jcall_v (A := [(0, (a1 + 2))]) (S' := []) (r := 42) rfl (g.lt ad42) (g.tg ad42) (Nat.le_of_ble_eq_true rfl)) (by decide) ml265 pp265 (Nat.le_of_ble_eq_true rfl) rfl (by decide) (by decide) ?_
                refine ev_aload_n rfl ?_
                refine ev_iload_n rfl ?_
                refine ev_in (d := 0) (a := 0) (b := 0) (cd' := c264_0) (m := 2) (L0 := [(2, 42), (0, (a1 + 2))]) (jcall_v (A := [(0, (a1 + 2))]) (S' := []) (r := 42) rfl (g.lt ad42) (g.tg ad42) (Nat.le_of_ble_eq_true rfl)) (by decide) ml264 pp264 (Nat.le_of_ble_eq_true rfl) rfl (by decide) (by decide) ?_
                refine ev_iload_n rfl ?_
                refine ev_aload_n rfl ?_
                refine g_getv (r := 42) (v := w1) g ad42 (by decide) ft12_17 (ew1) ?_
                refine ev_icmpge f264_17 (fun c80533 => ?_) (fun c80533 => ?_)
                · refine ev_iconst ?_
                  refine ev_ret rfl (by decide) (by decide) ?_
                  show jEv _ _ _ _ _ _ _ (_, [(2, 42), (0, (a1 + 2))], [(0, (-1))], _, _, _)
                  refine ev_bipush ?_
                  refine ev_bipush ?_
                  refine ev_in (d := 0) (a := 0) (b := 0) (cd' := c242_0) (m := 3) (L0 := [(0, (-1)), (0, 48), (0, 57)]) (jcall_s (A := [(0, 57), (0, 48), (0, (-1))]) (S' := []) (by decide) rfl (Nat.le_of_ble_eq_true rfl)) (by decide) ml242 pp242 (Nat.le_of_ble_eq_true rfl) rfl (by decide) (by decide) ?_
                  refine ev_iload_n rfl ?_
                  refine ev_iload_n rfl ?_
                  refine ev_icmplt f242_14 (fun c80534 => ?_) (fun c80534 => absurd c80534 (by omega))
                  refine ev_iconst ?_
                  refine ev_ret rfl (by decide) (by decide) ?_
                  show jEv _ _ _ _ _ _ _ (_, [(2, 42), (0, (a1 + 2))], [(0, 0)], _, _, _)
                  refine ev_ret rfl (by decide) (by decide) ?_
                  show jEv _ _ _ _ _ _ _ (_, [(2, 42), (0, a1), (0, 1), (0, (a1 + 2)), (0, 0), (0, (10 * v80482 + v80510 - 528)), (0, 2)], [(0, 0)], _, _, _)
                  refine ev_ifeq f269_86 (fun c80535 => ?_) (fun c80535 => absurd c80535 (by omega))
                  refine ev_aload_n rfl ?_
                  refine ev_iload_n rfl ?_
                  refine ev_in (d := 1) (a := 0) (b := 0) (cd' := c265_0) (m := 2) (L0 := [(2, 42), (0, (a1 + 2))]) (jcall_v (A := [(0, (a1 + 2))]) (S' := []) (r := 42) rfl (g.lt ad42) (g.tg ad42) (Nat.le_of_ble_eq_true rfl)) (by decide) ml265 pp265 (Nat.le_of_ble_eq_true rfl) rfl (by decide) (by decide) ?_
                  refine ev_aload_n rfl ?_
                  refine ev_iload_n rfl ?_
                  refine ev_in (d := 0) (a := 0) (b := 0) (cd' := c264_0) (m := 2) (L0 := [(2, 42), (0, (a1 + 2))]) (jcall_v (A := [(0, (a1 + 2))]) (S' := []) (r := 42) rfl (g.lt ad42) (g.tg ad42) (Nat.le_of_ble_eq_true rfl)) (by decide) ml264 pp264 (Nat.le_of_ble_eq_true rfl) rfl (by decide) (by decide) ?_
                  refine ev_iload_n rfl ?_
                  refine ev_aload_n rfl ?_
                  refine g_getv (r := 42) (v := w1) g ad42 (by decide) ft12_17 (ew1) ?_
                  refine ev_icmpge f264_17 (fun c80536 => ?_) (fun c80536 => absurd c80536 (by omega))
                  refine ev_iconst ?_
                  refine ev_ret rfl (by decide) (by decide) ?_
                  show jEv _ _ _ _ _ _ _ (_, [(2, 42), (0, (a1 + 2))], [(0, (-1))], _, _, _)
                  refine ev_bipush ?_
                  refine ev_bipush ?_
                  refine ev_in (d := 0) (a := 0) (b := 0) (cd' := c242_0) (m := 3) (L0 := [(0, (-1)), (0, 48), (0, 57)]) (jcall_s (A := [(0, 57), (0, 48), (0, (-1))]) (S' := []) (by decide) rfl (Nat.le_of_ble_eq_true rfl)) (by decide) ml242 pp242 (Nat.le_of_ble_eq_true rfl) rfl (by decide) (by decide) ?_
                  refine ev_iload_n rfl ?_
                  refine ev_iload_n rfl ?_
                  refine ev_icmplt f242_14 (fun c80537 => ?_) (fun c80537 => absurd c80537 (by omega))
                  refine ev_iconst ?_
                  refine ev_ret rfl (by decide) (by decide) ?_
                  show jEv _ _ _ _ _ _ _ (_, [(2, 42), (0, (a1 + 2))], [(0, 0)], _, _, _)
                  refine ev_ret rfl (by decide) (by decide) ?_
                  show jEv _ _ _ _ _ _ _ (_, [(2, 42), (0, a1), (0, 1), (0, (a1 + 2)), (0, 0), (0, (10 * v80482 + v80510 - 528)), (0, 2)], [(0, 0)], _, _, _)
                  refine ev_ifeq f269_100 (fun c80538 => ?_) (fun c80538 => absurd c80538 (by omega))
                  refine ev_aload_n rfl ?_
                  refine ev_iload_n rfl ?_
                  refine ev_iconst ?_
                  refine ev_iload rfl ?_
                  refine ev_ifeq f269_114 (fun c80539 => ?_) (fun c80539 => absurd c80539 (by omega))
                  refine ev_iload rfl ?_
                  refine ev_in (d := 1) (a := 0) (b := 0) (cd' := c267_0) (m := 6) (L0 := [(2, 42), (0, 1), (0, 0), (0, (10 * v80482 + v80510 - 528)), (9, 0), (9, 0)]) (jcall_v (A := [(0, (10 * v80482 + v80510 - 528)), (0, 0), (0, 1)]) (S' := []) (r := 42) rfl (g.lt ad42) (g.tg ad42) (Nat.le_of_ble_eq_true rfl)) (by decide) ml267 pp267 (Nat.le_of_ble_eq_true rfl) rfl (by decide) (by decide) ?_
                  refine ev_iload_n rfl ?_
                  refine ev_ifne f267_6 (fun c80540 => ?_) (fun c80540 => absurd c80540 (by omega))
                  refine ev_aload_n rfl ?_
                  refine ev_dup (by decide) ?_
                  refine g_getv (r := 42) (v := w0) g ad42 (by decide) ft12_21 (ew0) ?_
                  refine ev_iconst ?_
                  refine ev_iadd (r := (w0 + 1)) (by unfold w32; omega) ?_
                  refine g_putf (r := 42) g ad42 (by decide) ft12_21 (by decide) (fun e => absurd e nz12_21) rf42_21 (by decide) (by omega) (by omega) (fun h80541 e80541 g80541 => ?_)
                  have k80541 := k0.wr e80541 rfl
                  refine ev_aload_n rfl ?_
                  refine g_getv (r := 42) (v := (w0 + 1)) g80541 ad42 (by decide) ft12_21 ((jw_eq e80541)) ?_
                  refine ev_bipush ?_
                  refine ev_icmple f267_27 (fun c80542 => absurd c80542 (by omega)) (fun c80542 => ?_)
                  refine ev_iconst ?_
                  refine ev_ret rfl (by decide) (by decide) ?_
                  show jEv _ _ _ _ _ _ _ (_, [(2, 42), (0, a1), (0, 1), (0, (a1 + 2)), (0, 0), (0, (10 * v80482 + v80510 - 528)), (0, 2)], [(0, (-1))], _, _, _)
                  refine ev_pop (by decide) ?_
                  refine ev_iload_n rfl ?_
                  exact ev_ret rfl (by decide) (by decide) ⟨⟨_, rfl, by omega, by omega, g80541, k80541⟩, fun r hr h0 => by cases hr; exact (Ad.step (r' := (a1 + 2)) (Ad.step (r' := (a1 + 1)) (Ad.rf _ _ _) (by omega) k80541 (fun _ => rfl) (((jw_ne e80541 (Or.inl (by decide))).trans ev80482)) (by omega) (by omega) (by omega)) (by omega) k80541 (fun _ => rfl) (((jw_ne e80541 (Or.inl (by decide))).trans ev80510)) (by omega) (by omega) (by omega)), fun r hr => by cases hr; exact ⟨_, ((jw_eq e80541)), by omega, by omega, fun h0 => by omega⟩, fun r hr => by cases hr; exact okM (show (if bR h a1 = 45 then enR (bR h) (a1 + 1) else enR (bR h) a1) = ((a1 + 2), 0, 0, 1) by rw [if_neg (fun z => absurd ((bR_at (p := a1) k80541 (fun _ => rfl) ew1 (((jw_ne e80541 (Or.inl (by decide))).trans ev80482)) (by omega) (by omega)).symm.trans z) (by omega))]; unfold enR; rw [show nm3 (bR h) a1 = (a1 + 2) by unfold nm3; rw [(bR_at (p := a1) k80541 (fun _ => rfl) ew1 (((jw_ne e80541 (Or.inl (by decide))).trans ev80482)) (by omega) (by omega)), (bR_at (p := (a1 + 1)) k80541 (fun _ => rfl) ew1 (((jw_ne e80541 (Or.inl (by decide))).trans ev80510)) (by omega) (by omega)), (bR_end (p := (a1 + 2)) ew1 (by omega))]; (repeat' split) <;> omega, if_neg (by omega)]) (by omega) (by omega) ((jw_eq e80541)) (by omega)⟩
                · refine ev_aload_n rfl ?_
                  refine g_getp (r := 42) (c := 54) g ad42 (by decide) (by decide) rf42_16 ft12_16 ?_
                  refine ev_iload_n rfl ?_
                  refine g_bald g ad54 rt54 (by omega) (by omega) (fun v80543 ev80543 lv80543 uv80543 => ?_)
                  refine ev_goto f264_18 ?_
                  refine ev_ret rfl (by decide) (by decide) ?_
                  show jEv _ _ _ _ _ _ _ (_, [(2, 42), (0, (a1 + 2))], [(0, v80543)], _, _, _)
                  refine ev_bipush ?_
                  refine ev_bipush ?_
                  refine ev_in (d := 0) (a := 0) (b := 0) (cd' := c242_0) (m := 3) (L0 := [(0, v80543), (0, 48), (0, 57)]) (jcall_s (A := [(0, 57), (0, 48), (0, v80543)]) (S' := []) (by decide) rfl (Nat.le_of_ble_eq_true rfl)) (by decide) ml242 pp242 (Nat.le_of_ble_eq_true rfl) rfl (by decide) (by decide) ?_
                  refine ev_iload_n rfl ?_
                  refine ev_iload_n rfl ?_
                  refine ev_icmplt f242_14 (fun c80544 => ?_) (fun c80544 => ?_)
                  · refine ev_iconst ?_
                    refine ev_ret rfl (by decide) (by decide) ?_
                    show jEv _ _ _ _ _ _ _ (_, [(2, 42), (0, (a1 + 2))], [(0, 0)], _, _, _)
                    refine ev_ret rfl (by decide) (by decide) ?_
                    show jEv _ _ _ _ _ _ _ (_, [(2, 42), (0, a1), (0, 1), (0, (a1 + 2)), (0, 0), (0, (10 * v80482 + v80510 - 528)), (0, 2)], [(0, 0)], _, _, _)
                    refine ev_ifeq f269_86 (fun c80545 => ?_) (fun c80545 => absurd c80545 (by omega))
                    refine ev_aload_n rfl ?_
                    refine ev_iload_n rfl ?_
                    refine ev_in (d := 1) (a := 0) (b := 0) (cd' := c265_0) (m := 2) (L0 := [(2, 42), (0, (a1 + 2))]) (jcall_v (A := [(0, (a1 + 2))]) (S' := []) (r := 42) rfl (g.lt ad42) (g.tg ad42) (Nat.le_of_ble_eq_true rfl)) (by decide) ml265 pp265 (Nat.le_of_ble_eq_true rfl) rfl (by decide) (by decide) ?_
                    refine ev_aload_n rfl ?_
                    refine ev_iload_n rfl ?_
                    refine ev_in (d := 0) (a := 0) (b := 0) (cd' := c264_0) (m := 2) (L0 := [(2, 42), (0, (a1 + 2))]) (jcall_v (A := [(0, (a1 + 2))]) (S' := []) (r := 42) rfl (g.lt ad42) (g.tg ad42) (Nat.le_of_ble_eq_true rfl)) (by decide) ml264 pp264 (Nat.le_of_ble_eq_true rfl) rfl (by decide) (by decide) ?_
                    refine ev_iload_n rfl ?_
                    refine ev_aload_n rfl ?_
                    refine g_getv (r := 42) (v := w1) g ad42 (by decide) ft12_17 (ew1) ?_
                    refine ev_icmpge f264_17 (fun c80546 => absurd c80546 (by omega)) (fun c80546 => ?_)
                    refine ev_aload_n rfl ?_
                    refine g_getp (r := 42) (c := 54) g ad42 (by decide) (by decide) rf42_16 ft12_16 ?_
                    refine ev_iload_n rfl ?_
                    refine g_baldv (v := v80543) g ad54 (by omega) (by omega) (ev80543) ?_
                    refine ev_goto f264_18 ?_
                    refine ev_ret rfl (by decide) (by decide) ?_
                    show jEv _ _ _ _ _ _ _ (_, [(2, 42), (0, (a1 + 2))], [(0, v80543)], _, _, _)
                    refine ev_bipush ?_
                    refine ev_bipush ?_
                    refine ev_in (d := 0) (a := 0) (b := 0) (cd' := c242_0) (m := 3) (L0 := [(0, v80543), (0, 48), (0, 57)]) (jcall_s (A := [(0, 57), (0, 48), (0, v80543)]) (S' := []) (by decide) rfl (Nat.le_of_ble_eq_true rfl)) (by decide) ml242 pp242 (Nat.le_of_ble_eq_true rfl) rfl (by decide) (by decide) ?_
                    refine ev_iload_n rfl ?_
                    refine ev_iload_n rfl ?_
                    refine ev_icmplt f242_14 (fun c80547 => ?_) (fun c80547 => absurd c80547 (by omega))
                    refine ev_iconst ?_
                    refine ev_ret rfl (by decide) (by decide) ?_
                    show jEv _ _ _ _ _ _ _ (_, [(2, 42), (0, (a1 + 2))], [(0, 0)], _, _, _)
                    refine ev_ret rfl (by decide) (by decide) ?_
                    show jEv _ _ _ _ _ _ _ (_, [(2, 42), (0, a1), (0, 1), (0, (a1 + 2)), (0, 0), (0, (10 * v80482 + v80510 - 528)), (0, 2)], [(0, 0)], _, _, _)
                    refine ev_ifeq f269_100 (fun c80548 => ?_) (fun c80548 => absurd c80548 (by omega))
                    refine ev_aload_n rfl ?_
                    refine ev_iload_n rfl ?_
                    refine ev_iconst ?_
                    refine ev_iload rfl ?_
                    refine ev_ifeq f269_114 (fun c80549 => ?_) (fun c80549 => absurd c80549 (by omega))
                    refine ev_iload rfl ?_
                    refine ev_in (d := 1) (a := 0) (b := 0) (cd' := c267_0) (m := 6) (L0 := [(2, 42), (0, 1), (0, 0), (0, (10 * v80482 + v80510 - 528)), (9, 0), (9, 0)]) (jcall_v (A := [(0, (10 * v80482 + v80510 - 528)), (0, 0), (0, 1)]) (S' := []) (r := 42) rfl (g.lt ad42) (g.tg ad42) (Nat.le_of_ble_eq_true rfl)) (by decide) ml267 pp267 (Nat.le_of_ble_eq_true rfl) rfl (by decide) (by decide) ?_
                    refine ev_iload_n rfl ?_
                    refine ev_ifne f267_6 (fun c80550 => ?_) (fun c80550 => absurd c80550 (by omega))
                    refine ev_aload_n rfl ?_
                    refine ev_dup (by decide) ?_
                    refine g_getv (r := 42) (v := w0) g ad42 (by decide) ft12_21 (ew0) ?_
                    refine ev_iconst ?_
                    refine ev_iadd (r := (w0 + 1)) (by unfold w32; omega) ?_
                    refine g_putf (r := 42) g ad42 (by decide) ft12_21 (by decide) (fun e => absurd e nz12_21) rf42_21 (by decide) (by omega) (by omega) (fun h80551 e80551 g80551 => ?_)
                    have k80551 := k0.wr e80551 rfl
                    refine ev_aload_n rfl ?_
                    refine g_getv (r := 42) (v := (w0 + 1)) g80551 ad42 (by decide) ft12_21 ((jw_eq e80551)) ?_
                    refine ev_bipush ?_
                    refine ev_icmple f267_27 (fun c80552 => absurd c80552 (by omega)) (fun c80552 => ?_)
                    refine ev_iconst ?_
                    refine ev_ret rfl (by decide) (by decide) ?_
                    show jEv _ _ _ _ _ _ _ (_, [(2, 42), (0, a1), (0, 1), (0, (a1 + 2)), (0, 0), (0, (10 * v80482 + v80510 - 528)), (0, 2)], [(0, (-1))], _, _, _)
                    refine ev_pop (by decide) ?_
                    refine ev_iload_n rfl ?_
                    exact ev_ret rfl (by decide) (by decide) ⟨⟨_, rfl, by omega, by omega, g80551, k80551⟩, fun r hr h0 => by cases hr; exact (Ad.step (r' := (a1 + 2)) (Ad.step (r' := (a1 + 1)) (Ad.rf _ _ _) (by omega) k80551 (fun _ => rfl) (((jw_ne e80551 (Or.inl (by decide))).trans ev80482)) (by omega) (by omega) (by omega)) (by omega) k80551 (fun _ => rfl) (((jw_ne e80551 (Or.inl (by decide))).trans ev80510)) (by omega) (by omega) (by omega)), fun r hr => by cases hr; exact ⟨_, ((jw_eq e80551)), by omega, by omega, fun h0 => by omega⟩, fun r hr => by cases hr; exact okM (show (if bR h a1 = 45 then enR (bR h) (a1 + 1) else enR (bR h) a1) = ((a1 + 2), 0, 0, 1) by rw [if_neg (fun z => absurd ((bR_at (p := a1) k80551 (fun _ => rfl) ew1 (((jw_ne e80551 (Or.inl (by decide))).trans ev80482)) (by omega) (by omega)).symm.trans z) (by omega))]; unfold enR; rw [show nm3 (bR h) a1 = (a1 + 2) by unfold nm3; rw [(bR_at (p := a1) k80551 (fun _ => rfl) ew1 (((jw_ne e80551 (Or.inl (by decide))).trans ev80482)) (by omega) (by omega)), (bR_at (p := (a1 + 1)) k80551 (fun _ => rfl) ew1 (((jw_ne e80551 (Or.inl (by decide))).trans ev80510)) (by omega) (by omega)), (bR_at (p := (a1 + 2)) k80551 (fun _ => rfl) ew1 (((jw_ne e80551 (Or.inl (by decide))).trans ev80543)) (by omega) (by omega))]; (repeat' split) <;> omega, if_neg (by omega)]) (by omega) (by omega) ((jw_eq e80551)) (by omega)⟩
                  · refine ev_iload_n rfl ?_
                    refine ev_iload_n rfl ?_
                    refine ev_icmpgt f242_14 (fun c80553 => ?_) (fun c80553 => ?_)
                    · refine ev_iconst ?_
                      refine ev_ret rfl (by decide) (by decide) ?_
                      show jEv _ _ _ _ _ _ _ (_, [(2, 42), (0, (a1 + 2))], [(0, 0)], _, _, _)
                      refine ev_ret rfl (by decide) (by decide) ?_
                      show jEv _ _ _ _ _ _ _ (_, [(2, 42), (0, a1), (0, 1), (0, (a1 + 2)), (0, 0), (0, (10 * v80482 + v80510 - 528)), (0, 2)], [(0, 0)], _, _, _)
                      refine ev_ifeq f269_86 (fun c80554 => ?_) (fun c80554 => absurd c80554 (by omega))
                      refine ev_aload_n rfl ?_
                      refine ev_iload_n rfl ?_
                      refine ev_in (d := 1) (a := 0) (b := 0) (cd' := c265_0) (m := 2) (L0 := [(2, 42), (0, (a1 + 2))]) (jcall_v (A := [(0, (a1 + 2))]) (S' := []) (r := 42) rfl (g.lt ad42) (g.tg ad42) (Nat.le_of_ble_eq_true rfl)) (by decide) ml265 pp265 (Nat.le_of_ble_eq_true rfl) rfl (by decide) (by decide) ?_
                      refine ev_aload_n rfl ?_
                      refine ev_iload_n rfl ?_
                      refine ev_in (d := 0) (a := 0) (b := 0) (cd' := c264_0) (m := 2) (L0 := [(2, 42), (0, (a1 + 2))]) (jcall_v (A := [(0, (a1 + 2))]) (S' := []) (r := 42) rfl (g.lt ad42) (g.tg ad42) (Nat.le_of_ble_eq_true rfl)) (by decide) ml264 pp264 (Nat.le_of_ble_eq_true rfl) rfl (by decide) (by decide) ?_
                      refine ev_iload_n rfl ?_
                      refine ev_aload_n rfl ?_
                      refine g_getv (r := 42) (v := w1) g ad42 (by decide) ft12_17 (ew1) ?_
                      refine ev_icmpge f264_17 (fun c80555 => absurd c80555 (by omega)) (fun c80555 => ?_)
                      refine ev_aload_n rfl ?_
                      refine g_getp (r := 42) (c := 54) g ad42 (by decide) (by decide) rf42_16 ft12_16 ?_
                      refine ev_iload_n rfl ?_
                      refine g_baldv (v := v80543) g ad54 (by omega) (by omega) (ev80543) ?_
                      refine ev_goto f264_18 ?_
                      refine ev_ret rfl (by decide) (by decide) ?_
                      show jEv _ _ _ _ _ _ _ (_, [(2, 42), (0, (a1 + 2))], [(0, v80543)], _, _, _)
                      refine ev_bipush ?_
                      refine ev_bipush ?_
                      refine ev_in (d := 0) (a := 0) (b := 0) (cd' := c242_0) (m := 3) (L0 := [(0, v80543), (0, 48), (0, 57)]) (jcall_s (A := [(0, 57), (0, 48), (0, v80543)]) (S' := []) (by decide) rfl (Nat.le_of_ble_eq_true rfl)) (by decide) ml242 pp242 (Nat.le_of_ble_eq_true rfl) rfl (by decide) (by decide) ?_
                      refine ev_iload_n rfl ?_
                      refine ev_iload_n rfl ?_
                      refine ev_icmplt f242_14 (fun c80556 => absurd c80556 (by omega)) (fun c80556 => ?_)
                      refine ev_iload_n rfl ?_
                      refine ev_iload_n rfl ?_
                      refine ev_icmpgt f242_14 (fun c80557 => ?_) (fun c80557 => absurd c80557 (by omega))
                      refine ev_iconst ?_
                      refine ev_ret rfl (by decide) (by decide) ?_
                      show jEv _ _ _ _ _ _ _ (_, [(2, 42), (0, (a1 + 2))], [(0, 0)], _, _, _)
                      refine ev_ret rfl (by decide) (by decide) ?_
                      show jEv _ _ _ _ _ _ _ (_, [(2, 42), (0, a1), (0, 1), (0, (a1 + 2)), (0, 0), (0, (10 * v80482 + v80510 - 528)), (0, 2)], [(0, 0)], _, _, _)
                      refine ev_ifeq f269_100 (fun c80558 => ?_) (fun c80558 => absurd c80558 (by omega))
                      refine ev_aload_n rfl ?_
                      refine ev_iload_n rfl ?_
                      refine ev_iconst ?_
                      refine ev_iload rfl ?_
                      refine ev_ifeq f269_114 (fun c80559 => ?_) (fun c80559 => absurd c80559 (by omega))
                      refine ev_iload rfl ?_
                      refine ev_in (d := 1) (a := 0) (b := 0) (cd' := c267_0) (m := 6) (L0 := [(2, 42), (0, 1), (0, 0), (0, (10 * v80482 + v80510 - 528)), (9, 0), (9, 0)]) (jcall_v (A := [(0, (10 * v80482 + v80510 - 528)), (0, 0), (0, 1)]) (S' := []) (r := 42) rfl (g.lt ad42) (g.tg ad42) (Nat.le_of_ble_eq_true rfl)) (by decide) ml267 pp267 (Nat.le_of_ble_eq_true rfl) rfl (by decide) (by decide) ?_
                      refine ev_iload_n rfl ?_
                      refine ev_ifne f267_6 (fun c80560 => ?_) (fun c80560 => absurd c80560 (by omega))
                      refine ev_aload_n rfl ?_
                      refine ev_dup (by decide) ?_
                      refine g_getv (r := 42) (v := w0) g ad42 (by decide) ft12_21 (ew0) ?_
                      refine ev_iconst ?_
                      refine ev_iadd (r := (w0 + 1)) (by unfold w32; omega) ?_
                      refine g_putf (r := 42) g ad42 (by decide) ft12_21 (by decide) (fun e => absurd e nz12_21) rf42_21 (by decide) (by omega) (by omega) (fun h80561 e80561 g80561 => ?_)
                      have k80561 := k0.wr e80561 rfl
                      refine ev_aload_n rfl ?_
                      refine g_getv (r := 42) (v := (w0 + 1)) g80561 ad42 (by decide) ft12_21 ((jw_eq e80561)) ?_
                      refine ev_bipush ?_
                      refine ev_icmple f267_27 (fun c80562 => absurd c80562 (by omega)) (fun c80562 => ?_)
                      refine ev_iconst ?_
                      refine ev_ret rfl (by decide) (by decide) ?_
                      show jEv _ _ _ _ _ _ _ (_, [(2, 42), (0, a1), (0, 1), (0, (a1 + 2)), (0, 0), (0, (10 * v80482 + v80510 - 528)), (0, 2)], [(0, (-1))], _, _, _)
                      refine ev_pop (by decide) ?_
                      refine ev_iload_n rfl ?_
                      exact ev_ret rfl (by decide) (by decide) ⟨⟨_, rfl, by omega, by omega, g80561, k80561⟩, fun r hr h0 => by cases hr; exact (Ad.step (r' := (a1 + 2)) (Ad.step (r' := (a1 + 1)) (Ad.rf _ _ _) (by omega) k80561 (fun _ => rfl) (((jw_ne e80561 (Or.inl (by decide))).trans ev80482)) (by omega) (by omega) (by omega)) (by omega) k80561 (fun _ => rfl) (((jw_ne e80561 (Or.inl (by decide))).trans ev80510)) (by omega) (by omega) (by omega)), fun r hr => by cases hr; exact ⟨_, ((jw_eq e80561)), by omega, by omega, fun h0 => by omega⟩, fun r hr => by cases hr; exact okM (show (if bR h a1 = 45 then enR (bR h) (a1 + 1) else enR (bR h) a1) = ((a1 + 2), 0, 0, 1) by rw [if_neg (fun z => absurd ((bR_at (p := a1) k80561 (fun _ => rfl) ew1 (((jw_ne e80561 (Or.inl (by decide))).trans ev80482)) (by omega) (by omega)).symm.trans z) (by omega))]; unfold enR; rw [show nm3 (bR h) a1 = (a1 + 2) by unfold nm3; rw [(bR_at (p := a1) k80561 (fun _ => rfl) ew1 (((jw_ne e80561 (Or.inl (by decide))).trans ev80482)) (by omega) (by omega)), (bR_at (p := (a1 + 1)) k80561 (fun _ => rfl) ew1 (((jw_ne e80561 (Or.inl (by decide))).trans ev80510)) (by omega) (by omega)), (bR_at (p := (a1 + 2)) k80561 (fun _ => rfl) ew1 (((jw_ne e80561 (Or.inl (by decide))).trans ev80543)) (by omega) (by omega))]; (repeat' split) <;> omega, if_neg (by omega)]) (by omega) (by omega) ((jw_eq e80561)) (by omega)⟩
                    · refine ev_iconst ?_
                      refine ev_goto f242_15 ?_
                      refine ev_ret rfl (by decide) (by decide) ?_
                      show jEv _ _ _ _ _ _ _ (_, [(2, 42), (0, (a1 + 2))], [(0, 1)], _, _, _)
                      refine ev_ret rfl (by decide) (by decide) ?_
                      show jEv _ _ _ _ _ _ _ (_, [(2, 42), (0, a1), (0, 1), (0, (a1 + 2)), (0, 0), (0, (10 * v80482 + v80510 - 528)), (0, 2)], [(0, 1)], _, _, _)
                      refine ev_ifeq f269_86 (fun c80563 => absurd c80563 (by omega)) (fun c80563 => ?_)
                      refine ev_bipush ?_
                      refine ev_iload rfl ?_
                      refine ev_imul (r := (100 * v80482 + 10 * v80510 - 5280)) (by unfold w32; omega) ?_
                      refine ev_aload_n rfl ?_
                      refine ev_iload_n rfl ?_
                      refine ev_in (d := 1) (a := 0) (b := 0) (cd' := c264_0) (m := 2) (L0 := [(2, 42), (0, (a1 + 2))]) (jcall_v (A := [(0, (a1 + 2))]) (S' := [(0, (100 * v80482 + 10 * v80510 - 5280))]) (r := 42) rfl (g.lt ad42) (g.tg ad42) (Nat.le_of_ble_eq_true rfl)) (by decide) ml264 pp264 (Nat.le_of_ble_eq_true rfl) rfl (by decide) (by decide) ?_
                      refine ev_iload_n rfl ?_
                      refine ev_aload_n rfl ?_
                      refine g_getv (r := 42) (v := w1) g ad42 (by decide) ft12_17 (ew1) ?_
                      refine ev_icmpge f264_17 (fun c80564 => absurd c80564 (by omega)) (fun c80564 => ?_)
                      refine ev_aload_n rfl ?_
                      refine g_getp (r := 42) (c := 54) g ad42 (by decide) (by decide) rf42_16 ft12_16 ?_
                      refine ev_iload_n rfl ?_
                      refine g_baldv (v := v80543) g ad54 (by omega) (by omega) (ev80543) ?_
                      refine ev_goto f264_18 ?_
                      refine ev_ret rfl (by decide) (by decide) ?_
                      show jEv _ _ _ _ _ _ _ (_, [(2, 42), (0, a1), (0, 1), (0, (a1 + 2)), (0, 0), (0, (10 * v80482 + v80510 - 528)), (0, 2)], [(0, v80543), (0, (100 * v80482 + 10 * v80510 - 5280))], _, _, _)
                      refine ev_iadd (r := (100 * v80482 + 10 * v80510 + v80543 - 5280)) (by unfold w32; omega) ?_
                      refine ev_bipush ?_
                      refine ev_isub (r := (100 * v80482 + 10 * v80510 + v80543 - 5328)) (by unfold w32; omega) ?_
                      refine ev_istore (L' := [(2, 42), (0, a1), (0, 1), (0, (a1 + 2)), (0, 0), (0, (100 * v80482 + 10 * v80510 + v80543 - 5328)), (0, 2)]) (Nat.le_of_ble_eq_true rfl) rfl ?_
                      refine ev_iinc (w := 3) (L' := [(2, 42), (0, a1), (0, 1), (0, (a1 + 2)), (0, 0), (0, (100 * v80482 + 10 * v80510 + v80543 - 5328)), (0, 3)]) rfl (by decide) rfl ?_
                      refine ev_iinc (w := (a1 + 3)) (L' := [(2, 42), (0, a1), (0, 1), (0, (a1 + 3)), (0, 0), (0, (100 * v80482 + 10 * v80510 + v80543 - 5328)), (0, 3)]) rfl (by unfold w32; omega) rfl ?_
                      refine ev_goto f269_47 ?_
                      refine ev_iload rfl ?_
                      refine ev_iconst ?_
                      refine ev_icmpge f269_86 (fun c80565 => ?_) (fun c80565 => absurd c80565 (by omega))
                      refine ev_aload_n rfl ?_
                      refine ev_iload_n rfl ?_
                      refine ev_in (d := 1) (a := 0) (b := 0) (cd' := c265_0) (m := 2) (L0 := [(2, 42), (0, (a1 + 3))]) (jcall_v (A := [(0, (a1 + 3))]) (S' := []) (r := 42) rfl (g.lt ad42) (g.tg ad42) (Nat.le_of_ble_eq_true rfl)) (by decide) ml265 pp265 (Nat.le_of_ble_eq_true rfl) rfl (by decide) (by decide) ?_
                      refine ev_aload_n rfl ?_
                      refine ev_iload_n rfl ?_
                      refine ev_in (d := 0) (a := 0) (b := 0) (cd' := c264_0) (m := 2) (L0 := [(2, 42), (0, (a1 + 3))]) (jcall_v (A := [(0, (a1 + 3))]) (S' := []) (r := 42) rfl (g.lt ad42) (g.tg ad42) (Nat.le_of_ble_eq_true rfl)) (by decide) ml264 pp264 (Nat.le_of_ble_eq_true rfl) rfl (by decide) (by decide) ?_
                      refine ev_iload_n rfl ?_
                      refine ev_aload_n rfl ?_
                      refine g_getv (r := 42) (v := w1) g ad42 (by decide) ft12_17 (ew1) ?_
                      refine ev_icmpge f264_17 (fun c80566 => ?_) (fun c80566 => ?_)
                      · refine ev_iconst ?_
                        refine ev_ret rfl (by decide) (by decide) ?_
                        show jEv _ _ _ _ _ _ _ (_, [(2, 42), (0, (a1 + 3))], [(0, (-1))], _, _, _)
                        refine ev_bipush ?_
                        refine ev_bipush ?_
                        refine ev_in (d := 0) (a := 0) (b := 0) (cd' := c242_0) (m := 3) (L0 := [(0, (-1)), (0, 48), (0, 57)]) (jcall_s (A := [(0, 57), (0, 48), (0, (-1))]) (S' := []) (by decide) rfl (Nat.le_of_ble_eq_true rfl)) (by decide) ml242 pp242 (Nat.le_of_ble_eq_true rfl) rfl (by decide) (by decide) ?_
                        refine ev_iload_n rfl ?_
                        refine ev_iload_n rfl ?_
                        refine ev_icmplt f242_14 (fun c80567 => ?_) (fun c80567 => absurd c80567 (by omega))
                        refine ev_iconst ?_
                        refine ev_ret rfl (by decide) (by decide) ?_
                        show jEv _ _ _ _ _ _ _ (_, [(2, 42), (0, (a1 + 3))], [(0, 0)], _, _, _)
                        refine ev_ret rfl (by decide) (by decide) ?_
                        show jEv _ _ _ _ _ _ _ (_, [(2, 42), (0, a1), (0, 1), (0, (a1 + 3)), (0, 0), (0, (100 * v80482 + 10 * v80510 + v80543 - 5328)), (0, 3)], [(0, 0)], _, _, _)
                        refine ev_ifeq f269_100 (fun c80568 => ?_) (fun c80568 => absurd c80568 (by omega))
                        refine ev_aload_n rfl ?_
                        refine ev_iload_n rfl ?_
                        refine ev_iconst ?_
                        refine ev_iload rfl ?_
                        refine ev_ifeq f269_114 (fun c80569 => ?_) (fun c80569 => absurd c80569 (by omega))
                        refine ev_iload rfl ?_
                        refine ev_in (d := 1) (a := 0) (b := 0) (cd' := c267_0) (m := 6) (L0 := [(2, 42), (0, 1), (0, 0), (0, (100 * v80482 + 10 * v80510 + v80543 - 5328)), (9, 0), (9, 0)]) (jcall_v (A := [(0, (100 * v80482 + 10 * v80510 + v80543 - 5328)), (0, 0), (0, 1)]) (S' := []) (r := 42) rfl (g.lt ad42) (g.tg ad42) (Nat.le_of_ble_eq_true rfl)) (by decide) ml267 pp267 (Nat.le_of_ble_eq_true rfl) rfl (by decide) (by decide) ?_
                        refine ev_iload_n rfl ?_
                        refine ev_ifne f267_6 (fun c80570 => ?_) (fun c80570 => absurd c80570 (by omega))
                        refine ev_aload_n rfl ?_
                        refine ev_dup (by decide) ?_
                        refine g_getv (r := 42) (v := w0) g ad42 (by decide) ft12_21 (ew0) ?_
                        refine ev_iconst ?_
                        refine ev_iadd (r := (w0 + 1)) (by unfold w32; omega) ?_
                        refine g_putf (r := 42) g ad42 (by decide) ft12_21 (by decide) (fun e => absurd e nz12_21) rf42_21 (by decide) (by omega) (by omega) (fun h80571 e80571 g80571 => ?_)
                        have k80571 := k0.wr e80571 rfl
                        refine ev_aload_n rfl ?_
                        refine g_getv (r := 42) (v := (w0 + 1)) g80571 ad42 (by decide) ft12_21 ((jw_eq e80571)) ?_
                        refine ev_bipush ?_
                        refine ev_icmple f267_27 (fun c80572 => absurd c80572 (by omega)) (fun c80572 => ?_)
                        refine ev_iconst ?_
                        refine ev_ret rfl (by decide) (by decide) ?_
                        show jEv _ _ _ _ _ _ _ (_, [(2, 42), (0, a1), (0, 1), (0, (a1 + 3)), (0, 0), (0, (100 * v80482 + 10 * v80510 + v80543 - 5328)), (0, 3)], [(0, (-1))], _, _, _)
                        refine ev_pop (by decide) ?_
                        refine ev_iload_n rfl ?_
                        exact ev_ret rfl (by decide) (by decide) ⟨⟨_, rfl, by omega, by omega, g80571, k80571⟩, fun r hr h0 => by cases hr; exact (Ad.step (r' := (a1 + 3)) (Ad.step (r' := (a1 + 2)) (Ad.step (r' := (a1 + 1)) (Ad.rf _ _ _) (by omega) k80571 (fun _ => rfl) (((jw_ne e80571 (Or.inl (by decide))).trans ev80482)) (by omega) (by omega) (by omega)) (by omega) k80571 (fun _ => rfl) (((jw_ne e80571 (Or.inl (by decide))).trans ev80510)) (by omega) (by omega) (by omega)) (by omega) k80571 (fun _ => rfl) (((jw_ne e80571 (Or.inl (by decide))).trans ev80543)) (by omega) (by omega) (by omega)), fun r hr => by cases hr; exact ⟨_, ((jw_eq e80571)), by omega, by omega, fun h0 => by omega⟩, fun r hr => by cases hr; exact okM (show (if bR h a1 = 45 then enR (bR h) (a1 + 1) else enR (bR h) a1) = ((a1 + 3), 0, 0, 1) by rw [if_neg (fun z => absurd ((bR_at (p := a1) k80571 (fun _ => rfl) ew1 (((jw_ne e80571 (Or.inl (by decide))).trans ev80482)) (by omega) (by omega)).symm.trans z) (by omega))]; unfold enR; rw [show nm3 (bR h) a1 = (a1 + 3) by unfold nm3; rw [(bR_at (p := a1) k80571 (fun _ => rfl) ew1 (((jw_ne e80571 (Or.inl (by decide))).trans ev80482)) (by omega) (by omega)), (bR_at (p := (a1 + 1)) k80571 (fun _ => rfl) ew1 (((jw_ne e80571 (Or.inl (by decide))).trans ev80510)) (by omega) (by omega)), (bR_at (p := (a1 + 2)) k80571 (fun _ => rfl) ew1 (((jw_ne e80571 (Or.inl (by decide))).trans ev80543)) (by omega) (by omega))]; (repeat' split) <;> omega, if_neg (by omega)]) (by omega) (by omega) ((jw_eq e80571)) (by omega)⟩
                      · refine ev_aload_n rfl ?_
                        refine g_getp (r := 42) (c := 54) g ad42 (by decide) (by decide) rf42_16 ft12_16 ?_
                        refine ev_iload_n rfl ?_
                        refine g_bald g ad54 rt54 (by omega) (by omega) (fun v80573 ev80573 lv80573 uv80573 => ?_)
                        refine ev_goto f264_18 ?_
                        refine ev_ret rfl (by decide) (by decide) ?_
                        show jEv _ _ _ _ _ _ _ (_, [(2, 42), (0, (a1 + 3))], [(0, v80573)], _, _, _)
                        refine ev_bipush ?_
                        refine ev_bipush ?_
                        refine ev_in (d := 0) (a := 0) (b := 0) (cd' := c242_0) (m := 3) (L0 := [(0, v80573), (0, 48), (0, 57)]) (jcall_s (A := [(0, 57), (0, 48), (0, v80573)]) (S' := []) (by decide) rfl (Nat.le_of_ble_eq_true rfl)) (by decide) ml242 pp242 (Nat.le_of_ble_eq_true rfl) rfl (by decide) (by decide) ?_
                        refine ev_iload_n rfl ?_
                        refine ev_iload_n rfl ?_
                        refine ev_icmplt f242_14 (fun c80574 => ?_) (fun c80574 => ?_)
                        · refine ev_iconst ?_
                          refine ev_ret rfl (by decide) (by decide) ?_
                          show jEv _ _ _ _ _ _ _ (_, [(2, 42), (0, (a1 + 3))], [(0, 0)], _, _, _)
                          refine ev_ret rfl (by decide) (by decide) ?_
                          show jEv _ _ _ _ _ _ _ (_, [(2, 42), (0, a1), (0, 1), (0, (a1 + 3)), (0, 0), (0, (100 * v80482 + 10 * v80510 + v80543 - 5328)), (0, 3)], [(0, 0)], _, _, _)
                          refine ev_ifeq f269_100 (fun c80575 => ?_) (fun c80575 => absurd c80575 (by omega))
                          refine ev_aload_n rfl ?_
                          refine ev_iload_n rfl ?_
                          refine ev_iconst ?_
                          refine ev_iload rfl ?_
                          refine ev_ifeq f269_114 (fun c80576 => ?_) (fun c80576 => absurd c80576 (by omega))
                          refine ev_iload rfl ?_
                          refine ev_in (d := 1) (a := 0) (b := 0) (cd' := c267_0) (m := 6) (L0 := [(2, 42), (0, 1), (0, 0), (0, (100 * v80482 + 10 * v80510 + v80543 - 5328)), (9, 0), (9, 0)]) (jcall_v (A := [(0, (100 * v80482 + 10 * v80510 + v80543 - 5328)), (0, 0), (0, 1)]) (S' := []) (r := 42) rfl (g.lt ad42) (g.tg ad42) (Nat.le_of_ble_eq_true rfl)) (by decide) ml267 pp267 (Nat.le_of_ble_eq_true rfl) rfl (by decide) (by decide) ?_
                          refine ev_iload_n rfl ?_
                          refine ev_ifne f267_6 (fun c80577 => ?_) (fun c80577 => absurd c80577 (by omega))
                          refine ev_aload_n rfl ?_
                          refine ev_dup (by decide) ?_
                          refine g_getv (r := 42) (v := w0) g ad42 (by decide) ft12_21 (ew0) ?_
                          refine ev_iconst ?_
                          refine ev_iadd (r := (w0 + 1)) (by unfold w32; omega) ?_
                          refine g_putf (r := 42) g ad42 (by decide) ft12_21 (by decide) (fun e => absurd e nz12_21) rf42_21 (by decide) (by omega) (by omega) (fun h80578 e80578 g80578 => ?_)
                          have k80578 := k0.wr e80578 rfl
                          refine ev_aload_n rfl ?_
                          refine g_getv (r := 42) (v := (w0 + 1)) g80578 ad42 (by decide) ft12_21 ((jw_eq e80578)) ?_
                          refine ev_bipush ?_
                          refine ev_icmple f267_27 (fun c80579 => absurd c80579 (by omega)) (fun c80579 => ?_)
                          refine ev_iconst ?_
                          refine ev_ret rfl (by decide) (by decide) ?_
                          show jEv _ _ _ _ _ _ _ (_, [(2, 42), (0, a1), (0, 1), (0, (a1 + 3)), (0, 0), (0, (100 * v80482 + 10 * v80510 + v80543 - 5328)), (0, 3)], [(0, (-1))], _, _, _)
                          refine ev_pop (by decide) ?_
                          refine ev_iload_n rfl ?_
                          exact ev_ret rfl (by decide) (by decide) ⟨⟨_, rfl, by omega, by omega, g80578, k80578⟩, fun r hr h0 => by cases hr; exact (Ad.step (r' := (a1 + 3)) (Ad.step (r' := (a1 + 2)) (Ad.step (r' := (a1 + 1)) (Ad.rf _ _ _) (by omega) k80578 (fun _ => rfl) (((jw_ne e80578 (Or.inl (by decide))).trans ev80482)) (by omega) (by omega) (by omega)) (by omega) k80578 (fun _ => rfl) (((jw_ne e80578 (Or.inl (by decide))).trans ev80510)) (by omega) (by omega) (by omega)) (by omega) k80578 (fun _ => rfl) (((jw_ne e80578 (Or.inl (by decide))).trans ev80543)) (by omega) (by omega) (by omega)), fun r hr => by cases hr; exact ⟨_, ((jw_eq e80578)), by omega, by omega, fun h0 => by omega⟩, fun r hr => by cases hr; exact okM (show (if bR h a1 = 45 then enR (bR h) (a1 + 1) else enR (bR h) a1) = ((a1 + 3), 0, 0, 1) by rw [if_neg (fun z => absurd ((bR_at (p := a1) k80578 (fun _ => rfl) ew1 (((jw_ne e80578 (Or.inl (by decide))).trans ev80482)) (by omega) (by omega)).symm.trans z) (by omega))]; unfold enR; rw [show nm3 (bR h) a1 = (a1 + 3) by unfold nm3; rw [(bR_at (p := a1) k80578 (fun _ => rfl) ew1 (((jw_ne e80578 (Or.inl (by decide))).trans ev80482)) (by omega) (by omega)), (bR_at (p := (a1 + 1)) k80578 (fun _ => rfl) ew1 (((jw_ne e80578 (Or.inl (by decide))).trans ev80510)) (by omega) (by omega)), (bR_at (p := (a1 + 2)) k80578 (fun _ => rfl) ew1 (((jw_ne e80578 (Or.inl (by decide))).trans ev80543)) (by omega) (by omega))]; (repeat' split) <;> omega, if_neg (by omega)]) (by omega) (by omega) ((jw_eq e80578)) (by omega)⟩
                        · refine ev_iload_n rfl ?_
                          refine ev_iload_n rfl ?_
                          refine ev_icmpgt f242_14 (fun c80580 => ?_) (fun c80580 => ?_)
                          · refine ev_iconst ?_
                            refine ev_ret rfl (by decide) (by decide) ?_
                            show jEv _ _ _ _ _ _ _ (_, [(2, 42), (0, (a1 + 3))], [(0, 0)], _, _, _)
                            refine ev_ret rfl (by decide) (by decide) ?_
                            show jEv _ _ _ _ _ _ _ (_, [(2, 42), (0, a1), (0, 1), (0, (a1 + 3)), (0, 0), (0, (100 * v80482 + 10 * v80510 + v80543 - 5328)), (0, 3)], [(0, 0)], _, _, _)
                            refine ev_ifeq f269_100 (fun c80581 => ?_) (fun c80581 => absurd c80581 (by omega))
                            refine ev_aload_n rfl ?_
                            refine ev_iload_n rfl ?_
                            refine ev_iconst ?_
                            refine ev_iload rfl ?_
                            refine ev_ifeq f269_114 (fun c80582 => ?_) (fun c80582 => absurd c80582 (by omega))
                            refine ev_iload rfl ?_
                            refine ev_in (d := 1) (a := 0) (b := 0) (cd' := c267_0) (m := 6) (L0 := [(2, 42), (0, 1), (0, 0), (0, (100 * v80482 + 10 * v80510 + v80543 - 5328)), (9, 0), (9, 0)]) (jcall_v (A := [(0, (100 * v80482 + 10 * v80510 + v80543 - 5328)), (0, 0), (0, 1)]) (S' := []) (r := 42) rfl (g.lt ad42) (g.tg ad42) (Nat.le_of_ble_eq_true rfl)) (by decide) ml267 pp267 (Nat.le_of_ble_eq_true rfl) rfl (by decide) (by decide) ?_
                            refine ev_iload_n rfl ?_
                            refine ev_ifne f267_6 (fun c80583 => ?_) (fun c80583 => absurd c80583 (by omega))
                            refine ev_aload_n rfl ?_
                            refine ev_dup (by decide) ?_
                            refine g_getv (r := 42) (v := w0) g ad42 (by decide) ft12_21 (ew0) ?_
                            refine ev_iconst ?_
                            refine ev_iadd (r := (w0 + 1)) (by unfold w32; omega) ?_
                            refine g_putf (r := 42) g ad42 (by decide) ft12_21 (by decide) (fun e => absurd e nz12_21) rf42_21 (by decide) (by omega) (by omega) (fun h80584 e80584 g80584 => ?_)
                            have k80584 := k0.wr e80584 rfl
                            refine ev_aload_n rfl ?_
                            refine g_getv (r := 42) (v := (w0 + 1)) g80584 ad42 (by decide) ft12_21 ((jw_eq e80584)) ?_
                            refine ev_bipush ?_
                            refine ev_icmple f267_27 (fun c80585 => absurd c80585 (by omega)) (fun c80585 => ?_)
                            refine ev_iconst ?_
                            refine ev_ret rfl (by decide) (by decide) ?_
                            show jEv _ _ _ _ _ _ _ (_, [(2, 42), (0, a1), (0, 1), (0, (a1 + 3)), (0, 0), (0, (100 * v80482 + 10 * v80510 + v80543 - 5328)), (0, 3)], [(0, (-1))], _, _, _)
                            refine ev_pop (by decide) ?_
                            refine ev_iload_n rfl ?_
                            exact ev_ret rfl (by decide) (by decide) ⟨⟨_, rfl, by omega, by omega, g80584, k80584⟩, fun r hr h0 => by cases hr; exact (Ad.step (r' := (a1 + 3)) (Ad.step (r' := (a1 + 2)) (Ad.step (r' := (a1 + 1)) (Ad.rf _ _ _) (by omega) k80584 (fun _ => rfl) (((jw_ne e80584 (Or.inl (by decide))).trans ev80482)) (by omega) (by omega) (by omega)) (by omega) k80584 (fun _ => rfl) (((jw_ne e80584 (Or.inl (by decide))).trans ev80510)) (by omega) (by omega) (by omega)) (by omega) k80584 (fun _ => rfl) (((jw_ne e80584 (Or.inl (by decide))).trans ev80543)) (by omega) (by omega) (by omega)), fun r hr => by cases hr; exact ⟨_, ((jw_eq e80584)), by omega, by omega, fun h0 => by omega⟩, fun r hr => by cases hr; exact okM (show (if bR h a1 = 45 then enR (bR h) (a1 + 1) else enR (bR h) a1) = ((a1 + 3), 0, 0, 1) by rw [if_neg (fun z => absurd ((bR_at (p := a1) k80584 (fun _ => rfl) ew1 (((jw_ne e80584 (Or.inl (by decide))).trans ev80482)) (by omega) (by omega)).symm.trans z) (by omega))]; unfold enR; rw [show nm3 (bR h) a1 = (a1 + 3) by unfold nm3; rw [(bR_at (p := a1) k80584 (fun _ => rfl) ew1 (((jw_ne e80584 (Or.inl (by decide))).trans ev80482)) (by omega) (by omega)), (bR_at (p := (a1 + 1)) k80584 (fun _ => rfl) ew1 (((jw_ne e80584 (Or.inl (by decide))).trans ev80510)) (by omega) (by omega)), (bR_at (p := (a1 + 2)) k80584 (fun _ => rfl) ew1 (((jw_ne e80584 (Or.inl (by decide))).trans ev80543)) (by omega) (by omega))]; (repeat' split) <;> omega, if_neg (by omega)]) (by omega) (by omega) ((jw_eq e80584)) (by omega)⟩
                          · refine ev_iconst ?_
                            refine ev_goto f242_15 ?_
                            refine ev_ret rfl (by decide) (by decide) ?_
                            show jEv _ _ _ _ _ _ _ (_, [(2, 42), (0, (a1 + 3))], [(0, 1)], _, _, _)
                            refine ev_ret rfl (by decide) (by decide) ?_
                            show jEv _ _ _ _ _ _ _ (_, [(2, 42), (0, a1), (0, 1), (0, (a1 + 3)), (0, 0), (0, (100 * v80482 + 10 * v80510 + v80543 - 5328)), (0, 3)], [(0, 1)], _, _, _)
                            refine ev_ifeq f269_100 (fun c80586 => absurd c80586 (by omega)) (fun c80586 => ?_)
                            refine ev_aload_n rfl ?_
                            refine ev_iload_n rfl ?_
                            refine ev_in (d := 1) (a := 0) (b := 0) (cd' := c266_0) (m := 2) (L0 := [(2, 42), (0, (a1 + 3))]) (jcall_v (A := [(0, (a1 + 3))]) (S' := []) (r := 42) rfl (g.lt ad42) (g.tg ad42) (Nat.le_of_ble_eq_true rfl)) (by decide) ml266 pp266 (Nat.le_of_ble_eq_true rfl) rfl (by decide) (by decide) ?_
                            refine ev_aload_n rfl ?_
                            refine ev_iload_n rfl ?_
                            refine g_putf (r := 42) g ad42 (by decide) ft12_20 (by decide) (fun e => absurd e nz12_20) rf42_20 (by decide) (by omega) (by omega) (fun h80587 e80587 g80587 => ?_)
                            have k80587 := k0.wr e80587 rfl
                            refine ev_iconst ?_
                            refine ev_ret rfl (by decide) (by decide) ?_
                            show jEv _ _ _ _ _ _ _ (_, [(2, 42), (0, a1), (0, 1), (0, (a1 + 3)), (0, 0), (0, (100 * v80482 + 10 * v80510 + v80543 - 5328)), (0, 3)], [(0, (-1))], _, _, _)
                            exact ev_ret rfl (by decide) (by decide) ⟨⟨_, rfl, by omega, by omega, g80587, k80587⟩, fun r hr h0 => by cases hr; exfalso; omega, fun r hr => by cases hr; exact ⟨_, (((jw_ne e80587 (Or.inr (by decide))).trans ew0)), by omega, by omega, fun h0 => by exfalso; omega⟩, fun r hr => by cases hr; exact (Bd.M (show Bd (bR h) (if bR h a1 = 45 then enR (bR h) (a1 + 1) else enR (bR h) a1) (a1 + 3) from ⟨by omega, Or.inr (by rw [(show (if bR h a1 = 45 then enR (bR h) (a1 + 1) else enR (bR h) a1) = ((a1 + 3), 0, 0, 1) by rw [if_neg (fun z => absurd ((bR_at (p := a1) k80587 (fun _ => rfl) ew1 (((jw_ne e80587 (Or.inl (by decide))).trans ev80482)) (by omega) (by omega)).symm.trans z) (by omega))]; unfold enR; rw [show nm3 (bR h) a1 = (a1 + 3) by unfold nm3; rw [(bR_at (p := a1) k80587 (fun _ => rfl) ew1 (((jw_ne e80587 (Or.inl (by decide))).trans ev80482)) (by omega) (by omega)), (bR_at (p := (a1 + 1)) k80587 (fun _ => rfl) ew1 (((jw_ne e80587 (Or.inl (by decide))).trans ev80510)) (by omega) (by omega)), (bR_at (p := (a1 + 2)) k80587 (fun _ => rfl) ew1 (((jw_ne e80587 (Or.inl (by decide))).trans ev80543)) (by omega) (by omega))]; (repeat' split) <;> omega, if_neg (by omega)])]; exact ⟨rfl, by rw [(bR_at (p := (a1 + 3)) k80587 (fun _ => rfl) ew1 (((jw_ne e80587 (Or.inl (by decide))).trans ev80573)) (by omega) (by omega))]; omega⟩)⟩) ((jw_eq e80587)))⟩
    · refine ev_iconst ?_
      refine ev_goto f269_17 ?_
      refine ev_istore (L' := [(2, 42), (0, a1), (0, 1), (0, a1), (0, 1), (9, 0), (9, 0)]) (Nat.le_of_ble_eq_true rfl) rfl ?_
      refine ev_iload rfl ?_
      refine ev_ifeq f269_27 (fun c80588 => absurd c80588 (by omega)) (fun c80588 => ?_)
      refine ev_iinc (w := (a1 + 1)) (L' := [(2, 42), (0, a1), (0, 1), (0, (a1 + 1)), (0, 1), (9, 0), (9, 0)]) rfl (by unfold w32; omega) rfl ?_
      refine ev_aload_n rfl ?_
      refine ev_iload_n rfl ?_
      refine ev_in (d := 1) (a := 0) (b := 0) (cd' := c265_0) (m := 2) (L0 := [(2, 42), (0, (a1 + 1))]) (jcall_v (A := [(0, (a1 + 1))]) (S' := []) (r := 42) rfl (g.lt ad42) (g.tg ad42) (Nat.le_of_ble_eq_true rfl)) (by decide) ml265 pp265 (Nat.le_of_ble_eq_true rfl) rfl (by decide) (by decide) ?_
      refine ev_aload_n rfl ?_
      refine ev_iload_n rfl ?_
      refine ev_in (d := 0) (a := 0) (b := 0) (cd' := c264_0) (m := 2) (L0 := [(2, 42), (0, (a1 + 1))]) (jcall_v (A := [(0, (a1 + 1))]) (S' := []) (r := 42) rfl (g.lt ad42) (g.tg ad42) (Nat.le_of_ble_eq_true rfl)) (by decide) ml264 pp264 (Nat.le_of_ble_eq_true rfl) rfl (by decide) (by decide) ?_
      refine ev_iload_n rfl ?_
      refine ev_aload_n rfl ?_
      refine g_getv (r := 42) (v := w1) g ad42 (by decide) ft12_17 (ew1) ?_
      refine ev_icmpge f264_17 (fun c80589 => ?_) (fun c80589 => ?_)
      · refine ev_iconst ?_
        refine ev_ret rfl (by decide) (by decide) ?_
        show jEv _ _ _ _ _ _ _ (_, [(2, 42), (0, (a1 + 1))], [(0, (-1))], _, _, _)
        refine ev_bipush ?_
        refine ev_bipush ?_
        refine ev_in (d := 0) (a := 0) (b := 0) (cd' := c242_0) (m := 3) (L0 := [(0, (-1)), (0, 48), (0, 57)]) (jcall_s (A := [(0, 57), (0, 48), (0, (-1))]) (S' := []) (by decide) rfl (Nat.le_of_ble_eq_true rfl)) (by decide) ml242 pp242 (Nat.le_of_ble_eq_true rfl) rfl (by decide) (by decide) ?_
        refine ev_iload_n rfl ?_
        refine ev_iload_n rfl ?_
        refine ev_icmplt f242_14 (fun c80590 => ?_) (fun c80590 => absurd c80590 (by omega))
        refine ev_iconst ?_
        refine ev_ret rfl (by decide) (by decide) ?_
        show jEv _ _ _ _ _ _ _ (_, [(2, 42), (0, (a1 + 1))], [(0, 0)], _, _, _)
        refine ev_ret rfl (by decide) (by decide) ?_
        show jEv _ _ _ _ _ _ _ (_, [(2, 42), (0, a1), (0, 1), (0, (a1 + 1)), (0, 1), (9, 0), (9, 0)], [(0, 0)], _, _, _)
        refine ev_ifne f269_41 (fun c80591 => absurd c80591 (by omega)) (fun c80591 => ?_)
        refine ev_aload_n rfl ?_
        refine ev_iload_n rfl ?_
        refine ev_in (d := 1) (a := 0) (b := 0) (cd' := c266_0) (m := 2) (L0 := [(2, 42), (0, (a1 + 1))]) (jcall_v (A := [(0, (a1 + 1))]) (S' := []) (r := 42) rfl (g.lt ad42) (g.tg ad42) (Nat.le_of_ble_eq_true rfl)) (by decide) ml266 pp266 (Nat.le_of_ble_eq_true rfl) rfl (by decide) (by decide) ?_
        refine ev_aload_n rfl ?_
        refine ev_iload_n rfl ?_
        refine g_putf (r := 42) g ad42 (by decide) ft12_20 (by decide) (fun e => absurd e nz12_20) rf42_20 (by decide) (by omega) (by omega) (fun h80592 e80592 g80592 => ?_)
        have k80592 := k0.wr e80592 rfl
        refine ev_iconst ?_
        refine ev_ret rfl (by decide) (by decide) ?_
        show jEv _ _ _ _ _ _ _ (_, [(2, 42), (0, a1), (0, 1), (0, (a1 + 1)), (0, 1), (9, 0), (9, 0)], [(0, (-1))], _, _, _)
        exact ev_ret rfl (by decide) (by decide) ⟨⟨_, rfl, by omega, by omega, g80592, k80592⟩, fun r hr h0 => by cases hr; exfalso; omega, fun r hr => by cases hr; exact ⟨_, (((jw_ne e80592 (Or.inr (by decide))).trans ew0)), by omega, by omega, fun h0 => by exfalso; omega⟩, fun r hr => by cases hr; exact (Bd.M (bd_rF (p := (a1 + 1)) (by rw [if_pos ((bR_at (p := a1) k80592 (fun _ => rfl) ew1 (((jw_ne e80592 (Or.inl (by decide))).trans ev80482)) (by omega) (by omega)).trans (by omega))]; unfold enR; rw [if_pos (by unfold nm3; rw [show (a1 + 1 + 1 : Int) = a1 + 2 by omega, show (a1 + 1 + 2 : Int) = a1 + 3 by omega, (bR_end (p := (a1 + 1)) ew1 (by omega))]; (repeat' split) <;> omega)]) (by omega) (by omega)) ((jw_eq e80592)))⟩
      · refine ev_aload_n rfl ?_
        refine g_getp (r := 42) (c := 54) g ad42 (by decide) (by decide) rf42_16 ft12_16 ?_
        refine ev_iload_n rfl ?_
        refine g_bald g ad54 rt54 (by omega) (by omega) (fun v80593 ev80593 lv80593 uv80593 => ?_)
        refine ev_goto f264_18 ?_
        refine ev_ret rfl (by decide) (by decide) ?_
        show jEv _ _ _ _ _ _ _ (_, [(2, 42), (0, (a1 + 1))], [(0, v80593)], _, _, _)
        refine ev_bipush ?_
        refine ev_bipush ?_
        refine ev_in (d := 0) (a := 0) (b := 0) (cd' := c242_0) (m := 3) (L0 := [(0, v80593), (0, 48), (0, 57)]) (jcall_s (A := [(0, 57), (0, 48), (0, v80593)]) (S' := []) (by decide) rfl (Nat.le_of_ble_eq_true rfl)) (by decide) ml242 pp242 (Nat.le_of_ble_eq_true rfl) rfl (by decide) (by decide) ?_
        refine ev_iload_n rfl ?_
        refine ev_iload_n rfl ?_
        refine ev_icmplt f242_14 (fun c80594 => ?_) (fun c80594 => ?_)
        · refine ev_iconst ?_
          refine ev_ret rfl (by decide) (by decide) ?_
          show jEv _ _ _ _ _ _ _ (_, [(2, 42), (0, (a1 + 1))], [(0, 0)], _, _, _)
          refine ev_ret rfl (by decide) (by decide) ?_
          show jEv _ _ _ _ _ _ _ (_, [(2, 42), (0, a1), (0, 1), (0, (a1 + 1)), (0, 1), (9, 0), (9, 0)], [(0, 0)], _, _, _)
          refine ev_ifne f269_41 (fun c80595 => absurd c80595 (by omega)) (fun c80595 => ?_)
          refine ev_aload_n rfl ?_
          refine ev_iload_n rfl ?_
          refine ev_in (d := 1) (a := 0) (b := 0) (cd' := c266_0) (m := 2) (L0 := [(2, 42), (0, (a1 + 1))]) (jcall_v (A := [(0, (a1 + 1))]) (S' := []) (r := 42) rfl (g.lt ad42) (g.tg ad42) (Nat.le_of_ble_eq_true rfl)) (by decide) ml266 pp266 (Nat.le_of_ble_eq_true rfl) rfl (by decide) (by decide) ?_
          refine ev_aload_n rfl ?_
          refine ev_iload_n rfl ?_
          refine g_putf (r := 42) g ad42 (by decide) ft12_20 (by decide) (fun e => absurd e nz12_20) rf42_20 (by decide) (by omega) (by omega) (fun h80596 e80596 g80596 => ?_)
          have k80596 := k0.wr e80596 rfl
          refine ev_iconst ?_
          refine ev_ret rfl (by decide) (by decide) ?_
          show jEv _ _ _ _ _ _ _ (_, [(2, 42), (0, a1), (0, 1), (0, (a1 + 1)), (0, 1), (9, 0), (9, 0)], [(0, (-1))], _, _, _)
          exact ev_ret rfl (by decide) (by decide) ⟨⟨_, rfl, by omega, by omega, g80596, k80596⟩, fun r hr h0 => by cases hr; exfalso; omega, fun r hr => by cases hr; exact ⟨_, (((jw_ne e80596 (Or.inr (by decide))).trans ew0)), by omega, by omega, fun h0 => by exfalso; omega⟩, fun r hr => by cases hr; exact (Bd.M (bd_rF (p := (a1 + 1)) (by rw [if_pos ((bR_at (p := a1) k80596 (fun _ => rfl) ew1 (((jw_ne e80596 (Or.inl (by decide))).trans ev80482)) (by omega) (by omega)).trans (by omega))]; unfold enR; rw [if_pos (by unfold nm3; rw [show (a1 + 1 + 1 : Int) = a1 + 2 by omega, show (a1 + 1 + 2 : Int) = a1 + 3 by omega, (bR_at (p := (a1 + 1)) k80596 (fun _ => rfl) ew1 (((jw_ne e80596 (Or.inl (by decide))).trans ev80593)) (by omega) (by omega))]; (repeat' split) <;> omega)]) (by omega) (by omega)) ((jw_eq e80596)))⟩
        · refine ev_iload_n rfl ?_
          refine ev_iload_n rfl ?_
          refine ev_icmpgt f242_14 (fun c80597 => ?_) (fun c80597 => ?_)
          · refine ev_iconst ?_
            refine ev_ret rfl (by decide) (by decide) ?_
            show jEv _ _ _ _ _ _ _ (_, [(2, 42), (0, (a1 + 1))], [(0, 0)], _, _, _)
            refine ev_ret rfl (by decide) (by decide) ?_
            show jEv _ _ _ _ _ _ _ (_, [(2, 42), (0, a1), (0, 1), (0, (a1 + 1)), (0, 1), (9, 0), (9, 0)], [(0, 0)], _, _, _)
            refine ev_ifne f269_41 (fun c80598 => absurd c80598 (by omega)) (fun c80598 => ?_)
            refine ev_aload_n rfl ?_
            refine ev_iload_n rfl ?_
            refine ev_in (d := 1) (a := 0) (b := 0) (cd' := c266_0) (m := 2) (L0 := [(2, 42), (0, (a1 + 1))]) (jcall_v (A := [(0, (a1 + 1))]) (S' := []) (r := 42) rfl (g.lt ad42) (g.tg ad42) (Nat.le_of_ble_eq_true rfl)) (by decide) ml266 pp266 (Nat.le_of_ble_eq_true rfl) rfl (by decide) (by decide) ?_
            refine ev_aload_n rfl ?_
            refine ev_iload_n rfl ?_
            refine g_putf (r := 42) g ad42 (by decide) ft12_20 (by decide) (fun e => absurd e nz12_20) rf42_20 (by decide) (by omega) (by omega) (fun h80599 e80599 g80599 => ?_)
            have k80599 := k0.wr e80599 rfl
            refine ev_iconst ?_
            refine ev_ret rfl (by decide) (by decide) ?_
            show jEv _ _ _ _ _ _ _ (_, [(2, 42), (0, a1), (0, 1), (0, (a1 + 1)), (0, 1), (9, 0), (9, 0)], [(0, (-1))], _, _, _)
            exact ev_ret rfl (by decide) (by decide) ⟨⟨_, rfl, by omega, by omega, g80599, k80599⟩, fun r hr h0 => by cases hr; exfalso; omega, fun r hr => by cases hr; exact ⟨_, (((jw_ne e80599 (Or.inr (by decide))).trans ew0)), by omega, by omega, fun h0 => by exfalso; omega⟩, fun r hr => by cases hr; exact (Bd.M (bd_rF (p := (a1 + 1)) (by rw [if_pos ((bR_at (p := a1) k80599 (fun _ => rfl) ew1 (((jw_ne e80599 (Or.inl (by decide))).trans ev80482)) (by omega) (by omega)).trans (by omega))]; unfold enR; rw [if_pos (by unfold nm3; rw [show (a1 + 1 + 1 : Int) = a1 + 2 by omega, show (a1 + 1 + 2 : Int) = a1 + 3 by omega, (bR_at (p := (a1 + 1)) k80599 (fun _ => rfl) ew1 (((jw_ne e80599 (Or.inl (by decide))).trans ev80593)) (by omega) (by omega))]; (repeat' split) <;> omega)]) (by omega) (by omega)) ((jw_eq e80599)))⟩
          · refine ev_iconst ?_
            refine ev_goto f242_15 ?_
            refine ev_ret rfl (by decide) (by decide) ?_
            show jEv _ _ _ _ _ _ _ (_, [(2, 42), (0, (a1 + 1))], [(0, 1)], _, _, _)
            refine ev_ret rfl (by decide) (by decide) ?_
            show jEv _ _ _ _ _ _ _ (_, [(2, 42), (0, a1), (0, 1), (0, (a1 + 1)), (0, 1), (9, 0), (9, 0)], [(0, 1)], _, _, _)
            refine ev_ifne f269_41 (fun c80600 => ?_) (fun c80600 => absurd c80600 (by omega))
            refine ev_iconst ?_
            refine ev_istore (L' := [(2, 42), (0, a1), (0, 1), (0, (a1 + 1)), (0, 1), (0, 0), (9, 0)]) (Nat.le_of_ble_eq_true rfl) rfl ?_
            refine ev_iconst ?_
            refine ev_istore (L' := [(2, 42), (0, a1), (0, 1), (0, (a1 + 1)), (0, 1), (0, 0), (0, 0)]) (Nat.le_of_ble_eq_true rfl) rfl ?_
            refine ev_iload rfl ?_
            refine ev_iconst ?_
            refine ev_icmpge f269_86 (fun c80601 => absurd c80601 (by omega)) (fun c80601 => ?_)
            refine ev_aload_n rfl ?_
            refine ev_iload_n rfl ?_
            refine ev_in (d := 1) (a := 0) (b := 0) (cd' := c265_0) (m := 2) (L0 := [(2, 42), (0, (a1 + 1))]) (jcall_v (A := [(0, (a1 + 1))]) (S' := []) (r := 42) rfl (g.lt ad42) (g.tg ad42) (Nat.le_of_ble_eq_true rfl)) (by decide) ml265 pp265 (Nat.le_of_ble_eq_true rfl) rfl (by decide) (by decide) ?_
            refine ev_aload_n rfl ?_
            refine ev_iload_n rfl ?_
            refine ev_in (d := 0) (a := 0) (b := 0) (cd' := c264_0) (m := 2) (L0 := [(2, 42), (0, (a1 + 1))]) (jcall_v (A := [(0, (a1 + 1))]) (S' := []) (r := 42) rfl (g.lt ad42) (g.tg ad42) (Nat.le_of_ble_eq_true rfl)) (by decide) ml264 pp264 (Nat.le_of_ble_eq_true rfl) rfl (by decide) (by decide) ?_
            refine ev_iload_n rfl ?_
            refine ev_aload_n rfl ?_
            refine g_getv (r := 42) (v := w1) g ad42 (by decide) ft12_17 (ew1) ?_
            refine ev_icmpge f264_17 (fun c80602 => absurd c80602 (by omega)) (fun c80602 => ?_)
            refine ev_aload_n rfl ?_
            refine g_getp (r := 42) (c := 54) g ad42 (by decide) (by decide) rf42_16 ft12_16 ?_
            refine ev_iload_n rfl ?_
            refine g_baldv (v := v80593) g ad54 (by omega) (by omega) (ev80593) ?_
            refine ev_goto f264_18 ?_
            refine ev_ret rfl (by decide) (by decide) ?_
            show jEv _ _ _ _ _ _ _ (_, [(2, 42), (0, (a1 + 1))], [(0, v80593)], _, _, _)
            refine ev_bipush ?_
            refine ev_bipush ?_
            refine ev_in (d := 0) (a := 0) (b := 0) (cd' := c242_0) (m := 3) (L0 := [(0, v80593), (0, 48), (0, 57)]) (jcall_s (A := [(0, 57), (0, 48), (0, v80593)]) (S' := []) (by decide) rfl (Nat.le_of_ble_eq_true rfl)) (by decide) ml242 pp242 (Nat.le_of_ble_eq_true rfl) rfl (by decide) (by decide) ?_
            refine ev_iload_n rfl ?_
            refine ev_iload_n rfl ?_
            refine ev_icmplt f242_14 (fun c80603 => absurd c80603 (by omega)) (fun c80603 => ?_)
            refine ev_iload_n rfl ?_
            refine ev_iload_n rfl ?_
            refine ev_icmpgt f242_14 (fun c80604 => absurd c80604 (by omega)) (fun c80604 => ?_)
            refine ev_iconst ?_
            refine ev_goto f242_15 ?_
            refine ev_ret rfl (by decide) (by decide) ?_
            show jEv _ _ _ _ _ _ _ (_, [(2, 42), (0, (a1 + 1))], [(0, 1)], _, _, _)
            refine ev_ret rfl (by decide) (by decide) ?_
            show jEv _ _ _ _ _ _ _ (_, [(2, 42), (0, a1), (0, 1), (0, (a1 + 1)), (0, 1), (0, 0), (0, 0)], [(0, 1)], _, _, _)
            refine ev_ifeq f269_86 (fun c80605 => absurd c80605 (by omega)) (fun c80605 => ?_)
            refine ev_bipush ?_
            refine ev_iload rfl ?_
            refine ev_imul (r := 0) (by decide) ?_
            refine ev_aload_n rfl ?_
            refine ev_iload_n rfl ?_
            refine ev_in (d := 1) (a := 0) (b := 0) (cd' := c264_0) (m := 2) (L0 := [(2, 42), (0, (a1 + 1))]) (jcall_v (A := [(0, (a1 + 1))]) (S' := [(0, 0)]) (r := 42) rfl (g.lt ad42) (g.tg ad42) (Nat.le_of_ble_eq_true rfl)) (by decide) ml264 pp264 (Nat.le_of_ble_eq_true rfl) rfl (by decide) (by decide) ?_
            refine ev_iload_n rfl ?_
            refine ev_aload_n rfl ?_
            refine g_getv (r := 42) (v := w1) g ad42 (by decide) ft12_17 (ew1) ?_
            refine ev_icmpge f264_17 (fun c80606 => absurd c80606 (by omega)) (fun c80606 => ?_)
            refine ev_aload_n rfl ?_
            refine g_getp (r := 42) (c := 54) g ad42 (by decide) (by decide) rf42_16 ft12_16 ?_
            refine ev_iload_n rfl ?_
            refine g_baldv (v := v80593) g ad54 (by omega) (by omega) (ev80593) ?_
            refine ev_goto f264_18 ?_
            refine ev_ret rfl (by decide) (by decide) ?_
            show jEv _ _ _ _ _ _ _ (_, [(2, 42), (0, a1), (0, 1), (0, (a1 + 1)), (0, 1), (0, 0), (0, 0)], [(0, v80593), (0, 0)], _, _, _)
            refine ev_iadd (r := v80593) (by unfold w32; omega) ?_
            refine ev_bipush ?_
            refine ev_isub (r := (v80593 - 48)) (by unfold w32; omega) ?_
            refine ev_istore (L' := [(2, 42), (0, a1), (0, 1), (0, (a1 + 1)), (0, 1), (0, (v80593 - 48)), (0, 0)]) (Nat.le_of_ble_eq_true rfl) rfl ?_
            refine ev_iinc (w := 1) (L' := [(2, 42), (0, a1), (0, 1), (0, (a1 + 1)), (0, 1), (0, (v80593 - 48)), (0, 1)]) rfl (by decide) rfl ?_
            refine ev_iinc (w := (a1 + 2)) (L' := [(2, 42), (0, a1), (0, 1), (0, (a1 + 2)), (0, 1), (0, (v80593 - 48)), (0, 1)]) rfl (by unfold w32; omega) rfl ?_
            refine ev_goto f269_47 ?_
            refine ev_iload rfl ?_
            refine ev_iconst ?_
            refine ev_icmpge f269_86 (fun c80607 => absurd c80607 (by omega)) (fun c80607 => ?_)
            refine ev_aload_n rfl ?_
            refine ev_iload_n rfl ?_
            refine ev_in (d := 1) (a := 0) (b := 0) (cd' := c265_0) (m := 2) (L0 := [(2, 42), (0, (a1 + 2))]) (jcall_v (A := [(0, (a1 + 2))]) (S' := []) (r := 42) rfl (g.lt ad42) (g.tg ad42) (Nat.le_of_ble_eq_true rfl)) (by decide) ml265 pp265 (Nat.le_of_ble_eq_true rfl) rfl (by decide) (by decide) ?_
            refine ev_aload_n rfl ?_
            refine ev_iload_n rfl ?_
            refine ev_in (d := 0) (a := 0) (b := 0) (cd' := c264_0) (m := 2) (L0 := [(2, 42), (0, (a1 + 2))]) (jcall_v (A := [(0, (a1 + 2))]) (S' := []) (r := 42) rfl (g.lt ad42) (g.tg ad42) (Nat.le_of_ble_eq_true rfl)) (by decide) ml264 pp264 (Nat.le_of_ble_eq_true rfl) rfl (by decide) (by decide) ?_
            refine ev_iload_n rfl ?_
            refine ev_aload_n rfl ?_
            refine g_getv (r := 42) (v := w1) g ad42 (by decide) ft12_17 (ew1) ?_
            refine ev_icmpge f264_17 (fun c80608 => ?_) (fun c80608 => ?_)
            · refine ev_iconst ?_
              refine ev_ret rfl (by decide) (by decide) ?_
              show jEv _ _ _ _ _ _ _ (_, [(2, 42), (0, (a1 + 2))], [(0, (-1))], _, _, _)
              refine ev_bipush ?_
              refine ev_bipush ?_
              refine ev_in (d := 0) (a := 0) (b := 0) (cd' := c242_0) (m := 3) (L0 := [(0, (-1)), (0, 48), (0, 57)]) (jcall_s (A := [(0, 57), (0, 48), (0, (-1))]) (S' := []) (by decide) rfl (Nat.le_of_ble_eq_true rfl)) (by decide) ml242 pp242 (Nat.le_of_ble_eq_true rfl) rfl (by decide) (by decide) ?_
              refine ev_iload_n rfl ?_
              refine ev_iload_n rfl ?_
              refine ev_icmplt f242_14 (fun c80609 => ?_) (fun c80609 => absurd c80609 (by omega))
              refine ev_iconst ?_
              refine ev_ret rfl (by decide) (by decide) ?_
              show jEv _ _ _ _ _ _ _ (_, [(2, 42), (0, (a1 + 2))], [(0, 0)], _, _, _)
              refine ev_ret rfl (by decide) (by decide) ?_
              show jEv _ _ _ _ _ _ _ (_, [(2, 42), (0, a1), (0, 1), (0, (a1 + 2)), (0, 1), (0, (v80593 - 48)), (0, 1)], [(0, 0)], _, _, _)
              refine ev_ifeq f269_86 (fun c80610 => ?_) (fun c80610 => absurd c80610 (by omega))
              refine ev_aload_n rfl ?_
              refine ev_iload_n rfl ?_
              refine ev_in (d := 1) (a := 0) (b := 0) (cd' := c265_0) (m := 2) (L0 := [(2, 42), (0, (a1 + 2))]) (jcall_v (A := [(0, (a1 + 2))]) (S' := []) (r := 42) rfl (g.lt ad42) (g.tg ad42) (Nat.le_of_ble_eq_true rfl)) (by decide) ml265 pp265 (Nat.le_of_ble_eq_true rfl) rfl (by decide) (by decide) ?_
              refine ev_aload_n rfl ?_
              refine ev_iload_n rfl ?_
              refine ev_in (d := 0) (a := 0) (b := 0) (cd' := c264_0) (m := 2) (L0 := [(2, 42), (0, (a1 + 2))]) (jcall_v (A := [(0, (a1 + 2))]) (S' := []) (r := 42) rfl (g.lt ad42) (g.tg ad42) (Nat.le_of_ble_eq_true rfl)) (by decide) ml264 pp264 (Nat.le_of_ble_eq_true rfl) rfl (by decide) (by decide) ?_
              refine ev_iload_n rfl ?_
              refine ev_aload_n rfl ?_
              refine g_getv (r := 42) (v := w1) g ad42 (by decide) ft12_17 (ew1) ?_
              refine ev_icmpge f264_17 (fun c80611 => ?_) (fun c80611 => absurd c80611 (by omega))
              refine ev_iconst ?_
              refine ev_ret rfl (by decide) (by decide) ?_
              show jEv _ _ _ _ _ _ _ (_, [(2, 42), (0, (a1 + 2))], [(0, (-1))], _, _, _)
              refine ev_bipush ?_
              refine ev_bipush ?_
              refine ev_in (d := 0) (a := 0) (b := 0) (cd' := c242_0) (m := 3) (L0 := [(0, (-1)), (0, 48), (0, 57)]) (jcall_s (A := [(0, 57), (0, 48), (0, (-1))]) (S' := []) (by decide) rfl (Nat.le_of_ble_eq_true rfl)) (by decide) ml242 pp242 (Nat.le_of_ble_eq_true rfl) rfl (by decide) (by decide) ?_
              refine ev_iload_n rfl ?_
              refine ev_iload_n rfl ?_
              refine ev_icmplt f242_14 (fun c80612 => ?_) (fun c80612 => absurd c80612 (by omega))
              refine ev_iconst ?_
              refine ev_ret rfl (by decide) (by decide) ?_
              show jEv _ _ _ _ _ _ _ (_, [(2, 42), (0, (a1 + 2))], [(0, 0)], _, _, _)
              refine ev_ret rfl (by decide) (by decide) ?_
              show jEv _ _ _ _ _ _ _ (_, [(2, 42), (0, a1), (0, 1), (0, (a1 + 2)), (0, 1), (0, (v80593 - 48)), (0, 1)], [(0, 0)], _, _, _)
              refine ev_ifeq f269_100 (fun c80613 => ?_) (fun c80613 => absurd c80613 (by omega))
              refine ev_aload_n rfl ?_
              refine ev_iload_n rfl ?_
              refine ev_iconst ?_
              refine ev_iload rfl ?_
              refine ev_ifeq f269_114 (fun c80614 => absurd c80614 (by omega)) (fun c80614 => ?_)
              refine ev_iload rfl ?_
              refine ev_ineg (r := ((-v80593) + 48)) (by unfold w32; omega) ?_
              refine ev_goto f269_116 ?_
              refine ev_in (d := 1) (a := 0) (b := 0) (cd' := c267_0) (m := 6) (L0 := [(2, 42), (0, 1), (0, 0), (0, ((-v80593) + 48)), (9, 0), (9, 0)]) (jcall_v (A := [(0, ((-v80593) + 48)), (0, 0), (0, 1)]) (S' := []) (r := 42) rfl (g.lt ad42) (g.tg ad42) (Nat.le_of_ble_eq_true rfl)) (by decide) ml267 pp267 (Nat.le_of_ble_eq_true rfl) rfl (by decide) (by decide) ?_
              refine ev_iload_n rfl ?_
              refine ev_ifne f267_6 (fun c80615 => ?_) (fun c80615 => absurd c80615 (by omega))
              refine ev_aload_n rfl ?_
              refine ev_dup (by decide) ?_
              refine g_getv (r := 42) (v := w0) g ad42 (by decide) ft12_21 (ew0) ?_
              refine ev_iconst ?_
              refine ev_iadd (r := (w0 + 1)) (by unfold w32; omega) ?_
              refine g_putf (r := 42) g ad42 (by decide) ft12_21 (by decide) (fun e => absurd e nz12_21) rf42_21 (by decide) (by omega) (by omega) (fun h80616 e80616 g80616 => ?_)
              have k80616 := k0.wr e80616 rfl
              refine ev_aload_n rfl ?_
              refine g_getv (r := 42) (v := (w0 + 1)) g80616 ad42 (by decide) ft12_21 ((jw_eq e80616)) ?_
              refine ev_bipush ?_
              refine ev_icmple f267_27 (fun c80617 => absurd c80617 (by omega)) (fun c80617 => ?_)
              refine ev_iconst ?_
              refine ev_ret rfl (by decide) (by decide) ?_
              show jEv _ _ _ _ _ _ _ (_, [(2, 42), (0, a1), (0, 1), (0, (a1 + 2)), (0, 1), (0, (v80593 - 48)), (0, 1)], [(0, (-1))], _, _, _)
              refine ev_pop (by decide) ?_
              refine ev_iload_n rfl ?_
              exact ev_ret rfl (by decide) (by decide) ⟨⟨_, rfl, by omega, by omega, g80616, k80616⟩, fun r hr h0 => by cases hr; exact (Ad.step (r' := (a1 + 2)) (Ad.step (r' := (a1 + 1)) (Ad.rf _ _ _) (by omega) k80616 (fun _ => rfl) (((jw_ne e80616 (Or.inl (by decide))).trans ev80482)) (by omega) (by omega) (by omega)) (by omega) k80616 (fun _ => rfl) (((jw_ne e80616 (Or.inl (by decide))).trans ev80593)) (by omega) (by omega) (by omega)), fun r hr => by cases hr; exact ⟨_, ((jw_eq e80616)), by omega, by omega, fun h0 => by omega⟩, fun r hr => by cases hr; exact okM (show (if bR h a1 = 45 then enR (bR h) (a1 + 1) else enR (bR h) a1) = ((a1 + 2), 0, 0, 1) by rw [if_pos ((bR_at (p := a1) k80616 (fun _ => rfl) ew1 (((jw_ne e80616 (Or.inl (by decide))).trans ev80482)) (by omega) (by omega)).trans (by omega))]; unfold enR; rw [show nm3 (bR h) (a1 + 1) = (a1 + 2) by unfold nm3; rw [show (a1 + 1 + 1 : Int) = a1 + 2 by omega, show (a1 + 1 + 2 : Int) = a1 + 3 by omega, (bR_at (p := (a1 + 1)) k80616 (fun _ => rfl) ew1 (((jw_ne e80616 (Or.inl (by decide))).trans ev80593)) (by omega) (by omega)), (bR_end (p := (a1 + 2)) ew1 (by omega))]; (repeat' split) <;> omega, if_neg (by omega)]) (by omega) (by omega) ((jw_eq e80616)) (by omega)⟩
            · refine ev_aload_n rfl ?_
              refine g_getp (r := 42) (c := 54) g ad42 (by decide) (by decide) rf42_16 ft12_16 ?_
              refine ev_iload_n rfl ?_
              refine g_bald g ad54 rt54 (by omega) (by omega) (fun v80618 ev80618 lv80618 uv80618 => ?_)
              refine ev_goto f264_18 ?_
              refine ev_ret rfl (by decide) (by decide) ?_
              show jEv _ _ _ _ _ _ _ (_, [(2, 42), (0, (a1 + 2))], [(0, v80618)], _, _, _)
              refine ev_bipush ?_
              refine ev_bipush ?_
              refine ev_in (d := 0) (a := 0) (b := 0) (cd' := c242_0) (m := 3) (L0 := [(0, v80618), (0, 48), (0, 57)]) (jcall_s (A := [(0, 57), (0, 48), (0, v80618)]) (S' := []) (by decide) rfl (Nat.le_of_ble_eq_true rfl)) (by decide) ml242 pp242 (Nat.le_of_ble_eq_true rfl) rfl (by decide) (by decide) ?_
              refine ev_iload_n rfl ?_
              refine ev_iload_n rfl ?_
              refine ev_icmplt f242_14 (fun c80619 => ?_) (fun c80619 => ?_)
              · refine ev_iconst ?_
                refine ev_ret rfl (by decide) (by decide) ?_
                show jEv _ _ _ _ _ _ _ (_, [(2, 42), (0, (a1 + 2))], [(0, 0)], _, _, _)
                refine ev_ret rfl (by decide) (by decide) ?_
                show jEv _ _ _ _ _ _ _ (_, [(2, 42), (0, a1), (0, 1), (0, (a1 + 2)), (0, 1), (0, (v80593 - 48)), (0, 1)], [(0, 0)], _, _, _)
                refine ev_ifeq f269_86 (fun c80620 => ?_) (fun c80620 => absurd c80620 (by omega))
                refine ev_aload_n rfl ?_
                refine ev_iload_n rfl ?_
                refine ev_in (d := 1) (a := 0) (b := 0) (cd' := c265_0) (m := 2) (L0 := [(2, 42), (0, (a1 + 2))]) (jcall_v (A := [(0, (a1 + 2))]) (S' := []) (r := 42) rfl (g.lt ad42) (g.tg ad42) (Nat.le_of_ble_eq_true rfl)) (by decide) ml265 pp265 (Nat.le_of_ble_eq_true rfl) rfl (by decide) (by decide) ?_
                refine ev_aload_n rfl ?_
                refine ev_iload_n rfl ?_
                refine ev_in (d := 0) (a := 0) (b := 0) (cd' := c264_0) (m := 2) (L0 := [(2, 42), (0, (a1 + 2))]) (jcall_v (A := [(0, (a1 + 2))]) (S' := []) (r := 42) rfl (g.lt ad42) (g.tg ad42) (Nat.le_of_ble_eq_true rfl)) (by decide) ml264 pp264 (Nat.le_of_ble_eq_true rfl) rfl (by decide) (by decide) ?_
                refine ev_iload_n rfl ?_
                refine ev_aload_n rfl ?_
                refine g_getv (r := 42) (v := w1) g ad42 (by decide) ft12_17 (ew1) ?_
                refine ev_icmpge f264_17 (fun c80621 => absurd c80621 (by omega)) (fun c80621 => ?_)
                refine ev_aload_n rfl ?_
                refine g_getp (r := 42) (c := 54) g ad42 (by decide) (by decide) rf42_16 ft12_16 ?_
                refine ev_iload_n rfl ?_
                refine g_baldv (v := v80618) g ad54 (by omega) (by omega) (ev80618) ?_
                refine ev_goto f264_18 ?_
                refine ev_ret rfl (by decide) (by decide) ?_
                show jEv _ _ _ _ _ _ _ (_, [(2, 42), (0, (a1 + 2))], [(0, v80618)], _, _, _)
                refine ev_bipush ?_
                refine ev_bipush ?_
                refine ev_in (d := 0) (a := 0) (b := 0) (cd' := c242_0) (m := 3) (L0 := [(0, v80618), (0, 48), (0, 57)]) (jcall_s (A := [(0, 57), (0, 48), (0, v80618)]) (S' := []) (by decide) rfl (Nat.le_of_ble_eq_true rfl)) (by decide) ml242 pp242 (Nat.le_of_ble_eq_true rfl) rfl (by decide) (by decide) ?_
                refine ev_iload_n rfl ?_
                refine ev_iload_n rfl ?_
                refine ev_icmplt f242_14 (fun c80622 => ?_) (fun c80622 => absurd c80622 (by omega))
                refine ev_iconst ?_
                refine ev_ret rfl (by decide) (by decide) ?_
                show jEv _ _ _ _ _ _ _ (_, [(2, 42), (0, (a1 + 2))], [(0, 0)], _, _, _)
                refine ev_ret rfl (by decide) (by decide) ?_
                show jEv _ _ _ _ _ _ _ (_, [(2, 42), (0, a1), (0, 1), (0, (a1 + 2)), (0, 1), (0, (v80593 - 48)), (0, 1)], [(0, 0)], _, _, _)
                refine ev_ifeq f269_100 (fun c80623 => ?_) (fun c80623 => absurd c80623 (by omega))
                refine ev_aload_n rfl ?_
                refine ev_iload_n rfl ?_
                refine ev_iconst ?_
                refine ev_iload rfl ?_
                refine ev_ifeq f269_114 (fun c80624 => absurd c80624 (by omega)) (fun c80624 => ?_)
                refine ev_iload rfl ?_
                refine ev_ineg (r := ((-v80593) + 48)) (by unfold w32; omega) ?_
                refine ev_goto f269_116 ?_
                refine ev_in (d := 1) (a := 0) (b := 0) (cd' := c267_0) (m := 6) (L0 := [(2, 42), (0, 1), (0, 0), (0, ((-v80593) + 48)), (9, 0), (9, 0)]) (jcall_v (A := [(0, ((-v80593) + 48)), (0, 0), (0, 1)]) (S' := []) (r := 42) rfl (g.lt ad42) (g.tg ad42) (Nat.le_of_ble_eq_true rfl)) (by decide) ml267 pp267 (Nat.le_of_ble_eq_true rfl) rfl (by decide) (by decide) ?_
                refine ev_iload_n rfl ?_
                refine ev_ifne f267_6 (fun c80625 => ?_) (fun c80625 => absurd c80625 (by omega))
                refine ev_aload_n rfl ?_
                refine ev_dup (by decide) ?_
                refine g_getv (r := 42) (v := w0) g ad42 (by decide) ft12_21 (ew0) ?_
                refine ev_iconst ?_
                refine ev_iadd (r := (w0 + 1)) (by unfold w32; omega) ?_
                refine g_putf (r := 42) g ad42 (by decide) ft12_21 (by decide) (fun e => absurd e nz12_21) rf42_21 (by decide) (by omega) (by omega) (fun h80626 e80626 g80626 => ?_)
                have k80626 := k0.wr e80626 rfl
                refine ev_aload_n rfl ?_
                refine g_getv (r := 42) (v := (w0 + 1)) g80626 ad42 (by decide) ft12_21 ((jw_eq e80626)) ?_
                refine ev_bipush ?_
                refine ev_icmple f267_27 (fun c80627 => absurd c80627 (by omega)) (fun c80627 => ?_)
                refine ev_iconst ?_
                refine ev_ret rfl (by decide) (by decide) ?_
                show jEv _ _ _ _ _ _ _ (_, [(2, 42), (0, a1), (0, 1), (0, (a1 + 2)), (0, 1), (0, (v80593 - 48)), (0, 1)], [(0, (-1))], _, _, _)
                refine ev_pop (by decide) ?_
                refine ev_iload_n rfl ?_
                exact ev_ret rfl (by decide) (by decide) ⟨⟨_, rfl, by omega, by omega, g80626, k80626⟩, fun r hr h0 => by cases hr; exact (Ad.step (r' := (a1 + 2)) (Ad.step (r' := (a1 + 1)) (Ad.rf _ _ _) (by omega) k80626 (fun _ => rfl) (((jw_ne e80626 (Or.inl (by decide))).trans ev80482)) (by omega) (by omega) (by omega)) (by omega) k80626 (fun _ => rfl) (((jw_ne e80626 (Or.inl (by decide))).trans ev80593)) (by omega) (by omega) (by omega)), fun r hr => by cases hr; exact ⟨_, ((jw_eq e80626)), by omega, by omega, fun h0 => by omega⟩, fun r hr => by cases hr; exact okM (show (if bR h a1 = 45 then enR (bR h) (a1 + 1) else enR (bR h) a1) = ((a1 + 2), 0, 0, 1) by rw [if_pos ((bR_at (p := a1) k80626 (fun _ => rfl) ew1 (((jw_ne e80626 (Or.inl (by decide))).trans ev80482)) (by omega) (by omega)).trans (by omega))]; unfold enR; rw [show nm3 (bR h) (a1 + 1) = (a1 + 2) by unfold nm3; rw [show (a1 + 1 + 1 : Int) = a1 + 2 by omega, show (a1 + 1 + 2 : Int) = a1 + 3 by omega, (bR_at (p := (a1 + 1)) k80626 (fun _ => rfl) ew1 (((jw_ne e80626 (Or.inl (by decide))).trans ev80593)) (by omega) (by omega)), (bR_at (p := (a1 + 2)) k80626 (fun _ => rfl) ew1 (((jw_ne e80626 (Or.inl (by decide))).trans ev80618)) (by omega) (by omega))]; (repeat' split) <;> omega, if_neg (by omega)]) (by omega) (by omega) ((jw_eq e80626)) (by omega)⟩
              · refine ev_iload_n rfl ?_
                refine ev_iload_n rfl ?_
                refine ev_icmpgt f242_14 (fun c80628 => ?_) (fun c80628 => ?_)
                · refine ev_iconst ?_
                  refine ev_ret rfl (by decide) (by decide) ?_
                  show jEv _ _ _ _ _ _ _ (_, [(2, 42), (0, (a1 + 2))], [(0, 0)], _, _, _)
                  refine ev_ret rfl (by decide) (by decide) ?_
                  show jEv _ _ _ _ _ _ _ (_, [(2, 42), (0, a1), (0, 1), (0, (a1 + 2)), (0, 1), (0, (v80593 - 48)), (0, 1)], [(0, 0)], _, _, _)
                  refine ev_ifeq f269_86 (fun c80629 => ?_) (fun c80629 => absurd c80629 (by omega))
                  refine ev_aload_n rfl ?_
                  refine ev_iload_n rfl ?_
                  refine ev_in (d := 1) (a := 0) (b := 0) (cd' := c265_0) (m := 2) (L0 := [(2, 42), (0, (a1 + 2))]) (jcall_v (A := [(0, (a1 + 2))]) (S' := []) (r := 42) rfl (g.lt ad42) (g.tg ad42) (Nat.le_of_ble_eq_true rfl)) (by decide) ml265 pp265 (Nat.le_of_ble_eq_true rfl) rfl (by decide) (by decide) ?_
                  refine ev_aload_n rfl ?_
                  refine ev_iload_n rfl ?_
                  refine ev_in (d := 0) (a := 0) (b := 0) (cd' := c264_0) (m := 2) (L0 := [(2, 42), (0, (a1 + 2))]) (jcall_v (A := [(0, (a1 + 2))]) (S' := []) (r := 42) rfl (g.lt ad42) (g.tg ad42) (Nat.le_of_ble_eq_true rfl)) (by decide) ml264 pp264 (Nat.le_of_ble_eq_true rfl) rfl (by decide) (by decide) ?_
                  refine ev_iload_n rfl ?_
                  refine ev_aload_n rfl ?_
                  refine g_getv (r := 42) (v := w1) g ad42 (by decide) ft12_17 (ew1) ?_
                  refine ev_icmpge f264_17 (fun c80630 => absurd c80630 (by omega)) (fun c80630 => ?_)
                  refine ev_aload_n rfl ?_
                  refine g_getp (r := 42) (c := 54) g ad42 (by decide) (by decide) rf42_16 ft12_16 ?_
                  refine ev_iload_n rfl ?_
                  refine g_baldv (v := v80618) g ad54 (by omega) (by omega) (ev80618) ?_
                  refine ev_goto f264_18 ?_
                  refine ev_ret rfl (by decide) (by decide) ?_
                  show jEv _ _ _ _ _ _ _ (_, [(2, 42), (0, (a1 + 2))], [(0, v80618)], _, _, _)
                  refine ev_bipush ?_
                  refine ev_bipush ?_
                  refine ev_in (d := 0) (a := 0) (b := 0) (cd' := c242_0) (m := 3) (L0 := [(0, v80618), (0, 48), (0, 57)]) (jcall_s (A := [(0, 57), (0, 48), (0, v80618)]) (S' := []) (by decide) rfl (Nat.le_of_ble_eq_true rfl)) (by decide) ml242 pp242 (Nat.le_of_ble_eq_true rfl) rfl (by decide) (by decide) ?_
                  refine ev_iload_n rfl ?_
                  refine ev_iload_n rfl ?_
                  refine ev_icmplt f242_14 (fun c80631 => absurd c80631 (by omega)) (fun c80631 => ?_)
                  refine ev_iload_n rfl ?_
                  refine ev_iload_n rfl ?_
                  refine ev_icmpgt f242_14 (fun c80632 => ?_) (fun c80632 => absurd c80632 (by omega))
                  refine ev_iconst ?_
                  refine ev_ret rfl (by decide) (by decide) ?_
                  show jEv _ _ _ _ _ _ _ (_, [(2, 42), (0, (a1 + 2))], [(0, 0)], _, _, _)
                  refine ev_ret rfl (by decide) (by decide) ?_
                  show jEv _ _ _ _ _ _ _ (_, [(2, 42), (0, a1), (0, 1), (0, (a1 + 2)), (0, 1), (0, (v80593 - 48)), (0, 1)], [(0, 0)], _, _, _)
                  refine ev_ifeq f269_100 (fun c80633 => ?_) (fun c80633 => absurd c80633 (by omega))
                  refine ev_aload_n rfl ?_
                  refine ev_iload_n rfl ?_
                  refine ev_iconst ?_
                  refine ev_iload rfl ?_
                  refine ev_ifeq f269_114 (fun c80634 => absurd c80634 (by omega)) (fun c80634 => ?_)
                  refine ev_iload rfl ?_
                  refine ev_ineg (r := ((-v80593) + 48)) (by unfold w32; omega) ?_
                  refine ev_goto f269_116 ?_
                  refine ev_in (d := 1) (a := 0) (b := 0) (cd' := c267_0) (m := 6) (L0 := [(2, 42), (0, 1), (0, 0), (0, ((-v80593) + 48)), (9, 0), (9, 0)]) (jcall_v (A := [(0, ((-v80593) + 48)), (0, 0), (0, 1)]) (S' := []) (r := 42) rfl (g.lt ad42) (g.tg ad42) (Nat.le_of_ble_eq_true rfl)) (by decide) ml267 pp267 (Nat.le_of_ble_eq_true rfl) rfl (by decide) (by decide) ?_
                  refine ev_iload_n rfl ?_
                  refine ev_ifne f267_6 (fun c80635 => ?_) (fun c80635 => absurd c80635 (by omega))
                  refine ev_aload_n rfl ?_
                  refine ev_dup (by decide) ?_
                  refine g_getv (r := 42) (v := w0) g ad42 (by decide) ft12_21 (ew0) ?_
                  refine ev_iconst ?_
                  refine ev_iadd (r := (w0 + 1)) (by unfold w32; omega) ?_
                  refine g_putf (r := 42) g ad42 (by decide) ft12_21 (by decide) (fun e => absurd e nz12_21) rf42_21 (by decide) (by omega) (by omega) (fun h80636 e80636 g80636 => ?_)
                  have k80636 := k0.wr e80636 rfl
                  refine ev_aload_n rfl ?_
                  refine g_getv (r := 42) (v := (w0 + 1)) g80636 ad42 (by decide) ft12_21 ((jw_eq e80636)) ?_
                  refine ev_bipush ?_
                  refine ev_icmple f267_27 (fun c80637 => absurd c80637 (by omega)) (fun c80637 => ?_)
                  refine ev_iconst ?_
                  refine ev_ret rfl (by decide) (by decide) ?_
                  show jEv _ _ _ _ _ _ _ (_, [(2, 42), (0, a1), (0, 1), (0, (a1 + 2)), (0, 1), (0, (v80593 - 48)), (0, 1)], [(0, (-1))], _, _, _)
                  refine ev_pop (by decide) ?_
                  refine ev_iload_n rfl ?_
                  exact ev_ret rfl (by decide) (by decide) ⟨⟨_, rfl, by omega, by omega, g80636, k80636⟩, fun r hr h0 => by cases hr; exact (Ad.step (r' := (a1 + 2)) (Ad.step (r' := (a1 + 1)) (Ad.rf _ _ _) (by omega) k80636 (fun _ => rfl) (((jw_ne e80636 (Or.inl (by decide))).trans ev80482)) (by omega) (by omega) (by omega)) (by omega) k80636 (fun _ => rfl) (((jw_ne e80636 (Or.inl (by decide))).trans ev80593)) (by omega) (by omega) (by omega)), fun r hr => by cases hr; exact ⟨_, ((jw_eq e80636)), by omega, by omega, fun h0 => by omega⟩, fun r hr => by cases hr; exact okM (show (if bR h a1 = 45 then enR (bR h) (a1 + 1) else enR (bR h) a1) = ((a1 + 2), 0, 0, 1) by rw [if_pos ((bR_at (p := a1) k80636 (fun _ => rfl) ew1 (((jw_ne e80636 (Or.inl (by decide))).trans ev80482)) (by omega) (by omega)).trans (by omega))]; unfold enR; rw [show nm3 (bR h) (a1 + 1) = (a1 + 2) by unfold nm3; rw [show (a1 + 1 + 1 : Int) = a1 + 2 by omega, show (a1 + 1 + 2 : Int) = a1 + 3 by omega, (bR_at (p := (a1 + 1)) k80636 (fun _ => rfl) ew1 (((jw_ne e80636 (Or.inl (by decide))).trans ev80593)) (by omega) (by omega)), (bR_at (p := (a1 + 2)) k80636 (fun _ => rfl) ew1 (((jw_ne e80636 (Or.inl (by decide))).trans ev80618)) (by omega) (by omega))]; (repeat' split) <;> omega, if_neg (by omega)]) (by omega) (by omega) ((jw_eq e80636)) (by omega)⟩
                · refine ev_iconst ?_
                  refine ev_goto f242_15 ?_
                  refine ev_ret rfl (by decide) (by decide) ?_
                  show jEv _ _ _ _ _ _ _ (_, [(2, 42), (0, (a1 + 2))], [(0, 1)], _, _, _)
                  refine ev_ret rfl (by decide) (by decide) ?_
                  show jEv _ _ _ _ _ _ _ (_, [(2, 42), (0, a1), (0, 1), (0, (a1 + 2)), (0, 1), (0, (v80593 - 48)), (0, 1)], [(0, 1)], _, _, _)
                  refine ev_ifeq f269_86 (fun c80638 => absurd c80638 (by omega)) (fun c80638 => ?_)
                  refine ev_bipush ?_
                  refine ev_iload rfl ?_
                  refine ev_imul (r := (10 * v80593 - 480)) (by unfold w32; omega) ?_
                  refine ev_aload_n rfl ?_
                  refine ev_iload_n rfl ?_
                  refine ev_in (d := 1) (a := 0) (b := 0) (cd' := c264_0) (m := 2) (L0 := [(2, 42), (0, (a1 + 2))]) (jcall_v (A := [(0, (a1 + 2))]) (S' := [(0, (10 * v80593 - 480))]) (r := 42) rfl (g.lt ad42) (g.tg ad42) (Nat.le_of_ble_eq_true rfl)) (by decide) ml264 pp264 (Nat.le_of_ble_eq_true rfl) rfl (by decide) (by decide) ?_
                  refine ev_iload_n rfl ?_
                  refine ev_aload_n rfl ?_
                  refine g_getv (r := 42) (v := w1) g ad42 (by decide) ft12_17 (ew1) ?_
                  refine ev_icmpge f264_17 (fun c80639 => absurd c80639 (by omega)) (fun c80639 => ?_)
                  refine ev_aload_n rfl ?_
                  refine g_getp (r := 42) (c := 54) g ad42 (by decide) (by decide) rf42_16 ft12_16 ?_
                  refine ev_iload_n rfl ?_
                  refine g_baldv (v := v80618) g ad54 (by omega) (by omega) (ev80618) ?_
                  refine ev_goto f264_18 ?_
                  refine ev_ret rfl (by decide) (by decide) ?_
                  show jEv _ _ _ _ _ _ _ (_, [(2, 42), (0, a1), (0, 1), (0, (a1 + 2)), (0, 1), (0, (v80593 - 48)), (0, 1)], [(0, v80618), (0, (10 * v80593 - 480))], _, _, _)
                  refine ev_iadd (r := (10 * v80593 + v80618 - 480)) (by unfold w32; omega) ?_
                  refine ev_bipush ?_
                  refine ev_isub (r := (10 * v80593 + v80618 - 528)) (by unfold w32; omega) ?_
                  refine ev_istore (L' := [(2, 42), (0, a1), (0, 1), (0, (a1 + 2)), (0, 1), (0, (10 * v80593 + v80618 - 528)), (0, 1)]) (Nat.le_of_ble_eq_true rfl) rfl ?_
                  refine ev_iinc (w := 2) (L' := [(2, 42), (0, a1), (0, 1), (0, (a1 + 2)), (0, 1), (0, (10 * v80593 + v80618 - 528)), (0, 2)]) rfl (by decide) rfl ?_
                  refine ev_iinc (w := (a1 + 3)) (L' := [(2, 42), (0, a1), (0, 1), (0, (a1 + 3)), (0, 1), (0, (10 * v80593 + v80618 - 528)), (0, 2)]) rfl (by unfold w32; omega) rfl ?_
                  refine ev_goto f269_47 ?_
                  refine ev_iload rfl ?_
                  refine ev_iconst ?_
                  refine ev_icmpge f269_86 (fun c80640 => absurd c80640 (by omega)) (fun c80640 => ?_)
                  refine ev_aload_n rfl ?_
                  refine ev_iload_n rfl ?_
                  refine ev_in (d := 1) (a := 0) (b := 0) (cd' := c265_0) (m := 2) (L0 := [(2, 42), (0, (a1 + 3))]) (jcall_v (A := [(0, (a1 + 3))]) (S' := []) (r := 42) rfl (g.lt ad42) (g.tg ad42) (Nat.le_of_ble_eq_true rfl)) (by decide) ml265 pp265 (Nat.le_of_ble_eq_true rfl) rfl (by decide) (by decide) ?_
                  refine ev_aload_n rfl ?_
                  refine ev_iload_n rfl ?_
                  refine ev_in (d := 0) (a := 0) (b := 0) (cd' := c264_0) (m := 2) (L0 := [(2, 42), (0, (a1 + 3))]) (jcall_v (A := [(0, (a1 + 3))]) (S' := []) (r := 42) rfl (g.lt ad42) (g.tg ad42) (Nat.le_of_ble_eq_true rfl)) (by decide) ml264 pp264 (Nat.le_of_ble_eq_true rfl) rfl (by decide) (by decide) ?_
                  refine ev_iload_n rfl ?_
                  refine ev_aload_n rfl ?_
                  refine g_getv (r := 42) (v := w1) g ad42 (by decide) ft12_17 (ew1) ?_
                  refine ev_icmpge f264_17 (fun c80641 => ?_) (fun c80641 => ?_)
                  · refine ev_iconst ?_
                    refine ev_ret rfl (by decide) (by decide) ?_
                    show jEv _ _ _ _ _ _ _ (_, [(2, 42), (0, (a1 + 3))], [(0, (-1))], _, _, _)
                    refine ev_bipush ?_
                    refine ev_bipush ?_
                    refine ev_in (d := 0) (a := 0) (b := 0) (cd' := c242_0) (m := 3) (L0 := [(0, (-1)), (0, 48), (0, 57)]) (jcall_s (A := [(0, 57), (0, 48), (0, (-1))]) (S' := []) (by decide) rfl (Nat.le_of_ble_eq_true rfl)) (by decide) ml242 pp242 (Nat.le_of_ble_eq_true rfl) rfl (by decide) (by decide) ?_
                    refine ev_iload_n rfl ?_
                    refine ev_iload_n rfl ?_
                    refine ev_icmplt f242_14 (fun c80642 => ?_) (fun c80642 => absurd c80642 (by omega))
                    refine ev_iconst ?_
                    refine ev_ret rfl (by decide) (by decide) ?_
                    show jEv _ _ _ _ _ _ _ (_, [(2, 42), (0, (a1 + 3))], [(0, 0)], _, _, _)
                    refine ev_ret rfl (by decide) (by decide) ?_
                    show jEv _ _ _ _ _ _ _ (_, [(2, 42), (0, a1), (0, 1), (0, (a1 + 3)), (0, 1), (0, (10 * v80593 + v80618 - 528)), (0, 2)], [(0, 0)], _, _, _)
                    refine ev_ifeq f269_86 (fun c80643 => ?_) (fun c80643 => absurd c80643 (by omega))
                    refine ev_aload_n rfl ?_
                    refine ev_iload_n rfl ?_
                    refine ev_in (d := 1) (a := 0) (b := 0) (cd' := c265_0) (m := 2) (L0 := [(2, 42), (0, (a1 + 3))]) (jcall_v (A := [(0, (a1 + 3))]) (S' := []) (r := 42) rfl (g.lt ad42) (g.tg ad42) (Nat.le_of_ble_eq_true rfl)) (by decide) ml265 pp265 (Nat.le_of_ble_eq_true rfl) rfl (by decide) (by decide) ?_
                    refine ev_aload_n rfl ?_
                    refine ev_iload_n rfl ?_
                    refine ev_in (d := 0) (a := 0) (b := 0) (cd' := c264_0) (m := 2) (L0 := [(2, 42), (0, (a1 + 3))]) (jcall_v (A := [(0, (a1 + 3))]) (S' := []) (r := 42) rfl (g.lt ad42) (g.tg ad42) (Nat.le_of_ble_eq_true rfl)) (by decide) ml264 pp264 (Nat.le_of_ble_eq_true rfl) rfl (by decide) (by decide) ?_
                    refine ev_iload_n rfl ?_
                    refine ev_aload_n rfl ?_
                    refine g_getv (r := 42) (v := w1) g ad42 (by decide) ft12_17 (ew1) ?_
                    refine ev_icmpge f264_17 (fun c80644 => ?_) (fun c80644 => absurd c80644 (by omega))
                    refine ev_iconst ?_
                    refine ev_ret rfl (by decide) (by decide) ?_
                    show jEv _ _ _ _ _ _ _ (_, [(2, 42), (0, (a1 + 3))], [(0, (-1))], _, _, _)
                    refine ev_bipush ?_
                    refine ev_bipush ?_
                    refine ev_in (d := 0) (a := 0) (b := 0) (cd' := c242_0) (m := 3) (L0 := [(0, (-1)), (0, 48), (0, 57)]) (jcall_s (A := [(0, 57), (0, 48), (0, (-1))]) (S' := []) (by decide) rfl (Nat.le_of_ble_eq_true rfl)) (by decide) ml242 pp242 (Nat.le_of_ble_eq_true rfl) rfl (by decide) (by decide) ?_
                    refine ev_iload_n rfl ?_
                    refine ev_iload_n rfl ?_
                    refine ev_icmplt f242_14 (fun c80645 => ?_) (fun c80645 => absurd c80645 (by omega))
                    refine ev_iconst ?_
                    refine ev_ret rfl (by decide) (by decide) ?_
                    show jEv _ _ _ _ _ _ _ (_, [(2, 42), (0, (a1 + 3))], [(0, 0)], _, _, _)
                    refine ev_ret rfl (by decide) (by decide) ?_
                    show jEv _ _ _ _ _ _ _ (_, [(2, 42), (0, a1), (0, 1), (0, (a1 + 3)), (0, 1), (0, (10 * v80593 + v80618 - 528)), (0, 2)], [(0, 0)], _, _, _)
                    refine ev_ifeq f269_100 (fun c80646 => ?_) (fun c80646 => absurd c80646 (by omega))
                    refine ev_aload_n rfl ?_
                    refine ev_iload_n rfl ?_
                    refine ev_iconst ?_
                    refine ev_iload rfl ?_
                    refine ev_ifeq f269_114 (fun c80647 => absurd c80647 (by omega)) (fun c80647 => ?_)
                    refine ev_iload rfl ?_
                    refine ev_ineg (r := ((-10) * v80593 + (-v80618) + 528)) (by unfold w32; omega) ?_
                    refine ev_goto f269_116 ?_
                    refine ev_in (d := 1) (a := 0) (b := 0) (cd' := c267_0) (m := 6) (L0 := [(2, 42), (0, 1), (0, 0), (0, ((-10) * v80593 + (-v80618) + 528)), (9, 0), (9, 0)]) (jcall_v (A := [(0, ((-10) * v80593 + (-v80618) + 528)), (0, 0), (0, 1)]) (S' := []) (r := 42) rfl (g.lt ad42) (g.tg ad42) (Nat.le_of_ble_eq_true rfl)) (by decide) ml267 pp267 (Nat.le_of_ble_eq_true rfl) rfl (by decide) (by decide) ?_
                    refine ev_iload_n rfl ?_
                    refine ev_ifne f267_6 (fun c80648 => ?_) (fun c80648 => absurd c80648 (by omega))
                    refine ev_aload_n rfl ?_
                    refine ev_dup (by decide) ?_
                    refine g_getv (r := 42) (v := w0) g ad42 (by decide) ft12_21 (ew0) ?_
                    refine ev_iconst ?_
                    refine ev_iadd (r := (w0 + 1)) (by unfold w32; omega) ?_
                    refine g_putf (r := 42) g ad42 (by decide) ft12_21 (by decide) (fun e => absurd e nz12_21) rf42_21 (by decide) (by omega) (by omega) (fun h80649 e80649 g80649 => ?_)
                    have k80649 := k0.wr e80649 rfl
                    refine ev_aload_n rfl ?_
                    refine g_getv (r := 42) (v := (w0 + 1)) g80649 ad42 (by decide) ft12_21 ((jw_eq e80649)) ?_
                    refine ev_bipush ?_
                    refine ev_icmple f267_27 (fun c80650 => absurd c80650 (by omega)) (fun c80650 => ?_)
                    refine ev_iconst ?_
                    refine ev_ret rfl (by decide) (by decide) ?_
                    show jEv _ _ _ _ _ _ _ (_, [(2, 42), (0, a1), (0, 1), (0, (a1 + 3)), (0, 1), (0, (10 * v80593 + v80618 - 528)), (0, 2)], [(0, (-1))], _, _, _)
                    refine ev_pop (by decide) ?_
                    refine ev_iload_n rfl ?_
                    exact ev_ret rfl (by decide) (by decide) ⟨⟨_, rfl, by omega, by omega, g80649, k80649⟩, fun r hr h0 => by cases hr; exact (Ad.step (r' := (a1 + 3)) (Ad.step (r' := (a1 + 2)) (Ad.step (r' := (a1 + 1)) (Ad.rf _ _ _) (by omega) k80649 (fun _ => rfl) (((jw_ne e80649 (Or.inl (by decide))).trans ev80482)) (by omega) (by omega) (by omega)) (by omega) k80649 (fun _ => rfl) (((jw_ne e80649 (Or.inl (by decide))).trans ev80593)) (by omega) (by omega) (by omega)) (by omega) k80649 (fun _ => rfl) (((jw_ne e80649 (Or.inl (by decide))).trans ev80618)) (by omega) (by omega) (by omega)), fun r hr => by cases hr; exact ⟨_, ((jw_eq e80649)), by omega, by omega, fun h0 => by omega⟩, fun r hr => by cases hr; exact okM (show (if bR h a1 = 45 then enR (bR h) (a1 + 1) else enR (bR h) a1) = ((a1 + 3), 0, 0, 1) by rw [if_pos ((bR_at (p := a1) k80649 (fun _ => rfl) ew1 (((jw_ne e80649 (Or.inl (by decide))).trans ev80482)) (by omega) (by omega)).trans (by omega))]; unfold enR; rw [show nm3 (bR h) (a1 + 1) = (a1 + 3) by unfold nm3; rw [show (a1 + 1 + 1 : Int) = a1 + 2 by omega, show (a1 + 1 + 2 : Int) = a1 + 3 by omega, (bR_at (p := (a1 + 1)) k80649 (fun _ => rfl) ew1 (((jw_ne e80649 (Or.inl (by decide))).trans ev80593)) (by omega) (by omega)), (bR_at (p := (a1 + 2)) k80649 (fun _ => rfl) ew1 (((jw_ne e80649 (Or.inl (by decide))).trans ev80618)) (by omega) (by omega)), (bR_end (p := (a1 + 3)) ew1 (by omega))]; (repeat' split) <;> omega, if_neg (by omega)]) (by omega) (by omega) ((jw_eq e80649)) (by omega)⟩
                  · refine ev_aload_n rfl ?_
                    refine g_getp (r := 42) (c := 54) g ad42 (by decide) (by decide) rf42_16 ft12_16 ?_
                    refine ev_iload_n rfl ?_
                    refine g_bald g ad54 rt54 (by omega) (by omega) (fun v80651 ev80651 lv80651 uv80651 => ?_)
                    refine ev_goto f264_18 ?_
                    refine ev_ret rfl (by decide) (by decide) ?_
                    show jEv _ _ _ _ _ _ _ (_, [(2, 42), (0, (a1 + 3))], [(0, v80651)], _, _, _)
                    refine ev_bipush ?_
                    refine ev_bipush ?_
                    refine ev_in (d := 0) (a := 0) (b := 0) (cd' := c242_0) (m := 3) (L0 := [(0, v80651), (0, 48), (0, 57)]) (jcall_s (A := [(0, 57), (0, 48), (0, v80651)]) (S' := []) (by decide) rfl (Nat.le_of_ble_eq_true rfl)) (by decide) ml242 pp242 (Nat.le_of_ble_eq_true rfl) rfl (by decide) (by decide) ?_
                    refine ev_iload_n rfl ?_
                    refine ev_iload_n rfl ?_
                    refine ev_icmplt f242_14 (fun c80652 => ?_) (fun c80652 => ?_)
                    · refine ev_iconst ?_
                      refine ev_ret rfl (by decide) (by decide) ?_
                      show jEv _ _ _ _ _ _ _ (_, [(2, 42), (0, (a1 + 3))], [(0, 0)], _, _, _)
                      refine ev_ret rfl (by decide) (by decide) ?_
                      show jEv _ _ _ _ _ _ _ (_, [(2, 42), (0, a1), (0, 1), (0, (a1 + 3)), (0, 1), (0, (10 * v80593 + v80618 - 528)), (0, 2)], [(0, 0)], _, _, _)
                      refine ev_ifeq f269_86 (fun c80653 => ?_) (fun c80653 => absurd c80653 (by omega))
                      refine ev_aload_n rfl ?_
                      refine ev_iload_n rfl ?_
                      refine ev_in (d := 1) (a := 0) (b := 0) (cd' := c265_0) (m := 2) (L0 := [(2, 42), (0, (a1 + 3))]) (jcall_v (A := [(0, (a1 + 3))]) (S' := []) (r := 42) rfl (g.lt ad42) (g.tg ad42) (Nat.le_of_ble_eq_true rfl)) (by decide) ml265 pp265 (Nat.le_of_ble_eq_true rfl) rfl (by decide) (by decide) ?_
                      refine ev_aload_n rfl ?_
                      refine ev_iload_n rfl ?_
                      refine ev_in (d := 0) (a := 0) (b := 0) (cd' := c264_0) (m := 2) (L0 := [(2, 42), (0, (a1 + 3))]) (jcall_v (A := [(0, (a1 + 3))]) (S' := []) (r := 42) rfl (g.lt ad42) (g.tg ad42) (Nat.le_of_ble_eq_true rfl)) (by decide) ml264 pp264 (Nat.le_of_ble_eq_true rfl) rfl (by decide) (by decide) ?_
                      refine ev_iload_n rfl ?_
                      refine ev_aload_n rfl ?_
                      refine g_getv (r := 42) (v := w1) g ad42 (by decide) ft12_17 (ew1) ?_
                      refine ev_icmpge f264_17 (fun c80654 => absurd c80654 (by omega)) (fun c80654 => ?_)
                      refine ev_aload_n rfl ?_
                      refine g_getp (r := 42) (c := 54) g ad42 (by decide) (by decide) rf42_16 ft12_16 ?_
                      refine ev_iload_n rfl ?_
                      refine g_baldv (v := v80651) g ad54 (by omega) (by omega) (ev80651) ?_
                      refine ev_goto f264_18 ?_
                      refine ev_ret rfl (by decide) (by decide) ?_
                      show jEv _ _ _ _ _ _ _ (_, [(2, 42), (0, (a1 + 3))], [(0, v80651)], _, _, _)
                      refine ev_bipush ?_
                      refine ev_bipush ?_
                      refine ev_in (d := 0) (a := 0) (b := 0) (cd' := c242_0) (m := 3) (L0 := [(0, v80651), (0, 48), (0, 57)]) (jcall_s (A := [(0, 57), (0, 48), (0, v80651)]) (S' := []) (by decide) rfl (Nat.le_of_ble_eq_true rfl)) (by decide) ml242 pp242 (Nat.le_of_ble_eq_true rfl) rfl (by decide) (by decide) ?_
                      refine ev_iload_n rfl ?_
                      refine ev_iload_n rfl ?_
                      refine ev_icmplt f242_14 (fun c80655 => ?_) (fun c80655 => absurd c80655 (by omega))
                      refine ev_iconst ?_
                      refine ev_ret rfl (by decide) (by decide) ?_
                      show jEv _ _ _ _ _ _ _ (_, [(2, 42), (0, (a1 + 3))], [(0, 0)], _, _, _)
                      refine ev_ret rfl (by decide) (by decide) ?_
                      show jEv _ _ _ _ _ _ _ (_, [(2, 42), (0, a1), (0, 1), (0, (a1 + 3)), (0, 1), (0, (10 * v80593 + v80618 - 528)), (0, 2)], [(0, 0)], _, _, _)
                      refine ev_ifeq f269_100 (fun c80656 => ?_) (fun c80656 => absurd c80656 (by omega))
                      refine ev_aload_n rfl ?_
                      refine ev_iload_n rfl ?_
                      refine ev_iconst ?_
                      refine ev_iload rfl ?_
                      refine ev_ifeq f269_114 (fun c80657 => absurd c80657 (by omega)) (fun c80657 => ?_)
                      refine ev_iload rfl ?_
                      refine ev_ineg (r := ((-10) * v80593 + (-v80618) + 528)) (by unfold w32; omega) ?_
                      refine ev_goto f269_116 ?_
                      refine ev_in (d := 1) (a := 0) (b := 0) (cd' := c267_0) (m := 6) (L0 := [(2, 42), (0, 1), (0, 0), (0, ((-10) * v80593 + (-v80618) + 528)), (9, 0), (9, 0)]) (jcall_v (A := [(0, ((-10) * v80593 + (-v80618) + 528)), (0, 0), (0, 1)]) (S' := []) (r := 42) rfl (g.lt ad42) (g.tg ad42) (Nat.le_of_ble_eq_true rfl)) (by decide) ml267 pp267 (Nat.le_of_ble_eq_true rfl) rfl (by decide) (by decide) ?_
                      refine ev_iload_n rfl ?_
                      refine ev_ifne f267_6 (fun c80658 => ?_) (fun c80658 => absurd c80658 (by omega))
                      refine ev_aload_n rfl ?_
                      refine ev_dup (by decide) ?_
                      refine g_getv (r := 42) (v := w0) g ad42 (by decide) ft12_21 (ew0) ?_
                      refine ev_iconst ?_
                      refine ev_iadd (r := (w0 + 1)) (by unfold w32; omega) ?_
                      refine g_putf (r := 42) g ad42 (by decide) ft12_21 (by decide) (fun e => absurd e nz12_21) rf42_21 (by decide) (by omega) (by omega) (fun h80659 e80659 g80659 => ?_)
                      have k80659 := k0.wr e80659 rfl
                      refine ev_aload_n rfl ?_
                      refine g_getv (r := 42) (v := (w0 + 1)) g80659 ad42 (by decide) ft12_21 ((jw_eq e80659)) ?_
                      refine ev_bipush ?_
                      refine ev_icmple f267_27 (fun c80660 => absurd c80660 (by omega)) (fun c80660 => ?_)
                      refine ev_iconst ?_
                      refine ev_ret rfl (by decide) (by decide) ?_
                      show jEv _ _ _ _ _ _ _ (_, [(2, 42), (0, a1), (0, 1), (0, (a1 + 3)), (0, 1), (0, (10 * v80593 + v80618 - 528)), (0, 2)], [(0, (-1))], _, _, _)
                      refine ev_pop (by decide) ?_
                      refine ev_iload_n rfl ?_
                      exact ev_ret rfl (by decide) (by decide) ⟨⟨_, rfl, by omega, by omega, g80659, k80659⟩, fun r hr h0 => by cases hr; exact (Ad.step (r' := (a1 + 3)) (Ad.step (r' := (a1 + 2)) (Ad.step (r' := (a1 + 1)) (Ad.rf _ _ _) (by omega) k80659 (fun _ => rfl) (((jw_ne e80659 (Or.inl (by decide))).trans ev80482)) (by omega) (by omega) (by omega)) (by omega) k80659 (fun _ => rfl) (((jw_ne e80659 (Or.inl (by decide))).trans ev80593)) (by omega) (by omega) (by omega)) (by omega) k80659 (fun _ => rfl) (((jw_ne e80659 (Or.inl (by decide))).trans ev80618)) (by omega) (by omega) (by omega)), fun r hr => by cases hr; exact ⟨_, ((jw_eq e80659)), by omega, by omega, fun h0 => by omega⟩, fun r hr => by cases hr; exact okM (show (if bR h a1 = 45 then enR (bR h) (a1 + 1) else enR (bR h) a1) = ((a1 + 3), 0, 0, 1) by rw [if_pos ((bR_at (p := a1) k80659 (fun _ => rfl) ew1 (((jw_ne e80659 (Or.inl (by decide))).trans ev80482)) (by omega) (by omega)).trans (by omega))]; unfold enR; rw [show nm3 (bR h) (a1 + 1) = (a1 + 3) by unfold nm3; rw [show (a1 + 1 + 1 : Int) = a1 + 2 by omega, show (a1 + 1 + 2 : Int) = a1 + 3 by omega, (bR_at (p := (a1 + 1)) k80659 (fun _ => rfl) ew1 (((jw_ne e80659 (Or.inl (by decide))).trans ev80593)) (by omega) (by omega)), (bR_at (p := (a1 + 2)) k80659 (fun _ => rfl) ew1 (((jw_ne e80659 (Or.inl (by decide))).trans ev80618)) (by omega) (by omega)), (bR_at (p := (a1 + 3)) k80659 (fun _ => rfl) ew1 (((jw_ne e80659 (Or.inl (by decide))).trans ev80651)) (by omega) (by omega))]; (repeat' split) <;> omega, if_neg (by omega)]) (by omega) (by omega) ((jw_eq e80659)) (by omega)⟩
                    · refine ev_iload_n rfl ?_
                      refine ev_iload_n rfl ?_
                      refine ev_icmpgt f242_14 (fun c80661 => ?_) (fun c80661 => ?_)
                      · refine ev_iconst ?_
                        refine ev_ret rfl (by decide) (by decide) ?_
                        show jEv _ _ _ _ _ _ _ (_, [(2, 42), (0, (a1 + 3))], [(0, 0)], _, _, _)
                        refine ev_ret rfl (by decide) (by decide) ?_
                        show jEv _ _ _ _ _ _ _ (_, [(2, 42), (0, a1), (0, 1), (0, (a1 + 3)), (0, 1), (0, (10 * v80593 + v80618 - 528)), (0, 2)], [(0, 0)], _, _, _)
                        refine ev_ifeq f269_86 (fun c80662 => ?_) (fun c80662 => absurd c80662 (by omega))
                        refine ev_aload_n rfl ?_
                        refine ev_iload_n rfl ?_
                        refine ev_in (d := 1) (a := 0) (b := 0) (cd' := c265_0) (m := 2) (L0 := [(2, 42), (0, (a1 + 3))]) (jcall_v (A := [(0, (a1 + 3))]) (S' := []) (r := 42) rfl (g.lt ad42) (g.tg ad42) (Nat.le_of_ble_eq_true rfl)) (by decide) ml265 pp265 (Nat.le_of_ble_eq_true rfl) rfl (by decide) (by decide) ?_
                        refine ev_aload_n rfl ?_
                        refine ev_iload_n rfl ?_
                        refine ev_in (d := 0) (a := 0) (b := 0) (cd' := c264_0) (m := 2) (L0 := [(2, 42), (0, (a1 + 3))]) (jcall_v (A := [(0, (a1 + 3))]) (S' := []) (r := 42) rfl (g.lt ad42) (g.tg ad42) (Nat.le_of_ble_eq_true rfl)) (by decide) ml264 pp264 (Nat.le_of_ble_eq_true rfl) rfl (by decide) (by decide) ?_
                        refine ev_iload_n rfl ?_
                        refine ev_aload_n rfl ?_
                        refine g_getv (r := 42) (v := w1) g ad42 (by decide) ft12_17 (ew1) ?_
                        refine ev_icmpge f264_17 (fun c80663 => absurd c80663 (by omega)) (fun c80663 => ?_)
                        refine ev_aload_n rfl ?_
                        refine g_getp (r := 42) (c := 54) g ad42 (by decide) (by decide) rf42_16 ft12_16 ?_
                        refine ev_iload_n rfl ?_
                        refine g_baldv (v := v80651) g ad54 (by omega) (by omega) (ev80651) ?_
                        refine ev_goto f264_18 ?_
                        refine ev_ret rfl (by decide) (by decide) ?_
                        show jEv _ _ _ _ _ _ _ (_, [(2, 42), (0, (a1 + 3))], [(0, v80651)], _, _, _)
                        refine ev_bipush ?_
                        refine ev_bipush ?_
                        refine ev_in (d := 0) (a := 0) (b := 0) (cd' := c242_0) (m := 3) (L0 := [(0, v80651), (0, 48), (0, 57)]) (jcall_s (A := [(0, 57), (0, 48), (0, v80651)]) (S' := []) (by decide) rfl (Nat.le_of_ble_eq_true rfl)) (by decide) ml242 pp242 (Nat.le_of_ble_eq_true rfl) rfl (by decide) (by decide) ?_
                        refine ev_iload_n rfl ?_
                        refine ev_iload_n rfl ?_
                        refine ev_icmplt f242_14 (fun c80664 => absurd c80664 (by omega)) (fun c80664 => ?_)
                        refine ev_iload_n rfl ?_
                        refine ev_iload_n rfl ?_
                        refine ev_icmpgt f242_14 (fun c80665 => ?_) (fun c80665 => absurd c80665 (by omega))
                        refine ev_iconst ?_
                        refine ev_ret rfl (by decide) (by decide) ?_
                        show jEv _ _ _ _ _ _ _ (_, [(2, 42), (0, (a1 + 3))], [(0, 0)], _, _, _)
                        refine ev_ret rfl (by decide) (by decide) ?_
                        show jEv _ _ _ _ _ _ _ (_, [(2, 42), (0, a1), (0, 1), (0, (a1 + 3)), (0, 1), (0, (10 * v80593 + v80618 - 528)), (0, 2)], [(0, 0)], _, _, _)
                        refine ev_ifeq f269_100 (fun c80666 => ?_) (fun c80666 => absurd c80666 (by omega))
                        refine ev_aload_n rfl ?_
                        refine ev_iload_n rfl ?_
                        refine ev_iconst ?_
                        refine ev_iload rfl ?_
                        refine ev_ifeq f269_114 (fun c80667 => absurd c80667 (by omega)) (fun c80667 => ?_)
                        refine ev_iload rfl ?_
                        refine ev_ineg (r := ((-10) * v80593 + (-v80618) + 528)) (by unfold w32; omega) ?_
                        refine ev_goto f269_116 ?_
                        refine ev_in (d := 1) (a := 0) (b := 0) (cd' := c267_0) (m := 6) (L0 := [(2, 42), (0, 1), (0, 0), (0, ((-10) * v80593 + (-v80618) + 528)), (9, 0), (9, 0)]) (jcall_v (A := [(0, ((-10) * v80593 + (-v80618) + 528)), (0, 0), (0, 1)]) (S' := []) (r := 42) rfl (g.lt ad42) (g.tg ad42) (Nat.le_of_ble_eq_true rfl)) (by decide) ml267 pp267 (Nat.le_of_ble_eq_true rfl) rfl (by decide) (by decide) ?_
                        refine ev_iload_n rfl ?_
                        refine ev_ifne f267_6 (fun c80668 => ?_) (fun c80668 => absurd c80668 (by omega))
                        refine ev_aload_n rfl ?_
                        refine ev_dup (by decide) ?_
                        refine g_getv (r := 42) (v := w0) g ad42 (by decide) ft12_21 (ew0) ?_
                        refine ev_iconst ?_
                        refine ev_iadd (r := (w0 + 1)) (by unfold w32; omega) ?_
                        refine g_putf (r := 42) g ad42 (by decide) ft12_21 (by decide) (fun e => absurd e nz12_21) rf42_21 (by decide) (by omega) (by omega) (fun h80669 e80669 g80669 => ?_)
                        have k80669 := k0.wr e80669 rfl
                        refine ev_aload_n rfl ?_
                        refine g_getv (r := 42) (v := (w0 + 1)) g80669 ad42 (by decide) ft12_21 ((jw_eq e80669)) ?_
                        refine ev_bipush ?_
                        refine ev_icmple f267_27 (fun c80670 => absurd c80670 (by omega)) (fun c80670 => ?_)
                        refine ev_iconst ?_
                        refine ev_ret rfl (by decide) (by decide) ?_
                        show jEv _ _ _ _ _ _ _ (_, [(2, 42), (0, a1), (0, 1), (0, (a1 + 3)), (0, 1), (0, (10 * v80593 + v80618 - 528)), (0, 2)], [(0, (-1))], _, _, _)
                        refine ev_pop (by decide) ?_
                        refine ev_iload_n rfl ?_
                        exact ev_ret rfl (by decide) (by decide) ⟨⟨_, rfl, by omega, by omega, g80669, k80669⟩, fun r hr h0 => by cases hr; exact (Ad.step (r' := (a1 + 3)) (Ad.step (r' := (a1 + 2)) (Ad.step (r' := (a1 + 1)) (Ad.rf _ _ _) (by omega) k80669 (fun _ => rfl) (((jw_ne e80669 (Or.inl (by decide))).trans ev80482)) (by omega) (by omega) (by omega)) (by omega) k80669 (fun _ => rfl) (((jw_ne e80669 (Or.inl (by decide))).trans ev80593)) (by omega) (by omega) (by omega)) (by omega) k80669 (fun _ => rfl) (((jw_ne e80669 (Or.inl (by decide))).trans ev80618)) (by omega) (by omega) (by omega)), fun r hr => by cases hr; exact ⟨_, ((jw_eq e80669)), by omega, by omega, fun h0 => by omega⟩, fun r hr => by cases hr; exact okM (show (if bR h a1 = 45 then enR (bR h) (a1 + 1) else enR (bR h) a1) = ((a1 + 3), 0, 0, 1) by rw [if_pos ((bR_at (p := a1) k80669 (fun _ => rfl) ew1 (((jw_ne e80669 (Or.inl (by decide))).trans ev80482)) (by omega) (by omega)).trans (by omega))]; unfold enR; rw [show nm3 (bR h) (a1 + 1) = (a1 + 3) by unfold nm3; rw [show (a1 + 1 + 1 : Int) = a1 + 2 by omega, show (a1 + 1 + 2 : Int) = a1 + 3 by omega, (bR_at (p := (a1 + 1)) k80669 (fun _ => rfl) ew1 (((jw_ne e80669 (Or.inl (by decide))).trans ev80593)) (by omega) (by omega)), (bR_at (p := (a1 + 2)) k80669 (fun _ => rfl) ew1 (((jw_ne e80669 (Or.inl (by decide))).trans ev80618)) (by omega) (by omega)), (bR_at (p := (a1 + 3)) k80669 (fun _ => rfl) ew1 (((jw_ne e80669 (Or.inl (by decide))).trans ev80651)) (by omega) (by omega))]; (repeat' split) <;> omega, if_neg (by omega)]) (by omega) (by omega) ((jw_eq e80669)) (by omega)⟩
                      · refine ev_iconst ?_
                        refine ev_goto f242_15 ?_
                        refine ev_ret rfl (by decide) (by decide) ?_
                        show jEv _ _ _ _ _ _ _ (_, [(2, 42), (0, (a1 + 3))], [(0, 1)], _, _, _)
                        refine ev_ret rfl (by decide) (by decide) ?_
                        show jEv _ _ _ _ _ _ _ (_, [(2, 42), (0, a1), (0, 1), (0, (a1 + 3)), (0, 1), (0, (10 * v80593 + v80618 - 528)), (0, 2)], [(0, 1)], _, _, _)
                        refine ev_ifeq f269_86 (fun c80671 => absurd c80671 (by omega)) (fun c80671 => ?_)
                        refine ev_bipush ?_
                        refine ev_iload rfl ?_
                        refine ev_imul (r := (100 * v80593 + 10 * v80618 - 5280)) (by unfold w32; omega) ?_
                        refine ev_aload_n rfl ?_
                        refine ev_iload_n rfl ?_
                        refine ev_in (d := 1) (a := 0) (b := 0) (cd' := c264_0) (m := 2) (L0 := [(2, 42), (0, (a1 + 3))]) (jcall_v (A := [(0, (a1 + 3))]) (S' := [(0, (100 * v80593 + 10 * v80618 - 5280))]) (r := 42) rfl (g.lt ad42) (g.tg ad42) (Nat.le_of_ble_eq_true rfl)) (by decide) ml264 pp264 (Nat.le_of_ble_eq_true rfl) rfl (by decide) (by decide) ?_
                        refine ev_iload_n rfl ?_
                        refine ev_aload_n rfl ?_
                        refine g_getv (r := 42) (v := w1) g ad42 (by decide) ft12_17 (ew1) ?_
                        refine ev_icmpge f264_17 (fun c80672 => absurd c80672 (by omega)) (fun c80672 => ?_)
                        refine ev_aload_n rfl ?_
                        refine g_getp (r := 42) (c := 54) g ad42 (by decide) (by decide) rf42_16 ft12_16 ?_
                        refine ev_iload_n rfl ?_
                        refine g_baldv (v := v80651) g ad54 (by omega) (by omega) (ev80651) ?_
                        refine ev_goto f264_18 ?_
                        refine ev_ret rfl (by decide) (by decide) ?_
                        show jEv _ _ _ _ _ _ _ (_, [(2, 42), (0, a1), (0, 1), (0, (a1 + 3)), (0, 1), (0, (10 * v80593 + v80618 - 528)), (0, 2)], [(0, v80651), (0, (100 * v80593 + 10 * v80618 - 5280))], _, _, _)
                        refine ev_iadd (r := (100 * v80593 + 10 * v80618 + v80651 - 5280)) (by unfold w32; omega) ?_
                        refine ev_bipush ?_
                        refine ev_isub (r := (100 * v80593 + 10 * v80618 + v80651 - 5328)) (by unfold w32; omega) ?_
                        refine ev_istore (L' := [(2, 42), (0, a1), (0, 1), (0, (a1 + 3)), (0, 1), (0, (100 * v80593 + 10 * v80618 + v80651 - 5328)), (0, 2)]) (Nat.le_of_ble_eq_true rfl) rfl ?_
                        refine ev_iinc (w := 3) (L' := [(2, 42), (0, a1), (0, 1), (0, (a1 + 3)), (0, 1), (0, (100 * v80593 + 10 * v80618 + v80651 - 5328)), (0, 3)]) rfl (by decide) rfl ?_
                        refine ev_iinc (w := (a1 + 4)) (L' := [(2, 42), (0, a1), (0, 1), (0, (a1 + 4)), (0, 1), (0, (100 * v80593 + 10 * v80618 + v80651 - 5328)), (0, 3)]) rfl (by unfold w32; omega) rfl ?_
                        refine ev_goto f269_47 ?_
                        refine ev_iload rfl ?_
                        refine ev_iconst ?_
                        refine ev_icmpge f269_86 (fun c80673 => ?_) (fun c80673 => absurd c80673 (by omega))
                        refine ev_aload_n rfl ?_
                        refine ev_iload_n rfl ?_
                        refine ev_in (d := 1) (a := 0) (b := 0) (cd' := c265_0) (m := 2) (L0 := [(2, 42), (0, (a1 + 4))]) (jcall_v (A := [(0, (a1 + 4))]) (S' := []) (r := 42) rfl (g.lt ad42) (g.tg ad42) (Nat.le_of_ble_eq_true rfl)) (by decide) ml265 pp265 (Nat.le_of_ble_eq_true rfl) rfl (by decide) (by decide) ?_
                        refine ev_aload_n rfl ?_
                        refine ev_iload_n rfl ?_
                        refine ev_in (d := 0) (a := 0) (b := 0) (cd' := c264_0) (m := 2) (L0 := [(2, 42), (0, (a1 + 4))]) (jcall_v (A := [(0, (a1 + 4))]) (S' := []) (r := 42) rfl (g.lt ad42) (g.tg ad42) (Nat.le_of_ble_eq_true rfl)) (by decide) ml264 pp264 (Nat.le_of_ble_eq_true rfl) rfl (by decide) (by decide) ?_
                        refine ev_iload_n rfl ?_
                        refine ev_aload_n rfl ?_
                        refine g_getv (r := 42) (v := w1) g ad42 (by decide) ft12_17 (ew1) ?_
                        refine ev_icmpge f264_17 (fun c80674 => ?_) (fun c80674 => ?_)
                        · refine ev_iconst ?_
                          refine ev_ret rfl (by decide) (by decide) ?_
                          show jEv _ _ _ _ _ _ _ (_, [(2, 42), (0, (a1 + 4))], [(0, (-1))], _, _, _)
                          refine ev_bipush ?_
                          refine ev_bipush ?_
                          refine ev_in (d := 0) (a := 0) (b := 0) (cd' := c242_0) (m := 3) (L0 := [(0, (-1)), (0, 48), (0, 57)]) (jcall_s (A := [(0, 57), (0, 48), (0, (-1))]) (S' := []) (by decide) rfl (Nat.le_of_ble_eq_true rfl)) (by decide) ml242 pp242 (Nat.le_of_ble_eq_true rfl) rfl (by decide) (by decide) ?_
                          refine ev_iload_n rfl ?_
                          refine ev_iload_n rfl ?_
                          refine ev_icmplt f242_14 (fun c80675 => ?_) (fun c80675 => absurd c80675 (by omega))
                          refine ev_iconst ?_
                          refine ev_ret rfl (by decide) (by decide) ?_
                          show jEv _ _ _ _ _ _ _ (_, [(2, 42), (0, (a1 + 4))], [(0, 0)], _, _, _)
                          refine ev_ret rfl (by decide) (by decide) ?_
                          show jEv _ _ _ _ _ _ _ (_, [(2, 42), (0, a1), (0, 1), (0, (a1 + 4)), (0, 1), (0, (100 * v80593 + 10 * v80618 + v80651 - 5328)), (0, 3)], [(0, 0)], _, _, _)
                          refine ev_ifeq f269_100 (fun c80676 => ?_) (fun c80676 => absurd c80676 (by omega))
                          refine ev_aload_n rfl ?_
                          refine ev_iload_n rfl ?_
                          refine ev_iconst ?_
                          refine ev_iload rfl ?_
                          refine ev_ifeq f269_114 (fun c80677 => absurd c80677 (by omega)) (fun c80677 => ?_)
                          refine ev_iload rfl ?_
                          refine ev_ineg (r := ((-100) * v80593 + (-10) * v80618 + (-v80651) + 5328)) (by unfold w32; omega) ?_
                          refine ev_goto f269_116 ?_
                          refine ev_in (d := 1) (a := 0) (b := 0) (cd' := c267_0) (m := 6) (L0 := [(2, 42), (0, 1), (0, 0), (0, ((-100) * v80593 + (-10) * v80618 + (-v80651) + 5328)), (9, 0), (9, 0)]) (jcall_v (A := [(0, ((-100) * v80593 + (-10) * v80618 + (-v80651) + 5328)), (0, 0), (0, 1)]) (S' := []) (r := 42) rfl (g.lt ad42) (g.tg ad42) (Nat.le_of_ble_eq_true rfl)) (by decide) ml267 pp267 (Nat.le_of_ble_eq_true rfl) rfl (by decide) (by decide) ?_
                          refine ev_iload_n rfl ?_
                          refine ev_ifne f267_6 (fun c80678 => ?_) (fun c80678 => absurd c80678 (by omega))
                          refine ev_aload_n rfl ?_
                          refine ev_dup (by decide) ?_
                          refine g_getv (r := 42) (v := w0) g ad42 (by decide) ft12_21 (ew0) ?_
                          refine ev_iconst ?_
                          refine ev_iadd (r := (w0 + 1)) (by unfold w32; omega) ?_
                          refine g_putf (r := 42) g ad42 (by decide) ft12_21 (by decide) (fun e => absurd e nz12_21) rf42_21 (by decide) (by omega) (by omega) (fun h80679 e80679 g80679 => ?_)
                          have k80679 := k0.wr e80679 rfl
                          refine ev_aload_n rfl ?_
                          refine g_getv (r := 42) (v := (w0 + 1)) g80679 ad42 (by decide) ft12_21 ((jw_eq e80679)) ?_
                          refine ev_bipush ?_
                          refine ev_icmple f267_27 (fun c80680 => absurd c80680 (by omega)) (fun c80680 => ?_)
                          refine ev_iconst ?_
                          refine ev_ret rfl (by decide) (by decide) ?_
                          show jEv _ _ _ _ _ _ _ (_, [(2, 42), (0, a1), (0, 1), (0, (a1 + 4)), (0, 1), (0, (100 * v80593 + 10 * v80618 + v80651 - 5328)), (0, 3)], [(0, (-1))], _, _, _)
                          refine ev_pop (by decide) ?_
                          refine ev_iload_n rfl ?_
                          exact ev_ret rfl (by decide) (by decide) ⟨⟨_, rfl, by omega, by omega, g80679, k80679⟩, fun r hr h0 => by cases hr; exact (Ad.step (r' := (a1 + 4)) (Ad.step (r' := (a1 + 3)) (Ad.step (r' := (a1 + 2)) (Ad.step (r' := (a1 + 1)) (Ad.rf _ _ _) (by omega) k80679 (fun _ => rfl) (((jw_ne e80679 (Or.inl (by decide))).trans ev80482)) (by omega) (by omega) (by omega)) (by omega) k80679 (fun _ => rfl) (((jw_ne e80679 (Or.inl (by decide))).trans ev80593)) (by omega) (by omega) (by omega)) (by omega) k80679 (fun _ => rfl) (((jw_ne e80679 (Or.inl (by decide))).trans ev80618)) (by omega) (by omega) (by omega)) (by omega) k80679 (fun _ => rfl) (((jw_ne e80679 (Or.inl (by decide))).trans ev80651)) (by omega) (by omega) (by omega)), fun r hr => by cases hr; exact ⟨_, ((jw_eq e80679)), by omega, by omega, fun h0 => by omega⟩, fun r hr => by cases hr; exact okM (show (if bR h a1 = 45 then enR (bR h) (a1 + 1) else enR (bR h) a1) = ((a1 + 4), 0, 0, 1) by rw [if_pos ((bR_at (p := a1) k80679 (fun _ => rfl) ew1 (((jw_ne e80679 (Or.inl (by decide))).trans ev80482)) (by omega) (by omega)).trans (by omega))]; unfold enR; rw [show nm3 (bR h) (a1 + 1) = (a1 + 4) by unfold nm3; rw [show (a1 + 1 + 1 : Int) = a1 + 2 by omega, show (a1 + 1 + 2 : Int) = a1 + 3 by omega, (bR_at (p := (a1 + 1)) k80679 (fun _ => rfl) ew1 (((jw_ne e80679 (Or.inl (by decide))).trans ev80593)) (by omega) (by omega)), (bR_at (p := (a1 + 2)) k80679 (fun _ => rfl) ew1 (((jw_ne e80679 (Or.inl (by decide))).trans ev80618)) (by omega) (by omega)), (bR_at (p := (a1 + 3)) k80679 (fun _ => rfl) ew1 (((jw_ne e80679 (Or.inl (by decide))).trans ev80651)) (by omega) (by omega))]; (repeat' split) <;> omega, if_neg (by omega)]) (by omega) (by omega) ((jw_eq e80679)) (by omega)⟩
                        · refine ev_aload_n rfl ?_
                          refine g_getp (r := 42) (c := 54) g ad42 (by decide) (by decide) rf42_16 ft12_16 ?_
                          refine ev_iload_n rfl ?_
                          refine g_bald g ad54 rt54 (by omega) (by omega) (fun v80681 ev80681 lv80681 uv80681 => ?_)
                          refine ev_goto f264_18 ?_
                          refine ev_ret rfl (by decide) (by decide) ?_
                          show jEv _ _ _ _ _ _ _ (_, [(2, 42), (0, (a1 + 4))], [(0, v80681)], _, _, _)
                          refine ev_bipush ?_
                          refine ev_bipush ?_
                          refine ev_in (d := 0) (a := 0) (b := 0) (cd' := c242_0) (m := 3) (L0 := [(0, v80681), (0, 48), (0, 57)]) (jcall_s (A := [(0, 57), (0, 48), (0, v80681)]) (S' := []) (by decide) rfl (Nat.le_of_ble_eq_true rfl)) (by decide) ml242 pp242 (Nat.le_of_ble_eq_true rfl) rfl (by decide) (by decide) ?_
                          refine ev_iload_n rfl ?_
                          refine ev_iload_n rfl ?_
                          refine ev_icmplt f242_14 (fun c80682 => ?_) (fun c80682 => ?_)
                          · refine ev_iconst ?_
                            refine ev_ret rfl (by decide) (by decide) ?_
                            show jEv _ _ _ _ _ _ _ (_, [(2, 42), (0, (a1 + 4))], [(0, 0)], _, _, _)
                            refine ev_ret rfl (by decide) (by decide) ?_
                            show jEv _ _ _ _ _ _ _ (_, [(2, 42), (0, a1), (0, 1), (0, (a1 + 4)), (0, 1), (0, (100 * v80593 + 10 * v80618 + v80651 - 5328)), (0, 3)], [(0, 0)], _, _, _)
                            refine ev_ifeq f269_100 (fun c80683 => ?_) (fun c80683 => absurd c80683 (by omega))
                            refine ev_aload_n rfl ?_
                            refine ev_iload_n rfl ?_
                            refine ev_iconst ?_
                            refine ev_iload rfl ?_
                            refine ev_ifeq f269_114 (fun c80684 => absurd c80684 (by omega)) (fun c80684 => ?_)
                            refine ev_iload rfl ?_
                            refine ev_ineg (r := ((-100) * v80593 + (-10) * v80618 + (-v80651) + 5328)) (by unfold w32; omega) ?_
                            refine ev_goto f269_116 ?_
                            refine ev_in (d := 1) (a := 0) (b := 0) (cd' := c267_0) (m := 6) (L0 := [(2, 42), (0, 1), (0, 0), (0, ((-100) * v80593 + (-10) * v80618 + (-v80651) + 5328)), (9, 0), (9, 0)]) (jcall_v (A := [(0, ((-100) * v80593 + (-10) * v80618 + (-v80651) + 5328)), (0, 0), (0, 1)]) (S' := []) (r := 42) rfl (g.lt ad42) (g.tg ad42) (Nat.le_of_ble_eq_true rfl)) (by decide) ml267 pp267 (Nat.le_of_ble_eq_true rfl) rfl (by decide) (by decide) ?_
                            refine ev_iload_n rfl ?_
                            refine ev_ifne f267_6 (fun c80685 => ?_) (fun c80685 => absurd c80685 (by omega))
                            refine ev_aload_n rfl ?_
                            refine ev_dup (by decide) ?_
                            refine g_getv (r := 42) (v := w0) g ad42 (by decide) ft12_21 (ew0) ?_
                            refine ev_iconst ?_
                            refine ev_iadd (r := (w0 + 1)) (by unfold w32; omega) ?_
                            refine g_putf (r := 42) g ad42 (by decide) ft12_21 (by decide) (fun e => absurd e nz12_21) rf42_21 (by decide) (by omega) (by omega) (fun h80686 e80686 g80686 => ?_)
                            have k80686 := k0.wr e80686 rfl
                            refine ev_aload_n rfl ?_
                            refine g_getv (r := 42) (v := (w0 + 1)) g80686 ad42 (by decide) ft12_21 ((jw_eq e80686)) ?_
                            refine ev_bipush ?_
                            refine ev_icmple f267_27 (fun c80687 => absurd c80687 (by omega)) (fun c80687 => ?_)
                            refine ev_iconst ?_
                            refine ev_ret rfl (by decide) (by decide) ?_
                            show jEv _ _ _ _ _ _ _ (_, [(2, 42), (0, a1), (0, 1), (0, (a1 + 4)), (0, 1), (0, (100 * v80593 + 10 * v80618 + v80651 - 5328)), (0, 3)], [(0, (-1))], _, _, _)
                            refine ev_pop (by decide) ?_
                            refine ev_iload_n rfl ?_
                            exact ev_ret rfl (by decide) (by decide) ⟨⟨_, rfl, by omega, by omega, g80686, k80686⟩, fun r hr h0 => by cases hr; exact (Ad.step (r' := (a1 + 4)) (Ad.step (r' := (a1 + 3)) (Ad.step (r' := (a1 + 2)) (Ad.step (r' := (a1 + 1)) (Ad.rf _ _ _) (by omega) k80686 (fun _ => rfl) (((jw_ne e80686 (Or.inl (by decide))).trans ev80482)) (by omega) (by omega) (by omega)) (by omega) k80686 (fun _ => rfl) (((jw_ne e80686 (Or.inl (by decide))).trans ev80593)) (by omega) (by omega) (by omega)) (by omega) k80686 (fun _ => rfl) (((jw_ne e80686 (Or.inl (by decide))).trans ev80618)) (by omega) (by omega) (by omega)) (by omega) k80686 (fun _ => rfl) (((jw_ne e80686 (Or.inl (by decide))).trans ev80651)) (by omega) (by omega) (by omega)), fun r hr => by cases hr; exact ⟨_, ((jw_eq e80686)), by omega, by omega, fun h0 => by omega⟩, fun r hr => by cases hr; exact okM (show (if bR h a1 = 45 then enR (bR h) (a1 + 1) else enR (bR h) a1) = ((a1 + 4), 0, 0, 1) by rw [if_pos ((bR_at (p := a1) k80686 (fun _ => rfl) ew1 (((jw_ne e80686 (Or.inl (by decide))).trans ev80482)) (by omega) (by omega)).trans (by omega))]; unfold enR; rw [show nm3 (bR h) (a1 + 1) = (a1 + 4) by unfold nm3; rw [show (a1 + 1 + 1 : Int) = a1 + 2 by omega, show (a1 + 1 + 2 : Int) = a1 + 3 by omega, (bR_at (p := (a1 + 1)) k80686 (fun _ => rfl) ew1 (((jw_ne e80686 (Or.inl (by decide))).trans ev80593)) (by omega) (by omega)), (bR_at (p := (a1 + 2)) k80686 (fun _ => rfl) ew1 (((jw_ne e80686 (Or.inl (by decide))).trans ev80618)) (by omega) (by omega)), (bR_at (p := (a1 + 3)) k80686 (fun _ => rfl) ew1 (((jw_ne e80686 (Or.inl (by decide))).trans ev80651)) (by omega) (by omega))]; (repeat' split) <;> omega, if_neg (by omega)]) (by omega) (by omega) ((jw_eq e80686)) (by omega)⟩
                          · refine ev_iload_n rfl ?_
                            refine ev_iload_n rfl ?_
                            refine ev_icmpgt f242_14 (fun c80688 => ?_) (fun c80688 => ?_)
                            · refine ev_iconst ?_
                              refine ev_ret rfl (by decide) (by decide) ?_
                              show jEv _ _ _ _ _ _ _ (_, [(2, 42), (0, (a1 + 4))], [(0, 0)], _, _, _)
                              refine ev_ret rfl (by decide) (by decide) ?_
                              show jEv _ _ _ _ _ _ _ (_, [(2, 42), (0, a1), (0, 1), (0, (a1 + 4)), (0, 1), (0, (100 * v80593 + 10 * v80618 + v80651 - 5328)), (0, 3)], [(0, 0)], _, _, _)
                              refine ev_ifeq f269_100 (fun c80689 => ?_) (fun c80689 => absurd c80689 (by omega))
                              refine ev_aload_n rfl ?_
                              refine ev_iload_n rfl ?_
                              refine ev_iconst ?_
                              refine ev_iload rfl ?_
                              refine ev_ifeq f269_114 (fun c80690 => absurd c80690 (by omega)) (fun c80690 => ?_)
                              refine ev_iload rfl ?_
                              refine ev_ineg (r := ((-100) * v80593 + (-10) * v80618 + (-v80651) + 5328)) (by unfold w32; omega) ?_
                              refine ev_goto f269_116 ?_
                              refine ev_in (d := 1) (a := 0) (b := 0) (cd' := c267_0) (m := 6) (L0 := [(2, 42), (0, 1), (0, 0), (0, ((-100) * v80593 + (-10) * v80618 + (-v80651) + 5328)), (9, 0), (9, 0)]) (jcall_v (A := [(0, ((-100) * v80593 + (-10) * v80618 + (-v80651) + 5328)), (0, 0), (0, 1)]) (S' := []) (r := 42) rfl (g.lt ad42) (g.tg ad42) (Nat.le_of_ble_eq_true rfl)) (by decide) ml267 pp267 (Nat.le_of_ble_eq_true rfl) rfl (by decide) (by decide) ?_
                              refine ev_iload_n rfl ?_
                              refine ev_ifne f267_6 (fun c80691 => ?_) (fun c80691 => absurd c80691 (by omega))
                              refine ev_aload_n rfl ?_
                              refine ev_dup (by decide) ?_
                              refine g_getv (r := 42) (v := w0) g ad42 (by decide) ft12_21 (ew0) ?_
                              refine ev_iconst ?_
                              refine ev_iadd (r := (w0 + 1)) (by unfold w32; omega) ?_
                              refine g_putf (r := 42) g ad42 (by decide) ft12_21 (by decide) (fun e => absurd e nz12_21) rf42_21 (by decide) (by omega) (by omega) (fun h80692 e80692 g80692 => ?_)
                              have k80692 := k0.wr e80692 rfl
                              refine ev_aload_n rfl ?_
                              refine g_getv (r := 42) (v := (w0 + 1)) g80692 ad42 (by decide) ft12_21 ((jw_eq e80692)) ?_
                              refine ev_bipush ?_
                              refine ev_icmple f267_27 (fun c80693 => absurd c80693 (by omega)) (fun c80693 => ?_)
                              refine ev_iconst ?_
                              refine ev_ret rfl (by decide) (by decide) ?_
                              show jEv _ _ _ _ _ _ _ (_, [(2, 42), (0, a1), (0, 1), (0, (a1 + 4)), (0, 1), (0, (100 * v80593 + 10 * v80618 + v80651 - 5328)), (0, 3)], [(0, (-1))], _, _, _)
                              refine ev_pop (by decide) ?_
                              refine ev_iload_n rfl ?_
                              exact ev_ret rfl (by decide) (by decide) ⟨⟨_, rfl, by omega, by omega, g80692, k80692⟩, fun r hr h0 => by cases hr; exact (Ad.step (r' := (a1 + 4)) (Ad.step (r' := (a1 + 3)) (Ad.step (r' := (a1 + 2)) (Ad.step (r' := (a1 + 1)) (Ad.rf _ _ _) (by omega) k80692 (fun _ => rfl) (((jw_ne e80692 (Or.inl (by decide))).trans ev80482)) (by omega) (by omega) (by omega)) (by omega) k80692 (fun _ => rfl) (((jw_ne e80692 (Or.inl (by decide))).trans ev80593)) (by omega) (by omega) (by omega)) (by omega) k80692 (fun _ => rfl) (((jw_ne e80692 (Or.inl (by decide))).trans ev80618)) (by omega) (by omega) (by omega)) (by omega) k80692 (fun _ => rfl) (((jw_ne e80692 (Or.inl (by decide))).trans ev80651)) (by omega) (by omega) (by omega)), fun r hr => by cases hr; exact ⟨_, ((jw_eq e80692)), by omega, by omega, fun h0 => by omega⟩, fun r hr => by cases hr; exact okM (show (if bR h a1 = 45 then enR (bR h) (a1 + 1) else enR (bR h) a1) = ((a1 + 4), 0, 0, 1) by rw [if_pos ((bR_at (p := a1) k80692 (fun _ => rfl) ew1 (((jw_ne e80692 (Or.inl (by decide))).trans ev80482)) (by omega) (by omega)).trans (by omega))]; unfold enR; rw [show nm3 (bR h) (a1 + 1) = (a1 + 4) by unfold nm3; rw [show (a1 + 1 + 1 : Int) = a1 + 2 by omega, show (a1 + 1 + 2 : Int) = a1 + 3 by omega, (bR_at (p := (a1 + 1)) k80692 (fun _ => rfl) ew1 (((jw_ne e80692 (Or.inl (by decide))).trans ev80593)) (by omega) (by omega)), (bR_at (p := (a1 + 2)) k80692 (fun _ => rfl) ew1 (((jw_ne e80692 (Or.inl (by decide))).trans ev80618)) (by omega) (by omega)), (bR_at (p := (a1 + 3)) k80692 (fun _ => rfl) ew1 (((jw_ne e80692 (Or.inl (by decide))).trans ev80651)) (by omega) (by omega))]; (repeat' split) <;> omega, if_neg (by omega)]) (by omega) (by omega) ((jw_eq e80692)) (by omega)⟩
                            · refine ev_iconst ?_
                              refine ev_goto f242_15 ?_
                              refine ev_ret rfl (by decide) (by decide) ?_
                              show jEv _ _ _ _ _ _ _ (_, [(2, 42), (0, (a1 + 4))], [(0, 1)], _, _, _)
                              refine ev_ret rfl (by decide) (by decide) ?_
                              show jEv _ _ _ _ _ _ _ (_, [(2, 42), (0, a1), (0, 1), (0, (a1 + 4)), (0, 1), (0, (100 * v80593 + 10 * v80618 + v80651 - 5328)), (0, 3)], [(0, 1)], _, _, _)
                              refine ev_ifeq f269_100 (fun c80694 => absurd c80694 (by omega)) (fun c80694 => ?_)
                              refine ev_aload_n rfl ?_
                              refine ev_iload_n rfl ?_
                              refine ev_in (d := 1) (a := 0) (b := 0) (cd' := c266_0) (m := 2) (L0 := [(2, 42), (0, (a1 + 4))]) (jcall_v (A := [(0, (a1 + 4))]) (S' := []) (r := 42) rfl (g.lt ad42) (g.tg ad42) (Nat.le_of_ble_eq_true rfl)) (by decide) ml266 pp266 (Nat.le_of_ble_eq_true rfl) rfl (by decide) (by decide) ?_
                              refine ev_aload_n rfl ?_
                              refine ev_iload_n rfl ?_
                              refine g_putf (r := 42) g ad42 (by decide) ft12_20 (by decide) (fun e => absurd e nz12_20) rf42_20 (by decide) (by omega) (by omega) (fun h80695 e80695 g80695 => ?_)
                              have k80695 := k0.wr e80695 rfl
                              refine ev_iconst ?_
                              refine ev_ret rfl (by decide) (by decide) ?_
                              show jEv _ _ _ _ _ _ _ (_, [(2, 42), (0, a1), (0, 1), (0, (a1 + 4)), (0, 1), (0, (100 * v80593 + 10 * v80618 + v80651 - 5328)), (0, 3)], [(0, (-1))], _, _, _)
                              exact ev_ret rfl (by decide) (by decide) ⟨⟨_, rfl, by omega, by omega, g80695, k80695⟩, fun r hr h0 => by cases hr; exfalso; omega, fun r hr => by cases hr; exact ⟨_, (((jw_ne e80695 (Or.inr (by decide))).trans ew0)), by omega, by omega, fun h0 => by exfalso; omega⟩, fun r hr => by cases hr; exact (Bd.M (show Bd (bR h) (if bR h a1 = 45 then enR (bR h) (a1 + 1) else enR (bR h) a1) (a1 + 4) from ⟨by omega, Or.inr (by rw [(show (if bR h a1 = 45 then enR (bR h) (a1 + 1) else enR (bR h) a1) = ((a1 + 4), 0, 0, 1) by rw [if_pos ((bR_at (p := a1) k80695 (fun _ => rfl) ew1 (((jw_ne e80695 (Or.inl (by decide))).trans ev80482)) (by omega) (by omega)).trans (by omega))]; unfold enR; rw [show nm3 (bR h) (a1 + 1) = (a1 + 4) by unfold nm3; rw [show (a1 + 1 + 1 : Int) = a1 + 2 by omega, show (a1 + 1 + 2 : Int) = a1 + 3 by omega, (bR_at (p := (a1 + 1)) k80695 (fun _ => rfl) ew1 (((jw_ne e80695 (Or.inl (by decide))).trans ev80593)) (by omega) (by omega)), (bR_at (p := (a1 + 2)) k80695 (fun _ => rfl) ew1 (((jw_ne e80695 (Or.inl (by decide))).trans ev80618)) (by omega) (by omega)), (bR_at (p := (a1 + 3)) k80695 (fun _ => rfl) ew1 (((jw_ne e80695 (Or.inl (by decide))).trans ev80651)) (by omega) (by omega))]; (repeat' split) <;> omega, if_neg (by omega)])]; exact ⟨rfl, by rw [(bR_at (p := (a1 + 4)) k80695 (fun _ => rfl) ew1 (((jw_ne e80695 (Or.inl (by decide))).trans ev80681)) (by omega) (by omega))]; omega⟩)⟩) ((jw_eq e80695)))⟩
set_option maxHeartbeats 4000000 in
theorem t270o_s_l {G : GH} {h : JH} {l0 : Int} (ll0 : 0 ≤ l0) (ul0 : l0 ≤ 6) {b0 : Int} (lb0 : 1 ≤ b0) (ub0 : b0 ≤ 30000000) {a1 : Int} (la1 : 0 ≤ a1) (ua1 : a1 ≤ 202) {a2 : Int} (la2 : 0 ≤ a2) (ua2 : a2 ≤ 15) {a3 : Int} (la3 : 0 ≤ a3) (ua3 : a3 ≤ 12) {w0 : Int} (ew0 : h.2.2 42 21 = w0) (lw0 : 100 ≤ w0) (uw0 : w0 ≤ 200000000) {w1 : Int} (ew1 : h.2.2 42 17 = w1) (lw1 : 0 ≤ w1) (uw1 : w1 ≤ 200) (F0 : (b0 + w0) ≤ 200000000) {K : Int → Int × Int × Int} {q : Nat} (hI : Iv h) (hL : Lv h l0 a1) (hb : NB a3 = b0) (hK : KoR h K) (hq : 13 - a3 = q) (hN : h.2.2 42 1 ≤ 4) (hq3 : h.2.2 54 (a1).toNat = 63) {M : Int} (hM : M = (7 * a3 - l0)) {d : Nat} (hd : 0 ≤ d) (rih : ∀ {G : GH} {h : JH} (g : Gd G h) {l0 : Int} (ll0 : 0 ≤ l0) (ul0 : l0 ≤ 6) {b0 : Int} (lb0 : 1 ≤ b0) (ub0 : b0 ≤ 30000000) {a1 : Int} (la1 : 0 ≤ a1) (ua1 : a1 ≤ 202) {a2 : Int} (la2 : 0 ≤ a2) (ua2 : a2 ≤ 15) {a3 : Int} (la3 : 0 ≤ a3) (ua3 : a3 ≤ 12) {w0 : Int} (ew0 : h.2.2 42 21 = w0) (lw0 : 100 ≤ w0) (uw0 : w0 ≤ 200000000) {w1 : Int} (ew1 : h.2.2 42 17 = w1) (lw1 : 0 ≤ w1) (uw1 : w1 ≤ 200) (F0 : (b0 + w0) ≤ 200000000) {K : Int → Int × Int × Int} {q : Nat} (hI : Iv h) (hL : Lv h l0 a1) (hb : NB a3 = b0) (hK : KoR h K) (hq : 13 - a3 = q) (hN : h.2.2 42 1 ≤ 4) (hm : M + 1 ≤ (7 * a3 - l0)), jOk d 0 0 272 [(2, 42), (0, a1), (0, a2), (0, a3), (0, 1)] h (fun v h' => PI G [(42, 21), (42, 22)] h 0 (-1) 200 v h' ∧ (∀ r, v = some (0, r) → 0 ≤ r → Ad h l0 a1 r) ∧ (∀ r, v = some (0, r) → RO h' w0 b0 r) ∧ (∀ r, v = some (0, r) → RdM (bR h) h' w0 (RQ h K q a2 a3 a1) r))) : ∀ N : Nat, (∀ (h1 : JH) (x5 x7 y0 : Int) (j8 j9 : AV), Gd G h1 → Kp [(42, 21), (42, 22)] h h1 → 0 ≤ a1 → a1 ≤ 198 → 0 ≤ a2 → a2 ≤ 15 → 0 ≤ a3 → a3 ≤ 11 → 1 ≤ x5 → x5 ≤ 200 → 0 ≤ x7 → x7 ≤ 3 → (w0 + (-y0)) ≤ (-1) → h1.2.2 42 21 = y0 → 101 ≤ y0 → y0 ≤ 200000000 → Ad h l0 a1 x5 → Mb w0 b0 x7 y0 → Cr (bR h) (RQ h K (q - 1) a2 (a3 + 1)) (if bR h (a1 + 1) ≠ 40 ∨ 12 ≤ a3 then rF (a1 + 1) else chL (bR h) (RQ h K (q - 1) a2 (a3 + 1)) 4 (a1 + 2) 0 0 1) x7 x5 w0 y0 → ((-x7) + 3) < N → jEv (jOk (d + 2)) none (fun _ => 0) c270_0 0 0 (fun v h' => PI G [(42, 21), (42, 22)] h 0 (-1) 200 v h' ∧ (∀ r, v = some (0, r) → 0 ≤ r → Ad h l0 a1 r) ∧ (∀ r, v = some (0, r) → RO h' w0 b0 r) ∧ (∀ r, v = some (0, r) → RdM (bR h) h' w0 (if bR h (a1 + 1) ≠ 40 ∨ 12 ≤ a3 then rF (a1 + 1) else chL (bR h) (RQ h K (q - 1) a2 (a3 + 1)) 4 (a1 + 2) 0 0 1) r)) (c270_45, [(2, 42), (0, a1), (0, a2), (0, a3), (0, 1), (0, x5), (0, (-1)), (0, x7), j8, j9], [], h1, 0, 0)) := by
  intro N
  induction N with
  | zero => exact fun h1 x5 x7 y0 j8 j9 g1 k1 b0 b1 b2 b3 b4 b5 b6 b7 b8 b9 b10 b11 b12 b13 b14 b15 b16 hm => absurd hm (by omega)
  | succ N ih =>
    show _
    intro h1 x5 x7 y0 j8 j9 g1 k1 b0 b1 b2 b3 b4 b5 b6 b7 b8 b9 b10 ey0 ly0 uy0 H0 H1 H2 hm
    obtain ⟨b81143, hb81142, eb81142, lb81142⟩ := NB.split hb (by omega)
    have rm81142 := Mb.room H1 (by omega) eb81142 lb81142
    refine ev_iconst ?_
    refine ev_istore (L' := [(2, 42), (0, a1), (0, a2), (0, a3), (0, 1), (0, x5), (0, (-1)), (0, x7), (0, 0), j9]) (Nat.le_of_ble_eq_true rfl) rfl ?_
    refine ev_iconst ?_
    refine ev_istore (L' := [(2, 42), (0, a1), (0, a2), (0, a3), (0, 1), (0, x5), (0, (-1)), (0, x7), (0, 0), (0, 0)]) (Nat.le_of_ble_eq_true rfl) rfl ?_
    refine ev_iload rfl ?_
    refine ev_iconst ?_
    refine ev_icmpge f270_92 (fun c81144 => absurd c81144 (by omega)) (fun c81144 => ?_)
    refine ev_aload_n rfl ?_
    refine ev_iload rfl ?_
    refine ev_in (d := (d + 1)) (a := 0) (b := 0) (cd' := c265_0) (m := 2) (L0 := [(2, 42), (0, x5)]) (jcall_v (A := [(0, x5)]) (S' := []) (r := 42) rfl (g1.lt ad42) (g1.tg ad42) (Nat.le_of_ble_eq_true rfl)) (by decide) ml265 pp265 (Nat.le_of_ble_eq_true rfl) rfl (by decide) (by decide) ?_
    refine ev_aload_n rfl ?_
    refine ev_iload_n rfl ?_
    refine ev_in (d := (d + 0)) (a := 0) (b := 0) (cd' := c264_0) (m := 2) (L0 := [(2, 42), (0, x5)]) (jcall_v (A := [(0, x5)]) (S' := []) (r := 42) rfl (g1.lt ad42) (g1.tg ad42) (Nat.le_of_ble_eq_true rfl)) (by decide) ml264 pp264 (Nat.le_of_ble_eq_true rfl) rfl (by decide) (by decide) ?_
    refine ev_iload_n rfl ?_
    refine ev_aload_n rfl ?_
    refine g_getv (r := 42) (v := w1) g1 ad42 (by decide) ft12_17 (((k1.v (by decide)).trans ew1)) ?_
    refine ev_icmpge f264_17 (fun c81145 => ?_) (fun c81145 => ?_)
    · refine ev_iconst ?_
      refine ev_ret rfl (by decide) (by decide) ?_
      show jEv _ _ _ _ _ _ _ (_, [(2, 42), (0, x5)], [(0, (-1))], _, _, _)
      refine ev_bipush ?_
      refine ev_bipush ?_
      refine ev_in (d := (d + 0)) (a := 0) (b := 0) (cd' := c242_0) (m := 3) (L0 := [(0, (-1)), (0, 48), (0, 57)]) (jcall_s (A := [(0, 57), (0, 48), (0, (-1))]) (S' := []) (by decide) rfl (Nat.le_of_ble_eq_true rfl)) (by decide) ml242 pp242 (Nat.le_of_ble_eq_true rfl) rfl (by decide) (by decide) ?_
      refine ev_iload_n rfl ?_
      refine ev_iload_n rfl ?_
      refine ev_icmplt f242_14 (fun c81146 => ?_) (fun c81146 => absurd c81146 (by omega))
      refine ev_iconst ?_
      refine ev_ret rfl (by decide) (by decide) ?_
      show jEv _ _ _ _ _ _ _ (_, [(2, 42), (0, x5)], [(0, 0)], _, _, _)
      refine ev_ret rfl (by decide) (by decide) ?_
      show jEv _ _ _ _ _ _ _ (_, [(2, 42), (0, a1), (0, a2), (0, a3), (0, 1), (0, x5), (0, (-1)), (0, x7), (0, 0), (0, 0)], [(0, 0)], _, _, _)
      refine ev_ifeq f270_92 (fun c81147 => ?_) (fun c81147 => absurd c81147 (by omega))
      refine ev_iload rfl ?_
      refine ev_ifeq f270_108 (fun c81148 => ?_) (fun c81148 => absurd c81148 (by omega))
      refine ev_aload_n rfl ?_
      refine ev_iload rfl ?_
      refine ev_in (d := (d + 1)) (a := 0) (b := 0) (cd' := c266_0) (m := 2) (L0 := [(2, 42), (0, x5)]) (jcall_v (A := [(0, x5)]) (S' := []) (r := 42) rfl (g1.lt ad42) (g1.tg ad42) (Nat.le_of_ble_eq_true rfl)) (by decide) ml266 pp266 (Nat.le_of_ble_eq_true rfl) rfl (by decide) (by decide) ?_
      refine ev_aload_n rfl ?_
      refine ev_iload_n rfl ?_
      refine g_putf (r := 42) g1 ad42 (by decide) ft12_20 (by decide) (fun e => absurd e nz12_20) rf42_20 (by decide) (by omega) (by omega) (fun h81149 e81149 g81149 => ?_)
      have k81149 := k1.wr e81149 rfl
      refine ev_iconst ?_
      refine ev_ret rfl (by decide) (by decide) ?_
      show jEv _ _ _ _ _ _ _ (_, [(2, 42), (0, a1), (0, a2), (0, a3), (0, 1), (0, x5), (0, (-1)), (0, x7), (0, 0), (0, 0)], [(0, (-1))], _, _, _)
      exact ev_ret rfl (by decide) (by decide) ⟨⟨_, rfl, by omega, by omega, g81149, k81149⟩, fun r hr h0 => by cases hr; exfalso; omega, fun r hr => by cases hr; exact ⟨_, (((jw_ne e81149 (Or.inr (by decide))).trans ey0)), by omega, by omega, fun h0 => by exfalso; omega⟩, fun r hr => by cases hr; exact (Bd.M (cr_n H2 (by omega) (by omega) (by have z : nm2 (bR h) x5 = -1 - x5 := (by unfold nm2; rw [(bR_end (p := x5) ew1 (by omega))]; (repeat' split) <;> omega); omega) (by omega)) ((jw_eq e81149)))⟩
    · refine ev_aload_n rfl ?_
      refine g_getp (r := 42) (c := 54) g1 ad42 (by decide) (by decide) rf42_16 ft12_16 ?_
      refine ev_iload_n rfl ?_
      refine g_bald g1 ad54 rt54 (by omega) (by omega) (fun v81150 ev81150 lv81150 uv81150 => ?_)
      refine ev_goto f264_18 ?_
      refine ev_ret rfl (by decide) (by decide) ?_
      show jEv _ _ _ _ _ _ _ (_, [(2, 42), (0, x5)], [(0, v81150)], _, _, _)
      refine ev_bipush ?_
      refine ev_bipush ?_
      refine ev_in (d := (d + 0)) (a := 0) (b := 0) (cd' := c242_0) (m := 3) (L0 := [(0, v81150), (0, 48), (0, 57)]) (jcall_s (A := [(0, 57), (0, 48), (0, v81150)]) (S' := []) (by decide) rfl (Nat.le_of_ble_eq_true rfl)) (by decide) ml242 pp242 (Nat.le_of_ble_eq_true rfl) rfl (by decide) (by decide) ?_
      refine ev_iload_n rfl ?_
      refine ev_iload_n rfl ?_
      refine ev_icmplt f242_14 (fun c81151 => ?_) (fun c81151 => ?_)
      · refine ev_iconst ?_
        refine ev_ret rfl (by decide) (by decide) ?_
        show jEv _ _ _ _ _ _ _ (_, [(2, 42), (0, x5)], [(0, 0)], _, _, _)
        refine ev_ret rfl (by decide) (by decide) ?_
        show jEv _ _ _ _ _ _ _ (_, [(2, 42), (0, a1), (0, a2), (0, a3), (0, 1), (0, x5), (0, (-1)), (0, x7), (0, 0), (0, 0)], [(0, 0)], _, _, _)
        refine ev_ifeq f270_92 (fun c81152 => ?_) (fun c81152 => absurd c81152 (by omega))
        refine ev_iload rfl ?_
        refine ev_ifeq f270_108 (fun c81153 => ?_) (fun c81153 => absurd c81153 (by omega))
        refine ev_aload_n rfl ?_
        refine ev_iload rfl ?_
        refine ev_in (d := (d + 1)) (a := 0) (b := 0) (cd' := c266_0) (m := 2) (L0 := [(2, 42), (0, x5)]) (jcall_v (A := [(0, x5)]) (S' := []) (r := 42) rfl (g1.lt ad42) (g1.tg ad42) (Nat.le_of_ble_eq_true rfl)) (by decide) ml266 pp266 (Nat.le_of_ble_eq_true rfl) rfl (by decide) (by decide) ?_
        refine ev_aload_n rfl ?_
        refine ev_iload_n rfl ?_
        refine g_putf (r := 42) g1 ad42 (by decide) ft12_20 (by decide) (fun e => absurd e nz12_20) rf42_20 (by decide) (by omega) (by omega) (fun h81154 e81154 g81154 => ?_)
        have k81154 := k1.wr e81154 rfl
        refine ev_iconst ?_
        refine ev_ret rfl (by decide) (by decide) ?_
        show jEv _ _ _ _ _ _ _ (_, [(2, 42), (0, a1), (0, a2), (0, a3), (0, 1), (0, x5), (0, (-1)), (0, x7), (0, 0), (0, 0)], [(0, (-1))], _, _, _)
        exact ev_ret rfl (by decide) (by decide) ⟨⟨_, rfl, by omega, by omega, g81154, k81154⟩, fun r hr h0 => by cases hr; exfalso; omega, fun r hr => by cases hr; exact ⟨_, (((jw_ne e81154 (Or.inr (by decide))).trans ey0)), by omega, by omega, fun h0 => by exfalso; omega⟩, fun r hr => by cases hr; exact (Bd.M (cr_n H2 (by omega) (by omega) (by have z : nm2 (bR h) x5 = -1 - x5 := (by unfold nm2; rw [(bR_at (p := x5) k81154 (fun _ => rfl) ew1 (((jw_ne e81154 (Or.inl (by decide))).trans ev81150)) (by omega) (by omega))]; (repeat' split) <;> omega); omega) (by omega)) ((jw_eq e81154)))⟩
      · refine ev_iload_n rfl ?_
        refine ev_iload_n rfl ?_
        refine ev_icmpgt f242_14 (fun c81155 => ?_) (fun c81155 => ?_)
        · refine ev_iconst ?_
          refine ev_ret rfl (by decide) (by decide) ?_
          show jEv _ _ _ _ _ _ _ (_, [(2, 42), (0, x5)], [(0, 0)], _, _, _)
          refine ev_ret rfl (by decide) (by decide) ?_
          show jEv _ _ _ _ _ _ _ (_, [(2, 42), (0, a1), (0, a2), (0, a3), (0, 1), (0, x5), (0, (-1)), (0, x7), (0, 0), (0, 0)], [(0, 0)], _, _, _)
          refine ev_ifeq f270_92 (fun c81156 => ?_) (fun c81156 => absurd c81156 (by omega))
          refine ev_iload rfl ?_
          refine ev_ifeq f270_108 (fun c81157 => ?_) (fun c81157 => absurd c81157 (by omega))
          refine ev_aload_n rfl ?_
          refine ev_iload rfl ?_
          refine ev_in (d := (d + 1)) (a := 0) (b := 0) (cd' := c266_0) (m := 2) (L0 := [(2, 42), (0, x5)]) (jcall_v (A := [(0, x5)]) (S' := []) (r := 42) rfl (g1.lt ad42) (g1.tg ad42) (Nat.le_of_ble_eq_true rfl)) (by decide) ml266 pp266 (Nat.le_of_ble_eq_true rfl) rfl (by decide) (by decide) ?_
          refine ev_aload_n rfl ?_
          refine ev_iload_n rfl ?_
          refine g_putf (r := 42) g1 ad42 (by decide) ft12_20 (by decide) (fun e => absurd e nz12_20) rf42_20 (by decide) (by omega) (by omega) (fun h81158 e81158 g81158 => ?_)
          have k81158 := k1.wr e81158 rfl
          refine ev_iconst ?_
          refine ev_ret rfl (by decide) (by decide) ?_
          show jEv _ _ _ _ _ _ _ (_, [(2, 42), (0, a1), (0, a2), (0, a3), (0, 1), (0, x5), (0, (-1)), (0, x7), (0, 0), (0, 0)], [(0, (-1))], _, _, _)
          exact ev_ret rfl (by decide) (by decide) ⟨⟨_, rfl, by omega, by omega, g81158, k81158⟩, fun r hr h0 => by cases hr; exfalso; omega, fun r hr => by cases hr; exact ⟨_, (((jw_ne e81158 (Or.inr (by decide))).trans ey0)), by omega, by omega, fun h0 => by exfalso; omega⟩, fun r hr => by cases hr; exact (Bd.M (cr_n H2 (by omega) (by omega) (by have z : nm2 (bR h) x5 = -1 - x5 := (by unfold nm2; rw [(bR_at (p := x5) k81158 (fun _ => rfl) ew1 (((jw_ne e81158 (Or.inl (by decide))).trans ev81150)) (by omega) (by omega))]; (repeat' split) <;> omega); omega) (by omega)) ((jw_eq e81158)))⟩
        · refine ev_iconst ?_
          refine ev_goto f242_15 ?_
          refine ev_ret rfl (by decide) (by decide) ?_
          show jEv _ _ _ _ _ _ _ (_, [(2, 42), (0, x5)], [(0, 1)], _, _, _)
          refine ev_ret rfl (by decide) (by decide) ?_
          show jEv _ _ _ _ _ _ _ (_, [(2, 42), (0, a1), (0, a2), (0, a3), (0, 1), (0, x5), (0, (-1)), (0, x7), (0, 0), (0, 0)], [(0, 1)], _, _, _)
          refine ev_ifeq f270_92 (fun c81159 => absurd c81159 (by omega)) (fun c81159 => ?_)
          refine ev_bipush ?_
          refine ev_iload rfl ?_
          refine ev_imul (r := 0) (by decide) ?_
          refine ev_aload_n rfl ?_
          refine ev_iload rfl ?_
          refine ev_in (d := (d + 1)) (a := 0) (b := 0) (cd' := c264_0) (m := 2) (L0 := [(2, 42), (0, x5)]) (jcall_v (A := [(0, x5)]) (S' := [(0, 0)]) (r := 42) rfl (g1.lt ad42) (g1.tg ad42) (Nat.le_of_ble_eq_true rfl)) (by decide) ml264 pp264 (Nat.le_of_ble_eq_true rfl) rfl (by decide) (by decide) ?_
          refine ev_iload_n rfl ?_
          refine ev_aload_n rfl ?_
          refine g_getv (r := 42) (v := w1) g1 ad42 (by decide) ft12_17 (((k1.v (by decide)).trans ew1)) ?_
          refine ev_icmpge f264_17 (fun c81160 => absurd c81160 (by omega)) (fun c81160 => ?_)
          refine ev_aload_n rfl ?_
          refine g_getp (r := 42) (c := 54) g1 ad42 (by decide) (by decide) rf42_16 ft12_16 ?_
          refine ev_iload_n rfl ?_
          refine g_baldv (v := v81150) g1 ad54 (by omega) (by omega) (ev81150) ?_
          refine ev_goto f264_18 ?_
          refine ev_ret rfl (by decide) (by decide) ?_
          show jEv _ _ _ _ _ _ _ (_, [(2, 42), (0, a1), (0, a2), (0, a3), (0, 1), (0, x5), (0, (-1)), (0, x7), (0, 0), (0, 0)], [(0, v81150), (0, 0)], _, _, _)
          refine ev_iadd (r := v81150) (by unfold w32; omega) ?_
          refine ev_bipush ?_
          refine ev_isub (r := (v81150 - 48)) (by unfold w32; omega) ?_
          refine ev_istore (L' := [(2, 42), (0, a1), (0, a2), (0, a3), (0, 1), (0, x5), (0, (-1)), (0, x7), (0, (v81150 - 48)), (0, 0)]) (Nat.le_of_ble_eq_true rfl) rfl ?_
          refine ev_iinc (w := 1) (L' := [(2, 42), (0, a1), (0, a2), (0, a3), (0, 1), (0, x5), (0, (-1)), (0, x7), (0, (v81150 - 48)), (0, 1)]) rfl (by decide) rfl ?_
          refine ev_iinc (w := (x5 + 1)) (L' := [(2, 42), (0, a1), (0, a2), (0, a3), (0, 1), (0, (x5 + 1)), (0, (-1)), (0, x7), (0, (v81150 - 48)), (0, 1)]) rfl (by unfold w32; omega) rfl ?_
          refine ev_goto f270_51 ?_
          refine ev_iload rfl ?_
          refine ev_iconst ?_
          refine ev_icmpge f270_92 (fun c81161 => absurd c81161 (by omega)) (fun c81161 => ?_)
          refine ev_aload_n rfl ?_
          refine ev_iload rfl ?_
          refine ev_in (d := (d + 1)) (a := 0) (b := 0) (cd' := c265_0) (m := 2) (L0 := [(2, 42), (0, (x5 + 1))]) (jcall_v (A := [(0, (x5 + 1))]) (S' := []) (r := 42) rfl (g1.lt ad42) (g1.tg ad42) (Nat.le_of_ble_eq_true rfl)) (by decide) ml265 pp265 (Nat.le_of_ble_eq_true rfl) rfl (by decide) (by decide) ?_
          refine ev_aload_n rfl ?_
          refine ev_iload_n rfl ?_
          refine ev_in (d := (d + 0)) (a := 0) (b := 0) (cd' := c264_0) (m := 2) (L0 := [(2, 42), (0, (x5 + 1))]) (jcall_v (A := [(0, (x5 + 1))]) (S' := []) (r := 42) rfl (g1.lt ad42) (g1.tg ad42) (Nat.le_of_ble_eq_true rfl)) (by decide) ml264 pp264 (Nat.le_of_ble_eq_true rfl) rfl (by decide) (by decide) ?_
          refine ev_iload_n rfl ?_
          refine ev_aload_n rfl ?_
          refine g_getv (r := 42) (v := w1) g1 ad42 (by decide) ft12_17 (((k1.v (by decide)).trans ew1)) ?_
          refine ev_icmpge f264_17 (fun c81162 => ?_) (fun c81162 => ?_)
          · refine ev_iconst ?_
            refine ev_ret rfl (by decide) (by decide) ?_
            show jEv _ _ _ _ _ _ _ (_, [(2, 42), (0, (x5 + 1))], [(0, (-1))], _, _, _)
            refine ev_bipush ?_
            refine ev_bipush ?_
            refine ev_in (d := (d + 0)) (a := 0) (b := 0) (cd' := c242_0) (m := 3) (L0 := [(0, (-1)), (0, 48), (0, 57)]) (jcall_s (A := [(0, 57), (0, 48), (0, (-1))]) (S' := []) (by decide) rfl (Nat.le_of_ble_eq_true rfl)) (by decide) ml242 pp242 (Nat.le_of_ble_eq_true rfl) rfl (by decide) (by decide) ?_
            refine ev_iload_n rfl ?_
            refine ev_iload_n rfl ?_
            refine ev_icmplt f242_14 (fun c81163 => ?_) (fun c81163 => absurd c81163 (by omega))
            refine ev_iconst ?_
            refine ev_ret rfl (by decide) (by decide) ?_
            show jEv _ _ _ _ _ _ _ (_, [(2, 42), (0, (x5 + 1))], [(0, 0)], _, _, _)
            refine ev_ret rfl (by decide) (by decide) ?_
            show jEv _ _ _ _ _ _ _ (_, [(2, 42), (0, a1), (0, a2), (0, a3), (0, 1), (0, (x5 + 1)), (0, (-1)), (0, x7), (0, (v81150 - 48)), (0, 1)], [(0, 0)], _, _, _)
            refine ev_ifeq f270_92 (fun c81164 => ?_) (fun c81164 => absurd c81164 (by omega))
            refine ev_iload rfl ?_
            refine ev_ifeq f270_108 (fun c81165 => absurd c81165 (by omega)) (fun c81165 => ?_)
            refine ev_aload_n rfl ?_
            refine ev_iload rfl ?_
            refine ev_in (d := (d + 1)) (a := 0) (b := 0) (cd' := c264_0) (m := 2) (L0 := [(2, 42), (0, (x5 + 1))]) (jcall_v (A := [(0, (x5 + 1))]) (S' := []) (r := 42) rfl (g1.lt ad42) (g1.tg ad42) (Nat.le_of_ble_eq_true rfl)) (by decide) ml264 pp264 (Nat.le_of_ble_eq_true rfl) rfl (by decide) (by decide) ?_
            refine ev_iload_n rfl ?_
            refine ev_aload_n rfl ?_
            refine g_getv (r := 42) (v := w1) g1 ad42 (by decide) ft12_17 (((k1.v (by decide)).trans ew1)) ?_
            refine ev_icmpge f264_17 (fun c81166 => ?_) (fun c81166 => absurd c81166 (by omega))
            refine ev_iconst ?_
            refine ev_ret rfl (by decide) (by decide) ?_
            show jEv _ _ _ _ _ _ _ (_, [(2, 42), (0, a1), (0, a2), (0, a3), (0, 1), (0, (x5 + 1)), (0, (-1)), (0, x7), (0, (v81150 - 48)), (0, 1)], [(0, (-1))], _, _, _)
            refine ev_bipush ?_
            refine ev_icmpeq f270_115 (fun c81167 => absurd c81167 (by omega)) (fun c81167 => ?_)
            refine ev_aload_n rfl ?_
            refine ev_iload rfl ?_
            refine ev_in (d := (d + 1)) (a := 0) (b := 0) (cd' := c266_0) (m := 2) (L0 := [(2, 42), (0, (x5 + 1))]) (jcall_v (A := [(0, (x5 + 1))]) (S' := []) (r := 42) rfl (g1.lt ad42) (g1.tg ad42) (Nat.le_of_ble_eq_true rfl)) (by decide) ml266 pp266 (Nat.le_of_ble_eq_true rfl) rfl (by decide) (by decide) ?_
            refine ev_aload_n rfl ?_
            refine ev_iload_n rfl ?_
            refine g_putf (r := 42) g1 ad42 (by decide) ft12_20 (by decide) (fun e => absurd e nz12_20) rf42_20 (by decide) (by omega) (by omega) (fun h81168 e81168 g81168 => ?_)
            have k81168 := k1.wr e81168 rfl
            refine ev_iconst ?_
            refine ev_ret rfl (by decide) (by decide) ?_
            show jEv _ _ _ _ _ _ _ (_, [(2, 42), (0, a1), (0, a2), (0, a3), (0, 1), (0, (x5 + 1)), (0, (-1)), (0, x7), (0, (v81150 - 48)), (0, 1)], [(0, (-1))], _, _, _)
            exact ev_ret rfl (by decide) (by decide) ⟨⟨_, rfl, by omega, by omega, g81168, k81168⟩, fun r hr h0 => by cases hr; exfalso; omega, fun r hr => by cases hr; exact ⟨_, (((jw_ne e81168 (Or.inr (by decide))).trans ey0)), by omega, by omega, fun h0 => by exfalso; omega⟩, fun r hr => by cases hr; exact (Bd.M (cr_c (q := (x5 + 1)) H2 (by omega) (by unfold nm2; rw [(bR_at (p := x5) k81168 (fun _ => rfl) ew1 (((jw_ne e81168 (Or.inl (by decide))).trans ev81150)) (by omega) (by omega)), (bR_end (p := (x5 + 1)) ew1 (by omega))]; (repeat' split) <;> omega) (by omega) (fun z => absurd ((bR_end (p := (x5 + 1)) ew1 (by omega)).symm.trans z) (by omega)) (by omega)) ((jw_eq e81168)))⟩
          · refine ev_aload_n rfl ?_
            refine g_getp (r := 42) (c := 54) g1 ad42 (by decide) (by decide) rf42_16 ft12_16 ?_
            refine ev_iload_n rfl ?_
            refine g_bald g1 ad54 rt54 (by omega) (by omega) (fun v81169 ev81169 lv81169 uv81169 => ?_)
            refine ev_goto f264_18 ?_
            refine ev_ret rfl (by decide) (by decide) ?_
            show jEv _ _ _ _ _ _ _ (_, [(2, 42), (0, (x5 + 1))], [(0, v81169)], _, _, _)
            refine ev_bipush ?_
            refine ev_bipush ?_
            refine ev_in (d := (d + 0)) (a := 0) (b := 0) (cd' := c242_0) (m := 3) (L0 := [(0, v81169), (0, 48), (0, 57)]) (jcall_s (A := [(0, 57), (0, 48), (0, v81169)]) (S' := []) (by decide) rfl (Nat.le_of_ble_eq_true rfl)) (by decide) ml242 pp242 (Nat.le_of_ble_eq_true rfl) rfl (by decide) (by decide) ?_
            refine ev_iload_n rfl ?_
            refine ev_iload_n rfl ?_
            refine ev_icmplt f242_14 (fun c81170 => ?_) (fun c81170 => ?_)
            · refine ev_iconst ?_
              refine ev_ret rfl (by decide) (by decide) ?_
              show jEv _ _ _ _ _ _ _ (_, [(2, 42), (0, (x5 + 1))], [(0, 0)], _, _, _)
              refine ev_ret rfl (by decide) (by decide) ?_
              show jEv _ _ _ _ _ _ _ (_, [(2, 42), (0, a1), (0, a2), (0, a3), (0, 1), (0, (x5 + 1)), (0, (-1)), (0, x7), (0, (v81150 - 48)), (0, 1)], [(0, 0)], _, _, _)
              refine ev_ifeq f270_92 (fun c81171 => ?_) (fun c81171 => absurd c81171 (by omega))
              refine ev_iload rfl ?_
              refine ev_ifeq f270_108 (fun c81172 => absurd c81172 (by omega)) (fun c81172 => ?_)
              refine ev_aload_n rfl ?_
              refine ev_iload rfl ?_
              refine ev_in (d := (d + 1)) (a := 0) (b := 0) (cd' := c264_0) (m := 2) (L0 := [(2, 42), (0, (x5 + 1))]) (jcall_v (A := [(0, (x5 + 1))]) (S' := []) (r := 42) rfl (g1.lt ad42) (g1.tg ad42) (Nat.le_of_ble_eq_true rfl)) (by decide) ml264 pp264 (Nat.le_of_ble_eq_true rfl) rfl (by decide) (by decide) ?_
              refine ev_iload_n rfl ?_
              refine ev_aload_n rfl ?_
              refine g_getv (r := 42) (v := w1) g1 ad42 (by decide) ft12_17 (((k1.v (by decide)).trans ew1)) ?_
              refine ev_icmpge f264_17 (fun c81173 => absurd c81173 (by omega)) (fun c81173 => ?_)
              refine ev_aload_n rfl ?_
              refine g_getp (r := 42) (c := 54) g1 ad42 (by decide) (by decide) rf42_16 ft12_16 ?_
              refine ev_iload_n rfl ?_
              refine g_baldv (v := v81169) g1 ad54 (by omega) (by omega) (ev81169) ?_
              refine ev_goto f264_18 ?_
              refine ev_ret rfl (by decide) (by decide) ?_
              show jEv _ _ _ _ _ _ _ (_, [(2, 42), (0, a1), (0, a2), (0, a3), (0, 1), (0, (x5 + 1)), (0, (-1)), (0, x7), (0, (v81150 - 48)), (0, 1)], [(0, v81169)], _, _, _)
              refine ev_bipush ?_
              refine ev_icmpeq f270_115 (fun c81174 => absurd c81174 (by omega)) (fun c81174 => ?_)
              refine ev_aload_n rfl ?_
              refine ev_iload rfl ?_
              refine ev_in (d := (d + 1)) (a := 0) (b := 0) (cd' := c266_0) (m := 2) (L0 := [(2, 42), (0, (x5 + 1))]) (jcall_v (A := [(0, (x5 + 1))]) (S' := []) (r := 42) rfl (g1.lt ad42) (g1.tg ad42) (Nat.le_of_ble_eq_true rfl)) (by decide) ml266 pp266 (Nat.le_of_ble_eq_true rfl) rfl (by decide) (by decide) ?_
              refine ev_aload_n rfl ?_
              refine ev_iload_n rfl ?_
              refine g_putf (r := 42) g1 ad42 (by decide) ft12_20 (by decide) (fun e => absurd e nz12_20) rf42_20 (by decide) (by omega) (by omega) (fun h81175 e81175 g81175 => ?_)
              have k81175 := k1.wr e81175 rfl
              refine ev_iconst ?_
              refine ev_ret rfl (by decide) (by decide) ?_
              show jEv _ _ _ _ _ _ _ (_, [(2, 42), (0, a1), (0, a2), (0, a3), (0, 1), (0, (x5 + 1)), (0, (-1)), (0, x7), (0, (v81150 - 48)), (0, 1)], [(0, (-1))], _, _, _)
              exact ev_ret rfl (by decide) (by decide) ⟨⟨_, rfl, by omega, by omega, g81175, k81175⟩, fun r hr h0 => by cases hr; exfalso; omega, fun r hr => by cases hr; exact ⟨_, (((jw_ne e81175 (Or.inr (by decide))).trans ey0)), by omega, by omega, fun h0 => by exfalso; omega⟩, fun r hr => by cases hr; exact (Bd.M (cr_c (q := (x5 + 1)) H2 (by omega) (by unfold nm2; rw [(bR_at (p := x5) k81175 (fun _ => rfl) ew1 (((jw_ne e81175 (Or.inl (by decide))).trans ev81150)) (by omega) (by omega)), (bR_at (p := (x5 + 1)) k81175 (fun _ => rfl) ew1 (((jw_ne e81175 (Or.inl (by decide))).trans ev81169)) (by omega) (by omega))]; (repeat' split) <;> omega) (by omega) (fun z => absurd ((bR_at (p := (x5 + 1)) k81175 (fun _ => rfl) ew1 (((jw_ne e81175 (Or.inl (by decide))).trans ev81169)) (by omega) (by omega)).symm.trans z) (by omega)) (by omega)) ((jw_eq e81175)))⟩
            · refine ev_iload_n rfl ?_
              refine ev_iload_n rfl ?_
              refine ev_icmpgt f242_14 (fun c81176 => ?_) (fun c81176 => ?_)
              · refine ev_iconst ?_
                refine ev_ret rfl (by decide) (by decide) ?_
                show jEv _ _ _ _ _ _ _ (_, [(2, 42), (0, (x5 + 1))], [(0, 0)], _, _, _)
                refine ev_ret rfl (by decide) (by decide) ?_
                show jEv _ _ _ _ _ _ _ (_, [(2, 42), (0, a1), (0, a2), (0, a3), (0, 1), (0, (x5 + 1)), (0, (-1)), (0, x7), (0, (v81150 - 48)), (0, 1)], [(0, 0)], _, _, _)
                refine ev_ifeq f270_92 (fun c81177 => ?_) (fun c81177 => absurd c81177 (by omega))
                refine ev_iload rfl ?_
                refine ev_ifeq f270_108 (fun c81178 => absurd c81178 (by omega)) (fun c81178 => ?_)
                refine ev_aload_n rfl ?_
                refine ev_iload rfl ?_
                refine ev_in (d := (d + 1)) (a := 0) (b := 0) (cd' := c264_0) (m := 2) (L0 := [(2, 42), (0, (x5 + 1))]) (jcall_v (A := [(0, (x5 + 1))]) (S' := []) (r := 42) rfl (g1.lt ad42) (g1.tg ad42) (Nat.le_of_ble_eq_true rfl)) (by decide) ml264 pp264 (Nat.le_of_ble_eq_true rfl) rfl (by decide) (by decide) ?_
                refine ev_iload_n rfl ?_
                refine ev_aload_n rfl ?_
                refine g_getv (r := 42) (v := w1) g1 ad42 (by decide) ft12_17 (((k1.v (by decide)).trans ew1)) ?_
                refine ev_icmpge f264_17 (fun c81179 => absurd c81179 (by omega)) (fun c81179 => ?_)
                refine ev_aload_n rfl ?_
                refine g_getp (r := 42) (c := 54) g1 ad42 (by decide) (by decide) rf42_16 ft12_16 ?_
                refine ev_iload_n rfl ?_
                refine g_baldv (v := v81169) g1 ad54 (by omega) (by omega) (ev81169) ?_
                refine ev_goto f264_18 ?_
                refine ev_ret rfl (by decide) (by decide) ?_
                show jEv _ _ _ _ _ _ _ (_, [(2, 42), (0, a1), (0, a2), (0, a3), (0, 1), (0, (x5 + 1)), (0, (-1)), (0, x7), (0, (v81150 - 48)), (0, 1)], [(0, v81169)], _, _, _)
                refine ev_bipush ?_
                refine ev_icmpeq f270_115 (fun c81180 => ?_) (fun c81180 => ?_)
                · refine ev_aload_n rfl ?_
                  refine ev_iload rfl ?_
                  refine ev_iload rfl ?_
                  refine ev_iload rfl ?_
                  refine ev_in (d := (d + 1)) (a := 0) (b := 0) (cd' := c268_0) (m := 4) (L0 := [(2, 42), (0, (-1)), (0, x7), (0, (v81150 - 48))]) (jcall_v (A := [(0, (v81150 - 48)), (0, x7), (0, (-1))]) (S' := []) (r := 42) rfl (g1.lt ad42) (g1.tg ad42) (Nat.le_of_ble_eq_true rfl)) (by decide) ml268 pp268 (Nat.le_of_ble_eq_true rfl) rfl (by decide) (by decide) ?_
                  refine ev_iload_n rfl ?_
                  refine ev_ifge f268_5 (fun c81181 => absurd c81181 (by omega)) (fun c81181 => ?_)
                  refine ev_ret rfl (by decide) (by decide) ?_
                  show jEv _ _ _ _ _ _ _ (_, [(2, 42), (0, a1), (0, a2), (0, a3), (0, 1), (0, (x5 + 1)), (0, (-1)), (0, x7), (0, (v81150 - 48)), (0, 1)], [], _, _, _)
                  refine ev_aload_n rfl ?_
                  refine ev_iload rfl ?_
                  refine ev_iconst ?_
                  refine ev_iadd (r := (x5 + 2)) (by unfold w32; omega) ?_
                  refine ev_iload_n rfl ?_
                  refine ev_iload_n rfl ?_
                  refine ev_iconst ?_
                  refine ev_iadd (r := (a3 + 1)) (by unfold w32; omega) ?_
                  refine ev_iload rfl ?_
                  refine ev_call (jcall_v (A := [(0, 1), (0, (a3 + 1)), (0, a2), (0, (x5 + 2))]) (S' := []) (r := 42) rfl (g1.lt ad42) (g1.tg ad42) (Nat.le_of_ble_eq_true rfl)) (jOk_le (by omega) (rih g1 (by omega) (by omega) (by omega) (by omega) (by omega) (by omega) (by omega) (by omega) (by omega) (by omega) (ey0) (by omega) (by omega) (((k1.v (by decide)).trans ew1)) (by omega) (by omega) (l0 := l0) (b0 := b81143) (by omega) (Iv.kp hI k1 (fun _ => rfl) (fun _ => rfl) rfl) (Lv.at hL (Ad.step (r' := (x5 + 2)) (Ad.step (r' := (x5 + 1)) H0 (by omega) k1 (fun _ => rfl) (ev81150) (by omega) (by omega) (by omega)) (by omega) k1 (fun _ => rfl) (ev81169) (by omega) (by omega) (by omega)) k1 (fun _ => rfl) rfl) hb81142 (K := K) (q := q - 1) (hK.kp k1 (fun _ => rfl) rfl (fun _ => rfl) rfl rfl (fun _ => rfl)) (by omega) (by rw [k1.v rfl]; exact hN) (by omega))) (by decide) (by decide) (fun w81182 h81182 q81182 => ?_)
                  obtain ⟨q81182, ad81182, ro81182, nr81182⟩ := q81182
                  obtain ⟨v81183, rfl, lv81183, uv81183, g81182, kk81182⟩ := q81182
                  have ad81182 := ad81182 _ rfl
                  have nr81182 := nr81182 _ rfl
                  obtain ⟨m81184, em81184, lm81184, um81184, pm81182⟩ := ro81182 _ rfl
                  have k81182 := k1.tr kk81182 (by decide)
                  rw [RQ_kp k1 (fun _ => rfl) rfl (fun _ => rfl) rfl rfl, bR_kp k1 (fun _ => rfl) rfl] at nr81182
                  show jEv _ _ _ _ _ _ _ (_, [(2, 42), (0, a1), (0, a2), (0, a3), (0, 1), (0, (x5 + 1)), (0, (-1)), (0, x7), (0, (v81150 - 48)), (0, 1)], [(0, v81183)], _, _, _)
                  refine ev_istore (L' := [(2, 42), (0, a1), (0, a2), (0, a3), (0, 1), (0, v81183), (0, (-1)), (0, x7), (0, (v81150 - 48)), (0, 1)]) (Nat.le_of_ble_eq_true rfl) rfl ?_
                  refine ev_iload rfl ?_
                  refine ev_ifge f270_148 (fun c81185 => ?_) (fun c81185 => ?_)
                  · refine ev_iinc (w := (x7 + 1)) (L' := [(2, 42), (0, a1), (0, a2), (0, a3), (0, 1), (0, v81183), (0, (-1)), (0, (x7 + 1)), (0, (v81150 - 48)), (0, 1)]) rfl (by unfold w32; omega) rfl ?_
                    refine ev_aload_n rfl ?_
                    refine ev_iload rfl ?_
                    refine ev_in (d := (d + 1)) (a := 0) (b := 0) (cd' := c264_0) (m := 2) (L0 := [(2, 42), (0, v81183)]) (jcall_v (A := [(0, v81183)]) (S' := []) (r := 42) rfl (g81182.lt ad42) (g81182.tg ad42) (Nat.le_of_ble_eq_true rfl)) (by decide) ml264 pp264 (Nat.le_of_ble_eq_true rfl) rfl (by decide) (by decide) ?_
                    refine ev_iload_n rfl ?_
                    refine ev_aload_n rfl ?_
                    refine g_getv (r := 42) (v := w1) g81182 ad42 (by decide) ft12_17 (((kk81182.v (by decide)).trans ((k1.v (by decide)).trans ew1))) ?_
                    refine ev_icmpge f264_17 (fun c81186 => ?_) (fun c81186 => ?_)
                    · refine ev_iconst ?_
                      refine ev_ret rfl (by decide) (by decide) ?_
                      show jEv _ _ _ _ _ _ _ (_, [(2, 42), (0, a1), (0, a2), (0, a3), (0, 1), (0, v81183), (0, (-1)), (0, (x7 + 1)), (0, (v81150 - 48)), (0, 1)], [(0, (-1))], _, _, _)
                      refine ev_bipush ?_
                      refine ev_icmpne f270_165 (fun c81187 => ?_) (fun c81187 => absurd c81187 (by omega))
                      refine ev_aload_n rfl ?_
                      refine ev_iload rfl ?_
                      refine ev_in (d := (d + 1)) (a := 0) (b := 0) (cd' := c264_0) (m := 2) (L0 := [(2, 42), (0, v81183)]) (jcall_v (A := [(0, v81183)]) (S' := []) (r := 42) rfl (g81182.lt ad42) (g81182.tg ad42) (Nat.le_of_ble_eq_true rfl)) (by decide) ml264 pp264 (Nat.le_of_ble_eq_true rfl) rfl (by decide) (by decide) ?_
                      refine ev_iload_n rfl ?_
                      refine ev_aload_n rfl ?_
                      refine g_getv (r := 42) (v := w1) g81182 ad42 (by decide) ft12_17 (((kk81182.v (by decide)).trans ((k1.v (by decide)).trans ew1))) ?_
                      refine ev_icmpge f264_17 (fun c81188 => ?_) (fun c81188 => absurd c81188 (by omega))
                      refine ev_iconst ?_
                      refine ev_ret rfl (by decide) (by decide) ?_
                      show jEv _ _ _ _ _ _ _ (_, [(2, 42), (0, a1), (0, a2), (0, a3), (0, 1), (0, v81183), (0, (-1)), (0, (x7 + 1)), (0, (v81150 - 48)), (0, 1)], [(0, (-1))], _, _, _)
                      refine ev_bipush ?_
                      refine ev_icmpne f270_182 (fun c81189 => ?_) (fun c81189 => absurd c81189 (by omega))
                      refine ev_aload_n rfl ?_
                      refine ev_iload rfl ?_
                      refine ev_in (d := (d + 1)) (a := 0) (b := 0) (cd' := c266_0) (m := 2) (L0 := [(2, 42), (0, v81183)]) (jcall_v (A := [(0, v81183)]) (S' := []) (r := 42) rfl (g81182.lt ad42) (g81182.tg ad42) (Nat.le_of_ble_eq_true rfl)) (by decide) ml266 pp266 (Nat.le_of_ble_eq_true rfl) rfl (by decide) (by decide) ?_
                      refine ev_aload_n rfl ?_
                      refine ev_iload_n rfl ?_
                      refine g_putf (r := 42) g81182 ad42 (by decide) ft12_20 (by decide) (fun e => absurd e nz12_20) rf42_20 (by decide) (by omega) (by omega) (fun h81190 e81190 g81190 => ?_)
                      have k81190 := k81182.wr e81190 rfl
                      refine ev_iconst ?_
                      refine ev_ret rfl (by decide) (by decide) ?_
                      show jEv _ _ _ _ _ _ _ (_, [(2, 42), (0, a1), (0, a2), (0, a3), (0, 1), (0, v81183), (0, (-1)), (0, (x7 + 1)), (0, (v81150 - 48)), (0, 1)], [(0, (-1))], _, _, _)
                      exact ev_ret rfl (by decide) (by decide) ⟨⟨_, rfl, by omega, by omega, g81190, k81190⟩, fun r hr h0 => by cases hr; exfalso; omega, fun r hr => by cases hr; exact ⟨_, (((jw_ne e81190 (Or.inr (by decide))).trans em81184)), by omega, by omega, fun h0 => by exfalso; omega⟩, fun r hr => by cases hr; exact (Bd.M (cr_x (q := (x5 + 1)) (v := v81183) H2 (by omega) (by unfold nm2; rw [(bR_at (p := x5) k81190 (fun _ => rfl) ew1 (((jw_ne e81190 (Or.inl (by decide))).trans ((kk81182.v rfl).trans ev81150))) (by omega) (by omega)), (bR_at (p := (x5 + 1)) k81190 (fun _ => rfl) ew1 (((jw_ne e81190 (Or.inl (by decide))).trans ((kk81182.v rfl).trans ev81169))) (by omega) (by omega))]; (repeat' split) <;> omega) (by omega) ((bR_at (p := (x5 + 1)) k81190 (fun _ => rfl) ew1 (((jw_ne e81190 (Or.inl (by decide))).trans ((kk81182.v rfl).trans ev81169))) (by omega) (by omega)).trans (by omega)) (by rw [show ((x5 + 1) + 1 : Int) = (x5 + 2) by omega]; exact ⟨(nr81182.ok (by omega)).1, (nr81182.ok (by omega)).2.1⟩) (fun z => absurd ((bR_end (p := v81183) ew1 (by omega)).symm.trans z) (by omega)) (Or.inl (fun z => absurd ((bR_end (p := v81183) ew1 (by omega)).symm.trans z) (by omega))) (by omega)) ((jw_eq e81190)))⟩
                    · refine ev_aload_n rfl ?_
                      refine g_getp (r := 42) (c := 54) g81182 ad42 (by decide) (by decide) rf42_16 ft12_16 ?_
                      refine ev_iload_n rfl ?_
                      refine g_bald g81182 ad54 rt54 (by omega) (by omega) (fun v81191 ev81191 lv81191 uv81191 => ?_)
                      refine ev_goto f264_18 ?_
                      refine ev_ret rfl (by decide) (by decide) ?_
                      show jEv _ _ _ _ _ _ _ (_, [(2, 42), (0, a1), (0, a2), (0, a3), (0, 1), (0, v81183), (0, (-1)), (0, (x7 + 1)), (0, (v81150 - 48)), (0, 1)], [(0, v81191)], _, _, _)
                      refine ev_bipush ?_
                      refine ev_icmpne f270_165 (fun c81192 => ?_) (fun c81192 => ?_)
                      · refine ev_aload_n rfl ?_
                        refine ev_iload rfl ?_
                        refine ev_in (d := (d + 1)) (a := 0) (b := 0) (cd' := c264_0) (m := 2) (L0 := [(2, 42), (0, v81183)]) (jcall_v (A := [(0, v81183)]) (S' := []) (r := 42) rfl (g81182.lt ad42) (g81182.tg ad42) (Nat.le_of_ble_eq_true rfl)) (by decide) ml264 pp264 (Nat.le_of_ble_eq_true rfl) rfl (by decide) (by decide) ?_
                        refine ev_iload_n rfl ?_
                        refine ev_aload_n rfl ?_
                        refine g_getv (r := 42) (v := w1) g81182 ad42 (by decide) ft12_17 (((kk81182.v (by decide)).trans ((k1.v (by decide)).trans ew1))) ?_
                        refine ev_icmpge f264_17 (fun c81193 => absurd c81193 (by omega)) (fun c81193 => ?_)
                        refine ev_aload_n rfl ?_
                        refine g_getp (r := 42) (c := 54) g81182 ad42 (by decide) (by decide) rf42_16 ft12_16 ?_
                        refine ev_iload_n rfl ?_
                        refine g_baldv (v := v81191) g81182 ad54 (by omega) (by omega) (ev81191) ?_
                        refine ev_goto f264_18 ?_
                        refine ev_ret rfl (by decide) (by decide) ?_
                        show jEv _ _ _ _ _ _ _ (_, [(2, 42), (0, a1), (0, a2), (0, a3), (0, 1), (0, v81183), (0, (-1)), (0, (x7 + 1)), (0, (v81150 - 48)), (0, 1)], [(0, v81191)], _, _, _)
                        refine ev_bipush ?_
                        refine ev_icmpne f270_182 (fun c81194 => ?_) (fun c81194 => ?_)
                        · refine ev_aload_n rfl ?_
                          refine ev_iload rfl ?_
                          refine ev_in (d := (d + 1)) (a := 0) (b := 0) (cd' := c266_0) (m := 2) (L0 := [(2, 42), (0, v81183)]) (jcall_v (A := [(0, v81183)]) (S' := []) (r := 42) rfl (g81182.lt ad42) (g81182.tg ad42) (Nat.le_of_ble_eq_true rfl)) (by decide) ml266 pp266 (Nat.le_of_ble_eq_true rfl) rfl (by decide) (by decide) ?_
                          refine ev_aload_n rfl ?_
                          refine ev_iload_n rfl ?_
                          refine g_putf (r := 42) g81182 ad42 (by decide) ft12_20 (by decide) (fun e => absurd e nz12_20) rf42_20 (by decide) (by omega) (by omega) (fun h81195 e81195 g81195 => ?_)
                          have k81195 := k81182.wr e81195 rfl
                          refine ev_iconst ?_
                          refine ev_ret rfl (by decide) (by decide) ?_
                          show jEv _ _ _ _ _ _ _ (_, [(2, 42), (0, a1), (0, a2), (0, a3), (0, 1), (0, v81183), (0, (-1)), (0, (x7 + 1)), (0, (v81150 - 48)), (0, 1)], [(0, (-1))], _, _, _)
                          exact ev_ret rfl (by decide) (by decide) ⟨⟨_, rfl, by omega, by omega, g81195, k81195⟩, fun r hr h0 => by cases hr; exfalso; omega, fun r hr => by cases hr; exact ⟨_, (((jw_ne e81195 (Or.inr (by decide))).trans em81184)), by omega, by omega, fun h0 => by exfalso; omega⟩, fun r hr => by cases hr; exact (Bd.M (cr_x (q := (x5 + 1)) (v := v81183) H2 (by omega) (by unfold nm2; rw [(bR_at (p := x5) k81195 (fun _ => rfl) ew1 (((jw_ne e81195 (Or.inl (by decide))).trans ((kk81182.v rfl).trans ev81150))) (by omega) (by omega)), (bR_at (p := (x5 + 1)) k81195 (fun _ => rfl) ew1 (((jw_ne e81195 (Or.inl (by decide))).trans ((kk81182.v rfl).trans ev81169))) (by omega) (by omega))]; (repeat' split) <;> omega) (by omega) ((bR_at (p := (x5 + 1)) k81195 (fun _ => rfl) ew1 (((jw_ne e81195 (Or.inl (by decide))).trans ((kk81182.v rfl).trans ev81169))) (by omega) (by omega)).trans (by omega)) (by rw [show ((x5 + 1) + 1 : Int) = (x5 + 2) by omega]; exact ⟨(nr81182.ok (by omega)).1, (nr81182.ok (by omega)).2.1⟩) (fun z => absurd ((bR_at (p := v81183) k81195 (fun _ => rfl) ew1 (((jw_ne e81195 (Or.inl (by decide))).trans ev81191)) (by omega) (by omega)).symm.trans z) (by omega)) (Or.inl (fun z => absurd ((bR_at (p := v81183) k81195 (fun _ => rfl) ew1 (((jw_ne e81195 (Or.inl (by decide))).trans ev81191)) (by omega) (by omega)).symm.trans z) (by omega))) (by omega)) ((jw_eq e81195)))⟩
                        · refine ev_iload rfl ?_
                          refine ev_iconst ?_
                          refine ev_icmpne f270_189 (fun c81196 => ?_) (fun c81196 => ?_)
                          · refine ev_iinc (w := (v81183 + 1)) (L' := [(2, 42), (0, a1), (0, a2), (0, a3), (0, 1), (0, (v81183 + 1)), (0, (-1)), (0, (x7 + 1)), (0, (v81150 - 48)), (0, 1)]) rfl (by unfold w32; omega) rfl ?_
                            refine ev_goto f270_45 ?_
                            exact ih _ _ _ _ _ _ g81182 k81182 (by omega) (by omega) (by omega) (by omega) (by omega) (by omega) (by omega) (by omega) (by omega) (by omega) (by omega) (em81184) (by omega) (by omega) (Ad.step (r' := (v81183 + 1)) (Ad.tr (Ad.step (r' := (x5 + 2)) (Ad.step (r' := (x5 + 1)) H0 (by omega) k1 (fun _ => rfl) (ev81150) (by omega) (by omega) (by omega)) (by omega) k1 (fun _ => rfl) (ev81169) (by omega) (by omega) (by omega)) k1 (fun _ => rfl) (ad81182 (by omega))) (by omega) k81182 (fun _ => rfl) (ev81191) (by omega) (by omega) (by omega)) (Mb.step H1 eb81142 um81184 (by omega)) (cr_k (q := (x5 + 1)) (v := v81183) H2 (by omega) (by unfold nm2; rw [(bR_at (p := x5) k81182 (fun _ => rfl) ew1 (((kk81182.v rfl).trans ev81150)) (by omega) (by omega)), (bR_at (p := (x5 + 1)) k81182 (fun _ => rfl) ew1 (((kk81182.v rfl).trans ev81169)) (by omega) (by omega))]; (repeat' split) <;> omega) (by omega) ((bR_at (p := (x5 + 1)) k81182 (fun _ => rfl) ew1 (((kk81182.v rfl).trans ev81169)) (by omega) (by omega)).trans (by omega)) (by rw [show ((x5 + 1) + 1 : Int) = (x5 + 2) by omega]; exact ⟨(nr81182.ok (by omega)).1, (nr81182.ok (by omega)).2.1⟩) ((bR_at (p := v81183) k81182 (fun _ => rfl) ew1 (ev81191) (by omega) (by omega)).trans (by omega)) (by omega) (by omega) (by rw [show ((x5 + 1) + 1 : Int) = (x5 + 2) by omega]; have z := (nr81182.ok (by omega)).2.2; rw [em81184] at z; exact z)) (by omega)
                          · refine ev_aload_n rfl ?_
                            refine ev_iload rfl ?_
                            refine ev_in (d := (d + 1)) (a := 0) (b := 0) (cd' := c266_0) (m := 2) (L0 := [(2, 42), (0, v81183)]) (jcall_v (A := [(0, v81183)]) (S' := []) (r := 42) rfl (g81182.lt ad42) (g81182.tg ad42) (Nat.le_of_ble_eq_true rfl)) (by decide) ml266 pp266 (Nat.le_of_ble_eq_true rfl) rfl (by decide) (by decide) ?_
                            refine ev_aload_n rfl ?_
                            refine ev_iload_n rfl ?_
                            refine g_putf (r := 42) g81182 ad42 (by decide) ft12_20 (by decide) (fun e => absurd e nz12_20) rf42_20 (by decide) (by omega) (by omega) (fun h81197 e81197 g81197 => ?_)
                            have k81197 := k81182.wr e81197 rfl
                            refine ev_iconst ?_
                            refine ev_ret rfl (by decide) (by decide) ?_
                            show jEv _ _ _ _ _ _ _ (_, [(2, 42), (0, a1), (0, a2), (0, a3), (0, 1), (0, v81183), (0, (-1)), (0, (x7 + 1)), (0, (v81150 - 48)), (0, 1)], [(0, (-1))], _, _, _)
                            exact ev_ret rfl (by decide) (by decide) ⟨⟨_, rfl, by omega, by omega, g81197, k81197⟩, fun r hr h0 => by cases hr; exfalso; omega, fun r hr => by cases hr; exact ⟨_, (((jw_ne e81197 (Or.inr (by decide))).trans em81184)), by omega, by omega, fun h0 => by exfalso; omega⟩, fun r hr => by cases hr; exact (Bd.M (cr_x (q := (x5 + 1)) (v := v81183) H2 (by omega) (by unfold nm2; rw [(bR_at (p := x5) k81197 (fun _ => rfl) ew1 (((jw_ne e81197 (Or.inl (by decide))).trans ((kk81182.v rfl).trans ev81150))) (by omega) (by omega)), (bR_at (p := (x5 + 1)) k81197 (fun _ => rfl) ew1 (((jw_ne e81197 (Or.inl (by decide))).trans ((kk81182.v rfl).trans ev81169))) (by omega) (by omega))]; (repeat' split) <;> omega) (by omega) ((bR_at (p := (x5 + 1)) k81197 (fun _ => rfl) ew1 (((jw_ne e81197 (Or.inl (by decide))).trans ((kk81182.v rfl).trans ev81169))) (by omega) (by omega)).trans (by omega)) (by rw [show ((x5 + 1) + 1 : Int) = (x5 + 2) by omega]; exact ⟨(nr81182.ok (by omega)).1, (nr81182.ok (by omega)).2.1⟩) (fun z => absurd ((bR_at (p := v81183) k81197 (fun _ => rfl) ew1 (((jw_ne e81197 (Or.inl (by decide))).trans ev81191)) (by omega) (by omega)).symm.trans z) (by omega)) (Or.inr (by omega)) (by omega)) ((jw_eq e81197)))⟩
                      · refine ev_goto f270_195 ?_
                        refine ev_iload rfl ?_
                        refine ev_iflt f270_209 (fun c81198 => ?_) (fun c81198 => absurd c81198 (by omega))
                        refine ev_iload rfl ?_
                        refine ev_iconst ?_
                        refine ev_iadd (r := (v81183 + 1)) (by unfold w32; omega) ?_
                        exact ev_ret rfl (by decide) (by decide) ⟨⟨_, rfl, by omega, by omega, g81182, k81182⟩, fun r hr h0 => by cases hr; exact (Ad.step (r' := (v81183 + 1)) (Ad.tr (Ad.step (r' := (x5 + 2)) (Ad.step (r' := (x5 + 1)) H0 (by omega) k1 (fun _ => rfl) (ev81150) (by omega) (by omega) (by omega)) (by omega) k1 (fun _ => rfl) (ev81169) (by omega) (by omega) (by omega)) k1 (fun _ => rfl) (ad81182 (by omega))) (by omega) k81182 (fun _ => rfl) (ev81191) (by omega) (by omega) (by omega)), fun r hr => by cases hr; exact ⟨_, (em81184), by omega, by omega, fun h0 => by have := pm81182 (by omega); omega⟩, fun r hr => by cases hr; exact Or.inl (by have y := cr_e (q := (x5 + 1)) (v := v81183) (r := (v81183 + 1)) (md' := m81184) H2 (by omega) (by unfold nm2; rw [(bR_at (p := x5) k81182 (fun _ => rfl) ew1 (((kk81182.v rfl).trans ev81150)) (by omega) (by omega)), (bR_at (p := (x5 + 1)) k81182 (fun _ => rfl) ew1 (((kk81182.v rfl).trans ev81169)) (by omega) (by omega))]; (repeat' split) <;> omega) (by omega) ((bR_at (p := (x5 + 1)) k81182 (fun _ => rfl) ew1 (((kk81182.v rfl).trans ev81169)) (by omega) (by omega)).trans (by omega)) (by rw [show ((x5 + 1) + 1 : Int) = (x5 + 2) by omega]; exact ⟨(nr81182.ok (by omega)).1, (nr81182.ok (by omega)).2.1⟩) ((bR_at (p := v81183) k81182 (fun _ => rfl) ew1 (ev81191) (by omega) (by omega)).trans (by omega)) (by omega) (by rw [show ((x5 + 1) + 1 : Int) = (x5 + 2) by omega]; have z := (nr81182.ok (by omega)).2.2; rw [em81184] at z; exact z); exact ⟨y.1, y.2.1, (em81184).trans y.2.2⟩)⟩
                  · refine ev_iconst ?_
                    exact ev_ret rfl (by decide) (by decide) ⟨⟨_, rfl, by omega, by omega, g81182, k81182⟩, fun r hr h0 => by cases hr; exfalso; omega, fun r hr => by cases hr; exact ⟨_, (em81184), by omega, by omega, fun h0 => by exfalso; omega⟩, fun r hr => by cases hr; exact Bd.M (cr_b (q := (x5 + 1)) H2 (by omega) (by unfold nm2; rw [(bR_at (p := x5) k81182 (fun _ => rfl) ew1 (((kk81182.v rfl).trans ev81150)) (by omega) (by omega)), (bR_at (p := (x5 + 1)) k81182 (fun _ => rfl) ew1 (((kk81182.v rfl).trans ev81169)) (by omega) (by omega))]; (repeat' split) <;> omega) (by omega) ((bR_at (p := (x5 + 1)) k81182 (fun _ => rfl) ew1 (((kk81182.v rfl).trans ev81169)) (by omega) (by omega)).trans (by omega)) (by rw [show ((x5 + 1) + 1 : Int) = (x5 + 2) by omega]; exact nr81182.bd (by omega))) rfl⟩
                · refine ev_aload_n rfl ?_
                  refine ev_iload rfl ?_
                  refine ev_in (d := (d + 1)) (a := 0) (b := 0) (cd' := c266_0) (m := 2) (L0 := [(2, 42), (0, (x5 + 1))]) (jcall_v (A := [(0, (x5 + 1))]) (S' := []) (r := 42) rfl (g1.lt ad42) (g1.tg ad42) (Nat.le_of_ble_eq_true rfl)) (by decide) ml266 pp266 (Nat.le_of_ble_eq_true rfl) rfl (by decide) (by decide) ?_
                  refine ev_aload_n rfl ?_
                  refine ev_iload_n rfl ?_
                  refine g_putf (r := 42) g1 ad42 (by decide) ft12_20 (by decide) (fun e => absurd e nz12_20) rf42_20 (by decide) (by omega) (by omega) (fun h81199 e81199 g81199 => ?_)
                  have k81199 := k1.wr e81199 rfl
                  refine ev_iconst ?_
                  refine ev_ret rfl (by decide) (by decide) ?_
                  show jEv _ _ _ _ _ _ _ (_, [(2, 42), (0, a1), (0, a2), (0, a3), (0, 1), (0, (x5 + 1)), (0, (-1)), (0, x7), (0, (v81150 - 48)), (0, 1)], [(0, (-1))], _, _, _)
                  exact ev_ret rfl (by decide) (by decide) ⟨⟨_, rfl, by omega, by omega, g81199, k81199⟩, fun r hr h0 => by cases hr; exfalso; omega, fun r hr => by cases hr; exact ⟨_, (((jw_ne e81199 (Or.inr (by decide))).trans ey0)), by omega, by omega, fun h0 => by exfalso; omega⟩, fun r hr => by cases hr; exact (Bd.M (cr_c (q := (x5 + 1)) H2 (by omega) (by unfold nm2; rw [(bR_at (p := x5) k81199 (fun _ => rfl) ew1 (((jw_ne e81199 (Or.inl (by decide))).trans ev81150)) (by omega) (by omega)), (bR_at (p := (x5 + 1)) k81199 (fun _ => rfl) ew1 (((jw_ne e81199 (Or.inl (by decide))).trans ev81169)) (by omega) (by omega))]; (repeat' split) <;> omega) (by omega) (fun z => absurd ((bR_at (p := (x5 + 1)) k81199 (fun _ => rfl) ew1 (((jw_ne e81199 (Or.inl (by decide))).trans ev81169)) (by omega) (by omega)).symm.trans z) (by omega)) (by omega)) ((jw_eq e81199)))⟩
              · refine ev_iconst ?_
                refine ev_goto f242_15 ?_
                refine ev_ret rfl (by decide) (by decide) ?_
                show jEv _ _ _ _ _ _ _ (_, [(2, 42), (0, (x5 + 1))], [(0, 1)], _, _, _)
                refine ev_ret rfl (by decide) (by decide) ?_
                show jEv _ _ _ _ _ _ _ (_, [(2, 42), (0, a1), (0, a2), (0, a3), (0, 1), (0, (x5 + 1)), (0, (-1)), (0, x7), (0, (v81150 - 48)), (0, 1)], [(0, 1)], _, _, _)
                refine ev_ifeq f270_92 (fun c81200 => absurd c81200 (by omega)) (fun c81200 => ?_)
                refine ev_bipush ?_
                refine ev_iload rfl ?_
                refine ev_imul (r := (10 * v81150 - 480)) (by unfold w32; omega) ?_
                refine ev_aload_n rfl ?_
                refine ev_iload rfl ?_
                refine ev_in (d := (d + 1)) (a := 0) (b := 0) (cd' := c264_0) (m := 2) (L0 := [(2, 42), (0, (x5 + 1))]) (jcall_v (A := [(0, (x5 + 1))]) (S' := [(0, (10 * v81150 - 480))]) (r := 42) rfl (g1.lt ad42) (g1.tg ad42) (Nat.le_of_ble_eq_true rfl)) (by decide) ml264 pp264 (Nat.le_of_ble_eq_true rfl) rfl (by decide) (by decide) ?_
                refine ev_iload_n rfl ?_
                refine ev_aload_n rfl ?_
                refine g_getv (r := 42) (v := w1) g1 ad42 (by decide) ft12_17 (((k1.v (by decide)).trans ew1)) ?_
                refine ev_icmpge f264_17 (fun c81201 => absurd c81201 (by omega)) (fun c81201 => ?_)
                refine ev_aload_n rfl ?_
                refine g_getp (r := 42) (c := 54) g1 ad42 (by decide) (by decide) rf42_16 ft12_16 ?_
                refine ev_iload_n rfl ?_
                refine g_baldv (v := v81169) g1 ad54 (by omega) (by omega) (ev81169) ?_
                refine ev_goto f264_18 ?_
                refine ev_ret rfl (by decide) (by decide) ?_
                show jEv _ _ _ _ _ _ _ (_, [(2, 42), (0, a1), (0, a2), (0, a3), (0, 1), (0, (x5 + 1)), (0, (-1)), (0, x7), (0, (v81150 - 48)), (0, 1)], [(0, v81169), (0, (10 * v81150 - 480))], _, _, _)
                refine ev_iadd (r := (10 * v81150 + v81169 - 480)) (by unfold w32; omega) ?_
                refine ev_bipush ?_
                refine ev_isub (r := (10 * v81150 + v81169 - 528)) (by unfold w32; omega) ?_
                refine ev_istore (L' := [(2, 42), (0, a1), (0, a2), (0, a3), (0, 1), (0, (x5 + 1)), (0, (-1)), (0, x7), (0, (10 * v81150 + v81169 - 528)), (0, 1)]) (Nat.le_of_ble_eq_true rfl) rfl ?_
                refine ev_iinc (w := 2) (L' := [(2, 42), (0, a1), (0, a2), (0, a3), (0, 1), (0, (x5 + 1)), (0, (-1)), (0, x7), (0, (10 * v81150 + v81169 - 528)), (0, 2)]) rfl (by decide) rfl ?_
                refine ev_iinc (w := (x5 + 2)) (L' := [(2, 42), (0, a1), (0, a2), (0, a3), (0, 1), (0, (x5 + 2)), (0, (-1)), (0, x7), (0, (10 * v81150 + v81169 - 528)), (0, 2)]) rfl (by unfold w32; omega) rfl ?_
                refine ev_goto f270_51 ?_
                refine ev_iload rfl ?_
                refine ev_iconst ?_
                refine ev_icmpge f270_92 (fun c81202 => ?_) (fun c81202 => absurd c81202 (by omega))
                refine ev_iload rfl ?_
                refine ev_ifeq f270_108 (fun c81203 => absurd c81203 (by omega)) (fun c81203 => ?_)
                refine ev_aload_n rfl ?_
                refine ev_iload rfl ?_
                refine ev_in (d := (d + 1)) (a := 0) (b := 0) (cd' := c264_0) (m := 2) (L0 := [(2, 42), (0, (x5 + 2))]) (jcall_v (A := [(0, (x5 + 2))]) (S' := []) (r := 42) rfl (g1.lt ad42) (g1.tg ad42) (Nat.le_of_ble_eq_true rfl)) (by decide) ml264 pp264 (Nat.le_of_ble_eq_true rfl) rfl (by decide) (by decide) ?_
                refine ev_iload_n rfl ?_
                refine ev_aload_n rfl ?_
                refine g_getv (r := 42) (v := w1) g1 ad42 (by decide) ft12_17 (((k1.v (by decide)).trans ew1)) ?_
                refine ev_icmpge f264_17 (fun c81204 => ?_) (fun c81204 => ?_)
                · refine ev_iconst ?_
                  refine ev_ret rfl (by decide) (by decide) ?_
                  show jEv _ _ _ _ _ _ _ (_, [(2, 42), (0, a1), (0, a2), (0, a3), (0, 1), (0, (x5 + 2)), (0, (-1)), (0, x7), (0, (10 * v81150 + v81169 - 528)), (0, 2)], [(0, (-1))], _, _, _)
                  refine ev_bipush ?_
                  refine ev_icmpeq f270_115 (fun c81205 => absurd c81205 (by omega)) (fun c81205 => ?_)
                  refine ev_aload_n rfl ?_
                  refine ev_iload rfl ?_
                  refine ev_in (d := (d + 1)) (a := 0) (b := 0) (cd' := c266_0) (m := 2) (L0 := [(2, 42), (0, (x5 + 2))]) (jcall_v (A := [(0, (x5 + 2))]) (S' := []) (r := 42) rfl (g1.lt ad42) (g1.tg ad42) (Nat.le_of_ble_eq_true rfl)) (by decide) ml266 pp266 (Nat.le_of_ble_eq_true rfl) rfl (by decide) (by decide) ?_
                  refine ev_aload_n rfl ?_
                  refine ev_iload_n rfl ?_
                  refine g_putf (r := 42) g1 ad42 (by decide) ft12_20 (by decide) (fun e => absurd e nz12_20) rf42_20 (by decide) (by omega) (by omega) (fun h81206 e81206 g81206 => ?_)
                  have k81206 := k1.wr e81206 rfl
                  refine ev_iconst ?_
                  refine ev_ret rfl (by decide) (by decide) ?_
                  show jEv _ _ _ _ _ _ _ (_, [(2, 42), (0, a1), (0, a2), (0, a3), (0, 1), (0, (x5 + 2)), (0, (-1)), (0, x7), (0, (10 * v81150 + v81169 - 528)), (0, 2)], [(0, (-1))], _, _, _)
                  exact ev_ret rfl (by decide) (by decide) ⟨⟨_, rfl, by omega, by omega, g81206, k81206⟩, fun r hr h0 => by cases hr; exfalso; omega, fun r hr => by cases hr; exact ⟨_, (((jw_ne e81206 (Or.inr (by decide))).trans ey0)), by omega, by omega, fun h0 => by exfalso; omega⟩, fun r hr => by cases hr; exact (Bd.M (cr_c (q := (x5 + 2)) H2 (by omega) (by unfold nm2; rw [(bR_at (p := x5) k81206 (fun _ => rfl) ew1 (((jw_ne e81206 (Or.inl (by decide))).trans ev81150)) (by omega) (by omega)), (bR_at (p := (x5 + 1)) k81206 (fun _ => rfl) ew1 (((jw_ne e81206 (Or.inl (by decide))).trans ev81169)) (by omega) (by omega))]; (repeat' split) <;> omega) (by omega) (fun z => absurd ((bR_end (p := (x5 + 2)) ew1 (by omega)).symm.trans z) (by omega)) (by omega)) ((jw_eq e81206)))⟩
                · refine ev_aload_n rfl ?_
                  refine g_getp (r := 42) (c := 54) g1 ad42 (by decide) (by decide) rf42_16 ft12_16 ?_
                  refine ev_iload_n rfl ?_
                  refine g_bald g1 ad54 rt54 (by omega) (by omega) (fun v81207 ev81207 lv81207 uv81207 => ?_)
                  refine ev_goto f264_18 ?_
                  refine ev_ret rfl (by decide) (by decide) ?_
                  show jEv _ _ _ _ _ _ _ (_, [(2, 42), (0, a1), (0, a2), (0, a3), (0, 1), (0, (x5 + 2)), (0, (-1)), (0, x7), (0, (10 * v81150 + v81169 - 528)), (0, 2)], [(0, v81207)], _, _, _)
                  refine ev_bipush ?_
                  refine ev_icmpeq f270_115 (fun c81208 => ?_) (fun c81208 => ?_)
                  · refine ev_aload_n rfl ?_
                    refine ev_iload rfl ?_
                    refine ev_iload rfl ?_
                    refine ev_iload rfl ?_
                    refine ev_in (d := (d + 1)) (a := 0) (b := 0) (cd' := c268_0) (m := 4) (L0 := [(2, 42), (0, (-1)), (0, x7), (0, (10 * v81150 + v81169 - 528))]) (jcall_v (A := [(0, (10 * v81150 + v81169 - 528)), (0, x7), (0, (-1))]) (S' := []) (r := 42) rfl (g1.lt ad42) (g1.tg ad42) (Nat.le_of_ble_eq_true rfl)) (by decide) ml268 pp268 (Nat.le_of_ble_eq_true rfl) rfl (by decide) (by decide) ?_
                    refine ev_iload_n rfl ?_
                    refine ev_ifge f268_5 (fun c81209 => absurd c81209 (by omega)) (fun c81209 => ?_)
                    refine ev_ret rfl (by decide) (by decide) ?_
                    show jEv _ _ _ _ _ _ _ (_, [(2, 42), (0, a1), (0, a2), (0, a3), (0, 1), (0, (x5 + 2)), (0, (-1)), (0, x7), (0, (10 * v81150 + v81169 - 528)), (0, 2)], [], _, _, _)
                    refine ev_aload_n rfl ?_
                    refine ev_iload rfl ?_
                    refine ev_iconst ?_
                    refine ev_iadd (r := (x5 + 3)) (by unfold w32; omega) ?_
                    refine ev_iload_n rfl ?_
                    refine ev_iload_n rfl ?_
                    refine ev_iconst ?_
                    refine ev_iadd (r := (a3 + 1)) (by unfold w32; omega) ?_
                    refine ev_iload rfl ?_
                    refine ev_call (jcall_v (A := [(0, 1), (0, (a3 + 1)), (0, a2), (0, (x5 + 3))]) (S' := []) (r := 42) rfl (g1.lt ad42) (g1.tg ad42) (Nat.le_of_ble_eq_true rfl)) (jOk_le (by omega) (rih g1 (by omega) (by omega) (by omega) (by omega) (by omega) (by omega) (by omega) (by omega) (by omega) (by omega) (ey0) (by omega) (by omega) (((k1.v (by decide)).trans ew1)) (by omega) (by omega) (l0 := l0) (b0 := b81143) (by omega) (Iv.kp hI k1 (fun _ => rfl) (fun _ => rfl) rfl) (Lv.at hL (Ad.step (r' := (x5 + 3)) (Ad.step (r' := (x5 + 2)) (Ad.step (r' := (x5 + 1)) H0 (by omega) k1 (fun _ => rfl) (ev81150) (by omega) (by omega) (by omega)) (by omega) k1 (fun _ => rfl) (ev81169) (by omega) (by omega) (by omega)) (by omega) k1 (fun _ => rfl) (ev81207) (by omega) (by omega) (by omega)) k1 (fun _ => rfl) rfl) hb81142 (K := K) (q := q - 1) (hK.kp k1 (fun _ => rfl) rfl (fun _ => rfl) rfl rfl (fun _ => rfl)) (by omega) (by rw [k1.v rfl]; exact hN) (by omega))) (by decide) (by decide) (fun w81210 h81210 q81210 => ?_)
                    obtain ⟨q81210, ad81210, ro81210, nr81210⟩ := q81210
                    obtain ⟨v81211, rfl, lv81211, uv81211, g81210, kk81210⟩ := q81210
                    have ad81210 := ad81210 _ rfl
                    have nr81210 := nr81210 _ rfl
                    obtain ⟨m81212, em81212, lm81212, um81212, pm81210⟩ := ro81210 _ rfl
                    have k81210 := k1.tr kk81210 (by decide)
                    rw [RQ_kp k1 (fun _ => rfl) rfl (fun _ => rfl) rfl rfl, bR_kp k1 (fun _ => rfl) rfl] at nr81210
                    show jEv _ _ _ _ _ _ _ (_, [(2, 42), (0, a1), (0, a2), (0, a3), (0, 1), (0, (x5 + 2)), (0, (-1)), (0, x7), (0, (10 * v81150 + v81169 - 528)), (0, 2)], [(0, v81211)], _, _, _)
                    refine ev_istore (L' := [(2, 42), (0, a1), (0, a2), (0, a3), (0, 1), (0, v81211), (0, (-1)), (0, x7), (0, (10 * v81150 + v81169 - 528)), (0, 2)]) (Nat.le_of_ble_eq_true rfl) rfl ?_
                    refine ev_iload rfl ?_
                    refine ev_ifge f270_148 (fun c81213 => ?_) (fun c81213 => ?_)
                    · refine ev_iinc (w := (x7 + 1)) (L' := [(2, 42), (0, a1), (0, a2), (0, a3), (0, 1), (0, v81211), (0, (-1)), (0, (x7 + 1)), (0, (10 * v81150 + v81169 - 528)), (0, 2)]) rfl (by unfold w32; omega) rfl ?_
                      refine ev_aload_n rfl ?_
                      refine ev_iload rfl ?_
                      refine ev_in (d := (d + 1)) (a := 0) (b := 0) (cd' := c264_0) (m := 2) (L0 := [(2, 42), (0, v81211)]) (jcall_v (A := [(0, v81211)]) (S' := []) (r := 42) rfl (g81210.lt ad42) (g81210.tg ad42) (Nat.le_of_ble_eq_true rfl)) (by decide) ml264 pp264 (Nat.le_of_ble_eq_true rfl) rfl (by decide) (by decide) ?_
                      refine ev_iload_n rfl ?_
                      refine ev_aload_n rfl ?_
                      refine g_getv (r := 42) (v := w1) g81210 ad42 (by decide) ft12_17 (((kk81210.v (by decide)).trans ((k1.v (by decide)).trans ew1))) ?_
                      refine ev_icmpge f264_17 (fun c81214 => ?_) (fun c81214 => ?_)
                      · refine ev_iconst ?_
                        refine ev_ret rfl (by decide) (by decide) ?_
                        show jEv _ _ _ _ _ _ _ (_, [(2, 42), (0, a1), (0, a2), (0, a3), (0, 1), (0, v81211), (0, (-1)), (0, (x7 + 1)), (0, (10 * v81150 + v81169 - 528)), (0, 2)], [(0, (-1))], _, _, _)
                        refine ev_bipush ?_
                        refine ev_icmpne f270_165 (fun c81215 => ?_) (fun c81215 => absurd c81215 (by omega))
                        refine ev_aload_n rfl ?_
                        refine ev_iload rfl ?_
                        refine ev_in (d := (d + 1)) (a := 0) (b := 0) (cd' := c264_0) (m := 2) (L0 := [(2, 42), (0, v81211)]) (jcall_v (A := [(0, v81211)]) (S' := []) (r := 42) rfl (g81210.lt ad42) (g81210.tg ad42) (Nat.le_of_ble_eq_true rfl)) (by decide) ml264 pp264 (Nat.le_of_ble_eq_true rfl) rfl (by decide) (by decide) ?_
                        refine ev_iload_n rfl ?_
                        refine ev_aload_n rfl ?_
                        refine g_getv (r := 42) (v := w1) g81210 ad42 (by decide) ft12_17 (((kk81210.v (by decide)).trans ((k1.v (by decide)).trans ew1))) ?_
                        refine ev_icmpge f264_17 (fun c81216 => ?_) (fun c81216 => absurd c81216 (by omega))
                        refine ev_iconst ?_
                        refine ev_ret rfl (by decide) (by decide) ?_
                        show jEv _ _ _ _ _ _ _ (_, [(2, 42), (0, a1), (0, a2), (0, a3), (0, 1), (0, v81211), (0, (-1)), (0, (x7 + 1)), (0, (10 * v81150 + v81169 - 528)), (0, 2)], [(0, (-1))], _, _, _)
                        refine ev_bipush ?_
                        refine ev_icmpne f270_182 (fun c81217 => ?_) (fun c81217 => absurd c81217 (by omega))
                        refine ev_aload_n rfl ?_
                        refine ev_iload rfl ?_
                        refine ev_in (d := (d + 1)) (a := 0) (b := 0) (cd' := c266_0) (m := 2) (L0 := [(2, 42), (0, v81211)]) (jcall_v (A := [(0, v81211)]) (S' := []) (r := 42) rfl (g81210.lt ad42) (g81210.tg ad42) (Nat.le_of_ble_eq_true rfl)) (by decide) ml266 pp266 (Nat.le_of_ble_eq_true rfl) rfl (by decide) (by decide) ?_
                        refine ev_aload_n rfl ?_
                        refine ev_iload_n rfl ?_
                        refine g_putf (r := 42) g81210 ad42 (by decide) ft12_20 (by decide) (fun e => absurd e nz12_20) rf42_20 (by decide) (by omega) (by omega) (fun h81218 e81218 g81218 => ?_)
                        have k81218 := k81210.wr e81218 rfl
                        refine ev_iconst ?_
                        refine ev_ret rfl (by decide) (by decide) ?_
                        show jEv _ _ _ _ _ _ _ (_, [(2, 42), (0, a1), (0, a2), (0, a3), (0, 1), (0, v81211), (0, (-1)), (0, (x7 + 1)), (0, (10 * v81150 + v81169 - 528)), (0, 2)], [(0, (-1))], _, _, _)
                        exact ev_ret rfl (by decide) (by decide) ⟨⟨_, rfl, by omega, by omega, g81218, k81218⟩, fun r hr h0 => by cases hr; exfalso; omega, fun r hr => by cases hr; exact ⟨_, (((jw_ne e81218 (Or.inr (by decide))).trans em81212)), by omega, by omega, fun h0 => by exfalso; omega⟩, fun r hr => by cases hr; exact (Bd.M (cr_x (q := (x5 + 2)) (v := v81211) H2 (by omega) (by unfold nm2; rw [(bR_at (p := x5) k81218 (fun _ => rfl) ew1 (((jw_ne e81218 (Or.inl (by decide))).trans ((kk81210.v rfl).trans ev81150))) (by omega) (by omega)), (bR_at (p := (x5 + 1)) k81218 (fun _ => rfl) ew1 (((jw_ne e81218 (Or.inl (by decide))).trans ((kk81210.v rfl).trans ev81169))) (by omega) (by omega))]; (repeat' split) <;> omega) (by omega) ((bR_at (p := (x5 + 2)) k81218 (fun _ => rfl) ew1 (((jw_ne e81218 (Or.inl (by decide))).trans ((kk81210.v rfl).trans ev81207))) (by omega) (by omega)).trans (by omega)) (by rw [show ((x5 + 2) + 1 : Int) = (x5 + 3) by omega]; exact ⟨(nr81210.ok (by omega)).1, (nr81210.ok (by omega)).2.1⟩) (fun z => absurd ((bR_end (p := v81211) ew1 (by omega)).symm.trans z) (by omega)) (Or.inl (fun z => absurd ((bR_end (p := v81211) ew1 (by omega)).symm.trans z) (by omega))) (by omega)) ((jw_eq e81218)))⟩
                      · refine ev_aload_n rfl ?_
                        refine g_getp (r := 42) (c := 54) g81210 ad42 (by decide) (by decide) rf42_16 ft12_16 ?_
                        refine ev_iload_n rfl ?_
                        refine g_bald g81210 ad54 rt54 (by omega) (by omega) (fun v81219 ev81219 lv81219 uv81219 => ?_)
                        refine ev_goto f264_18 ?_
                        refine ev_ret rfl (by decide) (by decide) ?_
                        show jEv _ _ _ _ _ _ _ (_, [(2, 42), (0, a1), (0, a2), (0, a3), (0, 1), (0, v81211), (0, (-1)), (0, (x7 + 1)), (0, (10 * v81150 + v81169 - 528)), (0, 2)], [(0, v81219)], _, _, _)
                        refine ev_bipush ?_
                        refine ev_icmpne f270_165 (fun c81220 => ?_) (fun c81220 => ?_)
                        · refine ev_aload_n rfl ?_
                          refine ev_iload rfl ?_
                          refine ev_in (d := (d + 1)) (a := 0) (b := 0) (cd' := c264_0) (m := 2) (L0 := [(2, 42), (0, v81211)]) (jcall_v (A := [(0, v81211)]) (S' := []) (r := 42) rfl (g81210.lt ad42) (g81210.tg ad42) (Nat.le_of_ble_eq_true rfl)) (by decide) ml264 pp264 (Nat.le_of_ble_eq_true rfl) rfl (by decide) (by decide) ?_
                          refine ev_iload_n rfl ?_
                          refine ev_aload_n rfl ?_
                          refine g_getv (r := 42) (v := w1) g81210 ad42 (by decide) ft12_17 (((kk81210.v (by decide)).trans ((k1.v (by decide)).trans ew1))) ?_
                          refine ev_icmpge f264_17 (fun c81221 => absurd c81221 (by omega)) (fun c81221 => ?_)
                          refine ev_aload_n rfl ?_
                          refine g_getp (r := 42) (c := 54) g81210 ad42 (by decide) (by decide) rf42_16 ft12_16 ?_
                          refine ev_iload_n rfl ?_
                          refine g_baldv (v := v81219) g81210 ad54 (by omega) (by omega) (ev81219) ?_
                          refine ev_goto f264_18 ?_
                          refine ev_ret rfl (by decide) (by decide) ?_
                          show jEv _ _ _ _ _ _ _ (_, [(2, 42), (0, a1), (0, a2), (0, a3), (0, 1), (0, v81211), (0, (-1)), (0, (x7 + 1)), (0, (10 * v81150 + v81169 - 528)), (0, 2)], [(0, v81219)], _, _, _)
                          refine ev_bipush ?_
                          refine ev_icmpne f270_182 (fun c81222 => ?_) (fun c81222 => ?_)
                          · refine ev_aload_n rfl ?_
                            refine ev_iload rfl ?_
                            refine ev_in (d := (d + 1)) (a := 0) (b := 0) (cd' := c266_0) (m := 2) (L0 := [(2, 42), (0, v81211)]) (jcall_v (A := [(0, v81211)]) (S' := []) (r := 42) rfl (g81210.lt ad42) (g81210.tg ad42) (Nat.le_of_ble_eq_true rfl)) (by decide) ml266 pp266 (Nat.le_of_ble_eq_true rfl) rfl (by decide) (by decide) ?_
                            refine ev_aload_n rfl ?_
                            refine ev_iload_n rfl ?_
                            refine g_putf (r := 42) g81210 ad42 (by decide) ft12_20 (by decide) (fun e => absurd e nz12_20) rf42_20 (by decide) (by omega) (by omega) (fun h81223 e81223 g81223 => ?_)
                            have k81223 := k81210.wr e81223 rfl
                            refine ev_iconst ?_
                            refine ev_ret rfl (by decide) (by decide) ?_
                            show jEv _ _ _ _ _ _ _ (_, [(2, 42), (0, a1), (0, a2), (0, a3), (0, 1), (0, v81211), (0, (-1)), (0, (x7 + 1)), (0, (10 * v81150 + v81169 - 528)), (0, 2)], [(0, (-1))], _, _, _)
                            exact ev_ret rfl (by decide) (by decide) ⟨⟨_, rfl, by omega, by omega, g81223, k81223⟩, fun r hr h0 => by cases hr; exfalso; omega, fun r hr => by cases hr; exact ⟨_, (((jw_ne e81223 (Or.inr (by decide))).trans em81212)), by omega, by omega, fun h0 => by exfalso; omega⟩, fun r hr => by cases hr; exact (Bd.M (cr_x (q := (x5 + 2)) (v := v81211) H2 (by omega) (by unfold nm2; rw [(bR_at (p := x5) k81223 (fun _ => rfl) ew1 (((jw_ne e81223 (Or.inl (by decide))).trans ((kk81210.v rfl).trans ev81150))) (by omega) (by omega)), (bR_at (p := (x5 + 1)) k81223 (fun _ => rfl) ew1 (((jw_ne e81223 (Or.inl (by decide))).trans ((kk81210.v rfl).trans ev81169))) (by omega) (by omega))]; (repeat' split) <;> omega) (by omega) ((bR_at (p := (x5 + 2)) k81223 (fun _ => rfl) ew1 (((jw_ne e81223 (Or.inl (by decide))).trans ((kk81210.v rfl).trans ev81207))) (by omega) (by omega)).trans (by omega)) (by rw [show ((x5 + 2) + 1 : Int) = (x5 + 3) by omega]; exact ⟨(nr81210.ok (by omega)).1, (nr81210.ok (by omega)).2.1⟩) (fun z => absurd ((bR_at (p := v81211) k81223 (fun _ => rfl) ew1 (((jw_ne e81223 (Or.inl (by decide))).trans ev81219)) (by omega) (by omega)).symm.trans z) (by omega)) (Or.inl (fun z => absurd ((bR_at (p := v81211) k81223 (fun _ => rfl) ew1 (((jw_ne e81223 (Or.inl (by decide))).trans ev81219)) (by omega) (by omega)).symm.trans z) (by omega))) (by omega)) ((jw_eq e81223)))⟩
                          · refine ev_iload rfl ?_
                            refine ev_iconst ?_
                            refine ev_icmpne f270_189 (fun c81224 => ?_) (fun c81224 => ?_)
                            · refine ev_iinc (w := (v81211 + 1)) (L' := [(2, 42), (0, a1), (0, a2), (0, a3), (0, 1), (0, (v81211 + 1)), (0, (-1)), (0, (x7 + 1)), (0, (10 * v81150 + v81169 - 528)), (0, 2)]) rfl (by unfold w32; omega) rfl ?_
                              refine ev_goto f270_45 ?_
                              exact ih _ _ _ _ _ _ g81210 k81210 (by omega) (by omega) (by omega) (by omega) (by omega) (by omega) (by omega) (by omega) (by omega) (by omega) (by omega) (em81212) (by omega) (by omega) (Ad.step (r' := (v81211 + 1)) (Ad.tr (Ad.step (r' := (x5 + 3)) (Ad.step (r' := (x5 + 2)) (Ad.step (r' := (x5 + 1)) H0 (by omega) k1 (fun _ => rfl) (ev81150) (by omega) (by omega) (by omega)) (by omega) k1 (fun _ => rfl) (ev81169) (by omega) (by omega) (by omega)) (by omega) k1 (fun _ => rfl) (ev81207) (by omega) (by omega) (by omega)) k1 (fun _ => rfl) (ad81210 (by omega))) (by omega) k81210 (fun _ => rfl) (ev81219) (by omega) (by omega) (by omega)) (Mb.step H1 eb81142 um81212 (by omega)) (cr_k (q := (x5 + 2)) (v := v81211) H2 (by omega) (by unfold nm2; rw [(bR_at (p := x5) k81210 (fun _ => rfl) ew1 (((kk81210.v rfl).trans ev81150)) (by omega) (by omega)), (bR_at (p := (x5 + 1)) k81210 (fun _ => rfl) ew1 (((kk81210.v rfl).trans ev81169)) (by omega) (by omega))]; (repeat' split) <;> omega) (by omega) ((bR_at (p := (x5 + 2)) k81210 (fun _ => rfl) ew1 (((kk81210.v rfl).trans ev81207)) (by omega) (by omega)).trans (by omega)) (by rw [show ((x5 + 2) + 1 : Int) = (x5 + 3) by omega]; exact ⟨(nr81210.ok (by omega)).1, (nr81210.ok (by omega)).2.1⟩) ((bR_at (p := v81211) k81210 (fun _ => rfl) ew1 (ev81219) (by omega) (by omega)).trans (by omega)) (by omega) (by omega) (by rw [show ((x5 + 2) + 1 : Int) = (x5 + 3) by omega]; have z := (nr81210.ok (by omega)).2.2; rw [em81212] at z; exact z)) (by omega)
                            · refine ev_aload_n rfl ?_
                              refine ev_iload rfl ?_
                              refine ev_in (d := (d + 1)) (a := 0) (b := 0) (cd' := c266_0) (m := 2) (L0 := [(2, 42), (0, v81211)]) (jcall_v (A := [(0, v81211)]) (S' := []) (r := 42) rfl (g81210.lt ad42) (g81210.tg ad42) (Nat.le_of_ble_eq_true rfl)) (by decide) ml266 pp266 (Nat.le_of_ble_eq_true rfl) rfl (by decide) (by decide) ?_
                              refine ev_aload_n rfl ?_
                              refine ev_iload_n rfl ?_
                              refine g_putf (r := 42) g81210 ad42 (by decide) ft12_20 (by decide) (fun e => absurd e nz12_20) rf42_20 (by decide) (by omega) (by omega) (fun h81225 e81225 g81225 => ?_)
                              have k81225 := k81210.wr e81225 rfl
                              refine ev_iconst ?_
                              refine ev_ret rfl (by decide) (by decide) ?_
                              show jEv _ _ _ _ _ _ _ (_, [(2, 42), (0, a1), (0, a2), (0, a3), (0, 1), (0, v81211), (0, (-1)), (0, (x7 + 1)), (0, (10 * v81150 + v81169 - 528)), (0, 2)], [(0, (-1))], _, _, _)
                              exact ev_ret rfl (by decide) (by decide) ⟨⟨_, rfl, by omega, by omega, g81225, k81225⟩, fun r hr h0 => by cases hr; exfalso; omega, fun r hr => by cases hr; exact ⟨_, (((jw_ne e81225 (Or.inr (by decide))).trans em81212)), by omega, by omega, fun h0 => by exfalso; omega⟩, fun r hr => by cases hr; exact (Bd.M (cr_x (q := (x5 + 2)) (v := v81211) H2 (by omega) (by unfold nm2; rw [(bR_at (p := x5) k81225 (fun _ => rfl) ew1 (((jw_ne e81225 (Or.inl (by decide))).trans ((kk81210.v rfl).trans ev81150))) (by omega) (by omega)), (bR_at (p := (x5 + 1)) k81225 (fun _ => rfl) ew1 (((jw_ne e81225 (Or.inl (by decide))).trans ((kk81210.v rfl).trans ev81169))) (by omega) (by omega))]; (repeat' split) <;> omega) (by omega) ((bR_at (p := (x5 + 2)) k81225 (fun _ => rfl) ew1 (((jw_ne e81225 (Or.inl (by decide))).trans ((kk81210.v rfl).trans ev81207))) (by omega) (by omega)).trans (by omega)) (by rw [show ((x5 + 2) + 1 : Int) = (x5 + 3) by omega]; exact ⟨(nr81210.ok (by omega)).1, (nr81210.ok (by omega)).2.1⟩) (fun z => absurd ((bR_at (p := v81211) k81225 (fun _ => rfl) ew1 (((jw_ne e81225 (Or.inl (by decide))).trans ev81219)) (by omega) (by omega)).symm.trans z) (by omega)) (Or.inr (by omega)) (by omega)) ((jw_eq e81225)))⟩
                        · refine ev_goto f270_195 ?_
                          refine ev_iload rfl ?_
                          refine ev_iflt f270_209 (fun c81226 => ?_) (fun c81226 => absurd c81226 (by omega))
                          refine ev_iload rfl ?_
                          refine ev_iconst ?_
                          refine ev_iadd (r := (v81211 + 1)) (by unfold w32; omega) ?_
                          exact ev_ret rfl (by decide) (by decide) ⟨⟨_, rfl, by omega, by omega, g81210, k81210⟩, fun r hr h0 => by cases hr; exact (Ad.step (r' := (v81211 + 1)) (Ad.tr (Ad.step (r' := (x5 + 3)) (Ad.step (r' := (x5 + 2)) (Ad.step (r' := (x5 + 1)) H0 (by omega) k1 (fun _ => rfl) (ev81150) (by omega) (by omega) (by omega)) (by omega) k1 (fun _ => rfl) (ev81169) (by omega) (by omega) (by omega)) (by omega) k1 (fun _ => rfl) (ev81207) (by omega) (by omega) (by omega)) k1 (fun _ => rfl) (ad81210 (by omega))) (by omega) k81210 (fun _ => rfl) (ev81219) (by omega) (by omega) (by omega)), fun r hr => by cases hr; exact ⟨_, (em81212), by omega, by omega, fun h0 => by have := pm81210 (by omega); omega⟩, fun r hr => by cases hr; exact Or.inl (by have y := cr_e (q := (x5 + 2)) (v := v81211) (r := (v81211 + 1)) (md' := m81212) H2 (by omega) (by unfold nm2; rw [(bR_at (p := x5) k81210 (fun _ => rfl) ew1 (((kk81210.v rfl).trans ev81150)) (by omega) (by omega)), (bR_at (p := (x5 + 1)) k81210 (fun _ => rfl) ew1 (((kk81210.v rfl).trans ev81169)) (by omega) (by omega))]; (repeat' split) <;> omega) (by omega) ((bR_at (p := (x5 + 2)) k81210 (fun _ => rfl) ew1 (((kk81210.v rfl).trans ev81207)) (by omega) (by omega)).trans (by omega)) (by rw [show ((x5 + 2) + 1 : Int) = (x5 + 3) by omega]; exact ⟨(nr81210.ok (by omega)).1, (nr81210.ok (by omega)).2.1⟩) ((bR_at (p := v81211) k81210 (fun _ => rfl) ew1 (ev81219) (by omega) (by omega)).trans (by omega)) (by omega) (by rw [show ((x5 + 2) + 1 : Int) = (x5 + 3) by omega]; have z := (nr81210.ok (by omega)).2.2; rw [em81212] at z; exact z); exact ⟨y.1, y.2.1, (em81212).trans y.2.2⟩)⟩
                    · refine ev_iconst ?_
                      exact ev_ret rfl (by decide) (by decide) ⟨⟨_, rfl, by omega, by omega, g81210, k81210⟩, fun r hr h0 => by cases hr; exfalso; omega, fun r hr => by cases hr; exact ⟨_, (em81212), by omega, by omega, fun h0 => by exfalso; omega⟩, fun r hr => by cases hr; exact Bd.M (cr_b (q := (x5 + 2)) H2 (by omega) (by unfold nm2; rw [(bR_at (p := x5) k81210 (fun _ => rfl) ew1 (((kk81210.v rfl).trans ev81150)) (by omega) (by omega)), (bR_at (p := (x5 + 1)) k81210 (fun _ => rfl) ew1 (((kk81210.v rfl).trans ev81169)) (by omega) (by omega))]; (repeat' split) <;> omega) (by omega) ((bR_at (p := (x5 + 2)) k81210 (fun _ => rfl) ew1 (((kk81210.v rfl).trans ev81207)) (by omega) (by omega)).trans (by omega)) (by rw [show ((x5 + 2) + 1 : Int) = (x5 + 3) by omega]; exact nr81210.bd (by omega))) rfl⟩
                  · refine ev_aload_n rfl ?_
                    refine ev_iload rfl ?_
                    refine ev_in (d := (d + 1)) (a := 0) (b := 0) (cd' := c266_0) (m := 2) (L0 := [(2, 42), (0, (x5 + 2))]) (jcall_v (A := [(0, (x5 + 2))]) (S' := []) (r := 42) rfl (g1.lt ad42) (g1.tg ad42) (Nat.le_of_ble_eq_true rfl)) (by decide) ml266 pp266 (Nat.le_of_ble_eq_true rfl) rfl (by decide) (by decide) ?_
                    refine ev_aload_n rfl ?_
                    refine ev_iload_n rfl ?_
                    refine g_putf (r := 42) g1 ad42 (by decide) ft12_20 (by decide) (fun e => absurd e nz12_20) rf42_20 (by decide) (by omega) (by omega) (fun h81227 e81227 g81227 => ?_)
                    have k81227 := k1.wr e81227 rfl
                    refine ev_iconst ?_
                    refine ev_ret rfl (by decide) (by decide) ?_
                    show jEv _ _ _ _ _ _ _ (_, [(2, 42), (0, a1), (0, a2), (0, a3), (0, 1), (0, (x5 + 2)), (0, (-1)), (0, x7), (0, (10 * v81150 + v81169 - 528)), (0, 2)], [(0, (-1))], _, _, _)
                    exact ev_ret rfl (by decide) (by decide) ⟨⟨_, rfl, by omega, by omega, g81227, k81227⟩, fun r hr h0 => by cases hr; exfalso; omega, fun r hr => by cases hr; exact ⟨_, (((jw_ne e81227 (Or.inr (by decide))).trans ey0)), by omega, by omega, fun h0 => by exfalso; omega⟩, fun r hr => by cases hr; exact (Bd.M (cr_c (q := (x5 + 2)) H2 (by omega) (by unfold nm2; rw [(bR_at (p := x5) k81227 (fun _ => rfl) ew1 (((jw_ne e81227 (Or.inl (by decide))).trans ev81150)) (by omega) (by omega)), (bR_at (p := (x5 + 1)) k81227 (fun _ => rfl) ew1 (((jw_ne e81227 (Or.inl (by decide))).trans ev81169)) (by omega) (by omega))]; (repeat' split) <;> omega) (by omega) (fun z => absurd ((bR_at (p := (x5 + 2)) k81227 (fun _ => rfl) ew1 (((jw_ne e81227 (Or.inl (by decide))).trans ev81207)) (by omega) (by omega)).symm.trans z) (by omega)) (by omega)) ((jw_eq e81227)))⟩
set_option maxHeartbeats 4000000 in
theorem t270o_s {G : GH} {h : JH} (g : Gd G h) {l0 : Int} (ll0 : 0 ≤ l0) (ul0 : l0 ≤ 6) {b0 : Int} (lb0 : 1 ≤ b0) (ub0 : b0 ≤ 30000000) {a1 : Int} (la1 : 0 ≤ a1) (ua1 : a1 ≤ 202) {a2 : Int} (la2 : 0 ≤ a2) (ua2 : a2 ≤ 15) {a3 : Int} (la3 : 0 ≤ a3) (ua3 : a3 ≤ 12) {w0 : Int} (ew0 : h.2.2 42 21 = w0) (lw0 : 100 ≤ w0) (uw0 : w0 ≤ 200000000) {w1 : Int} (ew1 : h.2.2 42 17 = w1) (lw1 : 0 ≤ w1) (uw1 : w1 ≤ 200) (F0 : (b0 + w0) ≤ 200000000) {K : Int → Int × Int × Int} {q : Nat} (hI : Iv h) (hL : Lv h l0 a1) (hb : NB a3 = b0) (hK : KoR h K) (hq : 13 - a3 = q) (hN : h.2.2 42 1 ≤ 4) (hq3 : h.2.2 54 (a1).toNat = 63) {M : Int} (hM : M = (7 * a3 - l0)) {d : Nat} (hd : 0 ≤ d) (rih : ∀ {G : GH} {h : JH} (g : Gd G h) {l0 : Int} (ll0 : 0 ≤ l0) (ul0 : l0 ≤ 6) {b0 : Int} (lb0 : 1 ≤ b0) (ub0 : b0 ≤ 30000000) {a1 : Int} (la1 : 0 ≤ a1) (ua1 : a1 ≤ 202) {a2 : Int} (la2 : 0 ≤ a2) (ua2 : a2 ≤ 15) {a3 : Int} (la3 : 0 ≤ a3) (ua3 : a3 ≤ 12) {w0 : Int} (ew0 : h.2.2 42 21 = w0) (lw0 : 100 ≤ w0) (uw0 : w0 ≤ 200000000) {w1 : Int} (ew1 : h.2.2 42 17 = w1) (lw1 : 0 ≤ w1) (uw1 : w1 ≤ 200) (F0 : (b0 + w0) ≤ 200000000) {K : Int → Int × Int × Int} {q : Nat} (hI : Iv h) (hL : Lv h l0 a1) (hb : NB a3 = b0) (hK : KoR h K) (hq : 13 - a3 = q) (hN : h.2.2 42 1 ≤ 4) (hm : M + 1 ≤ (7 * a3 - l0)), jOk d 0 0 272 [(2, 42), (0, a1), (0, a2), (0, a3), (0, 1)] h (fun v h' => PI G [(42, 21), (42, 22)] h 0 (-1) 200 v h' ∧ (∀ r, v = some (0, r) → 0 ≤ r → Ad h l0 a1 r) ∧ (∀ r, v = some (0, r) → RO h' w0 b0 r) ∧ (∀ r, v = some (0, r) → RdM (bR h) h' w0 (RQ h K q a2 a3 a1) r))) : jOk (d + 3) 0 0 270 [(2, 42), (0, a1), (0, a2), (0, a3), (0, 1)] h (fun v h' => PI G [(42, 21), (42, 22)] h 0 (-1) 200 v h' ∧ (∀ r, v = some (0, r) → 0 ≤ r → Ad h l0 a1 r) ∧ (∀ r, v = some (0, r) → RO h' w0 b0 r) ∧ (∀ r, v = some (0, r) → RdM (bR h) h' w0 (if bR h (a1 + 1) ≠ 40 ∨ 12 ≤ a3 then rF (a1 + 1) else chL (bR h) (RQ h K (q - 1) a2 (a3 + 1)) 4 (a1 + 2) 0 0 1) r)) := by
  refine ⟨by decide, by rw [ml270]; exact Nat.le_of_ble_eq_true rfl, ?_⟩
  rw [ml270, pp270]
  show jEv _ none _ c270_0 0 0 _ (c270_0, [(2, 42), (0, a1), (0, a2), (0, a3), (0, 1), (9, 0), (9, 0), (9, 0), (9, 0), (9, 0)], [], h, 0, 0)
  have k0 := Kp.rf [(42, 21), (42, 22)] h
  refine ev_iload_n rfl ?_
  refine ev_iconst ?_
  refine ev_iadd (r := (a1 + 1)) (by unfold w32; omega) ?_
  refine ev_istore (L' := [(2, 42), (0, a1), (0, a2), (0, a3), (0, 1), (0, (a1 + 1)), (9, 0), (9, 0), (9, 0), (9, 0)]) (Nat.le_of_ble_eq_true rfl) rfl ?_
  refine ev_aload_n rfl ?_
  refine ev_iload rfl ?_
  refine ev_in (d := (d + 1)) (a := 0) (b := 0) (cd' := c264_0) (m := 2) (L0 := [(2, 42), (0, (a1 + 1))]) (jcall_v (A := [(0, (a1 + 1))]) (S' := []) (r := 42) rfl (g.lt ad42) (g.tg ad42) (Nat.le_of_ble_eq_true rfl)) (by decide) ml264 pp264 (Nat.le_of_ble_eq_true rfl) rfl (by decide) (by decide) ?_
  refine ev_iload_n rfl ?_
  refine ev_aload_n rfl ?_
  refine g_getv (r := 42) (v := w1) g ad42 (by decide) ft12_17 (ew1) ?_
  refine ev_icmpge f264_17 (fun c81228 => ?_) (fun c81228 => ?_)
  · refine ev_iconst ?_
    refine ev_ret rfl (by decide) (by decide) ?_
    show jEv _ _ _ _ _ _ _ (_, [(2, 42), (0, a1), (0, a2), (0, a3), (0, 1), (0, (a1 + 1)), (9, 0), (9, 0), (9, 0), (9, 0)], [(0, (-1))], _, _, _)
    refine ev_bipush ?_
    refine ev_icmpne f270_22 (fun c81229 => ?_) (fun c81229 => absurd c81229 (by omega))
    refine ev_aload_n rfl ?_
    refine ev_iload rfl ?_
    refine ev_in (d := (d + 1)) (a := 0) (b := 0) (cd' := c266_0) (m := 2) (L0 := [(2, 42), (0, (a1 + 1))]) (jcall_v (A := [(0, (a1 + 1))]) (S' := []) (r := 42) rfl (g.lt ad42) (g.tg ad42) (Nat.le_of_ble_eq_true rfl)) (by decide) ml266 pp266 (Nat.le_of_ble_eq_true rfl) rfl (by decide) (by decide) ?_
    refine ev_aload_n rfl ?_
    refine ev_iload_n rfl ?_
    refine g_putf (r := 42) g ad42 (by decide) ft12_20 (by decide) (fun e => absurd e nz12_20) rf42_20 (by decide) (by omega) (by omega) (fun h81230 e81230 g81230 => ?_)
    have k81230 := k0.wr e81230 rfl
    refine ev_iconst ?_
    refine ev_ret rfl (by decide) (by decide) ?_
    show jEv _ _ _ _ _ _ _ (_, [(2, 42), (0, a1), (0, a2), (0, a3), (0, 1), (0, (a1 + 1)), (9, 0), (9, 0), (9, 0), (9, 0)], [(0, (-1))], _, _, _)
    exact ev_ret rfl (by decide) (by decide) ⟨⟨_, rfl, by omega, by omega, g81230, k81230⟩, fun r hr h0 => by cases hr; exfalso; omega, fun r hr => by cases hr; exact ⟨_, (((jw_ne e81230 (Or.inr (by decide))).trans ew0)), by omega, by omega, fun h0 => by exfalso; omega⟩, fun r hr => by cases hr; exact (Bd.M (bd_rF (p := a1 + 1) (if_pos (Or.inl (fun z => absurd ((bR_end (p := (a1 + 1)) ew1 (by omega)).symm.trans z) (by omega)))) (by omega) (by omega)) ((jw_eq e81230)))⟩
  · refine ev_aload_n rfl ?_
    refine g_getp (r := 42) (c := 54) g ad42 (by decide) (by decide) rf42_16 ft12_16 ?_
    refine ev_iload_n rfl ?_
    refine g_bald g ad54 rt54 (by omega) (by omega) (fun v81231 ev81231 lv81231 uv81231 => ?_)
    refine ev_goto f264_18 ?_
    refine ev_ret rfl (by decide) (by decide) ?_
    show jEv _ _ _ _ _ _ _ (_, [(2, 42), (0, a1), (0, a2), (0, a3), (0, 1), (0, (a1 + 1)), (9, 0), (9, 0), (9, 0), (9, 0)], [(0, v81231)], _, _, _)
    refine ev_bipush ?_
    refine ev_icmpne f270_22 (fun c81232 => ?_) (fun c81232 => ?_)
    · refine ev_aload_n rfl ?_
      refine ev_iload rfl ?_
      refine ev_in (d := (d + 1)) (a := 0) (b := 0) (cd' := c266_0) (m := 2) (L0 := [(2, 42), (0, (a1 + 1))]) (jcall_v (A := [(0, (a1 + 1))]) (S' := []) (r := 42) rfl (g.lt ad42) (g.tg ad42) (Nat.le_of_ble_eq_true rfl)) (by decide) ml266 pp266 (Nat.le_of_ble_eq_true rfl) rfl (by decide) (by decide) ?_
      refine ev_aload_n rfl ?_
      refine ev_iload_n rfl ?_
      refine g_putf (r := 42) g ad42 (by decide) ft12_20 (by decide) (fun e => absurd e nz12_20) rf42_20 (by decide) (by omega) (by omega) (fun h81233 e81233 g81233 => ?_)
      have k81233 := k0.wr e81233 rfl
      refine ev_iconst ?_
      refine ev_ret rfl (by decide) (by decide) ?_
      show jEv _ _ _ _ _ _ _ (_, [(2, 42), (0, a1), (0, a2), (0, a3), (0, 1), (0, (a1 + 1)), (9, 0), (9, 0), (9, 0), (9, 0)], [(0, (-1))], _, _, _)
      exact ev_ret rfl (by decide) (by decide) ⟨⟨_, rfl, by omega, by omega, g81233, k81233⟩, fun r hr h0 => by cases hr; exfalso; omega, fun r hr => by cases hr; exact ⟨_, (((jw_ne e81233 (Or.inr (by decide))).trans ew0)), by omega, by omega, fun h0 => by exfalso; omega⟩, fun r hr => by cases hr; exact (Bd.M (bd_rF (p := a1 + 1) (if_pos (Or.inl (fun z => absurd ((bR_at (p := (a1 + 1)) k81233 (fun _ => rfl) ew1 (((jw_ne e81233 (Or.inl (by decide))).trans ev81231)) (by omega) (by omega)).symm.trans z) (by omega)))) (by omega) (by omega)) ((jw_eq e81233)))⟩
    · refine ev_iload_n rfl ?_
      refine ev_bipush ?_
      refine ev_icmpne f270_29 (fun c81234 => ?_) (fun c81234 => ?_)
      · refine ev_aload_n rfl ?_
        refine ev_iload rfl ?_
        refine ev_iconst ?_
        refine ev_iconst ?_
        refine ev_in (d := (d + 1)) (a := 0) (b := 0) (cd' := c267_0) (m := 6) (L0 := [(2, 42), (0, 1), (0, 1), (0, 0), (9, 0), (9, 0)]) (jcall_v (A := [(0, 0), (0, 1), (0, 1)]) (S' := []) (r := 42) rfl (g.lt ad42) (g.tg ad42) (Nat.le_of_ble_eq_true rfl)) (by decide) ml267 pp267 (Nat.le_of_ble_eq_true rfl) rfl (by decide) (by decide) ?_
        refine ev_iload_n rfl ?_
        refine ev_ifne f267_6 (fun c81235 => ?_) (fun c81235 => absurd c81235 (by omega))
        refine ev_aload_n rfl ?_
        refine ev_dup (by decide) ?_
        refine g_getv (r := 42) (v := w0) g ad42 (by decide) ft12_21 (ew0) ?_
        refine ev_iconst ?_
        refine ev_iadd (r := (w0 + 1)) (by unfold w32; omega) ?_
        refine g_putf (r := 42) g ad42 (by decide) ft12_21 (by decide) (fun e => absurd e nz12_21) rf42_21 (by decide) (by omega) (by omega) (fun h81236 e81236 g81236 => ?_)
        have k81236 := k0.wr e81236 rfl
        refine ev_aload_n rfl ?_
        refine g_getv (r := 42) (v := (w0 + 1)) g81236 ad42 (by decide) ft12_21 ((jw_eq e81236)) ?_
        refine ev_bipush ?_
        refine ev_icmple f267_27 (fun c81237 => absurd c81237 (by omega)) (fun c81237 => ?_)
        refine ev_iconst ?_
        refine ev_ret rfl (by decide) (by decide) ?_
        show jEv _ _ _ _ _ _ _ (_, [(2, 42), (0, a1), (0, a2), (0, a3), (0, 1), (0, (a1 + 1)), (9, 0), (9, 0), (9, 0), (9, 0)], [(0, (-1))], _, _, _)
        refine ev_istore (L' := [(2, 42), (0, a1), (0, a2), (0, a3), (0, 1), (0, (a1 + 1)), (0, (-1)), (9, 0), (9, 0), (9, 0)]) (Nat.le_of_ble_eq_true rfl) rfl ?_
        refine ev_iconst ?_
        refine ev_istore (L' := [(2, 42), (0, a1), (0, a2), (0, a3), (0, 1), (0, (a1 + 1)), (0, (-1)), (0, 0), (9, 0), (9, 0)]) (Nat.le_of_ble_eq_true rfl) rfl ?_
        refine ev_iinc (w := (a1 + 2)) (L' := [(2, 42), (0, a1), (0, a2), (0, a3), (0, 1), (0, (a1 + 2)), (0, (-1)), (0, 0), (9, 0), (9, 0)]) rfl (by unfold w32; omega) rfl ?_
        exact (t270o_s_l ll0 ul0 lb0 ub0 la1 ua1 la2 ua2 la3 ua3 ew0 lw0 uw0 ew1 lw1 uw1 F0 hI hL hb hK hq hN hq3 hM hd rih 8) _ _ _ _ _ _ g81236 k81236 (by omega) (by omega) (by omega) (by omega) (by omega) (by omega) (by omega) (by omega) (by omega) (by omega) (by omega) ((jw_eq e81236)) (by omega) (by omega) (Ad.step (r' := (a1 + 2)) (Ad.step (r' := (a1 + 1)) (Ad.rf _ _ _) (by omega) k81236 (fun _ => rfl) (((jw_ne e81236 (Or.inl (by decide))).trans hq3)) (by omega) (by omega) (by omega)) (by omega) k81236 (fun _ => rfl) (((jw_ne e81236 (Or.inl (by decide))).trans ev81231)) (by omega) (by omega) (by omega)) (Mb.start _ _ (by omega)) (cr_start (show (if bR h (a1 + 1) ≠ 40 ∨ 12 ≤ a3 then rF (a1 + 1) else chL (bR h) (RQ h K (q - 1) a2 (a3 + 1)) 4 (a1 + 2) 0 0 1) = chL (bR h) (RQ h K (q - 1) a2 (a3 + 1)) 4 (a1 + 2) 0 0 1 from if_neg (fun z => by rw [(bR_at (p := (a1 + 1)) k81236 (fun _ => rfl) ew1 (((jw_ne e81236 (Or.inl (by decide))).trans ev81231)) (by omega) (by omega))] at z; omega)) (by omega) (by omega)) (by omega)
      · refine ev_aload_n rfl ?_
        refine ev_iload rfl ?_
        refine ev_in (d := (d + 1)) (a := 0) (b := 0) (cd' := c266_0) (m := 2) (L0 := [(2, 42), (0, (a1 + 1))]) (jcall_v (A := [(0, (a1 + 1))]) (S' := []) (r := 42) rfl (g.lt ad42) (g.tg ad42) (Nat.le_of_ble_eq_true rfl)) (by decide) ml266 pp266 (Nat.le_of_ble_eq_true rfl) rfl (by decide) (by decide) ?_
        refine ev_aload_n rfl ?_
        refine ev_iload_n rfl ?_
        refine g_putf (r := 42) g ad42 (by decide) ft12_20 (by decide) (fun e => absurd e nz12_20) rf42_20 (by decide) (by omega) (by omega) (fun h81238 e81238 g81238 => ?_)
        have k81238 := k0.wr e81238 rfl
        refine ev_iconst ?_
        refine ev_ret rfl (by decide) (by decide) ?_
        show jEv _ _ _ _ _ _ _ (_, [(2, 42), (0, a1), (0, a2), (0, a3), (0, 1), (0, (a1 + 1)), (9, 0), (9, 0), (9, 0), (9, 0)], [(0, (-1))], _, _, _)
        exact ev_ret rfl (by decide) (by decide) ⟨⟨_, rfl, by omega, by omega, g81238, k81238⟩, fun r hr h0 => by cases hr; exfalso; omega, fun r hr => by cases hr; exact ⟨_, (((jw_ne e81238 (Or.inr (by decide))).trans ew0)), by omega, by omega, fun h0 => by exfalso; omega⟩, fun r hr => by cases hr; exact (Bd.M (bd_rF (p := a1 + 1) (if_pos (Or.inr (by omega))) (by omega) (by omega)) ((jw_eq e81238)))⟩
set_option maxHeartbeats 4000000 in
theorem t271o_s_l {G : GH} {h : JH} {l0 : Int} (ll0 : 0 ≤ l0) (ul0 : l0 ≤ 6) {b0 : Int} (lb0 : 1 ≤ b0) (ub0 : b0 ≤ 30000000) {a1 : Int} (la1 : 0 ≤ a1) (ua1 : a1 ≤ 202) {a2 : Int} (la2 : 0 ≤ a2) (ua2 : a2 ≤ 15) {a3 : Int} (la3 : 0 ≤ a3) (ua3 : a3 ≤ 12) {w0 : Int} (ew0 : h.2.2 42 21 = w0) (lw0 : 100 ≤ w0) (uw0 : w0 ≤ 200000000) {w1 : Int} (ew1 : h.2.2 42 17 = w1) (lw1 : 0 ≤ w1) (uw1 : w1 ≤ 200) (F0 : (b0 + w0) ≤ 200000000) {K : Int → Int × Int × Int} {q : Nat} (hI : Iv h) (hL : Lv h l0 a1) (hb : NB a3 = b0) (hK : KoR h K) (hq : 13 - a3 = q) (hN : h.2.2 42 1 ≤ 4) (hq3 : h.2.2 54 (a1).toNat = 33) {M : Int} (hM : M = (7 * a3 - l0)) {d : Nat} (hd : 0 ≤ d) (rih : ∀ {G : GH} {h : JH} (g : Gd G h) {l0 : Int} (ll0 : 0 ≤ l0) (ul0 : l0 ≤ 6) {b0 : Int} (lb0 : 1 ≤ b0) (ub0 : b0 ≤ 30000000) {a1 : Int} (la1 : 0 ≤ a1) (ua1 : a1 ≤ 202) {a2 : Int} (la2 : 0 ≤ a2) (ua2 : a2 ≤ 15) {a3 : Int} (la3 : 0 ≤ a3) (ua3 : a3 ≤ 12) {w0 : Int} (ew0 : h.2.2 42 21 = w0) (lw0 : 100 ≤ w0) (uw0 : w0 ≤ 200000000) {w1 : Int} (ew1 : h.2.2 42 17 = w1) (lw1 : 0 ≤ w1) (uw1 : w1 ≤ 200) (F0 : (b0 + w0) ≤ 200000000) {K : Int → Int × Int × Int} {q : Nat} (hI : Iv h) (hL : Lv h l0 a1) (hb : NB a3 = b0) (hK : KoR h K) (hq : 13 - a3 = q) (hN : h.2.2 42 1 ≤ 4) (hm : M + 1 ≤ (7 * a3 - l0)), jOk d 0 0 272 [(2, 42), (0, a1), (0, a2), (0, a3), (0, 1)] h (fun v h' => PI G [(42, 21), (42, 22)] h 0 (-1) 200 v h' ∧ (∀ r, v = some (0, r) → 0 ≤ r → Ad h l0 a1 r) ∧ (∀ r, v = some (0, r) → RO h' w0 b0 r) ∧ (∀ r, v = some (0, r) → RdM (bR h) h' w0 (RQ h K q a2 a3 a1) r))) : ∀ N : Nat, (∀ (h1 : JH) (x5 x6 x8 y0 y1 y2 : Int), Gd G h1 → Kp [(42, 21), (42, 22)] h h1 → 0 ≤ a1 → a1 ≤ 197 → 0 ≤ a2 → a2 ≤ 15 → 0 ≤ a3 → a3 ≤ 11 → 0 ≤ x5 → x5 ≤ 3 → 1 ≤ x6 → x6 ≤ 200 → 0 ≤ x8 → x8 ≤ 3 → (w0 + (-y0)) ≤ (-1) → (x5 + (-y1)) ≤ (-1) → (x8 + (-y2)) ≤ 0 → h1.2.2 42 21 = y0 → 101 ≤ y0 → y0 ≤ 200000000 → h1.2.2 42 1 = y1 → 0 ≤ y1 → y1 ≤ 4 → h1.2.2 43 (x5).toNat = y2 → 2 ≤ y2 → y2 ≤ 3 → Ad h l0 a1 x6 → Mb w0 b0 x8 y0 → Tq (bR h) (RQ h K (q - 1) (jor a2 (jshl 1 x5)) (a3 + 1)) (tuL (bR h) (RQ h K (q - 1) (jor a2 (jshl 1 x5)) (a3 + 1)) (y2).toNat (a1 + 3) 0 0 1) x8 y2 x6 w0 y0 → (tuN (bR h) (h.2.2 42 1) (yR h) (fun t => RQ h K (q - 1) t (a3 + 1)) a2 a3 a1) = tuE (tuL (bR h) (RQ h K (q - 1) (jor a2 (jshl 1 x5)) (a3 + 1)) (y2).toNat (a1 + 3) 0 0 1) x5 → ((-x8) + 3) < N → jEv (jOk (d + 2)) none (fun _ => 0) c271_0 0 0 (fun v h' => PI G [(42, 21), (42, 22)] h 0 (-1) 200 v h' ∧ (∀ r, v = some (0, r) → 0 ≤ r → Ad h l0 a1 r) ∧ (∀ r, v = some (0, r) → RO h' w0 b0 r) ∧ (∀ r, v = some (0, r) → RdM (bR h) h' w0 (tuN (bR h) (h.2.2 42 1) (yR h) (fun t => RQ h K (q - 1) t (a3 + 1)) a2 a3 a1) r)) (c271_85, [(2, 42), (0, a1), (0, a2), (0, a3), (0, 1), (0, x5), (0, x6), (0, (-1)), (0, x8)], [], h1, 0, 0)) := by
  intro N
  induction N with
  | zero => exact fun h1 x5 x6 x8 y0 y1 y2 g1 k1 b0 b1 b2 b3 b4 b5 b6 b7 b8 b9 b10 b11 b12 b13 b14 b15 b16 b17 b18 b19 b20 b21 b22 b23 b24 b25 b26 b27 hm => absurd hm (by omega)
  | succ N ih =>
    show _
    intro h1 x5 x6 x8 y0 y1 y2 g1 k1 b0 b1 b2 b3 b4 b5 b6 b7 b8 b9 b10 b11 b12 b13 b14 ey0 ly0 uy0 ey1 ly1 uy1 ey2 ly2 uy2 H0 H1 H2 H3 hm
    obtain ⟨b81406, hb81405, eb81405, lb81405⟩ := NB.split hb (by omega)
    have rm81405 := Mb.room H1 (by omega) eb81405 lb81405
    refine ev_iload rfl ?_
    refine ev_aload_n rfl ?_
    refine g_getp (r := 42) (c := 43) g1 ad42 (by decide) (by decide) rf42_2 ft12_2 ?_
    refine ev_iload rfl ?_
    refine g_ialdv (v := y2) g1 ad43 (by omega) (by omega) (ey2) ?_
    refine ev_icmpge f271_178 (fun c81407 => ?_) (fun c81407 => ?_)
    · refine ev_iload rfl ?_
      exact ev_ret rfl (by decide) (by decide) ⟨⟨_, rfl, by omega, by omega, g1, k1⟩, fun r hr h0 => by cases hr; exact H0, fun r hr => by cases hr; exact ⟨_, (ey0), by omega, by omega, fun h0 => by omega⟩, fun r hr => by cases hr; exact Or.inl (by have y := tq_e H2 H3 (by omega) (by omega) (show x6 = x6 from rfl); exact ⟨y.1, y.2.1, (ey0).trans y.2.2⟩)⟩
    · refine ev_aload_n rfl ?_
      refine ev_iload rfl ?_
      refine ev_iload rfl ?_
      refine ev_iconst ?_
      refine ev_in (d := (d + 1)) (a := 0) (b := 0) (cd' := c268_0) (m := 4) (L0 := [(2, 42), (0, (-1)), (0, x8), (0, 0)]) (jcall_v (A := [(0, 0), (0, x8), (0, (-1))]) (S' := []) (r := 42) rfl (g1.lt ad42) (g1.tg ad42) (Nat.le_of_ble_eq_true rfl)) (by decide) ml268 pp268 (Nat.le_of_ble_eq_true rfl) rfl (by decide) (by decide) ?_
      refine ev_iload_n rfl ?_
      refine ev_ifge f268_5 (fun c81408 => absurd c81408 (by omega)) (fun c81408 => ?_)
      refine ev_ret rfl (by decide) (by decide) ?_
      show jEv _ _ _ _ _ _ _ (_, [(2, 42), (0, a1), (0, a2), (0, a3), (0, 1), (0, x5), (0, x6), (0, (-1)), (0, x8)], [], _, _, _)
      refine ev_aload_n rfl ?_
      refine ev_iload rfl ?_
      refine ev_iload_n rfl ?_
      refine ev_iconst ?_
      refine ev_iload rfl ?_
      refine g_ishlB (a' := 1) (a := 1) (b := 3) (hi := 8) (by omega) (by omega) (by omega) (by omega) (by decide) (by decide) (fun v81409 ev81409 lv81409 uv81409 => ?_)
      refine g_iorB (k := 4) (hi := 15) (by decide) (by decide) (by omega) (by omega) (by omega) (by omega) (fun v81410 ev81410 lv81410 uv81410 => ?_)
      refine ev_iload_n rfl ?_
      refine ev_iconst ?_
      refine ev_iadd (r := (a3 + 1)) (by unfold w32; omega) ?_
      refine ev_iload rfl ?_
      refine ev_call (jcall_v (A := [(0, 1), (0, (a3 + 1)), (0, v81410), (0, x6)]) (S' := []) (r := 42) rfl (g1.lt ad42) (g1.tg ad42) (Nat.le_of_ble_eq_true rfl)) (jOk_le (by omega) (rih g1 (by omega) (by omega) (by omega) (by omega) (by omega) (by omega) (by omega) (by omega) (by omega) (by omega) (ey0) (by omega) (by omega) (((k1.v (by decide)).trans ew1)) (by omega) (by omega) (l0 := l0) (b0 := b81406) (by omega) (Iv.kp hI k1 (fun _ => rfl) (fun _ => rfl) rfl) (Lv.at hL H0 k1 (fun _ => rfl) rfl) hb81405 (K := K) (q := q - 1) (hK.kp k1 (fun _ => rfl) rfl (fun _ => rfl) rfl rfl (fun _ => rfl)) (by omega) (by rw [k1.v rfl]; exact hN) (by omega))) (by decide) (by decide) (fun w81411 h81411 q81411 => ?_)
      obtain ⟨q81411, ad81411, ro81411, nr81411⟩ := q81411
      obtain ⟨v81412, rfl, lv81412, uv81412, g81411, kk81411⟩ := q81411
      have ad81411 := ad81411 _ rfl
      have nr81411 := nr81411 _ rfl
      obtain ⟨m81413, em81413, lm81413, um81413, pm81411⟩ := ro81411 _ rfl
      have k81411 := k1.tr kk81411 (by decide)
      rw [RQ_kp k1 (fun _ => rfl) rfl (fun _ => rfl) rfl rfl, bR_kp k1 (fun _ => rfl) rfl] at nr81411
      show jEv _ _ _ _ _ _ _ (_, [(2, 42), (0, a1), (0, a2), (0, a3), (0, 1), (0, x5), (0, x6), (0, (-1)), (0, x8)], [(0, v81412)], _, _, _)
      refine ev_istore (L' := [(2, 42), (0, a1), (0, a2), (0, a3), (0, 1), (0, x5), (0, v81412), (0, (-1)), (0, x8)]) (Nat.le_of_ble_eq_true rfl) rfl ?_
      refine ev_iload rfl ?_
      refine ev_ifge f271_132 (fun c81414 => ?_) (fun c81414 => ?_)
      · refine ev_aload_n rfl ?_
        refine ev_iload rfl ?_
        refine ev_in (d := (d + 1)) (a := 0) (b := 0) (cd' := c264_0) (m := 2) (L0 := [(2, 42), (0, v81412)]) (jcall_v (A := [(0, v81412)]) (S' := []) (r := 42) rfl (g81411.lt ad42) (g81411.tg ad42) (Nat.le_of_ble_eq_true rfl)) (by decide) ml264 pp264 (Nat.le_of_ble_eq_true rfl) rfl (by decide) (by decide) ?_
        refine ev_iload_n rfl ?_
        refine ev_aload_n rfl ?_
        refine g_getv (r := 42) (v := w1) g81411 ad42 (by decide) ft12_17 (((kk81411.v (by decide)).trans ((k1.v (by decide)).trans ew1))) ?_
        refine ev_icmpge f264_17 (fun c81415 => ?_) (fun c81415 => ?_)
        · refine ev_iconst ?_
          refine ev_ret rfl (by decide) (by decide) ?_
          show jEv _ _ _ _ _ _ _ (_, [(2, 42), (0, a1), (0, a2), (0, a3), (0, 1), (0, x5), (0, v81412), (0, (-1)), (0, x8)], [(0, (-1))], _, _, _)
          refine ev_iload rfl ?_
          refine ev_iconst ?_
          refine ev_iadd (r := (x8 + 1)) (by unfold w32; omega) ?_
          refine ev_aload_n rfl ?_
          refine g_getp (r := 42) (c := 43) g81411 ad42 (by decide) (by decide) rf42_2 ft12_2 ?_
          refine ev_iload rfl ?_
          refine g_ialdv (v := y2) g81411 ad43 (by omega) (by omega) (((kk81411.v rfl).trans ey2)) ?_
          refine ev_icmpge f271_157 (fun c81416 => ?_) (fun c81416 => ?_)
          · refine ev_bipush ?_
            refine ev_icmpeq f271_169 (fun c81417 => absurd c81417 (by omega)) (fun c81417 => ?_)
            refine ev_aload_n rfl ?_
            refine ev_iload rfl ?_
            refine ev_in (d := (d + 1)) (a := 0) (b := 0) (cd' := c266_0) (m := 2) (L0 := [(2, 42), (0, v81412)]) (jcall_v (A := [(0, v81412)]) (S' := []) (r := 42) rfl (g81411.lt ad42) (g81411.tg ad42) (Nat.le_of_ble_eq_true rfl)) (by decide) ml266 pp266 (Nat.le_of_ble_eq_true rfl) rfl (by decide) (by decide) ?_
            refine ev_aload_n rfl ?_
            refine ev_iload_n rfl ?_
            refine g_putf (r := 42) g81411 ad42 (by decide) ft12_20 (by decide) (fun e => absurd e nz12_20) rf42_20 (by decide) (by omega) (by omega) (fun h81418 e81418 g81418 => ?_)
            have k81418 := k81411.wr e81418 rfl
            refine ev_iconst ?_
            refine ev_ret rfl (by decide) (by decide) ?_
            show jEv _ _ _ _ _ _ _ (_, [(2, 42), (0, a1), (0, a2), (0, a3), (0, 1), (0, x5), (0, v81412), (0, (-1)), (0, x8)], [(0, (-1))], _, _, _)
            exact ev_ret rfl (by decide) (by decide) ⟨⟨_, rfl, by omega, by omega, g81418, k81418⟩, fun r hr h0 => by cases hr; exfalso; omega, fun r hr => by cases hr; exact ⟨_, (((jw_ne e81418 (Or.inr (by decide))).trans em81413)), by omega, by omega, fun h0 => by exfalso; omega⟩, fun r hr => by cases hr; exact (Bd.M (tq_x (v := v81412) H2 H3 (by omega) (by rw [(show (RQ h K (q - 1) (jor a2 (jshl 1 x5)) (a3 + 1)) _ = RQ h K (q - 1) v81410 (a3 + 1) x6 by rw [ev81409, ev81410])]; exact ⟨(nr81411.ok (by omega)).1, (nr81411.ok (by omega)).2.1⟩) (Or.inr ⟨by omega, fun z => absurd ((bR_end (p := v81412) ew1 (by omega)).symm.trans z) (by omega)⟩) (by omega)) ((jw_eq e81418)))⟩
          · refine ev_bipush ?_
            refine ev_goto f271_159 ?_
            refine ev_icmpeq f271_169 (fun c81419 => absurd c81419 (by omega)) (fun c81419 => ?_)
            refine ev_aload_n rfl ?_
            refine ev_iload rfl ?_
            refine ev_in (d := (d + 1)) (a := 0) (b := 0) (cd' := c266_0) (m := 2) (L0 := [(2, 42), (0, v81412)]) (jcall_v (A := [(0, v81412)]) (S' := []) (r := 42) rfl (g81411.lt ad42) (g81411.tg ad42) (Nat.le_of_ble_eq_true rfl)) (by decide) ml266 pp266 (Nat.le_of_ble_eq_true rfl) rfl (by decide) (by decide) ?_
            refine ev_aload_n rfl ?_
            refine ev_iload_n rfl ?_
            refine g_putf (r := 42) g81411 ad42 (by decide) ft12_20 (by decide) (fun e => absurd e nz12_20) rf42_20 (by decide) (by omega) (by omega) (fun h81420 e81420 g81420 => ?_)
            have k81420 := k81411.wr e81420 rfl
            refine ev_iconst ?_
            refine ev_ret rfl (by decide) (by decide) ?_
            show jEv _ _ _ _ _ _ _ (_, [(2, 42), (0, a1), (0, a2), (0, a3), (0, 1), (0, x5), (0, v81412), (0, (-1)), (0, x8)], [(0, (-1))], _, _, _)
            exact ev_ret rfl (by decide) (by decide) ⟨⟨_, rfl, by omega, by omega, g81420, k81420⟩, fun r hr h0 => by cases hr; exfalso; omega, fun r hr => by cases hr; exact ⟨_, (((jw_ne e81420 (Or.inr (by decide))).trans em81413)), by omega, by omega, fun h0 => by exfalso; omega⟩, fun r hr => by cases hr; exact (Bd.M (tq_x (v := v81412) H2 H3 (by omega) (by rw [(show (RQ h K (q - 1) (jor a2 (jshl 1 x5)) (a3 + 1)) _ = RQ h K (q - 1) v81410 (a3 + 1) x6 by rw [ev81409, ev81410])]; exact ⟨(nr81411.ok (by omega)).1, (nr81411.ok (by omega)).2.1⟩) (Or.inl ⟨by omega, fun z => absurd ((bR_end (p := v81412) ew1 (by omega)).symm.trans z) (by omega)⟩) (by omega)) ((jw_eq e81420)))⟩
        · refine ev_aload_n rfl ?_
          refine g_getp (r := 42) (c := 54) g81411 ad42 (by decide) (by decide) rf42_16 ft12_16 ?_
          refine ev_iload_n rfl ?_
          refine g_bald g81411 ad54 rt54 (by omega) (by omega) (fun v81421 ev81421 lv81421 uv81421 => ?_)
          refine ev_goto f264_18 ?_
          refine ev_ret rfl (by decide) (by decide) ?_
          show jEv _ _ _ _ _ _ _ (_, [(2, 42), (0, a1), (0, a2), (0, a3), (0, 1), (0, x5), (0, v81412), (0, (-1)), (0, x8)], [(0, v81421)], _, _, _)
          refine ev_iload rfl ?_
          refine ev_iconst ?_
          refine ev_iadd (r := (x8 + 1)) (by unfold w32; omega) ?_
          refine ev_aload_n rfl ?_
          refine g_getp (r := 42) (c := 43) g81411 ad42 (by decide) (by decide) rf42_2 ft12_2 ?_
          refine ev_iload rfl ?_
          refine g_ialdv (v := y2) g81411 ad43 (by omega) (by omega) (((kk81411.v rfl).trans ey2)) ?_
          refine ev_icmpge f271_157 (fun c81422 => ?_) (fun c81422 => ?_)
          · refine ev_bipush ?_
            refine ev_icmpeq f271_169 (fun c81423 => ?_) (fun c81423 => ?_)
            · refine ev_iinc (w := (v81412 + 1)) (L' := [(2, 42), (0, a1), (0, a2), (0, a3), (0, 1), (0, x5), (0, (v81412 + 1)), (0, (-1)), (0, x8)]) rfl (by unfold w32; omega) rfl ?_
              refine ev_iinc (w := (x8 + 1)) (L' := [(2, 42), (0, a1), (0, a2), (0, a3), (0, 1), (0, x5), (0, (v81412 + 1)), (0, (-1)), (0, (x8 + 1))]) rfl (by unfold w32; omega) rfl ?_
              refine ev_goto f271_85 ?_
              exact ih _ _ _ _ _ _ _ g81411 k81411 (by omega) (by omega) (by omega) (by omega) (by omega) (by omega) (by omega) (by omega) (by omega) (by omega) (by omega) (by omega) (by omega) (by omega) (by omega) (em81413) (by omega) (by omega) (((kk81411.v (by decide)).trans ey1)) (by omega) (by omega) (((kk81411.v rfl).trans ey2)) (by omega) (by omega) (Ad.step (r' := (v81412 + 1)) (Ad.tr H0 k1 (fun _ => rfl) (ad81411 (by omega))) (by omega) k81411 (fun _ => rfl) (ev81421) (by omega) (by omega) (by omega)) (Mb.step H1 eb81405 um81413 (by omega)) (tq_k (v := v81412) H2 (by omega) (by rw [(show (RQ h K (q - 1) (jor a2 (jshl 1 x5)) (a3 + 1)) _ = RQ h K (q - 1) v81410 (a3 + 1) x6 by rw [ev81409, ev81410])]; exact ⟨(nr81411.ok (by omega)).1, (nr81411.ok (by omega)).2.1⟩) (Or.inr ⟨by omega, (bR_at (p := v81412) k81411 (fun _ => rfl) ew1 (ev81421) (by omega) (by omega)).trans (by omega)⟩) (by omega) (by omega) (by rw [(show (RQ h K (q - 1) (jor a2 (jshl 1 x5)) (a3 + 1)) _ = RQ h K (q - 1) v81410 (a3 + 1) x6 by rw [ev81409, ev81410])]; have z := (nr81411.ok (by omega)).2.2; rw [em81413] at z; exact z)) H3 (by omega)
            · refine ev_aload_n rfl ?_
              refine ev_iload rfl ?_
              refine ev_in (d := (d + 1)) (a := 0) (b := 0) (cd' := c266_0) (m := 2) (L0 := [(2, 42), (0, v81412)]) (jcall_v (A := [(0, v81412)]) (S' := []) (r := 42) rfl (g81411.lt ad42) (g81411.tg ad42) (Nat.le_of_ble_eq_true rfl)) (by decide) ml266 pp266 (Nat.le_of_ble_eq_true rfl) rfl (by decide) (by decide) ?_
              refine ev_aload_n rfl ?_
              refine ev_iload_n rfl ?_
              refine g_putf (r := 42) g81411 ad42 (by decide) ft12_20 (by decide) (fun e => absurd e nz12_20) rf42_20 (by decide) (by omega) (by omega) (fun h81424 e81424 g81424 => ?_)
              have k81424 := k81411.wr e81424 rfl
              refine ev_iconst ?_
              refine ev_ret rfl (by decide) (by decide) ?_
              show jEv _ _ _ _ _ _ _ (_, [(2, 42), (0, a1), (0, a2), (0, a3), (0, 1), (0, x5), (0, v81412), (0, (-1)), (0, x8)], [(0, (-1))], _, _, _)
              exact ev_ret rfl (by decide) (by decide) ⟨⟨_, rfl, by omega, by omega, g81424, k81424⟩, fun r hr h0 => by cases hr; exfalso; omega, fun r hr => by cases hr; exact ⟨_, (((jw_ne e81424 (Or.inr (by decide))).trans em81413)), by omega, by omega, fun h0 => by exfalso; omega⟩, fun r hr => by cases hr; exact (Bd.M (tq_x (v := v81412) H2 H3 (by omega) (by rw [(show (RQ h K (q - 1) (jor a2 (jshl 1 x5)) (a3 + 1)) _ = RQ h K (q - 1) v81410 (a3 + 1) x6 by rw [ev81409, ev81410])]; exact ⟨(nr81411.ok (by omega)).1, (nr81411.ok (by omega)).2.1⟩) (Or.inr ⟨by omega, fun z => absurd ((bR_at (p := v81412) k81424 (fun _ => rfl) ew1 (((jw_ne e81424 (Or.inl (by decide))).trans ev81421)) (by omega) (by omega)).symm.trans z) (by omega)⟩) (by omega)) ((jw_eq e81424)))⟩
          · refine ev_bipush ?_
            refine ev_goto f271_159 ?_
            refine ev_icmpeq f271_169 (fun c81425 => ?_) (fun c81425 => ?_)
            · refine ev_iinc (w := (v81412 + 1)) (L' := [(2, 42), (0, a1), (0, a2), (0, a3), (0, 1), (0, x5), (0, (v81412 + 1)), (0, (-1)), (0, x8)]) rfl (by unfold w32; omega) rfl ?_
              refine ev_iinc (w := (x8 + 1)) (L' := [(2, 42), (0, a1), (0, a2), (0, a3), (0, 1), (0, x5), (0, (v81412 + 1)), (0, (-1)), (0, (x8 + 1))]) rfl (by unfold w32; omega) rfl ?_
              refine ev_goto f271_85 ?_
              exact ih _ _ _ _ _ _ _ g81411 k81411 (by omega) (by omega) (by omega) (by omega) (by omega) (by omega) (by omega) (by omega) (by omega) (by omega) (by omega) (by omega) (by omega) (by omega) (by omega) (em81413) (by omega) (by omega) (((kk81411.v (by decide)).trans ey1)) (by omega) (by omega) (((kk81411.v rfl).trans ey2)) (by omega) (by omega) (Ad.step (r' := (v81412 + 1)) (Ad.tr H0 k1 (fun _ => rfl) (ad81411 (by omega))) (by omega) k81411 (fun _ => rfl) (ev81421) (by omega) (by omega) (by omega)) (Mb.step H1 eb81405 um81413 (by omega)) (tq_k (v := v81412) H2 (by omega) (by rw [(show (RQ h K (q - 1) (jor a2 (jshl 1 x5)) (a3 + 1)) _ = RQ h K (q - 1) v81410 (a3 + 1) x6 by rw [ev81409, ev81410])]; exact ⟨(nr81411.ok (by omega)).1, (nr81411.ok (by omega)).2.1⟩) (Or.inl ⟨by omega, (bR_at (p := v81412) k81411 (fun _ => rfl) ew1 (ev81421) (by omega) (by omega)).trans (by omega)⟩) (by omega) (by omega) (by rw [(show (RQ h K (q - 1) (jor a2 (jshl 1 x5)) (a3 + 1)) _ = RQ h K (q - 1) v81410 (a3 + 1) x6 by rw [ev81409, ev81410])]; have z := (nr81411.ok (by omega)).2.2; rw [em81413] at z; exact z)) H3 (by omega)
            · refine ev_aload_n rfl ?_
              refine ev_iload rfl ?_
              refine ev_in (d := (d + 1)) (a := 0) (b := 0) (cd' := c266_0) (m := 2) (L0 := [(2, 42), (0, v81412)]) (jcall_v (A := [(0, v81412)]) (S' := []) (r := 42) rfl (g81411.lt ad42) (g81411.tg ad42) (Nat.le_of_ble_eq_true rfl)) (by decide) ml266 pp266 (Nat.le_of_ble_eq_true rfl) rfl (by decide) (by decide) ?_
              refine ev_aload_n rfl ?_
              refine ev_iload_n rfl ?_
              refine g_putf (r := 42) g81411 ad42 (by decide) ft12_20 (by decide) (fun e => absurd e nz12_20) rf42_20 (by decide) (by omega) (by omega) (fun h81426 e81426 g81426 => ?_)
              have k81426 := k81411.wr e81426 rfl
              refine ev_iconst ?_
              refine ev_ret rfl (by decide) (by decide) ?_
              show jEv _ _ _ _ _ _ _ (_, [(2, 42), (0, a1), (0, a2), (0, a3), (0, 1), (0, x5), (0, v81412), (0, (-1)), (0, x8)], [(0, (-1))], _, _, _)
              exact ev_ret rfl (by decide) (by decide) ⟨⟨_, rfl, by omega, by omega, g81426, k81426⟩, fun r hr h0 => by cases hr; exfalso; omega, fun r hr => by cases hr; exact ⟨_, (((jw_ne e81426 (Or.inr (by decide))).trans em81413)), by omega, by omega, fun h0 => by exfalso; omega⟩, fun r hr => by cases hr; exact (Bd.M (tq_x (v := v81412) H2 H3 (by omega) (by rw [(show (RQ h K (q - 1) (jor a2 (jshl 1 x5)) (a3 + 1)) _ = RQ h K (q - 1) v81410 (a3 + 1) x6 by rw [ev81409, ev81410])]; exact ⟨(nr81411.ok (by omega)).1, (nr81411.ok (by omega)).2.1⟩) (Or.inl ⟨by omega, fun z => absurd ((bR_at (p := v81412) k81426 (fun _ => rfl) ew1 (((jw_ne e81426 (Or.inl (by decide))).trans ev81421)) (by omega) (by omega)).symm.trans z) (by omega)⟩) (by omega)) ((jw_eq e81426)))⟩
      · refine ev_iconst ?_
        exact ev_ret rfl (by decide) (by decide) ⟨⟨_, rfl, by omega, by omega, g81411, k81411⟩, fun r hr h0 => by cases hr; exfalso; omega, fun r hr => by cases hr; exact ⟨_, (em81413), by omega, by omega, fun h0 => by exfalso; omega⟩, fun r hr => by cases hr; exact Bd.M (tq_b H2 H3 (by omega) (by rw [(show (RQ h K (q - 1) (jor a2 (jshl 1 x5)) (a3 + 1)) _ = RQ h K (q - 1) v81410 (a3 + 1) x6 by rw [ev81409, ev81410])]; exact nr81411.bd (by omega))) rfl⟩
set_option maxHeartbeats 4000000 in
theorem t271o_s {G : GH} {h : JH} (g : Gd G h) {l0 : Int} (ll0 : 0 ≤ l0) (ul0 : l0 ≤ 6) {b0 : Int} (lb0 : 1 ≤ b0) (ub0 : b0 ≤ 30000000) {a1 : Int} (la1 : 0 ≤ a1) (ua1 : a1 ≤ 202) {a2 : Int} (la2 : 0 ≤ a2) (ua2 : a2 ≤ 15) {a3 : Int} (la3 : 0 ≤ a3) (ua3 : a3 ≤ 12) {w0 : Int} (ew0 : h.2.2 42 21 = w0) (lw0 : 100 ≤ w0) (uw0 : w0 ≤ 200000000) {w1 : Int} (ew1 : h.2.2 42 17 = w1) (lw1 : 0 ≤ w1) (uw1 : w1 ≤ 200) (F0 : (b0 + w0) ≤ 200000000) {K : Int → Int × Int × Int} {q : Nat} (hI : Iv h) (hL : Lv h l0 a1) (hb : NB a3 = b0) (hK : KoR h K) (hq : 13 - a3 = q) (hN : h.2.2 42 1 ≤ 4) (hq3 : h.2.2 54 (a1).toNat = 33) {M : Int} (hM : M = (7 * a3 - l0)) {d : Nat} (hd : 0 ≤ d) (rih : ∀ {G : GH} {h : JH} (g : Gd G h) {l0 : Int} (ll0 : 0 ≤ l0) (ul0 : l0 ≤ 6) {b0 : Int} (lb0 : 1 ≤ b0) (ub0 : b0 ≤ 30000000) {a1 : Int} (la1 : 0 ≤ a1) (ua1 : a1 ≤ 202) {a2 : Int} (la2 : 0 ≤ a2) (ua2 : a2 ≤ 15) {a3 : Int} (la3 : 0 ≤ a3) (ua3 : a3 ≤ 12) {w0 : Int} (ew0 : h.2.2 42 21 = w0) (lw0 : 100 ≤ w0) (uw0 : w0 ≤ 200000000) {w1 : Int} (ew1 : h.2.2 42 17 = w1) (lw1 : 0 ≤ w1) (uw1 : w1 ≤ 200) (F0 : (b0 + w0) ≤ 200000000) {K : Int → Int × Int × Int} {q : Nat} (hI : Iv h) (hL : Lv h l0 a1) (hb : NB a3 = b0) (hK : KoR h K) (hq : 13 - a3 = q) (hN : h.2.2 42 1 ≤ 4) (hm : M + 1 ≤ (7 * a3 - l0)), jOk d 0 0 272 [(2, 42), (0, a1), (0, a2), (0, a3), (0, 1)] h (fun v h' => PI G [(42, 21), (42, 22)] h 0 (-1) 200 v h' ∧ (∀ r, v = some (0, r) → 0 ≤ r → Ad h l0 a1 r) ∧ (∀ r, v = some (0, r) → RO h' w0 b0 r) ∧ (∀ r, v = some (0, r) → RdM (bR h) h' w0 (RQ h K q a2 a3 a1) r))) : jOk (d + 3) 0 0 271 [(2, 42), (0, a1), (0, a2), (0, a3), (0, 1)] h (fun v h' => PI G [(42, 21), (42, 22)] h 0 (-1) 200 v h' ∧ (∀ r, v = some (0, r) → 0 ≤ r → Ad h l0 a1 r) ∧ (∀ r, v = some (0, r) → RO h' w0 b0 r) ∧ (∀ r, v = some (0, r) → RdM (bR h) h' w0 (tuN (bR h) (h.2.2 42 1) (yR h) (fun t => RQ h K (q - 1) t (a3 + 1)) a2 a3 a1) r)) := by
  refine ⟨by decide, by rw [ml271]; exact Nat.le_of_ble_eq_true rfl, ?_⟩
  rw [ml271, pp271]
  show jEv _ none _ c271_0 0 0 _ (c271_0, [(2, 42), (0, a1), (0, a2), (0, a3), (0, 1), (9, 0), (9, 0), (9, 0), (9, 0)], [], h, 0, 0)
  have k0 := Kp.rf [(42, 21), (42, 22)] h
  refine ev_aload_n rfl ?_
  refine ev_iload_n rfl ?_
  refine ev_iconst ?_
  refine ev_iadd (r := (a1 + 1)) (by unfold w32; omega) ?_
  refine ev_in (d := (d + 1)) (a := 0) (b := 0) (cd' := c264_0) (m := 2) (L0 := [(2, 42), (0, (a1 + 1))]) (jcall_v (A := [(0, (a1 + 1))]) (S' := []) (r := 42) rfl (g.lt ad42) (g.tg ad42) (Nat.le_of_ble_eq_true rfl)) (by decide) ml264 pp264 (Nat.le_of_ble_eq_true rfl) rfl (by decide) (by decide) ?_
  refine ev_iload_n rfl ?_
  refine ev_aload_n rfl ?_
  refine g_getv (r := 42) (v := w1) g ad42 (by decide) ft12_17 (ew1) ?_
  refine ev_icmpge f264_17 (fun c81427 => ?_) (fun c81427 => ?_)
  · refine ev_iconst ?_
    refine ev_ret rfl (by decide) (by decide) ?_
    show jEv _ _ _ _ _ _ _ (_, [(2, 42), (0, a1), (0, a2), (0, a3), (0, 1), (9, 0), (9, 0), (9, 0), (9, 0)], [(0, (-1))], _, _, _)
    refine ev_bipush ?_
    refine ev_isub (r := (-98)) (by decide) ?_
    refine ev_istore (L' := [(2, 42), (0, a1), (0, a2), (0, a3), (0, 1), (0, (-98)), (9, 0), (9, 0), (9, 0)]) (Nat.le_of_ble_eq_true rfl) rfl ?_
    refine ev_aload_n rfl ?_
    refine ev_iload rfl ?_
    refine ev_in (d := (d + 1)) (a := 0) (b := 0) (cd' := c245_0) (m := 2) (L0 := [(2, 42), (0, (-98))]) (jcall_v (A := [(0, (-98))]) (S' := []) (r := 42) rfl (g.lt ad42) (g.tg ad42) (Nat.le_of_ble_eq_true rfl)) (by decide) ml245 pp245 (Nat.le_of_ble_eq_true rfl) rfl (by decide) (by decide) ?_
    refine ev_iload_n rfl ?_
    refine ev_iconst ?_
    refine ev_aload_n rfl ?_
    obtain ⟨v81428, ev81428, lv81428, uv81428⟩ := g.rd ad42 (show 1 < 66 by decide) rf42_1
    refine g_getv (r := 42) (v := v81428) g ad42 (by decide) ft12_1 ev81428 ?_
    refine ev_iconst ?_
    refine ev_isub (r := (v81428 - 1)) (by unfold w32; omega) ?_
    refine ev_in (d := (d + 0)) (a := 0) (b := 0) (cd' := c242_0) (m := 3) (L0 := [(0, (-98)), (0, 0), (0, (v81428 - 1))]) (jcall_s (A := [(0, (v81428 - 1)), (0, 0), (0, (-98))]) (S' := []) (by decide) rfl (Nat.le_of_ble_eq_true rfl)) (by decide) ml242 pp242 (Nat.le_of_ble_eq_true rfl) rfl (by decide) (by decide) ?_
    refine ev_iload_n rfl ?_
    refine ev_iload_n rfl ?_
    refine ev_icmplt f242_14 (fun c81429 => ?_) (fun c81429 => absurd c81429 (by omega))
    refine ev_iconst ?_
    refine ev_ret rfl (by decide) (by decide) ?_
    show jEv _ _ _ _ _ _ _ (_, [(2, 42), (0, (-98))], [(0, 0)], _, _, _)
    refine ev_ret rfl (by decide) (by decide) ?_
    show jEv _ _ _ _ _ _ _ (_, [(2, 42), (0, a1), (0, a2), (0, a3), (0, 1), (0, (-98)), (9, 0), (9, 0), (9, 0)], [(0, 0)], _, _, _)
    refine ev_ifeq f271_31 (fun c81430 => ?_) (fun c81430 => absurd c81430 (by omega))
    refine ev_aload_n rfl ?_
    refine ev_iload_n rfl ?_
    refine ev_iconst ?_
    refine ev_iadd (r := (a1 + 1)) (by unfold w32; omega) ?_
    refine ev_in (d := (d + 1)) (a := 0) (b := 0) (cd' := c266_0) (m := 2) (L0 := [(2, 42), (0, (a1 + 1))]) (jcall_v (A := [(0, (a1 + 1))]) (S' := []) (r := 42) rfl (g.lt ad42) (g.tg ad42) (Nat.le_of_ble_eq_true rfl)) (by decide) ml266 pp266 (Nat.le_of_ble_eq_true rfl) rfl (by decide) (by decide) ?_
    refine ev_aload_n rfl ?_
    refine ev_iload_n rfl ?_
    refine g_putf (r := 42) g ad42 (by decide) ft12_20 (by decide) (fun e => absurd e nz12_20) rf42_20 (by decide) (by omega) (by omega) (fun h81431 e81431 g81431 => ?_)
    have k81431 := k0.wr e81431 rfl
    refine ev_iconst ?_
    refine ev_ret rfl (by decide) (by decide) ?_
    show jEv _ _ _ _ _ _ _ (_, [(2, 42), (0, a1), (0, a2), (0, a3), (0, 1), (0, (-98)), (9, 0), (9, 0), (9, 0)], [(0, (-1))], _, _, _)
    exact ev_ret rfl (by decide) (by decide) ⟨⟨_, rfl, by omega, by omega, g81431, k81431⟩, fun r hr h0 => by cases hr; exfalso; omega, fun r hr => by cases hr; exact ⟨_, (((jw_ne e81431 (Or.inr (by decide))).trans ew0)), by omega, by omega, fun h0 => by exfalso; omega⟩, fun r hr => by cases hr; exact (Bd.M (bd_rF (p := a1 + 1) (tuN_1 (bR_end (p := (a1 + 1)) ew1 (by omega)) (Or.inl (by rw [show h.2.2 42 1 = v81428 from (k81431.v rfl).symm.trans (((jw_ne e81431 (Or.inr (by decide))).trans ev81428))]; omega))) (by omega) (by omega)) ((jw_eq e81431)))⟩
  · refine ev_aload_n rfl ?_
    refine g_getp (r := 42) (c := 54) g ad42 (by decide) (by decide) rf42_16 ft12_16 ?_
    refine ev_iload_n rfl ?_
    refine g_bald g ad54 rt54 (by omega) (by omega) (fun v81432 ev81432 lv81432 uv81432 => ?_)
    refine ev_goto f264_18 ?_
    refine ev_ret rfl (by decide) (by decide) ?_
    show jEv _ _ _ _ _ _ _ (_, [(2, 42), (0, a1), (0, a2), (0, a3), (0, 1), (9, 0), (9, 0), (9, 0), (9, 0)], [(0, v81432)], _, _, _)
    refine ev_bipush ?_
    refine ev_isub (r := (v81432 - 97)) (by unfold w32; omega) ?_
    refine ev_istore (L' := [(2, 42), (0, a1), (0, a2), (0, a3), (0, 1), (0, (v81432 - 97)), (9, 0), (9, 0), (9, 0)]) (Nat.le_of_ble_eq_true rfl) rfl ?_
    refine ev_aload_n rfl ?_
    refine ev_iload rfl ?_
    refine ev_in (d := (d + 1)) (a := 0) (b := 0) (cd' := c245_0) (m := 2) (L0 := [(2, 42), (0, (v81432 - 97))]) (jcall_v (A := [(0, (v81432 - 97))]) (S' := []) (r := 42) rfl (g.lt ad42) (g.tg ad42) (Nat.le_of_ble_eq_true rfl)) (by decide) ml245 pp245 (Nat.le_of_ble_eq_true rfl) rfl (by decide) (by decide) ?_
    refine ev_iload_n rfl ?_
    refine ev_iconst ?_
    refine ev_aload_n rfl ?_
    obtain ⟨v81433, ev81433, lv81433, uv81433⟩ := g.rd ad42 (show 1 < 66 by decide) rf42_1
    refine g_getv (r := 42) (v := v81433) g ad42 (by decide) ft12_1 ev81433 ?_
    refine ev_iconst ?_
    refine ev_isub (r := (v81433 - 1)) (by unfold w32; omega) ?_
    refine ev_in (d := (d + 0)) (a := 0) (b := 0) (cd' := c242_0) (m := 3) (L0 := [(0, (v81432 - 97)), (0, 0), (0, (v81433 - 1))]) (jcall_s (A := [(0, (v81433 - 1)), (0, 0), (0, (v81432 - 97))]) (S' := []) (by decide) rfl (Nat.le_of_ble_eq_true rfl)) (by decide) ml242 pp242 (Nat.le_of_ble_eq_true rfl) rfl (by decide) (by decide) ?_
    refine ev_iload_n rfl ?_
    refine ev_iload_n rfl ?_
    refine ev_icmplt f242_14 (fun c81434 => ?_) (fun c81434 => ?_)
    · refine ev_iconst ?_
      refine ev_ret rfl (by decide) (by decide) ?_
      show jEv _ _ _ _ _ _ _ (_, [(2, 42), (0, (v81432 - 97))], [(0, 0)], _, _, _)
      refine ev_ret rfl (by decide) (by decide) ?_
      show jEv _ _ _ _ _ _ _ (_, [(2, 42), (0, a1), (0, a2), (0, a3), (0, 1), (0, (v81432 - 97)), (9, 0), (9, 0), (9, 0)], [(0, 0)], _, _, _)
      refine ev_ifeq f271_31 (fun c81435 => ?_) (fun c81435 => absurd c81435 (by omega))
      refine ev_aload_n rfl ?_
      refine ev_iload_n rfl ?_
      refine ev_iconst ?_
      refine ev_iadd (r := (a1 + 1)) (by unfold w32; omega) ?_
      refine ev_in (d := (d + 1)) (a := 0) (b := 0) (cd' := c266_0) (m := 2) (L0 := [(2, 42), (0, (a1 + 1))]) (jcall_v (A := [(0, (a1 + 1))]) (S' := []) (r := 42) rfl (g.lt ad42) (g.tg ad42) (Nat.le_of_ble_eq_true rfl)) (by decide) ml266 pp266 (Nat.le_of_ble_eq_true rfl) rfl (by decide) (by decide) ?_
      refine ev_aload_n rfl ?_
      refine ev_iload_n rfl ?_
      refine g_putf (r := 42) g ad42 (by decide) ft12_20 (by decide) (fun e => absurd e nz12_20) rf42_20 (by decide) (by omega) (by omega) (fun h81436 e81436 g81436 => ?_)
      have k81436 := k0.wr e81436 rfl
      refine ev_iconst ?_
      refine ev_ret rfl (by decide) (by decide) ?_
      show jEv _ _ _ _ _ _ _ (_, [(2, 42), (0, a1), (0, a2), (0, a3), (0, 1), (0, (v81432 - 97)), (9, 0), (9, 0), (9, 0)], [(0, (-1))], _, _, _)
      exact ev_ret rfl (by decide) (by decide) ⟨⟨_, rfl, by omega, by omega, g81436, k81436⟩, fun r hr h0 => by cases hr; exfalso; omega, fun r hr => by cases hr; exact ⟨_, (((jw_ne e81436 (Or.inr (by decide))).trans ew0)), by omega, by omega, fun h0 => by exfalso; omega⟩, fun r hr => by cases hr; exact (Bd.M (bd_rF (p := a1 + 1) (tuN_1 (bR_at (p := (a1 + 1)) k81436 (fun _ => rfl) ew1 (((jw_ne e81436 (Or.inl (by decide))).trans ev81432)) (by omega) (by omega)) (Or.inl (by rw [show h.2.2 42 1 = v81433 from (k81436.v rfl).symm.trans (((jw_ne e81436 (Or.inr (by decide))).trans ev81433))]; omega))) (by omega) (by omega)) ((jw_eq e81436)))⟩
    · refine ev_iload_n rfl ?_
      refine ev_iload_n rfl ?_
      refine ev_icmpgt f242_14 (fun c81437 => ?_) (fun c81437 => ?_)
      · refine ev_iconst ?_
        refine ev_ret rfl (by decide) (by decide) ?_
        show jEv _ _ _ _ _ _ _ (_, [(2, 42), (0, (v81432 - 97))], [(0, 0)], _, _, _)
        refine ev_ret rfl (by decide) (by decide) ?_
        show jEv _ _ _ _ _ _ _ (_, [(2, 42), (0, a1), (0, a2), (0, a3), (0, 1), (0, (v81432 - 97)), (9, 0), (9, 0), (9, 0)], [(0, 0)], _, _, _)
        refine ev_ifeq f271_31 (fun c81438 => ?_) (fun c81438 => absurd c81438 (by omega))
        refine ev_aload_n rfl ?_
        refine ev_iload_n rfl ?_
        refine ev_iconst ?_
        refine ev_iadd (r := (a1 + 1)) (by unfold w32; omega) ?_
        refine ev_in (d := (d + 1)) (a := 0) (b := 0) (cd' := c266_0) (m := 2) (L0 := [(2, 42), (0, (a1 + 1))]) (jcall_v (A := [(0, (a1 + 1))]) (S' := []) (r := 42) rfl (g.lt ad42) (g.tg ad42) (Nat.le_of_ble_eq_true rfl)) (by decide) ml266 pp266 (Nat.le_of_ble_eq_true rfl) rfl (by decide) (by decide) ?_
        refine ev_aload_n rfl ?_
        refine ev_iload_n rfl ?_
        refine g_putf (r := 42) g ad42 (by decide) ft12_20 (by decide) (fun e => absurd e nz12_20) rf42_20 (by decide) (by omega) (by omega) (fun h81439 e81439 g81439 => ?_)
        have k81439 := k0.wr e81439 rfl
        refine ev_iconst ?_
        refine ev_ret rfl (by decide) (by decide) ?_
        show jEv _ _ _ _ _ _ _ (_, [(2, 42), (0, a1), (0, a2), (0, a3), (0, 1), (0, (v81432 - 97)), (9, 0), (9, 0), (9, 0)], [(0, (-1))], _, _, _)
        exact ev_ret rfl (by decide) (by decide) ⟨⟨_, rfl, by omega, by omega, g81439, k81439⟩, fun r hr h0 => by cases hr; exfalso; omega, fun r hr => by cases hr; exact ⟨_, (((jw_ne e81439 (Or.inr (by decide))).trans ew0)), by omega, by omega, fun h0 => by exfalso; omega⟩, fun r hr => by cases hr; exact (Bd.M (bd_rF (p := a1 + 1) (tuN_1 (bR_at (p := (a1 + 1)) k81439 (fun _ => rfl) ew1 (((jw_ne e81439 (Or.inl (by decide))).trans ev81432)) (by omega) (by omega)) (Or.inl (by rw [show h.2.2 42 1 = v81433 from (k81439.v rfl).symm.trans (((jw_ne e81439 (Or.inr (by decide))).trans ev81433))]; omega))) (by omega) (by omega)) ((jw_eq e81439)))⟩
      · refine ev_iconst ?_
        refine ev_goto f242_15 ?_
        refine ev_ret rfl (by decide) (by decide) ?_
        show jEv _ _ _ _ _ _ _ (_, [(2, 42), (0, (v81432 - 97))], [(0, 1)], _, _, _)
        refine ev_ret rfl (by decide) (by decide) ?_
        show jEv _ _ _ _ _ _ _ (_, [(2, 42), (0, a1), (0, a2), (0, a3), (0, 1), (0, (v81432 - 97)), (9, 0), (9, 0), (9, 0)], [(0, 1)], _, _, _)
        refine ev_ifeq f271_31 (fun c81440 => absurd c81440 (by omega)) (fun c81440 => ?_)
        refine ev_iload_n rfl ?_
        refine ev_iload rfl ?_
        refine g_ishrB (a := 15) (by omega) (by omega) (by decide) (fun v81441 ev81441 lv81441 uv81441 => ?_)
        refine ev_iconst ?_
        refine g_iandB (b := 1) (by omega) (by omega) (by decide) (fun v81442 ev81442 lv81442 uv81442 => ?_)
        refine ev_iconst ?_
        refine ev_icmpne f271_39 (fun c81443 => ?_) (fun c81443 => ?_)
        · refine ev_iload_n rfl ?_
          refine ev_iconst ?_
          refine ev_iadd (r := (a1 + 2)) (by unfold w32; omega) ?_
          refine ev_istore (L' := [(2, 42), (0, a1), (0, a2), (0, a3), (0, 1), (0, (v81432 - 97)), (0, (a1 + 2)), (9, 0), (9, 0)]) (Nat.le_of_ble_eq_true rfl) rfl ?_
          refine ev_aload_n rfl ?_
          refine ev_iload rfl ?_
          refine ev_in (d := (d + 1)) (a := 0) (b := 0) (cd' := c264_0) (m := 2) (L0 := [(2, 42), (0, (a1 + 2))]) (jcall_v (A := [(0, (a1 + 2))]) (S' := []) (r := 42) rfl (g.lt ad42) (g.tg ad42) (Nat.le_of_ble_eq_true rfl)) (by decide) ml264 pp264 (Nat.le_of_ble_eq_true rfl) rfl (by decide) (by decide) ?_
          refine ev_iload_n rfl ?_
          refine ev_aload_n rfl ?_
          refine g_getv (r := 42) (v := w1) g ad42 (by decide) ft12_17 (ew1) ?_
          refine ev_icmpge f264_17 (fun c81444 => ?_) (fun c81444 => ?_)
          · refine ev_iconst ?_
            refine ev_ret rfl (by decide) (by decide) ?_
            show jEv _ _ _ _ _ _ _ (_, [(2, 42), (0, a1), (0, a2), (0, a3), (0, 1), (0, (v81432 - 97)), (0, (a1 + 2)), (9, 0), (9, 0)], [(0, (-1))], _, _, _)
            refine ev_bipush ?_
            refine ev_icmpne f271_61 (fun c81445 => ?_) (fun c81445 => absurd c81445 (by omega))
            refine ev_aload_n rfl ?_
            refine ev_iload rfl ?_
            refine ev_in (d := (d + 1)) (a := 0) (b := 0) (cd' := c266_0) (m := 2) (L0 := [(2, 42), (0, (a1 + 2))]) (jcall_v (A := [(0, (a1 + 2))]) (S' := []) (r := 42) rfl (g.lt ad42) (g.tg ad42) (Nat.le_of_ble_eq_true rfl)) (by decide) ml266 pp266 (Nat.le_of_ble_eq_true rfl) rfl (by decide) (by decide) ?_
            refine ev_aload_n rfl ?_
            refine ev_iload_n rfl ?_
            refine g_putf (r := 42) g ad42 (by decide) ft12_20 (by decide) (fun e => absurd e nz12_20) rf42_20 (by decide) (by omega) (by omega) (fun h81446 e81446 g81446 => ?_)
            have k81446 := k0.wr e81446 rfl
            refine ev_iconst ?_
            refine ev_ret rfl (by decide) (by decide) ?_
            show jEv _ _ _ _ _ _ _ (_, [(2, 42), (0, a1), (0, a2), (0, a3), (0, 1), (0, (v81432 - 97)), (0, (a1 + 2)), (9, 0), (9, 0)], [(0, (-1))], _, _, _)
            exact ev_ret rfl (by decide) (by decide) ⟨⟨_, rfl, by omega, by omega, g81446, k81446⟩, fun r hr h0 => by cases hr; exfalso; omega, fun r hr => by cases hr; exact ⟨_, (((jw_ne e81446 (Or.inr (by decide))).trans ew0)), by omega, by omega, fun h0 => by exfalso; omega⟩, fun r hr => by cases hr; exact (Bd.M (bd_rF (p := a1 + 2) (tuN_2 (by rw [(bR_at (p := (a1 + 1)) k81446 (fun _ => rfl) ew1 (((jw_ne e81446 (Or.inl (by decide))).trans ev81432)) (by omega) (by omega))] <;> omega) (by omega) (by rw [show h.2.2 42 1 = v81433 from (k81446.v rfl).symm.trans (((jw_ne e81446 (Or.inr (by decide))).trans ev81433))]; omega) (fun z => absurd ((show bt a2 (v81432 - 97) = v81442 by unfold bt; rw [ev81441, ev81442]).symm.trans z) (by omega)) (Or.inl (fun z => absurd ((bR_end (p := (a1 + 2)) ew1 (by omega)).symm.trans z) (by omega)))) (by omega) (by omega)) ((jw_eq e81446)))⟩
          · refine ev_aload_n rfl ?_
            refine g_getp (r := 42) (c := 54) g ad42 (by decide) (by decide) rf42_16 ft12_16 ?_
            refine ev_iload_n rfl ?_
            refine g_bald g ad54 rt54 (by omega) (by omega) (fun v81447 ev81447 lv81447 uv81447 => ?_)
            refine ev_goto f264_18 ?_
            refine ev_ret rfl (by decide) (by decide) ?_
            show jEv _ _ _ _ _ _ _ (_, [(2, 42), (0, a1), (0, a2), (0, a3), (0, 1), (0, (v81432 - 97)), (0, (a1 + 2)), (9, 0), (9, 0)], [(0, v81447)], _, _, _)
            refine ev_bipush ?_
            refine ev_icmpne f271_61 (fun c81448 => ?_) (fun c81448 => ?_)
            · refine ev_aload_n rfl ?_
              refine ev_iload rfl ?_
              refine ev_in (d := (d + 1)) (a := 0) (b := 0) (cd' := c266_0) (m := 2) (L0 := [(2, 42), (0, (a1 + 2))]) (jcall_v (A := [(0, (a1 + 2))]) (S' := []) (r := 42) rfl (g.lt ad42) (g.tg ad42) (Nat.le_of_ble_eq_true rfl)) (by decide) ml266 pp266 (Nat.le_of_ble_eq_true rfl) rfl (by decide) (by decide) ?_
              refine ev_aload_n rfl ?_
              refine ev_iload_n rfl ?_
              refine g_putf (r := 42) g ad42 (by decide) ft12_20 (by decide) (fun e => absurd e nz12_20) rf42_20 (by decide) (by omega) (by omega) (fun h81449 e81449 g81449 => ?_)
              have k81449 := k0.wr e81449 rfl
              refine ev_iconst ?_
              refine ev_ret rfl (by decide) (by decide) ?_
              show jEv _ _ _ _ _ _ _ (_, [(2, 42), (0, a1), (0, a2), (0, a3), (0, 1), (0, (v81432 - 97)), (0, (a1 + 2)), (9, 0), (9, 0)], [(0, (-1))], _, _, _)
              exact ev_ret rfl (by decide) (by decide) ⟨⟨_, rfl, by omega, by omega, g81449, k81449⟩, fun r hr h0 => by cases hr; exfalso; omega, fun r hr => by cases hr; exact ⟨_, (((jw_ne e81449 (Or.inr (by decide))).trans ew0)), by omega, by omega, fun h0 => by exfalso; omega⟩, fun r hr => by cases hr; exact (Bd.M (bd_rF (p := a1 + 2) (tuN_2 (by rw [(bR_at (p := (a1 + 1)) k81449 (fun _ => rfl) ew1 (((jw_ne e81449 (Or.inl (by decide))).trans ev81432)) (by omega) (by omega))] <;> omega) (by omega) (by rw [show h.2.2 42 1 = v81433 from (k81449.v rfl).symm.trans (((jw_ne e81449 (Or.inr (by decide))).trans ev81433))]; omega) (fun z => absurd ((show bt a2 (v81432 - 97) = v81442 by unfold bt; rw [ev81441, ev81442]).symm.trans z) (by omega)) (Or.inl (fun z => absurd ((bR_at (p := (a1 + 2)) k81449 (fun _ => rfl) ew1 (((jw_ne e81449 (Or.inl (by decide))).trans ev81447)) (by omega) (by omega)).symm.trans z) (by omega)))) (by omega) (by omega)) ((jw_eq e81449)))⟩
            · refine ev_iload_n rfl ?_
              refine ev_bipush ?_
              refine ev_icmpne f271_68 (fun c81450 => ?_) (fun c81450 => ?_)
              · refine ev_aload_n rfl ?_
                refine ev_iload rfl ?_
                refine ev_iconst ?_
                refine ev_iload rfl ?_
                refine ev_in (d := (d + 1)) (a := 0) (b := 0) (cd' := c267_0) (m := 6) (L0 := [(2, 42), (0, 1), (0, 2), (0, (v81432 - 97)), (9, 0), (9, 0)]) (jcall_v (A := [(0, (v81432 - 97)), (0, 2), (0, 1)]) (S' := []) (r := 42) rfl (g.lt ad42) (g.tg ad42) (Nat.le_of_ble_eq_true rfl)) (by decide) ml267 pp267 (Nat.le_of_ble_eq_true rfl) rfl (by decide) (by decide) ?_
                refine ev_iload_n rfl ?_
                refine ev_ifne f267_6 (fun c81451 => ?_) (fun c81451 => absurd c81451 (by omega))
                refine ev_aload_n rfl ?_
                refine ev_dup (by decide) ?_
                refine g_getv (r := 42) (v := w0) g ad42 (by decide) ft12_21 (ew0) ?_
                refine ev_iconst ?_
                refine ev_iadd (r := (w0 + 1)) (by unfold w32; omega) ?_
                refine g_putf (r := 42) g ad42 (by decide) ft12_21 (by decide) (fun e => absurd e nz12_21) rf42_21 (by decide) (by omega) (by omega) (fun h81452 e81452 g81452 => ?_)
                have k81452 := k0.wr e81452 rfl
                refine ev_aload_n rfl ?_
                refine g_getv (r := 42) (v := (w0 + 1)) g81452 ad42 (by decide) ft12_21 ((jw_eq e81452)) ?_
                refine ev_bipush ?_
                refine ev_icmple f267_27 (fun c81453 => absurd c81453 (by omega)) (fun c81453 => ?_)
                refine ev_iconst ?_
                refine ev_ret rfl (by decide) (by decide) ?_
                show jEv _ _ _ _ _ _ _ (_, [(2, 42), (0, a1), (0, a2), (0, a3), (0, 1), (0, (v81432 - 97)), (0, (a1 + 2)), (9, 0), (9, 0)], [(0, (-1))], _, _, _)
                refine ev_istore (L' := [(2, 42), (0, a1), (0, a2), (0, a3), (0, 1), (0, (v81432 - 97)), (0, (a1 + 2)), (0, (-1)), (9, 0)]) (Nat.le_of_ble_eq_true rfl) rfl ?_
                refine ev_iinc (w := (a1 + 3)) (L' := [(2, 42), (0, a1), (0, a2), (0, a3), (0, 1), (0, (v81432 - 97)), (0, (a1 + 3)), (0, (-1)), (9, 0)]) rfl (by unfold w32; omega) rfl ?_
                refine ev_iconst ?_
                refine ev_istore (L' := [(2, 42), (0, a1), (0, a2), (0, a3), (0, 1), (0, (v81432 - 97)), (0, (a1 + 3)), (0, (-1)), (0, 0)]) (Nat.le_of_ble_eq_true rfl) rfl ?_
                obtain ⟨v81454, ev81454, lv81454, uv81454⟩ := g81452.rd ad43 (show ((v81432 - 97)).toNat < 4 by omega) (rt43 _)
                have xv81454 := (g81452.ex.2.1 ((v81432 - 97) : Int).toNat (by rw [(((jw_ne e81452 (Or.inr (by decide))).trans ev81433))]; omega))
                rw [ev81454] at xv81454
                exact (t271o_s_l ll0 ul0 lb0 ub0 la1 ua1 la2 ua2 la3 ua3 ew0 lw0 uw0 ew1 lw1 uw1 F0 hI hL hb hK hq hN hq3 hM hd rih 8) _ _ _ _ _ _ _ g81452 k81452 (by omega) (by omega) (by omega) (by omega) (by omega) (by omega) (by omega) (by omega) (by omega) (by omega) (by omega) (by omega) (by omega) (by omega) (by omega) ((jw_eq e81452)) (by omega) (by omega) (((jw_ne e81452 (Or.inr (by decide))).trans ev81433)) (by omega) (by omega) ev81454 (by omega) (by omega) (Ad.step (r' := (a1 + 3)) (Ad.step (r' := (a1 + 2)) (Ad.step (r' := (a1 + 1)) (Ad.rf _ _ _) (by omega) k81452 (fun _ => rfl) (((jw_ne e81452 (Or.inl (by decide))).trans hq3)) (by omega) (by omega) (by omega)) (by omega) k81452 (fun _ => rfl) (((jw_ne e81452 (Or.inl (by decide))).trans ev81432)) (by omega) (by omega) (by omega)) (by omega) k81452 (fun _ => rfl) (((jw_ne e81452 (Or.inl (by decide))).trans ev81447)) (by omega) (by omega) (by omega)) (Mb.start _ _ (by omega)) (tq_start (by omega) (by omega) (by omega)) (tuN_3 (y := v81454) (by rw [(bR_at (p := (a1 + 1)) k81452 (fun _ => rfl) ew1 (((jw_ne e81452 (Or.inl (by decide))).trans ev81432)) (by omega) (by omega))] <;> omega) (by omega) (by rw [show h.2.2 42 1 = v81433 from (k81452.v rfl).symm.trans (((jw_ne e81452 (Or.inr (by decide))).trans ev81433))]; omega) (fun z => absurd ((show bt a2 (v81432 - 97) = v81442 by unfold bt; rw [ev81441, ev81442]).symm.trans z) (by omega)) ((bR_at (p := (a1 + 2)) k81452 (fun _ => rfl) ew1 (((jw_ne e81452 (Or.inl (by decide))).trans ev81447)) (by omega) (by omega)).trans (by omega)) (by omega) (yR_at k81452 (fun _ => rfl) rfl (((jw_ne e81452 (Or.inr (by decide))).trans ev81433)) (ev81454) (by omega) (by omega))) (by omega)
              · refine ev_aload_n rfl ?_
                refine ev_iload rfl ?_
                refine ev_in (d := (d + 1)) (a := 0) (b := 0) (cd' := c266_0) (m := 2) (L0 := [(2, 42), (0, (a1 + 2))]) (jcall_v (A := [(0, (a1 + 2))]) (S' := []) (r := 42) rfl (g.lt ad42) (g.tg ad42) (Nat.le_of_ble_eq_true rfl)) (by decide) ml266 pp266 (Nat.le_of_ble_eq_true rfl) rfl (by decide) (by decide) ?_
                refine ev_aload_n rfl ?_
                refine ev_iload_n rfl ?_
                refine g_putf (r := 42) g ad42 (by decide) ft12_20 (by decide) (fun e => absurd e nz12_20) rf42_20 (by decide) (by omega) (by omega) (fun h81455 e81455 g81455 => ?_)
                have k81455 := k0.wr e81455 rfl
                refine ev_iconst ?_
                refine ev_ret rfl (by decide) (by decide) ?_
                show jEv _ _ _ _ _ _ _ (_, [(2, 42), (0, a1), (0, a2), (0, a3), (0, 1), (0, (v81432 - 97)), (0, (a1 + 2)), (9, 0), (9, 0)], [(0, (-1))], _, _, _)
                exact ev_ret rfl (by decide) (by decide) ⟨⟨_, rfl, by omega, by omega, g81455, k81455⟩, fun r hr h0 => by cases hr; exfalso; omega, fun r hr => by cases hr; exact ⟨_, (((jw_ne e81455 (Or.inr (by decide))).trans ew0)), by omega, by omega, fun h0 => by exfalso; omega⟩, fun r hr => by cases hr; exact (Bd.M (bd_rF (p := a1 + 2) (tuN_2 (by rw [(bR_at (p := (a1 + 1)) k81455 (fun _ => rfl) ew1 (((jw_ne e81455 (Or.inl (by decide))).trans ev81432)) (by omega) (by omega))] <;> omega) (by omega) (by rw [show h.2.2 42 1 = v81433 from (k81455.v rfl).symm.trans (((jw_ne e81455 (Or.inr (by decide))).trans ev81433))]; omega) (fun z => absurd ((show bt a2 (v81432 - 97) = v81442 by unfold bt; rw [ev81441, ev81442]).symm.trans z) (by omega)) (Or.inr (by omega))) (by omega) (by omega)) ((jw_eq e81455)))⟩
        · refine ev_aload_n rfl ?_
          refine ev_iload_n rfl ?_
          refine ev_iconst ?_
          refine ev_iadd (r := (a1 + 1)) (by unfold w32; omega) ?_
          refine ev_in (d := (d + 1)) (a := 0) (b := 0) (cd' := c266_0) (m := 2) (L0 := [(2, 42), (0, (a1 + 1))]) (jcall_v (A := [(0, (a1 + 1))]) (S' := []) (r := 42) rfl (g.lt ad42) (g.tg ad42) (Nat.le_of_ble_eq_true rfl)) (by decide) ml266 pp266 (Nat.le_of_ble_eq_true rfl) rfl (by decide) (by decide) ?_
          refine ev_aload_n rfl ?_
          refine ev_iload_n rfl ?_
          refine g_putf (r := 42) g ad42 (by decide) ft12_20 (by decide) (fun e => absurd e nz12_20) rf42_20 (by decide) (by omega) (by omega) (fun h81456 e81456 g81456 => ?_)
          have k81456 := k0.wr e81456 rfl
          refine ev_iconst ?_
          refine ev_ret rfl (by decide) (by decide) ?_
          show jEv _ _ _ _ _ _ _ (_, [(2, 42), (0, a1), (0, a2), (0, a3), (0, 1), (0, (v81432 - 97)), (9, 0), (9, 0), (9, 0)], [(0, (-1))], _, _, _)
          exact ev_ret rfl (by decide) (by decide) ⟨⟨_, rfl, by omega, by omega, g81456, k81456⟩, fun r hr h0 => by cases hr; exfalso; omega, fun r hr => by cases hr; exact ⟨_, (((jw_ne e81456 (Or.inr (by decide))).trans ew0)), by omega, by omega, fun h0 => by exfalso; omega⟩, fun r hr => by cases hr; exact (Bd.M (bd_rF (p := a1 + 1) (tuN_1 (bR_at (p := (a1 + 1)) k81456 (fun _ => rfl) ew1 (((jw_ne e81456 (Or.inl (by decide))).trans ev81432)) (by omega) (by omega)) (Or.inr (by rw [show v81432 - 97 = (v81432 - 97) by omega]; show jand (jshr a2 (v81432 - 97)) 1 = 1; rw [ev81441, ev81442]; omega))) (by omega) (by omega)) ((jw_eq e81456)))⟩
set_option maxHeartbeats 4000000 in
theorem t272o_s {G : GH} {h : JH} (g : Gd G h) {l0 : Int} (ll0 : 0 ≤ l0) (ul0 : l0 ≤ 6) {b0 : Int} (lb0 : 1 ≤ b0) (ub0 : b0 ≤ 30000000) {a1 : Int} (la1 : 0 ≤ a1) (ua1 : a1 ≤ 202) {a2 : Int} (la2 : 0 ≤ a2) (ua2 : a2 ≤ 15) {a3 : Int} (la3 : 0 ≤ a3) (ua3 : a3 ≤ 12) {w0 : Int} (ew0 : h.2.2 42 21 = w0) (lw0 : 100 ≤ w0) (uw0 : w0 ≤ 200000000) {w1 : Int} (ew1 : h.2.2 42 17 = w1) (lw1 : 0 ≤ w1) (uw1 : w1 ≤ 200) (F0 : (b0 + w0) ≤ 200000000) {K : Int → Int × Int × Int} {q : Nat} (hI : Iv h) (hL : Lv h l0 a1) (hb : NB a3 = b0) (hK : KoR h K) (hq : 13 - a3 = q) (hN : h.2.2 42 1 ≤ 4) {M : Int} (hM : M = (7 * a3 - l0)) {d : Nat} (hd : 3 ≤ d) (rih : ∀ {G : GH} {h : JH} (g : Gd G h) {l0 : Int} (ll0 : 0 ≤ l0) (ul0 : l0 ≤ 6) {b0 : Int} (lb0 : 1 ≤ b0) (ub0 : b0 ≤ 30000000) {a1 : Int} (la1 : 0 ≤ a1) (ua1 : a1 ≤ 202) {a2 : Int} (la2 : 0 ≤ a2) (ua2 : a2 ≤ 15) {a3 : Int} (la3 : 0 ≤ a3) (ua3 : a3 ≤ 12) {w0 : Int} (ew0 : h.2.2 42 21 = w0) (lw0 : 100 ≤ w0) (uw0 : w0 ≤ 200000000) {w1 : Int} (ew1 : h.2.2 42 17 = w1) (lw1 : 0 ≤ w1) (uw1 : w1 ≤ 200) (F0 : (b0 + w0) ≤ 200000000) {K : Int → Int × Int × Int} {q : Nat} (hI : Iv h) (hL : Lv h l0 a1) (hb : NB a3 = b0) (hK : KoR h K) (hq : 13 - a3 = q) (hN : h.2.2 42 1 ≤ 4) (hm : M + 1 ≤ (7 * a3 - l0)), jOk d 0 0 272 [(2, 42), (0, a1), (0, a2), (0, a3), (0, 1)] h (fun v h' => PI G [(42, 21), (42, 22)] h 0 (-1) 200 v h' ∧ (∀ r, v = some (0, r) → 0 ≤ r → Ad h l0 a1 r) ∧ (∀ r, v = some (0, r) → RO h' w0 b0 r) ∧ (∀ r, v = some (0, r) → RdM (bR h) h' w0 (RQ h K q a2 a3 a1) r))) : jOk (d + 4) 0 0 272 [(2, 42), (0, a1), (0, a2), (0, a3), (0, 1)] h (fun v h' => PI G [(42, 21), (42, 22)] h 0 (-1) 200 v h' ∧ (∀ r, v = some (0, r) → 0 ≤ r → Ad h l0 a1 r) ∧ (∀ r, v = some (0, r) → RO h' w0 b0 r) ∧ (∀ r, v = some (0, r) → RdM (bR h) h' w0 (RQ h K q a2 a3 a1) r)) := by
  refine ⟨by decide, by rw [ml272]; exact Nat.le_of_ble_eq_true rfl, ?_⟩
  rw [ml272, pp272]
  show jEv _ none _ c272_0 0 0 _ (c272_0, [(2, 42), (0, a1), (0, a2), (0, a3), (0, 1), (9, 0), (9, 0)], [], h, 0, 0)
  have k0 := Kp.rf [(42, 21), (42, 22)] h
  refine ev_aload_n rfl ?_
  refine ev_iload_n rfl ?_
  refine ev_in (d := (d + 2)) (a := 0) (b := 0) (cd' := c264_0) (m := 2) (L0 := [(2, 42), (0, a1)]) (jcall_v (A := [(0, a1)]) (S' := []) (r := 42) rfl (g.lt ad42) (g.tg ad42) (Nat.le_of_ble_eq_true rfl)) (by decide) ml264 pp264 (Nat.le_of_ble_eq_true rfl) rfl (by decide) (by decide) ?_
  refine ev_iload_n rfl ?_
  refine ev_aload_n rfl ?_
  refine g_getv (r := 42) (v := w1) g ad42 (by decide) ft12_17 (ew1) ?_
  refine ev_icmpge f264_17 (fun c81561 => ?_) (fun c81561 => ?_)
  · refine ev_iconst ?_
    refine ev_ret rfl (by decide) (by decide) ?_
    show jEv _ _ _ _ _ _ _ (_, [(2, 42), (0, a1), (0, a2), (0, a3), (0, 1), (9, 0), (9, 0)], [(0, (-1))], _, _, _)
    refine ev_istore (L' := [(2, 42), (0, a1), (0, a2), (0, a3), (0, 1), (0, (-1)), (9, 0)]) (Nat.le_of_ble_eq_true rfl) rfl ?_
    refine ev_iload rfl ?_
    refine ev_bipush ?_
    refine ev_icmpne f272_24 (fun c81562 => ?_) (fun c81562 => absurd c81562 (by omega))
    refine ev_iload rfl ?_
    refine ev_bipush ?_
    refine ev_icmpne f272_41 (fun c81563 => ?_) (fun c81563 => absurd c81563 (by omega))
    refine ev_iload rfl ?_
    refine ev_bipush ?_
    refine ev_icmpeq f272_56 (fun c81564 => absurd c81564 (by omega)) (fun c81564 => ?_)
    refine ev_aload_n rfl ?_
    refine ev_iload_n rfl ?_
    refine ev_in (d := (d + 2)) (a := 0) (b := 0) (cd' := c265_0) (m := 2) (L0 := [(2, 42), (0, a1)]) (jcall_v (A := [(0, a1)]) (S' := []) (r := 42) rfl (g.lt ad42) (g.tg ad42) (Nat.le_of_ble_eq_true rfl)) (by decide) ml265 pp265 (Nat.le_of_ble_eq_true rfl) rfl (by decide) (by decide) ?_
    refine ev_aload_n rfl ?_
    refine ev_iload_n rfl ?_
    refine ev_in (d := (d + 1)) (a := 0) (b := 0) (cd' := c264_0) (m := 2) (L0 := [(2, 42), (0, a1)]) (jcall_v (A := [(0, a1)]) (S' := []) (r := 42) rfl (g.lt ad42) (g.tg ad42) (Nat.le_of_ble_eq_true rfl)) (by decide) ml264 pp264 (Nat.le_of_ble_eq_true rfl) rfl (by decide) (by decide) ?_
    refine ev_iload_n rfl ?_
    refine ev_aload_n rfl ?_
    refine g_getv (r := 42) (v := w1) g ad42 (by decide) ft12_17 (ew1) ?_
    refine ev_icmpge f264_17 (fun c81565 => ?_) (fun c81565 => absurd c81565 (by omega))
    refine ev_iconst ?_
    refine ev_ret rfl (by decide) (by decide) ?_
    show jEv _ _ _ _ _ _ _ (_, [(2, 42), (0, a1)], [(0, (-1))], _, _, _)
    refine ev_bipush ?_
    refine ev_bipush ?_
    refine ev_in (d := (d + 1)) (a := 0) (b := 0) (cd' := c242_0) (m := 3) (L0 := [(0, (-1)), (0, 48), (0, 57)]) (jcall_s (A := [(0, 57), (0, 48), (0, (-1))]) (S' := []) (by decide) rfl (Nat.le_of_ble_eq_true rfl)) (by decide) ml242 pp242 (Nat.le_of_ble_eq_true rfl) rfl (by decide) (by decide) ?_
    refine ev_iload_n rfl ?_
    refine ev_iload_n rfl ?_
    refine ev_icmplt f242_14 (fun c81566 => ?_) (fun c81566 => absurd c81566 (by omega))
    refine ev_iconst ?_
    refine ev_ret rfl (by decide) (by decide) ?_
    show jEv _ _ _ _ _ _ _ (_, [(2, 42), (0, a1)], [(0, 0)], _, _, _)
    refine ev_ret rfl (by decide) (by decide) ?_
    show jEv _ _ _ _ _ _ _ (_, [(2, 42), (0, a1), (0, a2), (0, a3), (0, 1), (0, (-1)), (9, 0)], [(0, 0)], _, _, _)
    refine ev_ifeq f272_64 (fun c81567 => ?_) (fun c81567 => absurd c81567 (by omega))
    refine ev_iload rfl ?_
    refine ev_bipush ?_
    refine ev_isub (r := (-66)) (by decide) ?_
    refine ev_istore (L' := [(2, 42), (0, a1), (0, a2), (0, a3), (0, 1), (0, (-1)), (0, (-66))]) (Nat.le_of_ble_eq_true rfl) rfl ?_
    refine ev_iload rfl ?_
    refine ev_iconst ?_
    refine ev_aload_n rfl ?_
    obtain ⟨v81568, ev81568, lv81568, uv81568⟩ := g.rd ad42 (show 19 < 66 by decide) rf42_19
    refine g_getv (r := 42) (v := v81568) g ad42 (by decide) ft12_19 ev81568 ?_
    refine ev_iconst ?_
    refine ev_isub (r := (v81568 - 1)) (by unfold w32; omega) ?_
    refine ev_in (d := (d + 2)) (a := 0) (b := 0) (cd' := c242_0) (m := 3) (L0 := [(0, (-66)), (0, 0), (0, (v81568 - 1))]) (jcall_s (A := [(0, (v81568 - 1)), (0, 0), (0, (-66))]) (S' := []) (by decide) rfl (Nat.le_of_ble_eq_true rfl)) (by decide) ml242 pp242 (Nat.le_of_ble_eq_true rfl) rfl (by decide) (by decide) ?_
    refine ev_iload_n rfl ?_
    refine ev_iload_n rfl ?_
    refine ev_icmplt f242_14 (fun c81569 => ?_) (fun c81569 => absurd c81569 (by omega))
    refine ev_iconst ?_
    refine ev_ret rfl (by decide) (by decide) ?_
    show jEv _ _ _ _ _ _ _ (_, [(2, 42), (0, a1), (0, a2), (0, a3), (0, 1), (0, (-1)), (0, (-66))], [(0, 0)], _, _, _)
    refine ev_ifne f272_92 (fun c81570 => absurd c81570 (by omega)) (fun c81570 => ?_)
    refine ev_aload_n rfl ?_
    refine ev_iload_n rfl ?_
    refine ev_in (d := (d + 2)) (a := 0) (b := 0) (cd' := c266_0) (m := 2) (L0 := [(2, 42), (0, a1)]) (jcall_v (A := [(0, a1)]) (S' := []) (r := 42) rfl (g.lt ad42) (g.tg ad42) (Nat.le_of_ble_eq_true rfl)) (by decide) ml266 pp266 (Nat.le_of_ble_eq_true rfl) rfl (by decide) (by decide) ?_
    refine ev_aload_n rfl ?_
    refine ev_iload_n rfl ?_
    refine g_putf (r := 42) g ad42 (by decide) ft12_20 (by decide) (fun e => absurd e nz12_20) rf42_20 (by decide) (by omega) (by omega) (fun h81571 e81571 g81571 => ?_)
    have k81571 := k0.wr e81571 rfl
    refine ev_iconst ?_
    refine ev_ret rfl (by decide) (by decide) ?_
    show jEv _ _ _ _ _ _ _ (_, [(2, 42), (0, a1), (0, a2), (0, a3), (0, 1), (0, (-1)), (0, (-66))], [(0, (-1))], _, _, _)
    exact ev_ret rfl (by decide) (by decide) ⟨⟨_, rfl, by omega, by omega, g81571, k81571⟩, fun r hr h0 => by cases hr; exfalso; omega, fun r hr => by cases hr; exact ⟨_, (((jw_ne e81571 (Or.inr (by decide))).trans ew0)), by omega, by omega, fun h0 => by exfalso; omega⟩, fun r hr => by cases hr; exact (Bd.M (bd_rF (p := a1) (nocap (by omega) (by omega) (bR_end (p := a1) ew1 (by omega)) (by omega) (by omega) (by omega) (by omega) (by rw [(show h.2.2 42 19 = v81568 from (k81571.v rfl).symm.trans (((jw_ne e81571 (Or.inr (by decide))).trans ev81568)))]; omega)) (by omega) (by omega)) ((jw_eq e81571)))⟩
  · refine ev_aload_n rfl ?_
    refine g_getp (r := 42) (c := 54) g ad42 (by decide) (by decide) rf42_16 ft12_16 ?_
    refine ev_iload_n rfl ?_
    refine g_bald g ad54 rt54 (by omega) (by omega) (fun v81572 ev81572 lv81572 uv81572 => ?_)
    refine ev_goto f264_18 ?_
    refine ev_ret rfl (by decide) (by decide) ?_
    show jEv _ _ _ _ _ _ _ (_, [(2, 42), (0, a1), (0, a2), (0, a3), (0, 1), (9, 0), (9, 0)], [(0, v81572)], _, _, _)
    refine ev_istore (L' := [(2, 42), (0, a1), (0, a2), (0, a3), (0, 1), (0, v81572), (9, 0)]) (Nat.le_of_ble_eq_true rfl) rfl ?_
    refine ev_iload rfl ?_
    refine ev_bipush ?_
    refine ev_icmpne f272_24 (fun c81573 => ?_) (fun c81573 => ?_)
    · refine ev_iload rfl ?_
      refine ev_bipush ?_
      refine ev_icmpne f272_41 (fun c81574 => ?_) (fun c81574 => ?_)
      · refine ev_iload rfl ?_
        refine ev_bipush ?_
        refine ev_icmpeq f272_56 (fun c81575 => ?_) (fun c81575 => ?_)
        · refine ev_aload_n rfl ?_
          refine ev_iload_n rfl ?_
          refine ev_iload rfl ?_
          refine ev_call (jcall_v (A := [(0, 1), (0, a1)]) (S' := []) (r := 42) rfl (g.lt ad42) (g.tg ad42) (Nat.le_of_ble_eq_true rfl)) (jOk_le (by omega) (t269o g (by omega) (by omega) (by omega) (by omega) (by omega) (by omega) (ew0) (by omega) (by omega) (ew1) (by omega) (by omega) (l0 := l0) (b0 := b0) (by omega) )) (by decide) (by decide) (fun w81576 h81576 q81576 => ?_)
          obtain ⟨q81576, ad81576, ro81576, nr81576⟩ := q81576
          obtain ⟨v81577, rfl, lv81577, uv81577, g81576, kk81576⟩ := q81576
          have ad81576 := ad81576 _ rfl
          have nr81576 := nr81576 _ rfl
          obtain ⟨m81578, em81578, lm81578, um81578, pm81576⟩ := ro81576 _ rfl
          have k81576 := k0.tr kk81576 (by decide)
          show jEv _ _ _ _ _ _ _ (_, [(2, 42), (0, a1), (0, a2), (0, a3), (0, 1), (0, v81572), (9, 0)], [(0, v81577)], _, _, _)
          exact ev_ret rfl (by decide) (by decide) ⟨⟨_, rfl, by omega, by omega, g81576, k81576⟩, fun r hr h0 => by cases hr; exact ad81576 h0, fun r hr => by cases hr; exact ⟨_, (em81578), by omega, by omega, fun h0 => by have := pm81576 (by omega); omega⟩, fun r hr => by cases hr; exact (show _ from by rw [show (RQ h K q a2 a3 a1) = _ from ((((rd_s (B := bR h) (N := h.2.2 42 1) (Y := yR h) (m := h.2.2 42 19) (K := K) (q := q) (by omega) a2 a3 a1).trans (if_neg (fun z => absurd ((bR_at (p := a1) k81576 (fun _ => rfl) ew1 (((kk81576.v rfl).trans ev81572)) (by omega) (by omega)).symm.trans z) (by omega)))).trans (if_neg (fun z => absurd ((bR_at (p := a1) k81576 (fun _ => rfl) ew1 (((kk81576.v rfl).trans ev81572)) (by omega) (by omega)).symm.trans z) (by omega)))).trans (if_neg (fun z => by rw [(bR_at (p := a1) k81576 (fun _ => rfl) ew1 (((kk81576.v rfl).trans ev81572)) (by omega) (by omega))] at z; omega)))]; exact nr81576)⟩
        · refine ev_aload_n rfl ?_
          refine ev_iload_n rfl ?_
          refine ev_in (d := (d + 2)) (a := 0) (b := 0) (cd' := c265_0) (m := 2) (L0 := [(2, 42), (0, a1)]) (jcall_v (A := [(0, a1)]) (S' := []) (r := 42) rfl (g.lt ad42) (g.tg ad42) (Nat.le_of_ble_eq_true rfl)) (by decide) ml265 pp265 (Nat.le_of_ble_eq_true rfl) rfl (by decide) (by decide) ?_
          refine ev_aload_n rfl ?_
          refine ev_iload_n rfl ?_
          refine ev_in (d := (d + 1)) (a := 0) (b := 0) (cd' := c264_0) (m := 2) (L0 := [(2, 42), (0, a1)]) (jcall_v (A := [(0, a1)]) (S' := []) (r := 42) rfl (g.lt ad42) (g.tg ad42) (Nat.le_of_ble_eq_true rfl)) (by decide) ml264 pp264 (Nat.le_of_ble_eq_true rfl) rfl (by decide) (by decide) ?_
          refine ev_iload_n rfl ?_
          refine ev_aload_n rfl ?_
          refine g_getv (r := 42) (v := w1) g ad42 (by decide) ft12_17 (ew1) ?_
          refine ev_icmpge f264_17 (fun c81579 => absurd c81579 (by omega)) (fun c81579 => ?_)
          refine ev_aload_n rfl ?_
          refine g_getp (r := 42) (c := 54) g ad42 (by decide) (by decide) rf42_16 ft12_16 ?_
          refine ev_iload_n rfl ?_
          refine g_baldv (v := v81572) g ad54 (by omega) (by omega) (ev81572) ?_
          refine ev_goto f264_18 ?_
          refine ev_ret rfl (by decide) (by decide) ?_
          show jEv _ _ _ _ _ _ _ (_, [(2, 42), (0, a1)], [(0, v81572)], _, _, _)
          refine ev_bipush ?_
          refine ev_bipush ?_
          refine ev_in (d := (d + 1)) (a := 0) (b := 0) (cd' := c242_0) (m := 3) (L0 := [(0, v81572), (0, 48), (0, 57)]) (jcall_s (A := [(0, 57), (0, 48), (0, v81572)]) (S' := []) (by decide) rfl (Nat.le_of_ble_eq_true rfl)) (by decide) ml242 pp242 (Nat.le_of_ble_eq_true rfl) rfl (by decide) (by decide) ?_
          refine ev_iload_n rfl ?_
          refine ev_iload_n rfl ?_
          refine ev_icmplt f242_14 (fun c81580 => ?_) (fun c81580 => ?_)
          · refine ev_iconst ?_
            refine ev_ret rfl (by decide) (by decide) ?_
            show jEv _ _ _ _ _ _ _ (_, [(2, 42), (0, a1)], [(0, 0)], _, _, _)
            refine ev_ret rfl (by decide) (by decide) ?_
            show jEv _ _ _ _ _ _ _ (_, [(2, 42), (0, a1), (0, a2), (0, a3), (0, 1), (0, v81572), (9, 0)], [(0, 0)], _, _, _)
            refine ev_ifeq f272_64 (fun c81581 => ?_) (fun c81581 => absurd c81581 (by omega))
            refine ev_iload rfl ?_
            refine ev_bipush ?_
            refine ev_isub (r := (v81572 - 65)) (by unfold w32; omega) ?_
            refine ev_istore (L' := [(2, 42), (0, a1), (0, a2), (0, a3), (0, 1), (0, v81572), (0, (v81572 - 65))]) (Nat.le_of_ble_eq_true rfl) rfl ?_
            refine ev_iload rfl ?_
            refine ev_iconst ?_
            refine ev_aload_n rfl ?_
            obtain ⟨v81582, ev81582, lv81582, uv81582⟩ := g.rd ad42 (show 19 < 66 by decide) rf42_19
            refine g_getv (r := 42) (v := v81582) g ad42 (by decide) ft12_19 ev81582 ?_
            refine ev_iconst ?_
            refine ev_isub (r := (v81582 - 1)) (by unfold w32; omega) ?_
            refine ev_in (d := (d + 2)) (a := 0) (b := 0) (cd' := c242_0) (m := 3) (L0 := [(0, (v81572 - 65)), (0, 0), (0, (v81582 - 1))]) (jcall_s (A := [(0, (v81582 - 1)), (0, 0), (0, (v81572 - 65))]) (S' := []) (by decide) rfl (Nat.le_of_ble_eq_true rfl)) (by decide) ml242 pp242 (Nat.le_of_ble_eq_true rfl) rfl (by decide) (by decide) ?_
            refine ev_iload_n rfl ?_
            refine ev_iload_n rfl ?_
            refine ev_icmplt f242_14 (fun c81583 => ?_) (fun c81583 => absurd c81583 (by omega))
            refine ev_iconst ?_
            refine ev_ret rfl (by decide) (by decide) ?_
            show jEv _ _ _ _ _ _ _ (_, [(2, 42), (0, a1), (0, a2), (0, a3), (0, 1), (0, v81572), (0, (v81572 - 65))], [(0, 0)], _, _, _)
            refine ev_ifne f272_92 (fun c81584 => absurd c81584 (by omega)) (fun c81584 => ?_)
            refine ev_aload_n rfl ?_
            refine ev_iload_n rfl ?_
            refine ev_in (d := (d + 2)) (a := 0) (b := 0) (cd' := c266_0) (m := 2) (L0 := [(2, 42), (0, a1)]) (jcall_v (A := [(0, a1)]) (S' := []) (r := 42) rfl (g.lt ad42) (g.tg ad42) (Nat.le_of_ble_eq_true rfl)) (by decide) ml266 pp266 (Nat.le_of_ble_eq_true rfl) rfl (by decide) (by decide) ?_
            refine ev_aload_n rfl ?_
            refine ev_iload_n rfl ?_
            refine g_putf (r := 42) g ad42 (by decide) ft12_20 (by decide) (fun e => absurd e nz12_20) rf42_20 (by decide) (by omega) (by omega) (fun h81585 e81585 g81585 => ?_)
            have k81585 := k0.wr e81585 rfl
            refine ev_iconst ?_
            refine ev_ret rfl (by decide) (by decide) ?_
            show jEv _ _ _ _ _ _ _ (_, [(2, 42), (0, a1), (0, a2), (0, a3), (0, 1), (0, v81572), (0, (v81572 - 65))], [(0, (-1))], _, _, _)
            exact ev_ret rfl (by decide) (by decide) ⟨⟨_, rfl, by omega, by omega, g81585, k81585⟩, fun r hr h0 => by cases hr; exfalso; omega, fun r hr => by cases hr; exact ⟨_, (((jw_ne e81585 (Or.inr (by decide))).trans ew0)), by omega, by omega, fun h0 => by exfalso; omega⟩, fun r hr => by cases hr; exact (Bd.M (bd_rF (p := a1) (nocap (by omega) (by omega) (bR_at (p := a1) k81585 (fun _ => rfl) ew1 (((jw_ne e81585 (Or.inl (by decide))).trans ev81572)) (by omega) (by omega)) (by omega) (by omega) (by omega) (by omega) (by rw [(show h.2.2 42 19 = v81582 from (k81585.v rfl).symm.trans (((jw_ne e81585 (Or.inr (by decide))).trans ev81582)))]; omega)) (by omega) (by omega)) ((jw_eq e81585)))⟩
          · refine ev_iload_n rfl ?_
            refine ev_iload_n rfl ?_
            refine ev_icmpgt f242_14 (fun c81586 => ?_) (fun c81586 => ?_)
            · refine ev_iconst ?_
              refine ev_ret rfl (by decide) (by decide) ?_
              show jEv _ _ _ _ _ _ _ (_, [(2, 42), (0, a1)], [(0, 0)], _, _, _)
              refine ev_ret rfl (by decide) (by decide) ?_
              show jEv _ _ _ _ _ _ _ (_, [(2, 42), (0, a1), (0, a2), (0, a3), (0, 1), (0, v81572), (9, 0)], [(0, 0)], _, _, _)
              refine ev_ifeq f272_64 (fun c81587 => ?_) (fun c81587 => absurd c81587 (by omega))
              refine ev_iload rfl ?_
              refine ev_bipush ?_
              refine ev_isub (r := (v81572 - 65)) (by unfold w32; omega) ?_
              refine ev_istore (L' := [(2, 42), (0, a1), (0, a2), (0, a3), (0, 1), (0, v81572), (0, (v81572 - 65))]) (Nat.le_of_ble_eq_true rfl) rfl ?_
              refine ev_iload rfl ?_
              refine ev_iconst ?_
              refine ev_aload_n rfl ?_
              obtain ⟨v81588, ev81588, lv81588, uv81588⟩ := g.rd ad42 (show 19 < 66 by decide) rf42_19
              refine g_getv (r := 42) (v := v81588) g ad42 (by decide) ft12_19 ev81588 ?_
              refine ev_iconst ?_
              refine ev_isub (r := (v81588 - 1)) (by unfold w32; omega) ?_
              refine ev_in (d := (d + 2)) (a := 0) (b := 0) (cd' := c242_0) (m := 3) (L0 := [(0, (v81572 - 65)), (0, 0), (0, (v81588 - 1))]) (jcall_s (A := [(0, (v81588 - 1)), (0, 0), (0, (v81572 - 65))]) (S' := []) (by decide) rfl (Nat.le_of_ble_eq_true rfl)) (by decide) ml242 pp242 (Nat.le_of_ble_eq_true rfl) rfl (by decide) (by decide) ?_
              refine ev_iload_n rfl ?_
              refine ev_iload_n rfl ?_
              refine ev_icmplt f242_14 (fun c81589 => ?_) (fun c81589 => ?_)
              · refine ev_iconst ?_
                refine ev_ret rfl (by decide) (by decide) ?_
                show jEv _ _ _ _ _ _ _ (_, [(2, 42), (0, a1), (0, a2), (0, a3), (0, 1), (0, v81572), (0, (v81572 - 65))], [(0, 0)], _, _, _)
                refine ev_ifne f272_92 (fun c81590 => absurd c81590 (by omega)) (fun c81590 => ?_)
                refine ev_aload_n rfl ?_
                refine ev_iload_n rfl ?_
                refine ev_in (d := (d + 2)) (a := 0) (b := 0) (cd' := c266_0) (m := 2) (L0 := [(2, 42), (0, a1)]) (jcall_v (A := [(0, a1)]) (S' := []) (r := 42) rfl (g.lt ad42) (g.tg ad42) (Nat.le_of_ble_eq_true rfl)) (by decide) ml266 pp266 (Nat.le_of_ble_eq_true rfl) rfl (by decide) (by decide) ?_
                refine ev_aload_n rfl ?_
                refine ev_iload_n rfl ?_
                refine g_putf (r := 42) g ad42 (by decide) ft12_20 (by decide) (fun e => absurd e nz12_20) rf42_20 (by decide) (by omega) (by omega) (fun h81591 e81591 g81591 => ?_)
                have k81591 := k0.wr e81591 rfl
                refine ev_iconst ?_
                refine ev_ret rfl (by decide) (by decide) ?_
                show jEv _ _ _ _ _ _ _ (_, [(2, 42), (0, a1), (0, a2), (0, a3), (0, 1), (0, v81572), (0, (v81572 - 65))], [(0, (-1))], _, _, _)
                exact ev_ret rfl (by decide) (by decide) ⟨⟨_, rfl, by omega, by omega, g81591, k81591⟩, fun r hr h0 => by cases hr; exfalso; omega, fun r hr => by cases hr; exact ⟨_, (((jw_ne e81591 (Or.inr (by decide))).trans ew0)), by omega, by omega, fun h0 => by exfalso; omega⟩, fun r hr => by cases hr; exact (Bd.M (bd_rF (p := a1) (nocap (by omega) (by omega) (bR_at (p := a1) k81591 (fun _ => rfl) ew1 (((jw_ne e81591 (Or.inl (by decide))).trans ev81572)) (by omega) (by omega)) (by omega) (by omega) (by omega) (by omega) (by rw [(show h.2.2 42 19 = v81588 from (k81591.v rfl).symm.trans (((jw_ne e81591 (Or.inr (by decide))).trans ev81588)))]; omega)) (by omega) (by omega)) ((jw_eq e81591)))⟩
              · refine ev_iload_n rfl ?_
                refine ev_iload_n rfl ?_
                refine ev_icmpgt f242_14 (fun c81592 => ?_) (fun c81592 => ?_)
                · refine ev_iconst ?_
                  refine ev_ret rfl (by decide) (by decide) ?_
                  show jEv _ _ _ _ _ _ _ (_, [(2, 42), (0, a1), (0, a2), (0, a3), (0, 1), (0, v81572), (0, (v81572 - 65))], [(0, 0)], _, _, _)
                  refine ev_ifne f272_92 (fun c81593 => absurd c81593 (by omega)) (fun c81593 => ?_)
                  refine ev_aload_n rfl ?_
                  refine ev_iload_n rfl ?_
                  refine ev_in (d := (d + 2)) (a := 0) (b := 0) (cd' := c266_0) (m := 2) (L0 := [(2, 42), (0, a1)]) (jcall_v (A := [(0, a1)]) (S' := []) (r := 42) rfl (g.lt ad42) (g.tg ad42) (Nat.le_of_ble_eq_true rfl)) (by decide) ml266 pp266 (Nat.le_of_ble_eq_true rfl) rfl (by decide) (by decide) ?_
                  refine ev_aload_n rfl ?_
                  refine ev_iload_n rfl ?_
                  refine g_putf (r := 42) g ad42 (by decide) ft12_20 (by decide) (fun e => absurd e nz12_20) rf42_20 (by decide) (by omega) (by omega) (fun h81594 e81594 g81594 => ?_)
                  have k81594 := k0.wr e81594 rfl
                  refine ev_iconst ?_
                  refine ev_ret rfl (by decide) (by decide) ?_
                  show jEv _ _ _ _ _ _ _ (_, [(2, 42), (0, a1), (0, a2), (0, a3), (0, 1), (0, v81572), (0, (v81572 - 65))], [(0, (-1))], _, _, _)
                  exact ev_ret rfl (by decide) (by decide) ⟨⟨_, rfl, by omega, by omega, g81594, k81594⟩, fun r hr h0 => by cases hr; exfalso; omega, fun r hr => by cases hr; exact ⟨_, (((jw_ne e81594 (Or.inr (by decide))).trans ew0)), by omega, by omega, fun h0 => by exfalso; omega⟩, fun r hr => by cases hr; exact (Bd.M (bd_rF (p := a1) (nocap (by omega) (by omega) (bR_at (p := a1) k81594 (fun _ => rfl) ew1 (((jw_ne e81594 (Or.inl (by decide))).trans ev81572)) (by omega) (by omega)) (by omega) (by omega) (by omega) (by omega) (by rw [(show h.2.2 42 19 = v81588 from (k81594.v rfl).symm.trans (((jw_ne e81594 (Or.inr (by decide))).trans ev81588)))]; omega)) (by omega) (by omega)) ((jw_eq e81594)))⟩
                · refine ev_iconst ?_
                  refine ev_goto f242_15 ?_
                  refine ev_ret rfl (by decide) (by decide) ?_
                  show jEv _ _ _ _ _ _ _ (_, [(2, 42), (0, a1), (0, a2), (0, a3), (0, 1), (0, v81572), (0, (v81572 - 65))], [(0, 1)], _, _, _)
                  refine ev_ifne f272_92 (fun c81595 => ?_) (fun c81595 => absurd c81595 (by omega))
                  have zc81596 := Lv.cap hL (by omega) (ev81572) (ev81588) (by omega) (by omega)
                  refine ev_aload_n rfl ?_
                  refine ev_aload_n rfl ?_
                  refine g_getp (r := 42) (c := 55) g ad42 (by decide) (by decide) rf42_18 ft12_18 ?_
                  refine ev_iload rfl ?_
                  refine g_iald g ad55 rt55 (by omega) (by omega) (fun v81597 ev81597 lv81597 uv81597 => ?_)
                  refine ev_iload_n rfl ?_
                  refine ev_iload_n rfl ?_
                  refine ev_iload rfl ?_
                  refine ev_call (jcall_v (A := [(0, 1), (0, a3), (0, a2), (0, v81597)]) (S' := []) (r := 42) rfl (g.lt ad42) (g.tg ad42) (Nat.le_of_ble_eq_true rfl)) (jOk_le (by omega) (rih g (by omega) (by omega) (by omega) (by omega) (by omega) (by omega) (by omega) (by omega) (by omega) (by omega) (ew0) (by omega) (by omega) (ew1) (by omega) (by omega) (l0 := (v81572 - 65)) (b0 := b0) (by omega) hI (Iv.lv hI (by omega) (ev81588) (by omega) (by omega) (ev81597)) hb (K := K) (q := q) hK hq hN (by omega))) (by decide) (by decide) (fun w81598 h81598 q81598 => ?_)
                  obtain ⟨q81598, ad81598, ro81598, nr81598⟩ := q81598
                  obtain ⟨v81599, rfl, lv81599, uv81599, g81598, kk81598⟩ := q81598
                  have ad81598 := ad81598 _ rfl
                  have nr81598 := nr81598 _ rfl
                  obtain ⟨m81600, em81600, lm81600, um81600, pm81598⟩ := ro81598 _ rfl
                  have k81598 := k0.tr kk81598 (by decide)
                  show jEv _ _ _ _ _ _ _ (_, [(2, 42), (0, a1), (0, a2), (0, a3), (0, 1), (0, v81572), (0, (v81572 - 65))], [(0, v81599)], _, _, _)
                  refine ev_ifge f272_116 (fun c81601 => ?_) (fun c81601 => ?_)
                  · refine ev_iload_n rfl ?_
                    refine ev_iconst ?_
                    refine ev_iadd (r := (a1 + 1)) (by unfold w32; omega) ?_
                    exact ev_ret rfl (by decide) (by decide) ⟨⟨_, rfl, by omega, by omega, g81598, k81598⟩, fun r hr h0 => by cases hr; exact (Ad.step (r' := (a1 + 1)) (Ad.rf _ _ _) (by omega) k81598 (fun _ => rfl) (((kk81598.v rfl).trans ev81572)) (by omega) (by omega) (by omega)), fun r hr => by cases hr; exact ⟨_, (em81600), by omega, by omega, fun h0 => by have := pm81598 (by omega); omega⟩, fun r hr => by cases hr; exact okM (((((rd_s (B := bR h) (N := h.2.2 42 1) (Y := yR h) (m := h.2.2 42 19) (K := K) (q := q) (by omega) a2 a3 a1).trans (if_neg (fun z => absurd ((bR_at (p := a1) k81598 (fun _ => rfl) ew1 (((kk81598.v rfl).trans ev81572)) (by omega) (by omega)).symm.trans z) (by omega)))).trans (if_neg (fun z => absurd ((bR_at (p := a1) k81598 (fun _ => rfl) ew1 (((kk81598.v rfl).trans ev81572)) (by omega) (by omega)).symm.trans z) (by omega)))).trans (if_pos ⟨by rw [(bR_at (p := a1) k81598 (fun _ => rfl) ew1 (((kk81598.v rfl).trans ev81572)) (by omega) (by omega))]; omega, by rw [(bR_at (p := a1) k81598 (fun _ => rfl) ew1 (((kk81598.v rfl).trans ev81572)) (by omega) (by omega))]; omega⟩)).trans ((by rw [show bR h a1 - 65 = (v81572 - 65) by rw [(bR_at (p := a1) k81598 (fun _ => rfl) ew1 (((kk81598.v rfl).trans ev81572)) (by omega) (by omega))] <;> omega] : _ = cpR (h.2.2 42 19) K a2 a3 a1 ((v81572 - 65))).trans (cap_F (r := a1 + 1) hK hN (by omega) (by rw [show h.2.2 42 19 = v81588 from (k81598.v rfl).symm.trans (((kk81598.v (by decide)).trans ev81588))]; omega) (show h.2.2 55 ((v81572 - 65)).toNat = v81597 from ((k81598.v rfl).symm.trans (((kk81598.v rfl).trans ev81597)))) (by omega) (by omega) (by omega) (by omega) (by omega) (by omega) (by omega) (nr81598.ok (by omega)).1 rfl).1)) (by omega) (by omega) (em81600) (by have z := (nr81598.ok (by omega)).2.2; rw [em81600, (cap_F (r := a1 + 1) hK hN (by omega) (by rw [show h.2.2 42 19 = v81588 from (k81598.v rfl).symm.trans (((kk81598.v (by decide)).trans ev81588))]; omega) (show h.2.2 55 ((v81572 - 65)).toNat = v81597 from ((k81598.v rfl).symm.trans (((kk81598.v rfl).trans ev81597)))) (by omega) (by omega) (by omega) (by omega) (by omega) (by omega) (by omega) (nr81598.ok (by omega)).1 rfl).2] at z; exact z)⟩
                  · refine ev_aload_n rfl ?_
                    refine ev_iload_n rfl ?_
                    refine ev_in (d := (d + 2)) (a := 0) (b := 0) (cd' := c266_0) (m := 2) (L0 := [(2, 42), (0, a1)]) (jcall_v (A := [(0, a1)]) (S' := []) (r := 42) rfl (g81598.lt ad42) (g81598.tg ad42) (Nat.le_of_ble_eq_true rfl)) (by decide) ml266 pp266 (Nat.le_of_ble_eq_true rfl) rfl (by decide) (by decide) ?_
                    refine ev_aload_n rfl ?_
                    refine ev_iload_n rfl ?_
                    refine g_putf (r := 42) g81598 ad42 (by decide) ft12_20 (by decide) (fun e => absurd e nz12_20) rf42_20 (by decide) (by omega) (by omega) (fun h81602 e81602 g81602 => ?_)
                    have k81602 := k81598.wr e81602 rfl
                    refine ev_iconst ?_
                    refine ev_ret rfl (by decide) (by decide) ?_
                    show jEv _ _ _ _ _ _ _ (_, [(2, 42), (0, a1), (0, a2), (0, a3), (0, 1), (0, v81572), (0, (v81572 - 65))], [(0, (-1))], _, _, _)
                    exact ev_ret rfl (by decide) (by decide) ⟨⟨_, rfl, by omega, by omega, g81602, k81602⟩, fun r hr h0 => by cases hr; exfalso; omega, fun r hr => by cases hr; exact ⟨_, (((jw_ne e81602 (Or.inr (by decide))).trans em81600)), by omega, by omega, fun h0 => by exfalso; omega⟩, fun r hr => by cases hr; exact (Bd.M (bd_to (((((rd_s (B := bR h) (N := h.2.2 42 1) (Y := yR h) (m := h.2.2 42 19) (K := K) (q := q) (by omega) a2 a3 a1).trans (if_neg (fun z => absurd ((bR_at (p := a1) k81602 (fun _ => rfl) ew1 (((jw_ne e81602 (Or.inl (by decide))).trans ((kk81598.v rfl).trans ev81572))) (by omega) (by omega)).symm.trans z) (by omega)))).trans (if_neg (fun z => absurd ((bR_at (p := a1) k81602 (fun _ => rfl) ew1 (((jw_ne e81602 (Or.inl (by decide))).trans ((kk81598.v rfl).trans ev81572))) (by omega) (by omega)).symm.trans z) (by omega)))).trans (if_pos ⟨by rw [(bR_at (p := a1) k81602 (fun _ => rfl) ew1 (((jw_ne e81602 (Or.inl (by decide))).trans ((kk81598.v rfl).trans ev81572))) (by omega) (by omega))]; omega, by rw [(bR_at (p := a1) k81602 (fun _ => rfl) ew1 (((jw_ne e81602 (Or.inl (by decide))).trans ((kk81598.v rfl).trans ev81572))) (by omega) (by omega))]; omega⟩)).trans (by rw [show bR h a1 - 65 = (v81572 - 65) by rw [(bR_at (p := a1) k81602 (fun _ => rfl) ew1 (((jw_ne e81602 (Or.inl (by decide))).trans ((kk81598.v rfl).trans ev81572))) (by omega) (by omega))] <;> omega])) (cap_bd hK hN (by omega) (by rw [show h.2.2 42 19 = v81588 from (k81602.v rfl).symm.trans (((jw_ne e81602 (Or.inr (by decide))).trans ((kk81598.v (by decide)).trans ev81588)))]; omega) (show h.2.2 55 ((v81572 - 65)).toNat = v81597 from ((k81602.v rfl).symm.trans (((jw_ne e81602 (Or.inl (by decide))).trans ((kk81598.v rfl).trans ev81597))))) (by omega) (by omega) (by omega) (by omega) (by omega) (by omega) (by omega) (nr81598.bd (by omega)) (by omega))) ((jw_eq e81602)))⟩
            · refine ev_iconst ?_
              refine ev_goto f242_15 ?_
              refine ev_ret rfl (by decide) (by decide) ?_
              show jEv _ _ _ _ _ _ _ (_, [(2, 42), (0, a1)], [(0, 1)], _, _, _)
              refine ev_ret rfl (by decide) (by decide) ?_
              show jEv _ _ _ _ _ _ _ (_, [(2, 42), (0, a1), (0, a2), (0, a3), (0, 1), (0, v81572), (9, 0)], [(0, 1)], _, _, _)
              refine ev_ifeq f272_64 (fun c81603 => absurd c81603 (by omega)) (fun c81603 => ?_)
              refine ev_aload_n rfl ?_
              refine ev_iload_n rfl ?_
              refine ev_iload rfl ?_
              refine ev_call (jcall_v (A := [(0, 1), (0, a1)]) (S' := []) (r := 42) rfl (g.lt ad42) (g.tg ad42) (Nat.le_of_ble_eq_true rfl)) (jOk_le (by omega) (t269o g (by omega) (by omega) (by omega) (by omega) (by omega) (by omega) (ew0) (by omega) (by omega) (ew1) (by omega) (by omega) (l0 := l0) (b0 := b0) (by omega) )) (by decide) (by decide) (fun w81604 h81604 q81604 => ?_)
              obtain ⟨q81604, ad81604, ro81604, nr81604⟩ := q81604
              obtain ⟨v81605, rfl, lv81605, uv81605, g81604, kk81604⟩ := q81604
              have ad81604 := ad81604 _ rfl
              have nr81604 := nr81604 _ rfl
              obtain ⟨m81606, em81606, lm81606, um81606, pm81604⟩ := ro81604 _ rfl
              have k81604 := k0.tr kk81604 (by decide)
              show jEv _ _ _ _ _ _ _ (_, [(2, 42), (0, a1), (0, a2), (0, a3), (0, 1), (0, v81572), (9, 0)], [(0, v81605)], _, _, _)
              exact ev_ret rfl (by decide) (by decide) ⟨⟨_, rfl, by omega, by omega, g81604, k81604⟩, fun r hr h0 => by cases hr; exact ad81604 h0, fun r hr => by cases hr; exact ⟨_, (em81606), by omega, by omega, fun h0 => by have := pm81604 (by omega); omega⟩, fun r hr => by cases hr; exact (show _ from by rw [show (RQ h K q a2 a3 a1) = _ from ((((rd_s (B := bR h) (N := h.2.2 42 1) (Y := yR h) (m := h.2.2 42 19) (K := K) (q := q) (by omega) a2 a3 a1).trans (if_neg (fun z => absurd ((bR_at (p := a1) k81604 (fun _ => rfl) ew1 (((kk81604.v rfl).trans ev81572)) (by omega) (by omega)).symm.trans z) (by omega)))).trans (if_neg (fun z => absurd ((bR_at (p := a1) k81604 (fun _ => rfl) ew1 (((kk81604.v rfl).trans ev81572)) (by omega) (by omega)).symm.trans z) (by omega)))).trans (if_neg (fun z => by rw [(bR_at (p := a1) k81604 (fun _ => rfl) ew1 (((kk81604.v rfl).trans ev81572)) (by omega) (by omega))] at z; omega)))]; exact nr81604)⟩
      · refine ev_aload_n rfl ?_
        refine ev_iload_n rfl ?_
        refine ev_iload_n rfl ?_
        refine ev_iload_n rfl ?_
        refine ev_iload rfl ?_
        refine ev_call (jcall_v (A := [(0, 1), (0, a3), (0, a2), (0, a1)]) (S' := []) (r := 42) rfl (g.lt ad42) (g.tg ad42) (Nat.le_of_ble_eq_true rfl)) (jOk_le (by omega) (t271o_s g (by omega) (by omega) (by omega) (by omega) (by omega) (by omega) (by omega) (by omega) (by omega) (by omega) (ew0) (by omega) (by omega) (ew1) (by omega) (by omega) (l0 := l0) (b0 := b0) (by omega) hI hL hb (K := K) (q := q) hK hq hN (by rw [(ev81572)]; omega)  hM (by omega) rih)) (by decide) (by decide) (fun w81607 h81607 q81607 => ?_)
        obtain ⟨q81607, ad81607, ro81607, nr81607⟩ := q81607
        obtain ⟨v81608, rfl, lv81608, uv81608, g81607, kk81607⟩ := q81607
        have ad81607 := ad81607 _ rfl
        have nr81607 := nr81607 _ rfl
        obtain ⟨m81609, em81609, lm81609, um81609, pm81607⟩ := ro81607 _ rfl
        have k81607 := k0.tr kk81607 (by decide)
        show jEv _ _ _ _ _ _ _ (_, [(2, 42), (0, a1), (0, a2), (0, a3), (0, 1), (0, v81572), (9, 0)], [(0, v81608)], _, _, _)
        exact ev_ret rfl (by decide) (by decide) ⟨⟨_, rfl, by omega, by omega, g81607, k81607⟩, fun r hr h0 => by cases hr; exact ad81607 h0, fun r hr => by cases hr; exact ⟨_, (em81609), by omega, by omega, fun h0 => by have := pm81607 (by omega); omega⟩, fun r hr => by cases hr; exact (show _ from by rw [show (RQ h K q a2 a3 a1) = _ from (((rd_s (B := bR h) (N := h.2.2 42 1) (Y := yR h) (m := h.2.2 42 19) (K := K) (q := q) (by omega) a2 a3 a1).trans (if_neg (fun z => absurd ((bR_at (p := a1) k81607 (fun _ => rfl) ew1 (((kk81607.v rfl).trans ev81572)) (by omega) (by omega)).symm.trans z) (by omega)))).trans (if_pos ((bR_at (p := a1) k81607 (fun _ => rfl) ew1 (((kk81607.v rfl).trans ev81572)) (by omega) (by omega)).trans (by omega))))]; exact nr81607)⟩
    · refine ev_aload_n rfl ?_
      refine ev_iload_n rfl ?_
      refine ev_iload_n rfl ?_
      refine ev_iload_n rfl ?_
      refine ev_iload rfl ?_
      refine ev_call (jcall_v (A := [(0, 1), (0, a3), (0, a2), (0, a1)]) (S' := []) (r := 42) rfl (g.lt ad42) (g.tg ad42) (Nat.le_of_ble_eq_true rfl)) (jOk_le (by omega) (t270o_s g (by omega) (by omega) (by omega) (by omega) (by omega) (by omega) (by omega) (by omega) (by omega) (by omega) (ew0) (by omega) (by omega) (ew1) (by omega) (by omega) (l0 := l0) (b0 := b0) (by omega) hI hL hb (K := K) (q := q) hK hq hN (by rw [(ev81572)]; omega)  hM (by omega) rih)) (by decide) (by decide) (fun w81610 h81610 q81610 => ?_)
      obtain ⟨q81610, ad81610, ro81610, nr81610⟩ := q81610
      obtain ⟨v81611, rfl, lv81611, uv81611, g81610, kk81610⟩ := q81610
      have ad81610 := ad81610 _ rfl
      have nr81610 := nr81610 _ rfl
      obtain ⟨m81612, em81612, lm81612, um81612, pm81610⟩ := ro81610 _ rfl
      have k81610 := k0.tr kk81610 (by decide)
      show jEv _ _ _ _ _ _ _ (_, [(2, 42), (0, a1), (0, a2), (0, a3), (0, 1), (0, v81572), (9, 0)], [(0, v81611)], _, _, _)
      exact ev_ret rfl (by decide) (by decide) ⟨⟨_, rfl, by omega, by omega, g81610, k81610⟩, fun r hr h0 => by cases hr; exact ad81610 h0, fun r hr => by cases hr; exact ⟨_, (em81612), by omega, by omega, fun h0 => by have := pm81610 (by omega); omega⟩, fun r hr => by cases hr; exact (show _ from by rw [show (RQ h K q a2 a3 a1) = _ from ((rd_s (B := bR h) (N := h.2.2 42 1) (Y := yR h) (m := h.2.2 42 19) (K := K) (q := q) (by omega) a2 a3 a1).trans (if_pos ((bR_at (p := a1) k81610 (fun _ => rfl) ew1 (((kk81610.v rfl).trans ev81572)) (by omega) (by omega)).trans (by omega))))]; exact nr81610)⟩
theorem t272o_n (N : Nat) : ∀ {G : GH} {h : JH} (g : Gd G h) {l0 : Int} (ll0 : 0 ≤ l0) (ul0 : l0 ≤ 6) {b0 : Int} (lb0 : 1 ≤ b0) (ub0 : b0 ≤ 30000000) {a1 : Int} (la1 : 0 ≤ a1) (ua1 : a1 ≤ 202) {a2 : Int} (la2 : 0 ≤ a2) (ua2 : a2 ≤ 15) {a3 : Int} (la3 : 0 ≤ a3) (ua3 : a3 ≤ 12) {w0 : Int} (ew0 : h.2.2 42 21 = w0) (lw0 : 100 ≤ w0) (uw0 : w0 ≤ 200000000) {w1 : Int} (ew1 : h.2.2 42 17 = w1) (lw1 : 0 ≤ w1) (uw1 : w1 ≤ 200) (F0 : (b0 + w0) ≤ 200000000) {K : Int → Int × Int × Int} {q : Nat} (hI : Iv h) (hL : Lv h l0 a1) (hb : NB a3 = b0) (hK : KoR h K) (hq : 13 - a3 = q) (hN : h.2.2 42 1 ≤ 4) (hN2 : 85 - (7 * a3 - l0) ≤ (N : Int)), jOk (3 + 4 * N) 0 0 272 [(2, 42), (0, a1), (0, a2), (0, a3), (0, 1)] h (fun v h' => PI G [(42, 21), (42, 22)] h 0 (-1) 200 v h' ∧ (∀ r, v = some (0, r) → 0 ≤ r → Ad h l0 a1 r) ∧ (∀ r, v = some (0, r) → RO h' w0 b0 r) ∧ (∀ r, v = some (0, r) → RdM (bR h) h' w0 (RQ h K q a2 a3 a1) r)) := by
  induction N with
  | zero => intro G h g l0 ll0 ul0 b0 lb0 ub0 a1 la1 ua1 a2 la2 ua2 a3 la3 ua3 w0 ew0 lw0 uw0 w1 ew1 lw1 uw1 F0 K q hI hL hb hK hq hN hN2; exfalso; omega
  | succ N ih =>
    intro G h g l0 ll0 ul0 b0 lb0 ub0 a1 la1 ua1 a2 la2 ua2 a3 la3 ua3 w0 ew0 lw0 uw0 w1 ew1 lw1 uw1 F0 K q hI hL hb hK hq hN hN2
    exact jOk_le (by omega) (t272o_s g ll0 ul0 lb0 ub0 la1 ua1 la2 ua2 la3 ua3 ew0 lw0 uw0 ew1 lw1 uw1 F0 hI hL hb hK hq hN (M := (7 * a3 - l0)) rfl (d := 3 + 4 * N) (by omega) (fun {G} {h} g {l0} ll0 ul0 {b0} lb0 ub0 {a1} la1 ua1 {a2} la2 ua2 {a3} la3 ua3 {w0} ew0 lw0 uw0 {w1} ew1 lw1 uw1 F0 {K} {q} hI hL hb hK hq hN hm => ih g ll0 ul0 lb0 ub0 la1 ua1 la2 ua2 la3 ua3 ew0 lw0 uw0 ew1 lw1 uw1 F0 hI hL hb hK hq hN (by omega)))
theorem t272o {G : GH} {h : JH} (g : Gd G h) {l0 : Int} (ll0 : 0 ≤ l0) (ul0 : l0 ≤ 6) {b0 : Int} (lb0 : 1 ≤ b0) (ub0 : b0 ≤ 30000000) {a1 : Int} (la1 : 0 ≤ a1) (ua1 : a1 ≤ 202) {a2 : Int} (la2 : 0 ≤ a2) (ua2 : a2 ≤ 15) {a3 : Int} (la3 : 0 ≤ a3) (ua3 : a3 ≤ 12) {w0 : Int} (ew0 : h.2.2 42 21 = w0) (lw0 : 100 ≤ w0) (uw0 : w0 ≤ 200000000) {w1 : Int} (ew1 : h.2.2 42 17 = w1) (lw1 : 0 ≤ w1) (uw1 : w1 ≤ 200) (F0 : (b0 + w0) ≤ 200000000) {K : Int → Int × Int × Int} {q : Nat} (hI : Iv h) (hL : Lv h l0 a1) (hb : NB a3 = b0) (hK : KoR h K) (hq : 13 - a3 = q) (hN : h.2.2 42 1 ≤ 4) : jOk 371 0 0 272 [(2, 42), (0, a1), (0, a2), (0, a3), (0, 1)] h (fun v h' => PI G [(42, 21), (42, 22)] h 0 (-1) 200 v h' ∧ (∀ r, v = some (0, r) → 0 ≤ r → Ad h l0 a1 r) ∧ (∀ r, v = some (0, r) → RO h' w0 b0 r) ∧ (∀ r, v = some (0, r) → RdM (bR h) h' w0 (RQ h K q a2 a3 a1) r)) := jOk_le (by decide) (t272o_n 92 g ll0 ul0 lb0 ub0 la1 ua1 la2 ua2 la3 ua3 ew0 lw0 uw0 ew1 lw1 uw1 F0 hI hL hb hK hq hN (by omega))
