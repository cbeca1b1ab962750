set_option maxHeartbeats 4000000 in
theorem t270i_s_l {G : GH} {h : JH} {l0 : Int} (ll0 : 0 ≤ l0) (ul0 : l0 ≤ 6) {b0 : Int} (lb0 : 1 ≤ b0) (ub0 : b0 ≤ 30000000) {a1 : Int} (la1 : 0 ≤ a1) (ua1 : a1 ≤ 202) {a2 : Int} (la2 : 0 ≤ a2) (ua2 : a2 ≤ 15) {a3 : Int} (la3 : 0 ≤ a3) (ua3 : a3 ≤ 12) {w0 : Int} (ew0 : h.2.2 42 9 = w0) (lw0 : 0 ≤ w0) (uw0 : w0 ≤ 5) {w1 : Int} (ew1 : h.2.2 42 21 = w1) (lw1 : 0 ≤ w1) (uw1 : w1 ≤ 99) {w2 : Int} (ew2 : h.2.2 42 17 = w2) (lw2 : 0 ≤ w2) (uw2 : w2 ≤ 200) (F0 : (b0 + w1) ≤ 200000000) {S : List Nat} {K : Int → Int × Int × Int} {q : Nat} (hI : Iv h) (hL : Lv h l0 a1) (hb : NB a3 = b0) (hS : Sk a2 S) (hK : KoR h K) (hq : 13 - a3 = q) (hN : h.2.2 42 1 ≤ 4) (hq3 : h.2.2 54 (a1).toNat = 63) {M : Int} (hM : M = (7 * a3 - l0)) {d : Nat} (hd : 371 ≤ d) (rih : ∀ {G : GH} {h : JH} (g : Gd G h) {l0 : Int} (ll0 : 0 ≤ l0) (ul0 : l0 ≤ 6) {b0 : Int} (lb0 : 1 ≤ b0) (ub0 : b0 ≤ 30000000) {a1 : Int} (la1 : 0 ≤ a1) (ua1 : a1 ≤ 202) {a2 : Int} (la2 : 0 ≤ a2) (ua2 : a2 ≤ 15) {a3 : Int} (la3 : 0 ≤ a3) (ua3 : a3 ≤ 12) {w0 : Int} (ew0 : h.2.2 42 9 = w0) (lw0 : 0 ≤ w0) (uw0 : w0 ≤ 5) {w1 : Int} (ew1 : h.2.2 42 21 = w1) (lw1 : 0 ≤ w1) (uw1 : w1 ≤ 99) {w2 : Int} (ew2 : h.2.2 42 17 = w2) (lw2 : 0 ≤ w2) (uw2 : w2 ≤ 200) (F0 : (b0 + w1) ≤ 200000000) {S : List Nat} {K : Int → Int × Int × Int} {q : Nat} (hI : Iv h) (hL : Lv h l0 a1) (hb : NB a3 = b0) (hS : Sk a2 S) (hK : KoR h K) (hq : 13 - a3 = q) (hN : h.2.2 42 1 ≤ 4) (hm : M + 1 ≤ (7 * a3 - l0)), jOk d 0 0 272 [(2, 42), (0, a1), (0, a2), (0, a3), (0, 1)] h (fun v h' => PI G [(42, 21), (42, 22), (49, 0), (50, 0), (51, 0), (52, 0), (53, 0)] h 0 (-1) 200 v h' ∧ (∀ r, v = some (0, r) → 0 ≤ r → Ad h l0 a1 r) ∧ (∀ r, v = some (0, r) → RI h h' w0 w1 a3 b0 S r) ∧ (∀ r, v = some (0, r) → RdM (bR h) h' w1 (RQ h K q a2 a3 a1) r))) : ∀ N : Nat, (∀ (h1 : JH) (x5 x7 y0 : Int) (j8 j9 : AV), Gd G h1 → Kp [(42, 21), (42, 22), (49, 0), (50, 0), (51, 0), (52, 0), (53, 0)] h h1 → 0 ≤ a1 → a1 ≤ 198 → 0 ≤ a2 → a2 ≤ 15 → 0 ≤ a3 → a3 ≤ 11 → 1 ≤ x5 → x5 ≤ 200 → 0 ≤ x7 → x7 ≤ 3 → (w1 + (-y0)) ≤ (-1) → h1.2.2 42 21 = y0 → 1 ≤ y0 → y0 ≤ 200000000 → Ad h l0 a1 x5 → Mb w1 b0 x7 y0 → Fr h h1 (100 * w0 + w1) → PC h1 (w0).toNat (w1).toNat (13 - (a3 + 1)).toNat S 1 0 x7 y0 → Cr (bR h) (RQ h K (q - 1) a2 (a3 + 1)) (if bR h (a1 + 1) ≠ 40 ∨ 12 ≤ a3 then rF (a1 + 1) else chL (bR h) (RQ h K (q - 1) a2 (a3 + 1)) 4 (a1 + 2) 0 0 1) x7 x5 w1 y0 → ((-x7) + 3) < N → jEv (jOk (d + 2)) none (fun _ => 0) c270_0 0 0 (fun v h' => PI G [(42, 21), (42, 22), (49, 0), (50, 0), (51, 0), (52, 0), (53, 0)] h 0 (-1) 200 v h' ∧ (∀ r, v = some (0, r) → 0 ≤ r → Ad h l0 a1 r) ∧ (∀ r, v = some (0, r) → RI h h' w0 w1 a3 b0 S r) ∧ (∀ r, v = some (0, r) → RdM (bR h) h' w1 (if bR h (a1 + 1) ≠ 40 ∨ 12 ≤ a3 then rF (a1 + 1) else chL (bR h) (RQ h K (q - 1) a2 (a3 + 1)) 4 (a1 + 2) 0 0 1) r)) (c270_45, [(2, 42), (0, a1), (0, a2), (0, a3), (0, 1), (0, x5), (0, (100 * w0 + w1)), (0, x7), j8, j9], [], h1, 0, 0)) := by
  intro N
  induction N with
  | zero => exact fun h1 x5 x7 y0 j8 j9 g1 k1 b0 b1 b2 b3 b4 b5 b6 b7 b8 b9 b10 b11 b12 b13 b14 b15 b16 b17 b18 hm => absurd hm (by omega)
  | succ N ih =>
    show _
    intro h1 x5 x7 y0 j8 j9 g1 k1 b0 b1 b2 b3 b4 b5 b6 b7 b8 b9 b10 ey0 ly0 uy0 H0 H1 H2 H3 H4 hm
    obtain ⟨b83873, hb83872, eb83872, lb83872⟩ := NB.split hb (by omega)
    have rm83872 := Mb.room H1 (by omega) eb83872 lb83872
    refine ev_iconst ?_
    refine ev_istore (L' := [(2, 42), (0, a1), (0, a2), (0, a3), (0, 1), (0, x5), (0, (100 * w0 + w1)), (0, x7), (0, 0), j9]) (Nat.le_of_ble_eq_true rfl) rfl ?_
    refine ev_iconst ?_
    refine ev_istore (L' := [(2, 42), (0, a1), (0, a2), (0, a3), (0, 1), (0, x5), (0, (100 * w0 + w1)), (0, x7), (0, 0), (0, 0)]) (Nat.le_of_ble_eq_true rfl) rfl ?_
    refine ev_iload rfl ?_
    refine ev_iconst ?_
    refine ev_icmpge f270_92 (fun c83874 => absurd c83874 (by omega)) (fun c83874 => ?_)
    refine ev_aload_n rfl ?_
    refine ev_iload rfl ?_
    refine ev_in (d := (d + 1)) (a := 0) (b := 0) (cd' := c265_0) (m := 2) (L0 := [(2, 42), (0, x5)]) (jcall_v (A := [(0, x5)]) (S' := []) (r := 42) rfl (g1.lt ad42) (g1.tg ad42) (Nat.le_of_ble_eq_true rfl)) (by decide) ml265 pp265 (Nat.le_of_ble_eq_true rfl) rfl (by decide) (by decide) ?_
    refine ev_aload_n rfl ?_
    refine ev_iload_n rfl ?_
    refine ev_in (d := (d + 0)) (a := 0) (b := 0) (cd' := c264_0) (m := 2) (L0 := [(2, 42), (0, x5)]) (jcall_v (A := [(0, x5)]) (S' := []) (r := 42) rfl (g1.lt ad42) (g1.tg ad42) (Nat.le_of_ble_eq_true rfl)) (by decide) ml264 pp264 (Nat.le_of_ble_eq_true rfl) rfl (by decide) (by decide) ?_
    refine ev_iload_n rfl ?_
    refine ev_aload_n rfl ?_
    refine g_getv (r := 42) (v := w2) g1 ad42 (by decide) ft12_17 (((k1.v (by decide)).trans ew2)) ?_
    refine ev_icmpge f264_17 (fun c83875 => ?_) (fun c83875 => ?_)
    · refine ev_iconst ?_
      refine ev_ret rfl (by decide) (by decide) ?_
      show jEv _ _ _ _ _ _ _ (_, [(2, 42), (0, x5)], [(0, (-1))], _, _, _)
      refine ev_bipush ?_
      refine ev_bipush ?_
      refine ev_in (d := (d + 0)) (a := 0) (b := 0) (cd' := c242_0) (m := 3) (L0 := [(0, (-1)), (0, 48), (0, 57)]) (jcall_s (A := [(0, 57), (0, 48), (0, (-1))]) (S' := []) (by decide) rfl (Nat.le_of_ble_eq_true rfl)) (by decide) ml242 pp242 (Nat.le_of_ble_eq_true rfl) rfl (by decide) (by decide) ?_
      refine ev_iload_n rfl ?_
      refine ev_iload_n rfl ?_
      refine ev_icmplt f242_14 (fun c83876 => ?_) (fun c83876 => absurd c83876 (by omega))
      refine ev_iconst ?_
      refine ev_ret rfl (by decide) (by decide) ?_
      show jEv _ _ _ _ _ _ _ (_, [(2, 42), (0, x5)], [(0, 0)], _, _, _)
      refine ev_ret rfl (by decide) (by decide) ?_
      show jEv _ _ _ _ _ _ _ (_, [(2, 42), (0, a1), (0, a2), (0, a3), (0, 1), (0, x5), (0, (100 * w0 + w1)), (0, x7), (0, 0), (0, 0)], [(0, 0)], _, _, _)
      refine ev_ifeq f270_92 (fun c83877 => ?_) (fun c83877 => absurd c83877 (by omega))
      refine ev_iload rfl ?_
      refine ev_ifeq f270_108 (fun c83878 => ?_) (fun c83878 => absurd c83878 (by omega))
      refine ev_aload_n rfl ?_
      refine ev_iload rfl ?_
      refine ev_in (d := (d + 1)) (a := 0) (b := 0) (cd' := c266_0) (m := 2) (L0 := [(2, 42), (0, x5)]) (jcall_v (A := [(0, x5)]) (S' := []) (r := 42) rfl (g1.lt ad42) (g1.tg ad42) (Nat.le_of_ble_eq_true rfl)) (by decide) ml266 pp266 (Nat.le_of_ble_eq_true rfl) rfl (by decide) (by decide) ?_
      refine ev_aload_n rfl ?_
      refine ev_iload_n rfl ?_
      refine g_putf (r := 42) g1 ad42 (by decide) ft12_20 (by decide) (fun e => absurd e nz12_20) rf42_20 (by decide) (by omega) (by omega) (fun h83879 e83879 g83879 => ?_)
      have k83879 := k1.wr e83879 rfl
      refine ev_iconst ?_
      refine ev_ret rfl (by decide) (by decide) ?_
      show jEv _ _ _ _ _ _ _ (_, [(2, 42), (0, a1), (0, a2), (0, a3), (0, 1), (0, x5), (0, (100 * w0 + w1)), (0, x7), (0, 0), (0, 0)], [(0, (-1))], _, _, _)
      exact ev_ret rfl (by decide) (by decide) ⟨⟨_, rfl, by omega, by omega, g83879, k83879⟩, fun r hr h0 => by cases hr; exfalso; omega, fun r hr => by cases hr; exact ⟨_, (((jw_ne e83879 (Or.inr (by decide))).trans ey0)), by omega, by omega, (Fr.kp H2 ((Kp.rf [(42, 0)] _).wr e83879 rfl) (fun _ => rfl) (fun _ => rfl) (fun _ => rfl) (fun _ => rfl)), fun h0 => by exfalso; omega, fun h0 => by exfalso; omega⟩, fun r hr => by cases hr; exact (Bd.M (cr_n H4 (by omega) (by omega) (by have z : nm2 (bR h) x5 = -1 - x5 := (by unfold nm2; rw [(bR_end (p := x5) ew2 (by omega))]; (repeat' split) <;> omega); omega) (by omega)) ((jw_eq e83879)))⟩
    · refine ev_aload_n rfl ?_
      refine g_getp (r := 42) (c := 54) g1 ad42 (by decide) (by decide) rf42_16 ft12_16 ?_
      refine ev_iload_n rfl ?_
      refine g_bald g1 ad54 rt54 (by omega) (by omega) (fun v83880 ev83880 lv83880 uv83880 => ?_)
      refine ev_goto f264_18 ?_
      refine ev_ret rfl (by decide) (by decide) ?_
      show jEv _ _ _ _ _ _ _ (_, [(2, 42), (0, x5)], [(0, v83880)], _, _, _)
      refine ev_bipush ?_
      refine ev_bipush ?_
      refine ev_in (d := (d + 0)) (a := 0) (b := 0) (cd' := c242_0) (m := 3) (L0 := [(0, v83880), (0, 48), (0, 57)]) (jcall_s (A := [(0, 57), (0, 48), (0, v83880)]) (S' := []) (by decide) rfl (Nat.le_of_ble_eq_true rfl)) (by decide) ml242 pp242 (Nat.le_of_ble_eq_true rfl) rfl (by decide) (by decide) ?_
      refine ev_iload_n rfl ?_
      refine ev_iload_n rfl ?_
      refine ev_icmplt f242_14 (fun c83881 => ?_) (fun c83881 => ?_)
      · refine ev_iconst ?_
        refine ev_ret rfl (by decide) (by decide) ?_
        show jEv _ _ _ _ _ _ _ (_, [(2, 42), (0, x5)], [(0, 0)], _, _, _)
        refine ev_ret rfl (by decide) (by decide) ?_
        show jEv _ _ _ _ _ _ _ (_, [(2, 42), (0, a1), (0, a2), (0, a3), (0, 1), (0, x5), (0, (100 * w0 + w1)), (0, x7), (0, 0), (0, 0)], [(0, 0)], _, _, _)
        refine ev_ifeq f270_92 (fun c83882 => ?_) (fun c83882 => absurd c83882 (by omega))
        refine ev_iload rfl ?_
        refine ev_ifeq f270_108 (fun c83883 => ?_) (fun c83883 => absurd c83883 (by omega))
        refine ev_aload_n rfl ?_
        refine ev_iload rfl ?_
        refine ev_in (d := (d + 1)) (a := 0) (b := 0) (cd' := c266_0) (m := 2) (L0 := [(2, 42), (0, x5)]) (jcall_v (A := [(0, x5)]) (S' := []) (r := 42) rfl (g1.lt ad42) (g1.tg ad42) (Nat.le_of_ble_eq_true rfl)) (by decide) ml266 pp266 (Nat.le_of_ble_eq_true rfl) rfl (by decide) (by decide) ?_
        refine ev_aload_n rfl ?_
        refine ev_iload_n rfl ?_
        refine g_putf (r := 42) g1 ad42 (by decide) ft12_20 (by decide) (fun e => absurd e nz12_20) rf42_20 (by decide) (by omega) (by omega) (fun h83884 e83884 g83884 => ?_)
        have k83884 := k1.wr e83884 rfl
        refine ev_iconst ?_
        refine ev_ret rfl (by decide) (by decide) ?_
        show jEv _ _ _ _ _ _ _ (_, [(2, 42), (0, a1), (0, a2), (0, a3), (0, 1), (0, x5), (0, (100 * w0 + w1)), (0, x7), (0, 0), (0, 0)], [(0, (-1))], _, _, _)
        exact ev_ret rfl (by decide) (by decide) ⟨⟨_, rfl, by omega, by omega, g83884, k83884⟩, fun r hr h0 => by cases hr; exfalso; omega, fun r hr => by cases hr; exact ⟨_, (((jw_ne e83884 (Or.inr (by decide))).trans ey0)), by omega, by omega, (Fr.kp H2 ((Kp.rf [(42, 0)] _).wr e83884 rfl) (fun _ => rfl) (fun _ => rfl) (fun _ => rfl) (fun _ => rfl)), fun h0 => by exfalso; omega, fun h0 => by exfalso; omega⟩, fun r hr => by cases hr; exact (Bd.M (cr_n H4 (by omega) (by omega) (by have z : nm2 (bR h) x5 = -1 - x5 := (by unfold nm2; rw [(bR_at (p := x5) k83884 (fun _ => rfl) ew2 (((jw_ne e83884 (Or.inl (by decide))).trans ev83880)) (by omega) (by omega))]; (repeat' split) <;> omega); omega) (by omega)) ((jw_eq e83884)))⟩
      · refine ev_iload_n rfl ?_
        refine ev_iload_n rfl ?_
        refine ev_icmpgt f242_14 (fun c83885 => ?_) (fun c83885 => ?_)
        · refine ev_iconst ?_
          refine ev_ret rfl (by decide) (by decide) ?_
          show jEv _ _ _ _ _ _ _ (_, [(2, 42), (0, x5)], [(0, 0)], _, _, _)
          refine ev_ret rfl (by decide) (by decide) ?_
          show jEv _ _ _ _ _ _ _ (_, [(2, 42), (0, a1), (0, a2), (0, a3), (0, 1), (0, x5), (0, (100 * w0 + w1)), (0, x7), (0, 0), (0, 0)], [(0, 0)], _, _, _)
          refine ev_ifeq f270_92 (fun c83886 => ?_) (fun c83886 => absurd c83886 (by omega))
          refine ev_iload rfl ?_
          refine ev_ifeq f270_108 (fun c83887 => ?_) (fun c83887 => absurd c83887 (by omega))
          refine ev_aload_n rfl ?_
          refine ev_iload rfl ?_
          refine ev_in (d := (d + 1)) (a := 0) (b := 0) (cd' := c266_0) (m := 2) (L0 := [(2, 42), (0, x5)]) (jcall_v (A := [(0, x5)]) (S' := []) (r := 42) rfl (g1.lt ad42) (g1.tg ad42) (Nat.le_of_ble_eq_true rfl)) (by decide) ml266 pp266 (Nat.le_of_ble_eq_true rfl) rfl (by decide) (by decide) ?_
          refine ev_aload_n rfl ?_
          refine ev_iload_n rfl ?_
          refine g_putf (r := 42) g1 ad42 (by decide) ft12_20 (by decide) (fun e => absurd e nz12_20) rf42_20 (by decide) (by omega) (by omega) (fun h83888 e83888 g83888 => ?_)
          have k83888 := k1.wr e83888 rfl
          refine ev_iconst ?_
          refine ev_ret rfl (by decide) (by decide) ?_
          show jEv _ _ _ _ _ _ _ (_, [(2, 42), (0, a1), (0, a2), (0, a3), (0, 1), (0, x5), (0, (100 * w0 + w1)), (0, x7), (0, 0), (0, 0)], [(0, (-1))], _, _, _)
          exact ev_ret rfl (by decide) (by decide) ⟨⟨_, rfl, by omega, by omega, g83888, k83888⟩, fun r hr h0 => by cases hr; exfalso; omega, fun r hr => by cases hr; exact ⟨_, (((jw_ne e83888 (Or.inr (by decide))).trans ey0)), by omega, by omega, (Fr.kp H2 ((Kp.rf [(42, 0)] _).wr e83888 rfl) (fun _ => rfl) (fun _ => rfl) (fun _ => rfl) (fun _ => rfl)), fun h0 => by exfalso; omega, fun h0 => by exfalso; omega⟩, fun r hr => by cases hr; exact (Bd.M (cr_n H4 (by omega) (by omega) (by have z : nm2 (bR h) x5 = -1 - x5 := (by unfold nm2; rw [(bR_at (p := x5) k83888 (fun _ => rfl) ew2 (((jw_ne e83888 (Or.inl (by decide))).trans ev83880)) (by omega) (by omega))]; (repeat' split) <;> omega); omega) (by omega)) ((jw_eq e83888)))⟩
        · refine ev_iconst ?_
          refine ev_goto f242_15 ?_
          refine ev_ret rfl (by decide) (by decide) ?_
          show jEv _ _ _ _ _ _ _ (_, [(2, 42), (0, x5)], [(0, 1)], _, _, _)
          refine ev_ret rfl (by decide) (by decide) ?_
          show jEv _ _ _ _ _ _ _ (_, [(2, 42), (0, a1), (0, a2), (0, a3), (0, 1), (0, x5), (0, (100 * w0 + w1)), (0, x7), (0, 0), (0, 0)], [(0, 1)], _, _, _)
          refine ev_ifeq f270_92 (fun c83889 => absurd c83889 (by omega)) (fun c83889 => ?_)
          refine ev_bipush ?_
          refine ev_iload rfl ?_
          refine ev_imul (r := 0) (by decide) ?_
          refine ev_aload_n rfl ?_
          refine ev_iload rfl ?_
          refine ev_in (d := (d + 1)) (a := 0) (b := 0) (cd' := c264_0) (m := 2) (L0 := [(2, 42), (0, x5)]) (jcall_v (A := [(0, x5)]) (S' := [(0, 0)]) (r := 42) rfl (g1.lt ad42) (g1.tg ad42) (Nat.le_of_ble_eq_true rfl)) (by decide) ml264 pp264 (Nat.le_of_ble_eq_true rfl) rfl (by decide) (by decide) ?_
          refine ev_iload_n rfl ?_
          refine ev_aload_n rfl ?_
          refine g_getv (r := 42) (v := w2) g1 ad42 (by decide) ft12_17 (((k1.v (by decide)).trans ew2)) ?_
          refine ev_icmpge f264_17 (fun c83890 => absurd c83890 (by omega)) (fun c83890 => ?_)
          refine ev_aload_n rfl ?_
          refine g_getp (r := 42) (c := 54) g1 ad42 (by decide) (by decide) rf42_16 ft12_16 ?_
          refine ev_iload_n rfl ?_
          refine g_baldv (v := v83880) g1 ad54 (by omega) (by omega) (ev83880) ?_
          refine ev_goto f264_18 ?_
          refine ev_ret rfl (by decide) (by decide) ?_
          show jEv _ _ _ _ _ _ _ (_, [(2, 42), (0, a1), (0, a2), (0, a3), (0, 1), (0, x5), (0, (100 * w0 + w1)), (0, x7), (0, 0), (0, 0)], [(0, v83880), (0, 0)], _, _, _)
          refine ev_iadd (r := v83880) (by unfold w32; omega) ?_
          refine ev_bipush ?_
          refine ev_isub (r := (v83880 - 48)) (by unfold w32; omega) ?_
          refine ev_istore (L' := [(2, 42), (0, a1), (0, a2), (0, a3), (0, 1), (0, x5), (0, (100 * w0 + w1)), (0, x7), (0, (v83880 - 48)), (0, 0)]) (Nat.le_of_ble_eq_true rfl) rfl ?_
          refine ev_iinc (w := 1) (L' := [(2, 42), (0, a1), (0, a2), (0, a3), (0, 1), (0, x5), (0, (100 * w0 + w1)), (0, x7), (0, (v83880 - 48)), (0, 1)]) rfl (by decide) rfl ?_
          refine ev_iinc (w := (x5 + 1)) (L' := [(2, 42), (0, a1), (0, a2), (0, a3), (0, 1), (0, (x5 + 1)), (0, (100 * w0 + w1)), (0, x7), (0, (v83880 - 48)), (0, 1)]) rfl (by unfold w32; omega) rfl ?_
          refine ev_goto f270_51 ?_
          refine ev_iload rfl ?_
          refine ev_iconst ?_
          refine ev_icmpge f270_92 (fun c83891 => absurd c83891 (by omega)) (fun c83891 => ?_)
          refine ev_aload_n rfl ?_
          refine ev_iload rfl ?_
          refine ev_in (d := (d + 1)) (a := 0) (b := 0) (cd' := c265_0) (m := 2) (L0 := [(2, 42), (0, (x5 + 1))]) (jcall_v (A := [(0, (x5 + 1))]) (S' := []) (r := 42) rfl (g1.lt ad42) (g1.tg ad42) (Nat.le_of_ble_eq_true rfl)) (by decide) ml265 pp265 (Nat.le_of_ble_eq_true rfl) rfl (by decide) (by decide) ?_
          refine ev_aload_n rfl ?_
          refine ev_iload_n rfl ?_
          refine ev_in (d := (d + 0)) (a := 0) (b := 0) (cd' := c264_0) (m := 2) (L0 := [(2, 42), (0, (x5 + 1))]) (jcall_v (A := [(0, (x5 + 1))]) (S' := []) (r := 42) rfl (g1.lt ad42) (g1.tg ad42) (Nat.le_of_ble_eq_true rfl)) (by decide) ml264 pp264 (Nat.le_of_ble_eq_true rfl) rfl (by decide) (by decide) ?_
          refine ev_iload_n rfl ?_
          refine ev_aload_n rfl ?_
          refine g_getv (r := 42) (v := w2) g1 ad42 (by decide) ft12_17 (((k1.v (by decide)).trans ew2)) ?_
          refine ev_icmpge f264_17 (fun c83892 => ?_) (fun c83892 => ?_)
          · refine ev_iconst ?_
            refine ev_ret rfl (by decide) (by decide) ?_
            show jEv _ _ _ _ _ _ _ (_, [(2, 42), (0, (x5 + 1))], [(0, (-1))], _, _, _)
            refine ev_bipush ?_
            refine ev_bipush ?_
            refine ev_in (d := (d + 0)) (a := 0) (b := 0) (cd' := c242_0) (m := 3) (L0 := [(0, (-1)), (0, 48), (0, 57)]) (jcall_s (A := [(0, 57), (0, 48), (0, (-1))]) (S' := []) (by decide) rfl (Nat.le_of_ble_eq_true rfl)) (by decide) ml242 pp242 (Nat.le_of_ble_eq_true rfl) rfl (by decide) (by decide) ?_
            refine ev_iload_n rfl ?_
            refine ev_iload_n rfl ?_
            refine ev_icmplt f242_14 (fun c83893 => ?_) (fun c83893 => absurd c83893 (by omega))
            refine ev_iconst ?_
            refine ev_ret rfl (by decide) (by decide) ?_
            show jEv _ _ _ _ _ _ _ (_, [(2, 42), (0, (x5 + 1))], [(0, 0)], _, _, _)
            refine ev_ret rfl (by decide) (by decide) ?_
            show jEv _ _ _ _ _ _ _ (_, [(2, 42), (0, a1), (0, a2), (0, a3), (0, 1), (0, (x5 + 1)), (0, (100 * w0 + w1)), (0, x7), (0, (v83880 - 48)), (0, 1)], [(0, 0)], _, _, _)
            refine ev_ifeq f270_92 (fun c83894 => ?_) (fun c83894 => absurd c83894 (by omega))
            refine ev_iload rfl ?_
            refine ev_ifeq f270_108 (fun c83895 => absurd c83895 (by omega)) (fun c83895 => ?_)
            refine ev_aload_n rfl ?_
            refine ev_iload rfl ?_
            refine ev_in (d := (d + 1)) (a := 0) (b := 0) (cd' := c264_0) (m := 2) (L0 := [(2, 42), (0, (x5 + 1))]) (jcall_v (A := [(0, (x5 + 1))]) (S' := []) (r := 42) rfl (g1.lt ad42) (g1.tg ad42) (Nat.le_of_ble_eq_true rfl)) (by decide) ml264 pp264 (Nat.le_of_ble_eq_true rfl) rfl (by decide) (by decide) ?_
            refine ev_iload_n rfl ?_
            refine ev_aload_n rfl ?_
            refine g_getv (r := 42) (v := w2) g1 ad42 (by decide) ft12_17 (((k1.v (by decide)).trans ew2)) ?_
            refine ev_icmpge f264_17 (fun c83896 => ?_) (fun c83896 => absurd c83896 (by omega))
            refine ev_iconst ?_
            refine ev_ret rfl (by decide) (by decide) ?_
            show jEv _ _ _ _ _ _ _ (_, [(2, 42), (0, a1), (0, a2), (0, a3), (0, 1), (0, (x5 + 1)), (0, (100 * w0 + w1)), (0, x7), (0, (v83880 - 48)), (0, 1)], [(0, (-1))], _, _, _)
            refine ev_bipush ?_
            refine ev_icmpeq f270_115 (fun c83897 => absurd c83897 (by omega)) (fun c83897 => ?_)
            refine ev_aload_n rfl ?_
            refine ev_iload rfl ?_
            refine ev_in (d := (d + 1)) (a := 0) (b := 0) (cd' := c266_0) (m := 2) (L0 := [(2, 42), (0, (x5 + 1))]) (jcall_v (A := [(0, (x5 + 1))]) (S' := []) (r := 42) rfl (g1.lt ad42) (g1.tg ad42) (Nat.le_of_ble_eq_true rfl)) (by decide) ml266 pp266 (Nat.le_of_ble_eq_true rfl) rfl (by decide) (by decide) ?_
            refine ev_aload_n rfl ?_
            refine ev_iload_n rfl ?_
            refine g_putf (r := 42) g1 ad42 (by decide) ft12_20 (by decide) (fun e => absurd e nz12_20) rf42_20 (by decide) (by omega) (by omega) (fun h83898 e83898 g83898 => ?_)
            have k83898 := k1.wr e83898 rfl
            refine ev_iconst ?_
            refine ev_ret rfl (by decide) (by decide) ?_
            show jEv _ _ _ _ _ _ _ (_, [(2, 42), (0, a1), (0, a2), (0, a3), (0, 1), (0, (x5 + 1)), (0, (100 * w0 + w1)), (0, x7), (0, (v83880 - 48)), (0, 1)], [(0, (-1))], _, _, _)
            exact ev_ret rfl (by decide) (by decide) ⟨⟨_, rfl, by omega, by omega, g83898, k83898⟩, fun r hr h0 => by cases hr; exfalso; omega, fun r hr => by cases hr; exact ⟨_, (((jw_ne e83898 (Or.inr (by decide))).trans ey0)), by omega, by omega, (Fr.kp H2 ((Kp.rf [(42, 0)] _).wr e83898 rfl) (fun _ => rfl) (fun _ => rfl) (fun _ => rfl) (fun _ => rfl)), fun h0 => by exfalso; omega, fun h0 => by exfalso; omega⟩, fun r hr => by cases hr; exact (Bd.M (cr_c (q := (x5 + 1)) H4 (by omega) (by unfold nm2; rw [(bR_at (p := x5) k83898 (fun _ => rfl) ew2 (((jw_ne e83898 (Or.inl (by decide))).trans ev83880)) (by omega) (by omega)), (bR_end (p := (x5 + 1)) ew2 (by omega))]; (repeat' split) <;> omega) (by omega) (fun z => absurd ((bR_end (p := (x5 + 1)) ew2 (by omega)).symm.trans z) (by omega)) (by omega)) ((jw_eq e83898)))⟩
          · refine ev_aload_n rfl ?_
            refine g_getp (r := 42) (c := 54) g1 ad42 (by decide) (by decide) rf42_16 ft12_16 ?_
            refine ev_iload_n rfl ?_
            refine g_bald g1 ad54 rt54 (by omega) (by omega) (fun v83899 ev83899 lv83899 uv83899 => ?_)
            refine ev_goto f264_18 ?_
            refine ev_ret rfl (by decide) (by decide) ?_
            show jEv _ _ _ _ _ _ _ (_, [(2, 42), (0, (x5 + 1))], [(0, v83899)], _, _, _)
            refine ev_bipush ?_
            refine ev_bipush ?_
            refine ev_in (d := (d + 0)) (a := 0) (b := 0) (cd' := c242_0) (m := 3) (L0 := [(0, v83899), (0, 48), (0, 57)]) (jcall_s (A := [(0, 57), (0, 48), (0, v83899)]) (S' := []) (by decide) rfl (Nat.le_of_ble_eq_true rfl)) (by decide) ml242 pp242 (Nat.le_of_ble_eq_true rfl) rfl (by decide) (by decide) ?_
            refine ev_iload_n rfl ?_
            refine ev_iload_n rfl ?_
            refine ev_icmplt f242_14 (fun c83900 => ?_) (fun c83900 => ?_)
            · refine ev_iconst ?_
              refine ev_ret rfl (by decide) (by decide) ?_
              show jEv _ _ _ _ _ _ _ (_, [(2, 42), (0, (x5 + 1))], [(0, 0)], _, _, _)
              refine ev_ret rfl (by decide) (by decide) ?_
              show jEv _ _ _ _ _ _ _ (_, [(2, 42), (0, a1), (0, a2), (0, a3), (0, 1), (0, (x5 + 1)), (0, (100 * w0 + w1)), (0, x7), (0, (v83880 - 48)), (0, 1)], [(0, 0)], _, _, _)
              refine ev_ifeq f270_92 (fun c83901 => ?_) (fun c83901 => absurd c83901 (by omega))
              refine ev_iload rfl ?_
              refine ev_ifeq f270_108 (fun c83902 => absurd c83902 (by omega)) (fun c83902 => ?_)
              refine ev_aload_n rfl ?_
              refine ev_iload rfl ?_
              refine ev_in (d := (d + 1)) (a := 0) (b := 0) (cd' := c264_0) (m := 2) (L0 := [(2, 42), (0, (x5 + 1))]) (jcall_v (A := [(0, (x5 + 1))]) (S' := []) (r := 42) rfl (g1.lt ad42) (g1.tg ad42) (Nat.le_of_ble_eq_true rfl)) (by decide) ml264 pp264 (Nat.le_of_ble_eq_true rfl) rfl (by decide) (by decide) ?_
              refine ev_iload_n rfl ?_
              refine ev_aload_n rfl ?_
              refine g_getv (r := 42) (v := w2) g1 ad42 (by decide) ft12_17 (((k1.v (by decide)).trans ew2)) ?_
              refine ev_icmpge f264_17 (fun c83903 => absurd c83903 (by omega)) (fun c83903 => ?_)
              refine ev_aload_n rfl ?_
              refine g_getp (r := 42) (c := 54) g1 ad42 (by decide) (by decide) rf42_16 ft12_16 ?_
              refine ev_iload_n rfl ?_
              refine g_baldv (v := v83899) g1 ad54 (by omega) (by omega) (ev83899) ?_
              refine ev_goto f264_18 ?_
              refine ev_ret rfl (by decide) (by decide) ?_
              show jEv _ _ _ _ _ _ _ (_, [(2, 42), (0, a1), (0, a2), (0, a3), (0, 1), (0, (x5 + 1)), (0, (100 * w0 + w1)), (0, x7), (0, (v83880 - 48)), (0, 1)], [(0, v83899)], _, _, _)
              refine ev_bipush ?_
              refine ev_icmpeq f270_115 (fun c83904 => absurd c83904 (by omega)) (fun c83904 => ?_)
              refine ev_aload_n rfl ?_
              refine ev_iload rfl ?_
              refine ev_in (d := (d + 1)) (a := 0) (b := 0) (cd' := c266_0) (m := 2) (L0 := [(2, 42), (0, (x5 + 1))]) (jcall_v (A := [(0, (x5 + 1))]) (S' := []) (r := 42) rfl (g1.lt ad42) (g1.tg ad42) (Nat.le_of_ble_eq_true rfl)) (by decide) ml266 pp266 (Nat.le_of_ble_eq_true rfl) rfl (by decide) (by decide) ?_
              refine ev_aload_n rfl ?_
              refine ev_iload_n rfl ?_
              refine g_putf (r := 42) g1 ad42 (by decide) ft12_20 (by decide) (fun e => absurd e nz12_20) rf42_20 (by decide) (by omega) (by omega) (fun h83905 e83905 g83905 => ?_)
              have k83905 := k1.wr e83905 rfl
              refine ev_iconst ?_
              refine ev_ret rfl (by decide) (by decide) ?_
              show jEv _ _ _ _ _ _ _ (_, [(2, 42), (0, a1), (0, a2), (0, a3), (0, 1), (0, (x5 + 1)), (0, (100 * w0 + w1)), (0, x7), (0, (v83880 - 48)), (0, 1)], [(0, (-1))], _, _, _)
              exact ev_ret rfl (by decide) (by decide) ⟨⟨_, rfl, by omega, by omega, g83905, k83905⟩, fun r hr h0 => by cases hr; exfalso; omega, fun r hr => by cases hr; exact ⟨_, (((jw_ne e83905 (Or.inr (by decide))).trans ey0)), by omega, by omega, (Fr.kp H2 ((Kp.rf [(42, 0)] _).wr e83905 rfl) (fun _ => rfl) (fun _ => rfl) (fun _ => rfl) (fun _ => rfl)), fun h0 => by exfalso; omega, fun h0 => by exfalso; omega⟩, fun r hr => by cases hr; exact (Bd.M (cr_c (q := (x5 + 1)) H4 (by omega) (by unfold nm2; rw [(bR_at (p := x5) k83905 (fun _ => rfl) ew2 (((jw_ne e83905 (Or.inl (by decide))).trans ev83880)) (by omega) (by omega)), (bR_at (p := (x5 + 1)) k83905 (fun _ => rfl) ew2 (((jw_ne e83905 (Or.inl (by decide))).trans ev83899)) (by omega) (by omega))]; (repeat' split) <;> omega) (by omega) (fun z => absurd ((bR_at (p := (x5 + 1)) k83905 (fun _ => rfl) ew2 (((jw_ne e83905 (Or.inl (by decide))).trans ev83899)) (by omega) (by omega)).symm.trans z) (by omega)) (by omega)) ((jw_eq e83905)))⟩
            · refine ev_iload_n rfl ?_
              refine ev_iload_n rfl ?_
              refine ev_icmpgt f242_14 (fun c83906 => ?_) (fun c83906 => ?_)
              · refine ev_iconst ?_
                refine ev_ret rfl (by decide) (by decide) ?_
                show jEv _ _ _ _ _ _ _ (_, [(2, 42), (0, (x5 + 1))], [(0, 0)], _, _, _)
                refine ev_ret rfl (by decide) (by decide) ?_
                show jEv _ _ _ _ _ _ _ (_, [(2, 42), (0, a1), (0, a2), (0, a3), (0, 1), (0, (x5 + 1)), (0, (100 * w0 + w1)), (0, x7), (0, (v83880 - 48)), (0, 1)], [(0, 0)], _, _, _)
                refine ev_ifeq f270_92 (fun c83907 => ?_) (fun c83907 => absurd c83907 (by omega))
                refine ev_iload rfl ?_
                refine ev_ifeq f270_108 (fun c83908 => absurd c83908 (by omega)) (fun c83908 => ?_)
                refine ev_aload_n rfl ?_
                refine ev_iload rfl ?_
                refine ev_in (d := (d + 1)) (a := 0) (b := 0) (cd' := c264_0) (m := 2) (L0 := [(2, 42), (0, (x5 + 1))]) (jcall_v (A := [(0, (x5 + 1))]) (S' := []) (r := 42) rfl (g1.lt ad42) (g1.tg ad42) (Nat.le_of_ble_eq_true rfl)) (by decide) ml264 pp264 (Nat.le_of_ble_eq_true rfl) rfl (by decide) (by decide) ?_
                refine ev_iload_n rfl ?_
                refine ev_aload_n rfl ?_
                refine g_getv (r := 42) (v := w2) g1 ad42 (by decide) ft12_17 (((k1.v (by decide)).trans ew2)) ?_
                refine ev_icmpge f264_17 (fun c83909 => absurd c83909 (by omega)) (fun c83909 => ?_)
                refine ev_aload_n rfl ?_
                refine g_getp (r := 42) (c := 54) g1 ad42 (by decide) (by decide) rf42_16 ft12_16 ?_
                refine ev_iload_n rfl ?_
                refine g_baldv (v := v83899) g1 ad54 (by omega) (by omega) (ev83899) ?_
                refine ev_goto f264_18 ?_
                refine ev_ret rfl (by decide) (by decide) ?_
                show jEv _ _ _ _ _ _ _ (_, [(2, 42), (0, a1), (0, a2), (0, a3), (0, 1), (0, (x5 + 1)), (0, (100 * w0 + w1)), (0, x7), (0, (v83880 - 48)), (0, 1)], [(0, v83899)], _, _, _)
                refine ev_bipush ?_
                refine ev_icmpeq f270_115 (fun c83910 => ?_) (fun c83910 => ?_)
                · rcases Int.lt_or_le (y0) 100 with c83911 | c83911
                  · refine ev_aload_n rfl ?_
                    refine ev_iload rfl ?_
                    refine ev_iload rfl ?_
                    refine ev_iload rfl ?_
                    refine ev_in (d := (d + 1)) (a := 0) (b := 0) (cd' := c268_0) (m := 4) (L0 := [(2, 42), (0, (100 * w0 + w1)), (0, x7), (0, (v83880 - 48))]) (jcall_v (A := [(0, (v83880 - 48)), (0, x7), (0, (100 * w0 + w1))]) (S' := []) (r := 42) rfl (g1.lt ad42) (g1.tg ad42) (Nat.le_of_ble_eq_true rfl)) (by decide) ml268 pp268 (Nat.le_of_ble_eq_true rfl) rfl (by decide) (by decide) ?_
                    refine ev_iload_n rfl ?_
                    refine ev_ifge f268_5 (fun c83912 => ?_) (fun c83912 => absurd c83912 (by omega))
                    refine ev_aload_n rfl ?_
                    refine g_getp (r := 42) (c := 51) g1 ad42 (by decide) (by decide) rf42_13 ft12_13 ?_
                    refine ev_iconst ?_
                    refine ev_iload_n rfl ?_
                    refine ev_imul (r := (400 * w0 + 4 * w1)) (by unfold w32; omega) ?_
                    refine ev_iload_n rfl ?_
                    refine ev_iadd (r := (400 * w0 + 4 * w1 + x7)) (by unfold w32; omega) ?_
                    refine ev_aload_n rfl ?_
                    refine g_getv (r := 42) (v := y0) g1 ad42 (by decide) ft12_21 (ey0) ?_
                    refine ev_i2b (r := y0) (by unfold w8; omega) ?_
                    refine ev_bastG (r := 51) (j := ((400 * w0 + 4 * w1 + x7)).toNat) (w := y0) (g1.lt ad51) (g1.tg ad51) (by omega) (by rw [g1.ln ad51]; omega) (by unfold w8; omega) (fun h83913 e83913 => ?_)
                    have g83913 := g1.s51 e83913 (by rw [(((k1.v (by decide)).trans ew0))]; omega) (by omega) (by omega)
                    have k83913 := k1.wr e83913 rfl
                    refine ev_aload_n rfl ?_
                    refine g_getp (r := 42) (c := 52) g83913 ad42 (by decide) (by decide) rf42_14 ft12_14 ?_
                    refine ev_iconst ?_
                    refine ev_iload_n rfl ?_
                    refine ev_imul (r := (400 * w0 + 4 * w1)) (by unfold w32; omega) ?_
                    refine ev_iload_n rfl ?_
                    refine ev_iadd (r := (400 * w0 + 4 * w1 + x7)) (by unfold w32; omega) ?_
                    refine ev_iload_n rfl ?_
                    refine g_iast g83913 ad52 rt52 (fun _ => rfl) (by omega) (by omega) (by omega) (by omega) (fun h83914 e83914 g83914 => ?_)
                    have k83914 := k83913.wr e83914 rfl
                    refine ev_ret rfl (by decide) (by decide) ?_
                    show jEv _ _ _ _ _ _ _ (_, [(2, 42), (0, a1), (0, a2), (0, a3), (0, 1), (0, (x5 + 1)), (0, (100 * w0 + w1)), (0, x7), (0, (v83880 - 48)), (0, 1)], [], _, _, _)
                    refine ev_aload_n rfl ?_
                    refine ev_iload rfl ?_
                    refine ev_iconst ?_
                    refine ev_iadd (r := (x5 + 2)) (by unfold w32; omega) ?_
                    refine ev_iload_n rfl ?_
                    refine ev_iload_n rfl ?_
                    refine ev_iconst ?_
                    refine ev_iadd (r := (a3 + 1)) (by unfold w32; omega) ?_
                    refine ev_iload rfl ?_
                    refine ev_call (jcall_v (A := [(0, 1), (0, (a3 + 1)), (0, a2), (0, (x5 + 2))]) (S' := []) (r := 42) rfl (g83914.lt ad42) (g83914.tg ad42) (Nat.le_of_ble_eq_true rfl)) (jOk_le (by omega) (rih g83914 (by omega) (by omega) (by omega) (by omega) (by omega) (by omega) (by omega) (by omega) (by omega) (by omega) (((jw_ne e83914 (Or.inl (by decide))).trans ((jw_ne e83913 (Or.inl (by decide))).trans ((k1.v (by decide)).trans ew0)))) (by omega) (by omega) (((jw_ne e83914 (Or.inl (by decide))).trans ((jw_ne e83913 (Or.inl (by decide))).trans ey0))) (by omega) (by omega) (((jw_ne e83914 (Or.inl (by decide))).trans ((jw_ne e83913 (Or.inl (by decide))).trans ((k1.v (by decide)).trans ew2)))) (by omega) (by omega) (l0 := l0) (b0 := b83873) (by omega) (Iv.kp hI k83914 (fun _ => rfl) (fun _ => rfl) rfl) (Lv.at hL (Ad.step (r' := (x5 + 2)) (Ad.step (r' := (x5 + 1)) H0 (by omega) k83914 (fun _ => rfl) (((jw_ne e83914 (Or.inl (by decide))).trans ((jw_ne e83913 (Or.inl (by decide))).trans ev83880))) (by omega) (by omega) (by omega)) (by omega) k83914 (fun _ => rfl) (((jw_ne e83914 (Or.inl (by decide))).trans ((jw_ne e83913 (Or.inl (by decide))).trans ev83899))) (by omega) (by omega) (by omega)) k83914 (fun _ => rfl) rfl) hb83872 hS (K := K) (q := q - 1) (hK.kp k83914 (fun _ => rfl) rfl (fun _ => rfl) rfl rfl (fun _ => rfl)) (by omega) (by rw [k83914.v rfl]; exact hN) (by omega))) (by decide) (by decide) (fun w83915 h83915 q83915 => ?_)
                    obtain ⟨q83915, ad83915, ro83915, nr83915⟩ := q83915
                    obtain ⟨v83916, rfl, lv83916, uv83916, g83915, kk83915⟩ := q83915
                    have ad83915 := ad83915 _ rfl
                    have nr83915 := nr83915 _ rfl
                    obtain ⟨m83917, em83917, lm83917, um83917, fr83915, pm83915, tr83915⟩ := ro83915 _ rfl
                    have k83915 := k83914.tr kk83915 (by decide)
                    rw [RQ_kp k83914 (fun _ => rfl) rfl (fun _ => rfl) rfl rfl, bR_kp k83914 (fun _ => rfl) rfl] at nr83915
                    show jEv _ _ _ _ _ _ _ (_, [(2, 42), (0, a1), (0, a2), (0, a3), (0, 1), (0, (x5 + 1)), (0, (100 * w0 + w1)), (0, x7), (0, (v83880 - 48)), (0, 1)], [(0, v83916)], _, _, _)
                    refine ev_istore (L' := [(2, 42), (0, a1), (0, a2), (0, a3), (0, 1), (0, v83916), (0, (100 * w0 + w1)), (0, x7), (0, (v83880 - 48)), (0, 1)]) (Nat.le_of_ble_eq_true rfl) rfl ?_
                    refine ev_iload rfl ?_
                    refine ev_ifge f270_148 (fun c83918 => ?_) (fun c83918 => ?_)
                    · refine ev_iinc (w := (x7 + 1)) (L' := [(2, 42), (0, a1), (0, a2), (0, a3), (0, 1), (0, v83916), (0, (100 * w0 + w1)), (0, (x7 + 1)), (0, (v83880 - 48)), (0, 1)]) rfl (by unfold w32; omega) rfl ?_
                      refine ev_aload_n rfl ?_
                      refine ev_iload rfl ?_
                      refine ev_in (d := (d + 1)) (a := 0) (b := 0) (cd' := c264_0) (m := 2) (L0 := [(2, 42), (0, v83916)]) (jcall_v (A := [(0, v83916)]) (S' := []) (r := 42) rfl (g83915.lt ad42) (g83915.tg ad42) (Nat.le_of_ble_eq_true rfl)) (by decide) ml264 pp264 (Nat.le_of_ble_eq_true rfl) rfl (by decide) (by decide) ?_
                      refine ev_iload_n rfl ?_
                      refine ev_aload_n rfl ?_
                      refine g_getv (r := 42) (v := w2) g83915 ad42 (by decide) ft12_17 (((kk83915.v (by decide)).trans ((jw_ne e83914 (Or.inl (by decide))).trans ((jw_ne e83913 (Or.inl (by decide))).trans ((k1.v (by decide)).trans ew2))))) ?_
                      refine ev_icmpge f264_17 (fun c83919 => ?_) (fun c83919 => ?_)
                      · refine ev_iconst ?_
                        refine ev_ret rfl (by decide) (by decide) ?_
                        show jEv _ _ _ _ _ _ _ (_, [(2, 42), (0, a1), (0, a2), (0, a3), (0, 1), (0, v83916), (0, (100 * w0 + w1)), (0, (x7 + 1)), (0, (v83880 - 48)), (0, 1)], [(0, (-1))], _, _, _)
                        refine ev_bipush ?_
                        refine ev_icmpne f270_165 (fun c83920 => ?_) (fun c83920 => absurd c83920 (by omega))
                        refine ev_aload_n rfl ?_
                        refine ev_iload rfl ?_
                        refine ev_in (d := (d + 1)) (a := 0) (b := 0) (cd' := c264_0) (m := 2) (L0 := [(2, 42), (0, v83916)]) (jcall_v (A := [(0, v83916)]) (S' := []) (r := 42) rfl (g83915.lt ad42) (g83915.tg ad42) (Nat.le_of_ble_eq_true rfl)) (by decide) ml264 pp264 (Nat.le_of_ble_eq_true rfl) rfl (by decide) (by decide) ?_
                        refine ev_iload_n rfl ?_
                        refine ev_aload_n rfl ?_
                        refine g_getv (r := 42) (v := w2) g83915 ad42 (by decide) ft12_17 (((kk83915.v (by decide)).trans ((jw_ne e83914 (Or.inl (by decide))).trans ((jw_ne e83913 (Or.inl (by decide))).trans ((k1.v (by decide)).trans ew2))))) ?_
                        refine ev_icmpge f264_17 (fun c83921 => ?_) (fun c83921 => absurd c83921 (by omega))
                        refine ev_iconst ?_
                        refine ev_ret rfl (by decide) (by decide) ?_
                        show jEv _ _ _ _ _ _ _ (_, [(2, 42), (0, a1), (0, a2), (0, a3), (0, 1), (0, v83916), (0, (100 * w0 + w1)), (0, (x7 + 1)), (0, (v83880 - 48)), (0, 1)], [(0, (-1))], _, _, _)
                        refine ev_bipush ?_
                        refine ev_icmpne f270_182 (fun c83922 => ?_) (fun c83922 => absurd c83922 (by omega))
                        refine ev_aload_n rfl ?_
                        refine ev_iload rfl ?_
                        refine ev_in (d := (d + 1)) (a := 0) (b := 0) (cd' := c266_0) (m := 2) (L0 := [(2, 42), (0, v83916)]) (jcall_v (A := [(0, v83916)]) (S' := []) (r := 42) rfl (g83915.lt ad42) (g83915.tg ad42) (Nat.le_of_ble_eq_true rfl)) (by decide) ml266 pp266 (Nat.le_of_ble_eq_true rfl) rfl (by decide) (by decide) ?_
                        refine ev_aload_n rfl ?_
                        refine ev_iload_n rfl ?_
                        refine g_putf (r := 42) g83915 ad42 (by decide) ft12_20 (by decide) (fun e => absurd e nz12_20) rf42_20 (by decide) (by omega) (by omega) (fun h83923 e83923 g83923 => ?_)
                        have k83923 := k83915.wr e83923 rfl
                        refine ev_iconst ?_
                        refine ev_ret rfl (by decide) (by decide) ?_
                        show jEv _ _ _ _ _ _ _ (_, [(2, 42), (0, a1), (0, a2), (0, a3), (0, 1), (0, v83916), (0, (100 * w0 + w1)), (0, (x7 + 1)), (0, (v83880 - 48)), (0, 1)], [(0, (-1))], _, _, _)
                        exact ev_ret rfl (by decide) (by decide) ⟨⟨_, rfl, by omega, by omega, g83923, k83923⟩, fun r hr h0 => by cases hr; exfalso; omega, fun r hr => by cases hr; exact ⟨_, (((jw_ne e83923 (Or.inr (by decide))).trans em83917)), by omega, by omega, (Fr.kp (Fr.tr (Fr.kp (Fr.w (i := (400 * w0 + 4 * w1 + x7)) H2 e83913 (by omega) (by omega)) ((Kp.rf [(52, 0)] _).wr e83914 rfl) (fun _ => rfl) (fun _ => rfl) (fun _ => rfl) (fun _ => rfl)) fr83915 (by omega)) ((Kp.rf [(42, 0)] _).wr e83923 rfl) (fun _ => rfl) (fun _ => rfl) (fun _ => rfl) (fun _ => rfl)), fun h0 => by exfalso; omega, fun h0 => by exfalso; omega⟩, fun r hr => by cases hr; exact (Bd.M (cr_x (q := (x5 + 1)) (v := v83916) H4 (by omega) (by unfold nm2; rw [(bR_at (p := x5) k83923 (fun _ => rfl) ew2 (((jw_ne e83923 (Or.inl (by decide))).trans ((kk83915.v rfl).trans ((jw_ne e83914 (Or.inl (by decide))).trans ((jw_ne e83913 (Or.inl (by decide))).trans ev83880))))) (by omega) (by omega)), (bR_at (p := (x5 + 1)) k83923 (fun _ => rfl) ew2 (((jw_ne e83923 (Or.inl (by decide))).trans ((kk83915.v rfl).trans ((jw_ne e83914 (Or.inl (by decide))).trans ((jw_ne e83913 (Or.inl (by decide))).trans ev83899))))) (by omega) (by omega))]; (repeat' split) <;> omega) (by omega) ((bR_at (p := (x5 + 1)) k83923 (fun _ => rfl) ew2 (((jw_ne e83923 (Or.inl (by decide))).trans ((kk83915.v rfl).trans ((jw_ne e83914 (Or.inl (by decide))).trans ((jw_ne e83913 (Or.inl (by decide))).trans ev83899))))) (by omega) (by omega)).trans (by omega)) (by rw [show ((x5 + 1) + 1 : Int) = (x5 + 2) by omega]; exact ⟨(nr83915.ok (by omega)).1, (nr83915.ok (by omega)).2.1⟩) (fun z => absurd ((bR_end (p := v83916) ew2 (by omega)).symm.trans z) (by omega)) (Or.inl (fun z => absurd ((bR_end (p := v83916) ew2 (by omega)).symm.trans z) (by omega))) (by omega)) ((jw_eq e83923)))⟩
                      · refine ev_aload_n rfl ?_
                        refine g_getp (r := 42) (c := 54) g83915 ad42 (by decide) (by decide) rf42_16 ft12_16 ?_
                        refine ev_iload_n rfl ?_
                        refine g_bald g83915 ad54 rt54 (by omega) (by omega) (fun v83924 ev83924 lv83924 uv83924 => ?_)
                        refine ev_goto f264_18 ?_
                        refine ev_ret rfl (by decide) (by decide) ?_
                        show jEv _ _ _ _ _ _ _ (_, [(2, 42), (0, a1), (0, a2), (0, a3), (0, 1), (0, v83916), (0, (100 * w0 + w1)), (0, (x7 + 1)), (0, (v83880 - 48)), (0, 1)], [(0, v83924)], _, _, _)
                        refine ev_bipush ?_
                        refine ev_icmpne f270_165 (fun c83925 => ?_) (fun c83925 => ?_)
                        · refine ev_aload_n rfl ?_
                          refine ev_iload rfl ?_
                          refine ev_in (d := (d + 1)) (a := 0) (b := 0) (cd' := c264_0) (m := 2) (L0 := [(2, 42), (0, v83916)]) (jcall_v (A := [(0, v83916)]) (S' := []) (r := 42) rfl (g83915.lt ad42) (g83915.tg ad42) (Nat.le_of_ble_eq_true rfl)) (by decide) ml264 pp264 (Nat.le_of_ble_eq_true rfl) rfl (by decide) (by decide) ?_
                          refine ev_iload_n rfl ?_
                          refine ev_aload_n rfl ?_
                          refine g_getv (r := 42) (v := w2) g83915 ad42 (by decide) ft12_17 (((kk83915.v (by decide)).trans ((jw_ne e83914 (Or.inl (by decide))).trans ((jw_ne e83913 (Or.inl (by decide))).trans ((k1.v (by decide)).trans ew2))))) ?_
                          refine ev_icmpge f264_17 (fun c83926 => absurd c83926 (by omega)) (fun c83926 => ?_)
                          refine ev_aload_n rfl ?_
                          refine g_getp (r := 42) (c := 54) g83915 ad42 (by decide) (by decide) rf42_16 ft12_16 ?_
                          refine ev_iload_n rfl ?_
                          refine g_baldv (v := v83924) g83915 ad54 (by omega) (by omega) (ev83924) ?_
                          refine ev_goto f264_18 ?_
                          refine ev_ret rfl (by decide) (by decide) ?_
                          show jEv _ _ _ _ _ _ _ (_, [(2, 42), (0, a1), (0, a2), (0, a3), (0, 1), (0, v83916), (0, (100 * w0 + w1)), (0, (x7 + 1)), (0, (v83880 - 48)), (0, 1)], [(0, v83924)], _, _, _)
                          refine ev_bipush ?_
                          refine ev_icmpne f270_182 (fun c83927 => ?_) (fun c83927 => ?_)
                          · refine ev_aload_n rfl ?_
                            refine ev_iload rfl ?_
                            refine ev_in (d := (d + 1)) (a := 0) (b := 0) (cd' := c266_0) (m := 2) (L0 := [(2, 42), (0, v83916)]) (jcall_v (A := [(0, v83916)]) (S' := []) (r := 42) rfl (g83915.lt ad42) (g83915.tg ad42) (Nat.le_of_ble_eq_true rfl)) (by decide) ml266 pp266 (Nat.le_of_ble_eq_true rfl) rfl (by decide) (by decide) ?_
                            refine ev_aload_n rfl ?_
                            refine ev_iload_n rfl ?_
                            refine g_putf (r := 42) g83915 ad42 (by decide) ft12_20 (by decide) (fun e => absurd e nz12_20) rf42_20 (by decide) (by omega) (by omega) (fun h83928 e83928 g83928 => ?_)
                            have k83928 := k83915.wr e83928 rfl
                            refine ev_iconst ?_
                            refine ev_ret rfl (by decide) (by decide) ?_
                            show jEv _ _ _ _ _ _ _ (_, [(2, 42), (0, a1), (0, a2), (0, a3), (0, 1), (0, v83916), (0, (100 * w0 + w1)), (0, (x7 + 1)), (0, (v83880 - 48)), (0, 1)], [(0, (-1))], _, _, _)
                            exact ev_ret rfl (by decide) (by decide) ⟨⟨_, rfl, by omega, by omega, g83928, k83928⟩, fun r hr h0 => by cases hr; exfalso; omega, fun r hr => by cases hr; exact ⟨_, (((jw_ne e83928 (Or.inr (by decide))).trans em83917)), by omega, by omega, (Fr.kp (Fr.tr (Fr.kp (Fr.w (i := (400 * w0 + 4 * w1 + x7)) H2 e83913 (by omega) (by omega)) ((Kp.rf [(52, 0)] _).wr e83914 rfl) (fun _ => rfl) (fun _ => rfl) (fun _ => rfl) (fun _ => rfl)) fr83915 (by omega)) ((Kp.rf [(42, 0)] _).wr e83928 rfl) (fun _ => rfl) (fun _ => rfl) (fun _ => rfl) (fun _ => rfl)), fun h0 => by exfalso; omega, fun h0 => by exfalso; omega⟩, fun r hr => by cases hr; exact (Bd.M (cr_x (q := (x5 + 1)) (v := v83916) H4 (by omega) (by unfold nm2; rw [(bR_at (p := x5) k83928 (fun _ => rfl) ew2 (((jw_ne e83928 (Or.inl (by decide))).trans ((kk83915.v rfl).trans ((jw_ne e83914 (Or.inl (by decide))).trans ((jw_ne e83913 (Or.inl (by decide))).trans ev83880))))) (by omega) (by omega)), (bR_at (p := (x5 + 1)) k83928 (fun _ => rfl) ew2 (((jw_ne e83928 (Or.inl (by decide))).trans ((kk83915.v rfl).trans ((jw_ne e83914 (Or.inl (by decide))).trans ((jw_ne e83913 (Or.inl (by decide))).trans ev83899))))) (by omega) (by omega))]; (repeat' split) <;> omega) (by omega) ((bR_at (p := (x5 + 1)) k83928 (fun _ => rfl) ew2 (((jw_ne e83928 (Or.inl (by decide))).trans ((kk83915.v rfl).trans ((jw_ne e83914 (Or.inl (by decide))).trans ((jw_ne e83913 (Or.inl (by decide))).trans ev83899))))) (by omega) (by omega)).trans (by omega)) (by rw [show ((x5 + 1) + 1 : Int) = (x5 + 2) by omega]; exact ⟨(nr83915.ok (by omega)).1, (nr83915.ok (by omega)).2.1⟩) (fun z => absurd ((bR_at (p := v83916) k83928 (fun _ => rfl) ew2 (((jw_ne e83928 (Or.inl (by decide))).trans ev83924)) (by omega) (by omega)).symm.trans z) (by omega)) (Or.inl (fun z => absurd ((bR_at (p := v83916) k83928 (fun _ => rfl) ew2 (((jw_ne e83928 (Or.inl (by decide))).trans ev83924)) (by omega) (by omega)).symm.trans z) (by omega))) (by omega)) ((jw_eq e83928)))⟩
                          · refine ev_iload rfl ?_
                            refine ev_iconst ?_
                            refine ev_icmpne f270_189 (fun c83929 => ?_) (fun c83929 => ?_)
                            · refine ev_iinc (w := (v83916 + 1)) (L' := [(2, 42), (0, a1), (0, a2), (0, a3), (0, 1), (0, (v83916 + 1)), (0, (100 * w0 + w1)), (0, (x7 + 1)), (0, (v83880 - 48)), (0, 1)]) rfl (by unfold w32; omega) rfl ?_
                              refine ev_goto f270_45 ?_
                              exact ih _ _ _ _ _ _ g83915 k83915 (by omega) (by omega) (by omega) (by omega) (by omega) (by omega) (by omega) (by omega) (by omega) (by omega) (by omega) (em83917) (by omega) (by omega) (Ad.step (r' := (v83916 + 1)) (Ad.tr (Ad.step (r' := (x5 + 2)) (Ad.step (r' := (x5 + 1)) H0 (by omega) k83914 (fun _ => rfl) (((jw_ne e83914 (Or.inl (by decide))).trans ((jw_ne e83913 (Or.inl (by decide))).trans ev83880))) (by omega) (by omega) (by omega)) (by omega) k83914 (fun _ => rfl) (((jw_ne e83914 (Or.inl (by decide))).trans ((jw_ne e83913 (Or.inl (by decide))).trans ev83899))) (by omega) (by omega) (by omega)) k83914 (fun _ => rfl) (ad83915 (by omega))) (by omega) k83915 (fun _ => rfl) (ev83924) (by omega) (by omega) (by omega)) (Mb.step H1 eb83872 um83917 (by omega)) (Fr.tr (Fr.kp (Fr.w (i := (400 * w0 + 4 * w1 + x7)) H2 e83913 (by omega) (by omega)) ((Kp.rf [(52, 0)] _).wr e83914 rfl) (fun _ => rfl) (fun _ => rfl) (fun _ => rfl) (fun _ => rfl)) fr83915 (by omega)) (PC.step (i := (100 * w0 + w1)) (j := (400 * w0 + 4 * w1 + x7)) H3 (by omega) (by omega) (by omega) (by omega) (by omega) (by omega) (by omega) e83913 ((Kp.rf [(52, 0)] _).wr e83914 rfl) (fun _ => rfl) (fun _ => rfl) (fun _ => rfl) (fun _ => rfl) rfl (fun _ => rfl) kk83915 rfl (fun _ => rfl) fr83915 lm83917 (tr83915 (by omega)) (by omega)) (cr_k (q := (x5 + 1)) (v := v83916) H4 (by omega) (by unfold nm2; rw [(bR_at (p := x5) k83915 (fun _ => rfl) ew2 (((kk83915.v rfl).trans ((jw_ne e83914 (Or.inl (by decide))).trans ((jw_ne e83913 (Or.inl (by decide))).trans ev83880)))) (by omega) (by omega)), (bR_at (p := (x5 + 1)) k83915 (fun _ => rfl) ew2 (((kk83915.v rfl).trans ((jw_ne e83914 (Or.inl (by decide))).trans ((jw_ne e83913 (Or.inl (by decide))).trans ev83899)))) (by omega) (by omega))]; (repeat' split) <;> omega) (by omega) ((bR_at (p := (x5 + 1)) k83915 (fun _ => rfl) ew2 (((kk83915.v rfl).trans ((jw_ne e83914 (Or.inl (by decide))).trans ((jw_ne e83913 (Or.inl (by decide))).trans ev83899)))) (by omega) (by omega)).trans (by omega)) (by rw [show ((x5 + 1) + 1 : Int) = (x5 + 2) by omega]; exact ⟨(nr83915.ok (by omega)).1, (nr83915.ok (by omega)).2.1⟩) ((bR_at (p := v83916) k83915 (fun _ => rfl) ew2 (ev83924) (by omega) (by omega)).trans (by omega)) (by omega) (by omega) (by rw [show ((x5 + 1) + 1 : Int) = (x5 + 2) by omega]; have z := (nr83915.ok (by omega)).2.2; rw [em83917] at z; exact z)) (by omega)
                            · refine ev_aload_n rfl ?_
                              refine ev_iload rfl ?_
                              refine ev_in (d := (d + 1)) (a := 0) (b := 0) (cd' := c266_0) (m := 2) (L0 := [(2, 42), (0, v83916)]) (jcall_v (A := [(0, v83916)]) (S' := []) (r := 42) rfl (g83915.lt ad42) (g83915.tg ad42) (Nat.le_of_ble_eq_true rfl)) (by decide) ml266 pp266 (Nat.le_of_ble_eq_true rfl) rfl (by decide) (by decide) ?_
                              refine ev_aload_n rfl ?_
                              refine ev_iload_n rfl ?_
                              refine g_putf (r := 42) g83915 ad42 (by decide) ft12_20 (by decide) (fun e => absurd e nz12_20) rf42_20 (by decide) (by omega) (by omega) (fun h83930 e83930 g83930 => ?_)
                              have k83930 := k83915.wr e83930 rfl
                              refine ev_iconst ?_
                              refine ev_ret rfl (by decide) (by decide) ?_
                              show jEv _ _ _ _ _ _ _ (_, [(2, 42), (0, a1), (0, a2), (0, a3), (0, 1), (0, v83916), (0, (100 * w0 + w1)), (0, (x7 + 1)), (0, (v83880 - 48)), (0, 1)], [(0, (-1))], _, _, _)
                              exact ev_ret rfl (by decide) (by decide) ⟨⟨_, rfl, by omega, by omega, g83930, k83930⟩, fun r hr h0 => by cases hr; exfalso; omega, fun r hr => by cases hr; exact ⟨_, (((jw_ne e83930 (Or.inr (by decide))).trans em83917)), by omega, by omega, (Fr.kp (Fr.tr (Fr.kp (Fr.w (i := (400 * w0 + 4 * w1 + x7)) H2 e83913 (by omega) (by omega)) ((Kp.rf [(52, 0)] _).wr e83914 rfl) (fun _ => rfl) (fun _ => rfl) (fun _ => rfl) (fun _ => rfl)) fr83915 (by omega)) ((Kp.rf [(42, 0)] _).wr e83930 rfl) (fun _ => rfl) (fun _ => rfl) (fun _ => rfl) (fun _ => rfl)), fun h0 => by exfalso; omega, fun h0 => by exfalso; omega⟩, fun r hr => by cases hr; exact (Bd.M (cr_x (q := (x5 + 1)) (v := v83916) H4 (by omega) (by unfold nm2; rw [(bR_at (p := x5) k83930 (fun _ => rfl) ew2 (((jw_ne e83930 (Or.inl (by decide))).trans ((kk83915.v rfl).trans ((jw_ne e83914 (Or.inl (by decide))).trans ((jw_ne e83913 (Or.inl (by decide))).trans ev83880))))) (by omega) (by omega)), (bR_at (p := (x5 + 1)) k83930 (fun _ => rfl) ew2 (((jw_ne e83930 (Or.inl (by decide))).trans ((kk83915.v rfl).trans ((jw_ne e83914 (Or.inl (by decide))).trans ((jw_ne e83913 (Or.inl (by decide))).trans ev83899))))) (by omega) (by omega))]; (repeat' split) <;> omega) (by omega) ((bR_at (p := (x5 + 1)) k83930 (fun _ => rfl) ew2 (((jw_ne e83930 (Or.inl (by decide))).trans ((kk83915.v rfl).trans ((jw_ne e83914 (Or.inl (by decide))).trans ((jw_ne e83913 (Or.inl (by decide))).trans ev83899))))) (by omega) (by omega)).trans (by omega)) (by rw [show ((x5 + 1) + 1 : Int) = (x5 + 2) by omega]; exact ⟨(nr83915.ok (by omega)).1, (nr83915.ok (by omega)).2.1⟩) (fun z => absurd ((bR_at (p := v83916) k83930 (fun _ => rfl) ew2 (((jw_ne e83930 (Or.inl (by decide))).trans ev83924)) (by omega) (by omega)).symm.trans z) (by omega)) (Or.inr (by omega)) (by omega)) ((jw_eq e83930)))⟩
                        · refine ev_goto f270_195 ?_
                          refine ev_iload rfl ?_
                          refine ev_iflt f270_209 (fun c83931 => absurd c83931 (by omega)) (fun c83931 => ?_)
                          refine ev_aload_n rfl ?_
                          refine g_getp (r := 42) (c := 50) g83915 ad42 (by decide) (by decide) rf42_12 ft12_12 ?_
                          refine ev_iload rfl ?_
                          refine ev_iload rfl ?_
                          refine ev_iastG (r := 50) (j := ((100 * w0 + w1)).toNat) (g83915.lt ad50) (g83915.tg ad50) (by omega) (by rw [g83915.ln ad50]; omega) (fun h83932 e83932 => ?_)
                          have g83932 := g83915.s50 e83932 (Or.inl (by rw [(((kk83915.v (by decide)).trans ((jw_ne e83914 (Or.inl (by decide))).trans ((jw_ne e83913 (Or.inl (by decide))).trans ((k1.v (by decide)).trans ew0)))))]; omega)) (by omega) (by omega)
                          have k83932 := k83915.wr e83932 rfl
                          refine ev_iload rfl ?_
                          refine ev_iconst ?_
                          refine ev_iadd (r := (v83916 + 1)) (by unfold w32; omega) ?_
                          exact ev_ret rfl (by decide) (by decide) ⟨⟨_, rfl, by omega, by omega, g83932, k83932⟩, fun r hr h0 => by cases hr; exact (Ad.step (r' := (v83916 + 1)) (Ad.tr (Ad.step (r' := (x5 + 2)) (Ad.step (r' := (x5 + 1)) H0 (by omega) k83914 (fun _ => rfl) (((jw_ne e83914 (Or.inl (by decide))).trans ((jw_ne e83913 (Or.inl (by decide))).trans ev83880))) (by omega) (by omega) (by omega)) (by omega) k83914 (fun _ => rfl) (((jw_ne e83914 (Or.inl (by decide))).trans ((jw_ne e83913 (Or.inl (by decide))).trans ev83899))) (by omega) (by omega) (by omega)) k83914 (fun _ => rfl) (ad83915 (by omega))) (by omega) k83932 (fun _ => rfl) (((jw_ne e83932 (Or.inl (by decide))).trans ev83924)) (by omega) (by omega) (by omega)), fun r hr => by cases hr; exact ⟨_, (((jw_ne e83932 (Or.inl (by decide))).trans em83917)), by omega, by omega, (Fr.w (i := (100 * w0 + w1)) (Fr.tr (Fr.kp (Fr.w (i := (400 * w0 + 4 * w1 + x7)) H2 e83913 (by omega) (by omega)) ((Kp.rf [(52, 0)] _).wr e83914 rfl) (fun _ => rfl) (fun _ => rfl) (fun _ => rfl) (fun _ => rfl)) fr83915 (by omega)) e83932 (by omega) (by omega)), fun h0 => by have := pm83915 (by omega); omega, fun h0 hm => PC.choice (i := (100 * w0 + w1)) (PC.step (i := (100 * w0 + w1)) (j := (400 * w0 + 4 * w1 + x7)) H3 (by omega) (by omega) (by omega) (by omega) (by omega) (by omega) (by omega) e83913 ((Kp.rf [(52, 0)] _).wr e83914 rfl) (fun _ => rfl) (fun _ => rfl) (fun _ => rfl) (fun _ => rfl) rfl (fun _ => rfl) kk83915 rfl (fun _ => rfl) fr83915 lm83917 (tr83915 (by omega)) (by omega)) (by omega) (by omega) (by omega) (by omega) (by omega) e83932 (by omega) hm⟩, fun r hr => by cases hr; exact Or.inl (by have y := cr_e (q := (x5 + 1)) (v := v83916) (r := (v83916 + 1)) (md' := m83917) H4 (by omega) (by unfold nm2; rw [(bR_at (p := x5) k83932 (fun _ => rfl) ew2 (((jw_ne e83932 (Or.inl (by decide))).trans ((kk83915.v rfl).trans ((jw_ne e83914 (Or.inl (by decide))).trans ((jw_ne e83913 (Or.inl (by decide))).trans ev83880))))) (by omega) (by omega)), (bR_at (p := (x5 + 1)) k83932 (fun _ => rfl) ew2 (((jw_ne e83932 (Or.inl (by decide))).trans ((kk83915.v rfl).trans ((jw_ne e83914 (Or.inl (by decide))).trans ((jw_ne e83913 (Or.inl (by decide))).trans ev83899))))) (by omega) (by omega))]; (repeat' split) <;> omega) (by omega) ((bR_at (p := (x5 + 1)) k83932 (fun _ => rfl) ew2 (((jw_ne e83932 (Or.inl (by decide))).trans ((kk83915.v rfl).trans ((jw_ne e83914 (Or.inl (by decide))).trans ((jw_ne e83913 (Or.inl (by decide))).trans ev83899))))) (by omega) (by omega)).trans (by omega)) (by rw [show ((x5 + 1) + 1 : Int) = (x5 + 2) by omega]; exact ⟨(nr83915.ok (by omega)).1, (nr83915.ok (by omega)).2.1⟩) ((bR_at (p := v83916) k83932 (fun _ => rfl) ew2 (((jw_ne e83932 (Or.inl (by decide))).trans ev83924)) (by omega) (by omega)).trans (by omega)) (by omega) (by rw [show ((x5 + 1) + 1 : Int) = (x5 + 2) by omega]; have z := (nr83915.ok (by omega)).2.2; rw [em83917] at z; exact z); exact ⟨y.1, y.2.1, (((jw_ne e83932 (Or.inl (by decide))).trans em83917)).trans y.2.2⟩)⟩
                    · refine ev_iconst ?_
                      exact ev_ret rfl (by decide) (by decide) ⟨⟨_, rfl, by omega, by omega, g83915, k83915⟩, fun r hr h0 => by cases hr; exfalso; omega, fun r hr => by cases hr; exact ⟨_, (em83917), by omega, by omega, (Fr.tr (Fr.kp (Fr.w (i := (400 * w0 + 4 * w1 + x7)) H2 e83913 (by omega) (by omega)) ((Kp.rf [(52, 0)] _).wr e83914 rfl) (fun _ => rfl) (fun _ => rfl) (fun _ => rfl) (fun _ => rfl)) fr83915 (by omega)), fun h0 => by exfalso; omega, fun h0 => by exfalso; omega⟩, fun r hr => by cases hr; exact Bd.M (cr_b (q := (x5 + 1)) H4 (by omega) (by unfold nm2; rw [(bR_at (p := x5) k83915 (fun _ => rfl) ew2 (((kk83915.v rfl).trans ((jw_ne e83914 (Or.inl (by decide))).trans ((jw_ne e83913 (Or.inl (by decide))).trans ev83880)))) (by omega) (by omega)), (bR_at (p := (x5 + 1)) k83915 (fun _ => rfl) ew2 (((kk83915.v rfl).trans ((jw_ne e83914 (Or.inl (by decide))).trans ((jw_ne e83913 (Or.inl (by decide))).trans ev83899)))) (by omega) (by omega))]; (repeat' split) <;> omega) (by omega) ((bR_at (p := (x5 + 1)) k83915 (fun _ => rfl) ew2 (((kk83915.v rfl).trans ((jw_ne e83914 (Or.inl (by decide))).trans ((jw_ne e83913 (Or.inl (by decide))).trans ev83899)))) (by omega) (by omega)).trans (by omega)) (by rw [show ((x5 + 1) + 1 : Int) = (x5 + 2) by omega]; exact nr83915.bd (by omega))) rfl⟩
                  · refine ev_aload_n rfl ?_
                    refine ev_iload rfl ?_
                    refine ev_iload rfl ?_
                    refine ev_iload rfl ?_
                    refine ev_in (d := (d + 1)) (a := 0) (b := 0) (cd' := c268_0) (m := 4) (L0 := [(2, 42), (0, (100 * w0 + w1)), (0, x7), (0, (v83880 - 48))]) (jcall_v (A := [(0, (v83880 - 48)), (0, x7), (0, (100 * w0 + w1))]) (S' := []) (r := 42) rfl (g1.lt ad42) (g1.tg ad42) (Nat.le_of_ble_eq_true rfl)) (by decide) ml268 pp268 (Nat.le_of_ble_eq_true rfl) rfl (by decide) (by decide) ?_
                    refine ev_iload_n rfl ?_
                    refine ev_ifge f268_5 (fun c83933 => ?_) (fun c83933 => absurd c83933 (by omega))
                    refine ev_aload_n rfl ?_
                    refine g_getp (r := 42) (c := 51) g1 ad42 (by decide) (by decide) rf42_13 ft12_13 ?_
                    refine ev_iconst ?_
                    refine ev_iload_n rfl ?_
                    refine ev_imul (r := (400 * w0 + 4 * w1)) (by unfold w32; omega) ?_
                    refine ev_iload_n rfl ?_
                    refine ev_iadd (r := (400 * w0 + 4 * w1 + x7)) (by unfold w32; omega) ?_
                    refine ev_aload_n rfl ?_
                    refine g_getv (r := 42) (v := y0) g1 ad42 (by decide) ft12_21 (ey0) ?_
                    refine g_i2bG (fun v83934 ev83934 lv83934 uv83934 => ?_)
                    refine ev_bastG (r := 51) (j := ((400 * w0 + 4 * w1 + x7)).toNat) (w := v83934) (g1.lt ad51) (g1.tg ad51) (by omega) (by rw [g1.ln ad51]; omega) (by unfold w8; omega) (fun h83935 e83935 => ?_)
                    have g83935 := g1.s51 e83935 (by rw [(((k1.v (by decide)).trans ew0))]; omega) (by omega) (by omega)
                    have k83935 := k1.wr e83935 rfl
                    refine ev_aload_n rfl ?_
                    refine g_getp (r := 42) (c := 52) g83935 ad42 (by decide) (by decide) rf42_14 ft12_14 ?_
                    refine ev_iconst ?_
                    refine ev_iload_n rfl ?_
                    refine ev_imul (r := (400 * w0 + 4 * w1)) (by unfold w32; omega) ?_
                    refine ev_iload_n rfl ?_
                    refine ev_iadd (r := (400 * w0 + 4 * w1 + x7)) (by unfold w32; omega) ?_
                    refine ev_iload_n rfl ?_
                    refine g_iast g83935 ad52 rt52 (fun _ => rfl) (by omega) (by omega) (by omega) (by omega) (fun h83936 e83936 g83936 => ?_)
                    have k83936 := k83935.wr e83936 rfl
                    refine ev_ret rfl (by decide) (by decide) ?_
                    show jEv _ _ _ _ _ _ _ (_, [(2, 42), (0, a1), (0, a2), (0, a3), (0, 1), (0, (x5 + 1)), (0, (100 * w0 + w1)), (0, x7), (0, (v83880 - 48)), (0, 1)], [], _, _, _)
                    refine ev_aload_n rfl ?_
                    refine ev_iload rfl ?_
                    refine ev_iconst ?_
                    refine ev_iadd (r := (x5 + 2)) (by unfold w32; omega) ?_
                    refine ev_iload_n rfl ?_
                    refine ev_iload_n rfl ?_
                    refine ev_iconst ?_
                    refine ev_iadd (r := (a3 + 1)) (by unfold w32; omega) ?_
                    refine ev_iload rfl ?_
                    refine ev_call (jcall_v (A := [(0, 1), (0, (a3 + 1)), (0, a2), (0, (x5 + 2))]) (S' := []) (r := 42) rfl (g83936.lt ad42) (g83936.tg ad42) (Nat.le_of_ble_eq_true rfl)) (jOk_le (by omega) (t272o g83936 (by omega) (by omega) (by omega) (by omega) (by omega) (by omega) (by omega) (by omega) (by omega) (by omega) (((jw_ne e83936 (Or.inl (by decide))).trans ((jw_ne e83935 (Or.inl (by decide))).trans ey0))) (by omega) (by omega) (((jw_ne e83936 (Or.inl (by decide))).trans ((jw_ne e83935 (Or.inl (by decide))).trans ((k1.v (by decide)).trans ew2)))) (by omega) (by omega) (l0 := l0) (b0 := b83873) (by omega) (Iv.kp hI k83936 (fun _ => rfl) (fun _ => rfl) rfl) (Lv.at hL (Ad.step (r' := (x5 + 2)) (Ad.step (r' := (x5 + 1)) H0 (by omega) k83936 (fun _ => rfl) (((jw_ne e83936 (Or.inl (by decide))).trans ((jw_ne e83935 (Or.inl (by decide))).trans ev83880))) (by omega) (by omega) (by omega)) (by omega) k83936 (fun _ => rfl) (((jw_ne e83936 (Or.inl (by decide))).trans ((jw_ne e83935 (Or.inl (by decide))).trans ev83899))) (by omega) (by omega) (by omega)) k83936 (fun _ => rfl) rfl) hb83872 (K := K) (q := q - 1) (hK.kp k83936 (fun _ => rfl) rfl (fun _ => rfl) rfl rfl (fun _ => rfl)) (by omega) (by rw [k83936.v rfl]; exact hN))) (by decide) (by decide) (fun w83937 h83937 q83937 => ?_)
                    obtain ⟨q83937, ad83937, ro83937, nr83937⟩ := q83937
                    obtain ⟨v83938, rfl, lv83938, uv83938, g83937, kk83937⟩ := q83937
                    have ad83937 := ad83937 _ rfl
                    have nr83937 := nr83937 _ rfl
                    obtain ⟨m83939, em83939, lm83939, um83939, pm83937⟩ := ro83937 _ rfl
                    have k83937 := k83936.tr kk83937 (by decide)
                    rw [RQ_kp k83936 (fun _ => rfl) rfl (fun _ => rfl) rfl rfl, bR_kp k83936 (fun _ => rfl) rfl] at nr83937
                    show jEv _ _ _ _ _ _ _ (_, [(2, 42), (0, a1), (0, a2), (0, a3), (0, 1), (0, (x5 + 1)), (0, (100 * w0 + w1)), (0, x7), (0, (v83880 - 48)), (0, 1)], [(0, v83938)], _, _, _)
                    refine ev_istore (L' := [(2, 42), (0, a1), (0, a2), (0, a3), (0, 1), (0, v83938), (0, (100 * w0 + w1)), (0, x7), (0, (v83880 - 48)), (0, 1)]) (Nat.le_of_ble_eq_true rfl) rfl ?_
                    refine ev_iload rfl ?_
                    refine ev_ifge f270_148 (fun c83940 => ?_) (fun c83940 => ?_)
                    · refine ev_iinc (w := (x7 + 1)) (L' := [(2, 42), (0, a1), (0, a2), (0, a3), (0, 1), (0, v83938), (0, (100 * w0 + w1)), (0, (x7 + 1)), (0, (v83880 - 48)), (0, 1)]) rfl (by unfold w32; omega) rfl ?_
                      refine ev_aload_n rfl ?_
                      refine ev_iload rfl ?_
                      refine ev_in (d := (d + 1)) (a := 0) (b := 0) (cd' := c264_0) (m := 2) (L0 := [(2, 42), (0, v83938)]) (jcall_v (A := [(0, v83938)]) (S' := []) (r := 42) rfl (g83937.lt ad42) (g83937.tg ad42) (Nat.le_of_ble_eq_true rfl)) (by decide) ml264 pp264 (Nat.le_of_ble_eq_true rfl) rfl (by decide) (by decide) ?_
                      refine ev_iload_n rfl ?_
                      refine ev_aload_n rfl ?_
                      refine g_getv (r := 42) (v := w2) g83937 ad42 (by decide) ft12_17 (((kk83937.v (by decide)).trans ((jw_ne e83936 (Or.inl (by decide))).trans ((jw_ne e83935 (Or.inl (by decide))).trans ((k1.v (by decide)).trans ew2))))) ?_
                      refine ev_icmpge f264_17 (fun c83941 => ?_) (fun c83941 => ?_)
                      · refine ev_iconst ?_
                        refine ev_ret rfl (by decide) (by decide) ?_
                        show jEv _ _ _ _ _ _ _ (_, [(2, 42), (0, a1), (0, a2), (0, a3), (0, 1), (0, v83938), (0, (100 * w0 + w1)), (0, (x7 + 1)), (0, (v83880 - 48)), (0, 1)], [(0, (-1))], _, _, _)
                        refine ev_bipush ?_
                        refine ev_icmpne f270_165 (fun c83942 => ?_) (fun c83942 => absurd c83942 (by omega))
                        refine ev_aload_n rfl ?_
                        refine ev_iload rfl ?_
                        refine ev_in (d := (d + 1)) (a := 0) (b := 0) (cd' := c264_0) (m := 2) (L0 := [(2, 42), (0, v83938)]) (jcall_v (A := [(0, v83938)]) (S' := []) (r := 42) rfl (g83937.lt ad42) (g83937.tg ad42) (Nat.le_of_ble_eq_true rfl)) (by decide) ml264 pp264 (Nat.le_of_ble_eq_true rfl) rfl (by decide) (by decide) ?_
                        refine ev_iload_n rfl ?_
                        refine ev_aload_n rfl ?_
                        refine g_getv (r := 42) (v := w2) g83937 ad42 (by decide) ft12_17 (((kk83937.v (by decide)).trans ((jw_ne e83936 (Or.inl (by decide))).trans ((jw_ne e83935 (Or.inl (by decide))).trans ((k1.v (by decide)).trans ew2))))) ?_
                        refine ev_icmpge f264_17 (fun c83943 => ?_) (fun c83943 => absurd c83943 (by omega))
                        refine ev_iconst ?_
                        refine ev_ret rfl (by decide) (by decide) ?_
                        show jEv _ _ _ _ _ _ _ (_, [(2, 42), (0, a1), (0, a2), (0, a3), (0, 1), (0, v83938), (0, (100 * w0 + w1)), (0, (x7 + 1)), (0, (v83880 - 48)), (0, 1)], [(0, (-1))], _, _, _)
                        refine ev_bipush ?_
                        refine ev_icmpne f270_182 (fun c83944 => ?_) (fun c83944 => absurd c83944 (by omega))
                        refine ev_aload_n rfl ?_
                        refine ev_iload rfl ?_
                        refine ev_in (d := (d + 1)) (a := 0) (b := 0) (cd' := c266_0) (m := 2) (L0 := [(2, 42), (0, v83938)]) (jcall_v (A := [(0, v83938)]) (S' := []) (r := 42) rfl (g83937.lt ad42) (g83937.tg ad42) (Nat.le_of_ble_eq_true rfl)) (by decide) ml266 pp266 (Nat.le_of_ble_eq_true rfl) rfl (by decide) (by decide) ?_
                        refine ev_aload_n rfl ?_
                        refine ev_iload_n rfl ?_
                        refine g_putf (r := 42) g83937 ad42 (by decide) ft12_20 (by decide) (fun e => absurd e nz12_20) rf42_20 (by decide) (by omega) (by omega) (fun h83945 e83945 g83945 => ?_)
                        have k83945 := k83937.wr e83945 rfl
                        refine ev_iconst ?_
                        refine ev_ret rfl (by decide) (by decide) ?_
                        show jEv _ _ _ _ _ _ _ (_, [(2, 42), (0, a1), (0, a2), (0, a3), (0, 1), (0, v83938), (0, (100 * w0 + w1)), (0, (x7 + 1)), (0, (v83880 - 48)), (0, 1)], [(0, (-1))], _, _, _)
                        exact ev_ret rfl (by decide) (by decide) ⟨⟨_, rfl, by omega, by omega, g83945, k83945⟩, fun r hr h0 => by cases hr; exfalso; omega, fun r hr => by cases hr; exact ⟨_, (((jw_ne e83945 (Or.inr (by decide))).trans em83939)), by omega, by omega, (Fr.kp (Fr.kp (Fr.kp (Fr.w (i := (400 * w0 + 4 * w1 + x7)) H2 e83935 (by omega) (by omega)) ((Kp.rf [(52, 0)] _).wr e83936 rfl) (fun _ => rfl) (fun _ => rfl) (fun _ => rfl) (fun _ => rfl)) kk83937 (fun _ => rfl) (fun _ => rfl) (fun _ => rfl) (fun _ => rfl)) ((Kp.rf [(42, 0)] _).wr e83945 rfl) (fun _ => rfl) (fun _ => rfl) (fun _ => rfl) (fun _ => rfl)), fun h0 => by exfalso; omega, fun h0 => by exfalso; omega⟩, fun r hr => by cases hr; exact (Bd.M (cr_x (q := (x5 + 1)) (v := v83938) H4 (by omega) (by unfold nm2; rw [(bR_at (p := x5) k83945 (fun _ => rfl) ew2 (((jw_ne e83945 (Or.inl (by decide))).trans ((kk83937.v rfl).trans ((jw_ne e83936 (Or.inl (by decide))).trans ((jw_ne e83935 (Or.inl (by decide))).trans ev83880))))) (by omega) (by omega)), (bR_at (p := (x5 + 1)) k83945 (fun _ => rfl) ew2 (((jw_ne e83945 (Or.inl (by decide))).trans ((kk83937.v rfl).trans ((jw_ne e83936 (Or.inl (by decide))).trans ((jw_ne e83935 (Or.inl (by decide))).trans ev83899))))) (by omega) (by omega))]; (repeat' split) <;> omega) (by omega) ((bR_at (p := (x5 + 1)) k83945 (fun _ => rfl) ew2 (((jw_ne e83945 (Or.inl (by decide))).trans ((kk83937.v rfl).trans ((jw_ne e83936 (Or.inl (by decide))).trans ((jw_ne e83935 (Or.inl (by decide))).trans ev83899))))) (by omega) (by omega)).trans (by omega)) (by rw [show ((x5 + 1) + 1 : Int) = (x5 + 2) by omega]; exact ⟨(nr83937.ok (by omega)).1, (nr83937.ok (by omega)).2.1⟩) (fun z => absurd ((bR_end (p := v83938) ew2 (by omega)).symm.trans z) (by omega)) (Or.inl (fun z => absurd ((bR_end (p := v83938) ew2 (by omega)).symm.trans z) (by omega))) (by omega)) ((jw_eq e83945)))⟩
                      · refine ev_aload_n rfl ?_
                        refine g_getp (r := 42) (c := 54) g83937 ad42 (by decide) (by decide) rf42_16 ft12_16 ?_
                        refine ev_iload_n rfl ?_
                        refine g_bald g83937 ad54 rt54 (by omega) (by omega) (fun v83946 ev83946 lv83946 uv83946 => ?_)
                        refine ev_goto f264_18 ?_
                        refine ev_ret rfl (by decide) (by decide) ?_
                        show jEv _ _ _ _ _ _ _ (_, [(2, 42), (0, a1), (0, a2), (0, a3), (0, 1), (0, v83938), (0, (100 * w0 + w1)), (0, (x7 + 1)), (0, (v83880 - 48)), (0, 1)], [(0, v83946)], _, _, _)
                        refine ev_bipush ?_
                        refine ev_icmpne f270_165 (fun c83947 => ?_) (fun c83947 => ?_)
                        · refine ev_aload_n rfl ?_
                          refine ev_iload rfl ?_
                          refine ev_in (d := (d + 1)) (a := 0) (b := 0) (cd' := c264_0) (m := 2) (L0 := [(2, 42), (0, v83938)]) (jcall_v (A := [(0, v83938)]) (S' := []) (r := 42) rfl (g83937.lt ad42) (g83937.tg ad42) (Nat.le_of_ble_eq_true rfl)) (by decide) ml264 pp264 (Nat.le_of_ble_eq_true rfl) rfl (by decide) (by decide) ?_
                          refine ev_iload_n rfl ?_
                          refine ev_aload_n rfl ?_
                          refine g_getv (r := 42) (v := w2) g83937 ad42 (by decide) ft12_17 (((kk83937.v (by decide)).trans ((jw_ne e83936 (Or.inl (by decide))).trans ((jw_ne e83935 (Or.inl (by decide))).trans ((k1.v (by decide)).trans ew2))))) ?_
                          refine ev_icmpge f264_17 (fun c83948 => absurd c83948 (by omega)) (fun c83948 => ?_)
                          refine ev_aload_n rfl ?_
                          refine g_getp (r := 42) (c := 54) g83937 ad42 (by decide) (by decide) rf42_16 ft12_16 ?_
                          refine ev_iload_n rfl ?_
                          refine g_baldv (v := v83946) g83937 ad54 (by omega) (by omega) (ev83946) ?_
                          refine ev_goto f264_18 ?_
                          refine ev_ret rfl (by decide) (by decide) ?_
                          show jEv _ _ _ _ _ _ _ (_, [(2, 42), (0, a1), (0, a2), (0, a3), (0, 1), (0, v83938), (0, (100 * w0 + w1)), (0, (x7 + 1)), (0, (v83880 - 48)), (0, 1)], [(0, v83946)], _, _, _)
                          refine ev_bipush ?_
                          refine ev_icmpne f270_182 (fun c83949 => ?_) (fun c83949 => ?_)
                          · refine ev_aload_n rfl ?_
                            refine ev_iload rfl ?_
                            refine ev_in (d := (d + 1)) (a := 0) (b := 0) (cd' := c266_0) (m := 2) (L0 := [(2, 42), (0, v83938)]) (jcall_v (A := [(0, v83938)]) (S' := []) (r := 42) rfl (g83937.lt ad42) (g83937.tg ad42) (Nat.le_of_ble_eq_true rfl)) (by decide) ml266 pp266 (Nat.le_of_ble_eq_true rfl) rfl (by decide) (by decide) ?_
                            refine ev_aload_n rfl ?_
                            refine ev_iload_n rfl ?_
                            refine g_putf (r := 42) g83937 ad42 (by decide) ft12_20 (by decide) (fun e => absurd e nz12_20) rf42_20 (by decide) (by omega) (by omega) (fun h83950 e83950 g83950 => ?_)
                            have k83950 := k83937.wr e83950 rfl
                            refine ev_iconst ?_
                            refine ev_ret rfl (by decide) (by decide) ?_
                            show jEv _ _ _ _ _ _ _ (_, [(2, 42), (0, a1), (0, a2), (0, a3), (0, 1), (0, v83938), (0, (100 * w0 + w1)), (0, (x7 + 1)), (0, (v83880 - 48)), (0, 1)], [(0, (-1))], _, _, _)
                            exact ev_ret rfl (by decide) (by decide) ⟨⟨_, rfl, by omega, by omega, g83950, k83950⟩, fun r hr h0 => by cases hr; exfalso; omega, fun r hr => by cases hr; exact ⟨_, (((jw_ne e83950 (Or.inr (by decide))).trans em83939)), by omega, by omega, (Fr.kp (Fr.kp (Fr.kp (Fr.w (i := (400 * w0 + 4 * w1 + x7)) H2 e83935 (by omega) (by omega)) ((Kp.rf [(52, 0)] _).wr e83936 rfl) (fun _ => rfl) (fun _ => rfl) (fun _ => rfl) (fun _ => rfl)) kk83937 (fun _ => rfl) (fun _ => rfl) (fun _ => rfl) (fun _ => rfl)) ((Kp.rf [(42, 0)] _).wr e83950 rfl) (fun _ => rfl) (fun _ => rfl) (fun _ => rfl) (fun _ => rfl)), fun h0 => by exfalso; omega, fun h0 => by exfalso; omega⟩, fun r hr => by cases hr; exact (Bd.M (cr_x (q := (x5 + 1)) (v := v83938) H4 (by omega) (by unfold nm2; rw [(bR_at (p := x5) k83950 (fun _ => rfl) ew2 (((jw_ne e83950 (Or.inl (by decide))).trans ((kk83937.v rfl).trans ((jw_ne e83936 (Or.inl (by decide))).trans ((jw_ne e83935 (Or.inl (by decide))).trans ev83880))))) (by omega) (by omega)), (bR_at (p := (x5 + 1)) k83950 (fun _ => rfl) ew2 (((jw_ne e83950 (Or.inl (by decide))).trans ((kk83937.v rfl).trans ((jw_ne e83936 (Or.inl (by decide))).trans ((jw_ne e83935 (Or.inl (by decide))).trans ev83899))))) (by omega) (by omega))]; (repeat' split) <;> omega) (by omega) ((bR_at (p := (x5 + 1)) k83950 (fun _ => rfl) ew2 (((jw_ne e83950 (Or.inl (by decide))).trans ((kk83937.v rfl).trans ((jw_ne e83936 (Or.inl (by decide))).trans ((jw_ne e83935 (Or.inl (by decide))).trans ev83899))))) (by omega) (by omega)).trans (by omega)) (by rw [show ((x5 + 1) + 1 : Int) = (x5 + 2) by omega]; exact ⟨(nr83937.ok (by omega)).1, (nr83937.ok (by omega)).2.1⟩) (fun z => absurd ((bR_at (p := v83938) k83950 (fun _ => rfl) ew2 (((jw_ne e83950 (Or.inl (by decide))).trans ev83946)) (by omega) (by omega)).symm.trans z) (by omega)) (Or.inl (fun z => absurd ((bR_at (p := v83938) k83950 (fun _ => rfl) ew2 (((jw_ne e83950 (Or.inl (by decide))).trans ev83946)) (by omega) (by omega)).symm.trans z) (by omega))) (by omega)) ((jw_eq e83950)))⟩
                          · refine ev_iload rfl ?_
                            refine ev_iconst ?_
                            refine ev_icmpne f270_189 (fun c83951 => ?_) (fun c83951 => ?_)
                            · refine ev_iinc (w := (v83938 + 1)) (L' := [(2, 42), (0, a1), (0, a2), (0, a3), (0, 1), (0, (v83938 + 1)), (0, (100 * w0 + w1)), (0, (x7 + 1)), (0, (v83880 - 48)), (0, 1)]) rfl (by unfold w32; omega) rfl ?_
                              refine ev_goto f270_45 ?_
                              exact ih _ _ _ _ _ _ g83937 k83937 (by omega) (by omega) (by omega) (by omega) (by omega) (by omega) (by omega) (by omega) (by omega) (by omega) (by omega) (em83939) (by omega) (by omega) (Ad.step (r' := (v83938 + 1)) (Ad.tr (Ad.step (r' := (x5 + 2)) (Ad.step (r' := (x5 + 1)) H0 (by omega) k83936 (fun _ => rfl) (((jw_ne e83936 (Or.inl (by decide))).trans ((jw_ne e83935 (Or.inl (by decide))).trans ev83880))) (by omega) (by omega) (by omega)) (by omega) k83936 (fun _ => rfl) (((jw_ne e83936 (Or.inl (by decide))).trans ((jw_ne e83935 (Or.inl (by decide))).trans ev83899))) (by omega) (by omega) (by omega)) k83936 (fun _ => rfl) (ad83937 (by omega))) (by omega) k83937 (fun _ => rfl) (ev83946) (by omega) (by omega) (by omega)) (Mb.step H1 eb83872 um83939 (by omega)) (Fr.kp (Fr.kp (Fr.w (i := (400 * w0 + 4 * w1 + x7)) H2 e83935 (by omega) (by omega)) ((Kp.rf [(52, 0)] _).wr e83936 rfl) (fun _ => rfl) (fun _ => rfl) (fun _ => rfl) (fun _ => rfl)) kk83937 (fun _ => rfl) (fun _ => rfl) (fun _ => rfl) (fun _ => rfl)) (PC.over (by have := pm83937 (by omega); omega)) (cr_k (q := (x5 + 1)) (v := v83938) H4 (by omega) (by unfold nm2; rw [(bR_at (p := x5) k83937 (fun _ => rfl) ew2 (((kk83937.v rfl).trans ((jw_ne e83936 (Or.inl (by decide))).trans ((jw_ne e83935 (Or.inl (by decide))).trans ev83880)))) (by omega) (by omega)), (bR_at (p := (x5 + 1)) k83937 (fun _ => rfl) ew2 (((kk83937.v rfl).trans ((jw_ne e83936 (Or.inl (by decide))).trans ((jw_ne e83935 (Or.inl (by decide))).trans ev83899)))) (by omega) (by omega))]; (repeat' split) <;> omega) (by omega) ((bR_at (p := (x5 + 1)) k83937 (fun _ => rfl) ew2 (((kk83937.v rfl).trans ((jw_ne e83936 (Or.inl (by decide))).trans ((jw_ne e83935 (Or.inl (by decide))).trans ev83899)))) (by omega) (by omega)).trans (by omega)) (by rw [show ((x5 + 1) + 1 : Int) = (x5 + 2) by omega]; exact ⟨(nr83937.ok (by omega)).1, (nr83937.ok (by omega)).2.1⟩) ((bR_at (p := v83938) k83937 (fun _ => rfl) ew2 (ev83946) (by omega) (by omega)).trans (by omega)) (by omega) (by omega) (by rw [show ((x5 + 1) + 1 : Int) = (x5 + 2) by omega]; have z := (nr83937.ok (by omega)).2.2; rw [em83939] at z; exact z)) (by omega)
                            · refine ev_aload_n rfl ?_
                              refine ev_iload rfl ?_
                              refine ev_in (d := (d + 1)) (a := 0) (b := 0) (cd' := c266_0) (m := 2) (L0 := [(2, 42), (0, v83938)]) (jcall_v (A := [(0, v83938)]) (S' := []) (r := 42) rfl (g83937.lt ad42) (g83937.tg ad42) (Nat.le_of_ble_eq_true rfl)) (by decide) ml266 pp266 (Nat.le_of_ble_eq_true rfl) rfl (by decide) (by decide) ?_
                              refine ev_aload_n rfl ?_
                              refine ev_iload_n rfl ?_
                              refine g_putf (r := 42) g83937 ad42 (by decide) ft12_20 (by decide) (fun e => absurd e nz12_20) rf42_20 (by decide) (by omega) (by omega) (fun h83952 e83952 g83952 => ?_)
                              have k83952 := k83937.wr e83952 rfl
                              refine ev_iconst ?_
                              refine ev_ret rfl (by decide) (by decide) ?_
                              show jEv _ _ _ _ _ _ _ (_, [(2, 42), (0, a1), (0, a2), (0, a3), (0, 1), (0, v83938), (0, (100 * w0 + w1)), (0, (x7 + 1)), (0, (v83880 - 48)), (0, 1)], [(0, (-1))], _, _, _)
                              exact ev_ret rfl (by decide) (by decide) ⟨⟨_, rfl, by omega, by omega, g83952, k83952⟩, fun r hr h0 => by cases hr; exfalso; omega, fun r hr => by cases hr; exact ⟨_, (((jw_ne e83952 (Or.inr (by decide))).trans em83939)), by omega, by omega, (Fr.kp (Fr.kp (Fr.kp (Fr.w (i := (400 * w0 + 4 * w1 + x7)) H2 e83935 (by omega) (by omega)) ((Kp.rf [(52, 0)] _).wr e83936 rfl) (fun _ => rfl) (fun _ => rfl) (fun _ => rfl) (fun _ => rfl)) kk83937 (fun _ => rfl) (fun _ => rfl) (fun _ => rfl) (fun _ => rfl)) ((Kp.rf [(42, 0)] _).wr e83952 rfl) (fun _ => rfl) (fun _ => rfl) (fun _ => rfl) (fun _ => rfl)), fun h0 => by exfalso; omega, fun h0 => by exfalso; omega⟩, fun r hr => by cases hr; exact (Bd.M (cr_x (q := (x5 + 1)) (v := v83938) H4 (by omega) (by unfold nm2; rw [(bR_at (p := x5) k83952 (fun _ => rfl) ew2 (((jw_ne e83952 (Or.inl (by decide))).trans ((kk83937.v rfl).trans ((jw_ne e83936 (Or.inl (by decide))).trans ((jw_ne e83935 (Or.inl (by decide))).trans ev83880))))) (by omega) (by omega)), (bR_at (p := (x5 + 1)) k83952 (fun _ => rfl) ew2 (((jw_ne e83952 (Or.inl (by decide))).trans ((kk83937.v rfl).trans ((jw_ne e83936 (Or.inl (by decide))).trans ((jw_ne e83935 (Or.inl (by decide))).trans ev83899))))) (by omega) (by omega))]; (repeat' split) <;> omega) (by omega) ((bR_at (p := (x5 + 1)) k83952 (fun _ => rfl) ew2 (((jw_ne e83952 (Or.inl (by decide))).trans ((kk83937.v rfl).trans ((jw_ne e83936 (Or.inl (by decide))).trans ((jw_ne e83935 (Or.inl (by decide))).trans ev83899))))) (by omega) (by omega)).trans (by omega)) (by rw [show ((x5 + 1) + 1 : Int) = (x5 + 2) by omega]; exact ⟨(nr83937.ok (by omega)).1, (nr83937.ok (by omega)).2.1⟩) (fun z => absurd ((bR_at (p := v83938) k83952 (fun _ => rfl) ew2 (((jw_ne e83952 (Or.inl (by decide))).trans ev83946)) (by omega) (by omega)).symm.trans z) (by omega)) (Or.inr (by omega)) (by omega)) ((jw_eq e83952)))⟩
                        · refine ev_goto f270_195 ?_
                          refine ev_iload rfl ?_
                          refine ev_iflt f270_209 (fun c83953 => absurd c83953 (by omega)) (fun c83953 => ?_)
                          refine ev_aload_n rfl ?_
                          refine g_getp (r := 42) (c := 50) g83937 ad42 (by decide) (by decide) rf42_12 ft12_12 ?_
                          refine ev_iload rfl ?_
                          refine ev_iload rfl ?_
                          refine ev_iastG (r := 50) (j := ((100 * w0 + w1)).toNat) (g83937.lt ad50) (g83937.tg ad50) (by omega) (by rw [g83937.ln ad50]; omega) (fun h83954 e83954 => ?_)
                          have g83954 := g83937.s50 e83954 (Or.inl (by rw [(((kk83937.v (by decide)).trans ((jw_ne e83936 (Or.inl (by decide))).trans ((jw_ne e83935 (Or.inl (by decide))).trans ((k1.v (by decide)).trans ew0)))))]; omega)) (by omega) (by omega)
                          have k83954 := k83937.wr e83954 rfl
                          refine ev_iload rfl ?_
                          refine ev_iconst ?_
                          refine ev_iadd (r := (v83938 + 1)) (by unfold w32; omega) ?_
                          exact ev_ret rfl (by decide) (by decide) ⟨⟨_, rfl, by omega, by omega, g83954, k83954⟩, fun r hr h0 => by cases hr; exact (Ad.step (r' := (v83938 + 1)) (Ad.tr (Ad.step (r' := (x5 + 2)) (Ad.step (r' := (x5 + 1)) H0 (by omega) k83936 (fun _ => rfl) (((jw_ne e83936 (Or.inl (by decide))).trans ((jw_ne e83935 (Or.inl (by decide))).trans ev83880))) (by omega) (by omega) (by omega)) (by omega) k83936 (fun _ => rfl) (((jw_ne e83936 (Or.inl (by decide))).trans ((jw_ne e83935 (Or.inl (by decide))).trans ev83899))) (by omega) (by omega) (by omega)) k83936 (fun _ => rfl) (ad83937 (by omega))) (by omega) k83954 (fun _ => rfl) (((jw_ne e83954 (Or.inl (by decide))).trans ev83946)) (by omega) (by omega) (by omega)), fun r hr => by cases hr; exact ⟨_, (((jw_ne e83954 (Or.inl (by decide))).trans em83939)), by omega, by omega, (Fr.w (i := (100 * w0 + w1)) (Fr.kp (Fr.kp (Fr.w (i := (400 * w0 + 4 * w1 + x7)) H2 e83935 (by omega) (by omega)) ((Kp.rf [(52, 0)] _).wr e83936 rfl) (fun _ => rfl) (fun _ => rfl) (fun _ => rfl) (fun _ => rfl)) kk83937 (fun _ => rfl) (fun _ => rfl) (fun _ => rfl) (fun _ => rfl)) e83954 (by omega) (by omega)), fun h0 => by have := pm83937 (by omega); omega, fun h0 hm => by exfalso; have := pm83937 (by omega); omega⟩, fun r hr => by cases hr; exact Or.inl (by have y := cr_e (q := (x5 + 1)) (v := v83938) (r := (v83938 + 1)) (md' := m83939) H4 (by omega) (by unfold nm2; rw [(bR_at (p := x5) k83954 (fun _ => rfl) ew2 (((jw_ne e83954 (Or.inl (by decide))).trans ((kk83937.v rfl).trans ((jw_ne e83936 (Or.inl (by decide))).trans ((jw_ne e83935 (Or.inl (by decide))).trans ev83880))))) (by omega) (by omega)), (bR_at (p := (x5 + 1)) k83954 (fun _ => rfl) ew2 (((jw_ne e83954 (Or.inl (by decide))).trans ((kk83937.v rfl).trans ((jw_ne e83936 (Or.inl (by decide))).trans ((jw_ne e83935 (Or.inl (by decide))).trans ev83899))))) (by omega) (by omega))]; (repeat' split) <;> omega) (by omega) ((bR_at (p := (x5 + 1)) k83954 (fun _ => rfl) ew2 (((jw_ne e83954 (Or.inl (by decide))).trans ((kk83937.v rfl).trans ((jw_ne e83936 (Or.inl (by decide))).trans ((jw_ne e83935 (Or.inl (by decide))).trans ev83899))))) (by omega) (by omega)).trans (by omega)) (by rw [show ((x5 + 1) + 1 : Int) = (x5 + 2) by omega]; exact ⟨(nr83937.ok (by omega)).1, (nr83937.ok (by omega)).2.1⟩) ((bR_at (p := v83938) k83954 (fun _ => rfl) ew2 (((jw_ne e83954 (Or.inl (by decide))).trans ev83946)) (by omega) (by omega)).trans (by omega)) (by omega) (by rw [show ((x5 + 1) + 1 : Int) = (x5 + 2) by omega]; have z := (nr83937.ok (by omega)).2.2; rw [em83939] at z; exact z); exact ⟨y.1, y.2.1, (((jw_ne e83954 (Or.inl (by decide))).trans em83939)).trans y.2.2⟩)⟩
                    · refine ev_iconst ?_
                      exact ev_ret rfl (by decide) (by decide) ⟨⟨_, rfl, by omega, by omega, g83937, k83937⟩, fun r hr h0 => by cases hr; exfalso; omega, fun r hr => by cases hr; exact ⟨_, (em83939), by omega, by omega, (Fr.kp (Fr.kp (Fr.w (i := (400 * w0 + 4 * w1 + x7)) H2 e83935 (by omega) (by omega)) ((Kp.rf [(52, 0)] _).wr e83936 rfl) (fun _ => rfl) (fun _ => rfl) (fun _ => rfl) (fun _ => rfl)) kk83937 (fun _ => rfl) (fun _ => rfl) (fun _ => rfl) (fun _ => rfl)), fun h0 => by exfalso; omega, fun h0 => by exfalso; omega⟩, fun r hr => by cases hr; exact Bd.M (cr_b (q := (x5 + 1)) H4 (by omega) (by unfold nm2; rw [(bR_at (p := x5) k83937 (fun _ => rfl) ew2 (((kk83937.v rfl).trans ((jw_ne e83936 (Or.inl (by decide))).trans ((jw_ne e83935 (Or.inl (by decide))).trans ev83880)))) (by omega) (by omega)), (bR_at (p := (x5 + 1)) k83937 (fun _ => rfl) ew2 (((kk83937.v rfl).trans ((jw_ne e83936 (Or.inl (by decide))).trans ((jw_ne e83935 (Or.inl (by decide))).trans ev83899)))) (by omega) (by omega))]; (repeat' split) <;> omega) (by omega) ((bR_at (p := (x5 + 1)) k83937 (fun _ => rfl) ew2 (((kk83937.v rfl).trans ((jw_ne e83936 (Or.inl (by decide))).trans ((jw_ne e83935 (Or.inl (by decide))).trans ev83899)))) (by omega) (by omega)).trans (by omega)) (by rw [show ((x5 + 1) + 1 : Int) = (x5 + 2) by omega]; exact nr83937.bd (by omega))) rfl⟩
                · refine ev_aload_n rfl ?_
                  refine ev_iload rfl ?_
                  refine ev_in (d := (d + 1)) (a := 0) (b := 0) (cd' := c266_0) (m := 2) (L0 := [(2, 42), (0, (x5 + 1))]) (jcall_v (A := [(0, (x5 + 1))]) (S' := []) (r := 42) rfl (g1.lt ad42) (g1.tg ad42) (Nat.le_of_ble_eq_true rfl)) (by decide) ml266 pp266 (Nat.le_of_ble_eq_true rfl) rfl (by decide) (by decide) ?_
                  refine ev_aload_n rfl ?_
                  refine ev_iload_n rfl ?_
                  refine g_putf (r := 42) g1 ad42 (by decide) ft12_20 (by decide) (fun e => absurd e nz12_20) rf42_20 (by decide) (by omega) (by omega) (fun h83955 e83955 g83955 => ?_)
                  have k83955 := k1.wr e83955 rfl
                  refine ev_iconst ?_
                  refine ev_ret rfl (by decide) (by decide) ?_
                  show jEv _ _ _ _ _ _ _ (_, [(2, 42), (0, a1), (0, a2), (0, a3), (0, 1), (0, (x5 + 1)), (0, (100 * w0 + w1)), (0, x7), (0, (v83880 - 48)), (0, 1)], [(0, (-1))], _, _, _)
                  exact ev_ret rfl (by decide) (by decide) ⟨⟨_, rfl, by omega, by omega, g83955, k83955⟩, fun r hr h0 => by cases hr; exfalso; omega, fun r hr => by cases hr; exact ⟨_, (((jw_ne e83955 (Or.inr (by decide))).trans ey0)), by omega, by omega, (Fr.kp H2 ((Kp.rf [(42, 0)] _).wr e83955 rfl) (fun _ => rfl) (fun _ => rfl) (fun _ => rfl) (fun _ => rfl)), fun h0 => by exfalso; omega, fun h0 => by exfalso; omega⟩, fun r hr => by cases hr; exact (Bd.M (cr_c (q := (x5 + 1)) H4 (by omega) (by unfold nm2; rw [(bR_at (p := x5) k83955 (fun _ => rfl) ew2 (((jw_ne e83955 (Or.inl (by decide))).trans ev83880)) (by omega) (by omega)), (bR_at (p := (x5 + 1)) k83955 (fun _ => rfl) ew2 (((jw_ne e83955 (Or.inl (by decide))).trans ev83899)) (by omega) (by omega))]; (repeat' split) <;> omega) (by omega) (fun z => absurd ((bR_at (p := (x5 + 1)) k83955 (fun _ => rfl) ew2 (((jw_ne e83955 (Or.inl (by decide))).trans ev83899)) (by omega) (by omega)).symm.trans z) (by omega)) (by omega)) ((jw_eq e83955)))⟩
              · refine ev_iconst ?_
                refine ev_goto f242_15 ?_
                refine ev_ret rfl (by decide) (by decide) ?_
                show jEv _ _ _ _ _ _ _ (_, [(2, 42), (0, (x5 + 1))], [(0, 1)], _, _, _)
                refine ev_ret rfl (by decide) (by decide) ?_
                show jEv _ _ _ _ _ _ _ (_, [(2, 42), (0, a1), (0, a2), (0, a3), (0, 1), (0, (x5 + 1)), (0, (100 * w0 + w1)), (0, x7), (0, (v83880 - 48)), (0, 1)], [(0, 1)], _, _, _)
                refine ev_ifeq f270_92 (fun c83956 => absurd c83956 (by omega)) (fun c83956 => ?_)
                refine ev_bipush ?_
                refine ev_iload rfl ?_
                refine ev_imul (r := (10 * v83880 - 480)) (by unfold w32; omega) ?_
                refine ev_aload_n rfl ?_
                refine ev_iload rfl ?_
                refine ev_in (d := (d + 1)) (a := 0) (b := 0) (cd' := c264_0) (m := 2) (L0 := [(2, 42), (0, (x5 + 1))]) (jcall_v (A := [(0, (x5 + 1))]) (S' := [(0, (10 * v83880 - 480))]) (r := 42) rfl (g1.lt ad42) (g1.tg ad42) (Nat.le_of_ble_eq_true rfl)) (by decide) ml264 pp264 (Nat.le_of_ble_eq_true rfl) rfl (by decide) (by decide) ?_
                refine ev_iload_n rfl ?_
                refine ev_aload_n rfl ?_
                refine g_getv (r := 42) (v := w2) g1 ad42 (by decide) ft12_17 (((k1.v (by decide)).trans ew2)) ?_
                refine ev_icmpge f264_17 (fun c83957 => absurd c83957 (by omega)) (fun c83957 => ?_)
                refine ev_aload_n rfl ?_
                refine g_getp (r := 42) (c := 54) g1 ad42 (by decide) (by decide) rf42_16 ft12_16 ?_
                refine ev_iload_n rfl ?_
                refine g_baldv (v := v83899) g1 ad54 (by omega) (by omega) (ev83899) ?_
                refine ev_goto f264_18 ?_
                refine ev_ret rfl (by decide) (by decide) ?_
                show jEv _ _ _ _ _ _ _ (_, [(2, 42), (0, a1), (0, a2), (0, a3), (0, 1), (0, (x5 + 1)), (0, (100 * w0 + w1)), (0, x7), (0, (v83880 - 48)), (0, 1)], [(0, v83899), (0, (10 * v83880 - 480))], _, _, _)
                refine ev_iadd (r := (10 * v83880 + v83899 - 480)) (by unfold w32; omega) ?_
                refine ev_bipush ?_
                refine ev_isub (r := (10 * v83880 + v83899 - 528)) (by unfold w32; omega) ?_
                refine ev_istore (L' := [(2, 42), (0, a1), (0, a2), (0, a3), (0, 1), (0, (x5 + 1)), (0, (100 * w0 + w1)), (0, x7), (0, (10 * v83880 + v83899 - 528)), (0, 1)]) (Nat.le_of_ble_eq_true rfl) rfl ?_
                refine ev_iinc (w := 2) (L' := [(2, 42), (0, a1), (0, a2), (0, a3), (0, 1), (0, (x5 + 1)), (0, (100 * w0 + w1)), (0, x7), (0, (10 * v83880 + v83899 - 528)), (0, 2)]) rfl (by decide) rfl ?_
                refine ev_iinc (w := (x5 + 2)) (L' := [(2, 42), (0, a1), (0, a2), (0, a3), (0, 1), (0, (x5 + 2)), (0, (100 * w0 + w1)), (0, x7), (0, (10 * v83880 + v83899 - 528)), (0, 2)]) rfl (by unfold w32; omega) rfl ?_
                refine ev_goto f270_51 ?_
                refine ev_iload rfl ?_
                refine ev_iconst ?_
                refine ev_icmpge f270_92 (fun c83958 => ?_) (fun c83958 => absurd c83958 (by omega))
                refine ev_iload rfl ?_
                refine ev_ifeq f270_108 (fun c83959 => absurd c83959 (by omega)) (fun c83959 => ?_)
                refine ev_aload_n rfl ?_
                refine ev_iload rfl ?_
                refine ev_in (d := (d + 1)) (a := 0) (b := 0) (cd' := c264_0) (m := 2) (L0 := [(2, 42), (0, (x5 + 2))]) (jcall_v (A := [(0, (x5 + 2))]) (S' := []) (r := 42) rfl (g1.lt ad42) (g1.tg ad42) (Nat.le_of_ble_eq_true rfl)) (by decide) ml264 pp264 (Nat.le_of_ble_eq_true rfl) rfl (by decide) (by decide) ?_
                refine ev_iload_n rfl ?_
                refine ev_aload_n rfl ?_
                refine g_getv (r := 42) (v := w2) g1 ad42 (by decide) ft12_17 (((k1.v (by decide)).trans ew2)) ?_
                refine ev_icmpge f264_17 (fun c83960 => ?_) (fun c83960 => ?_)
                · refine ev_iconst ?_
                  refine ev_ret rfl (by decide) (by decide) ?_
                  show jEv _ _ _ _ _ _ _ (_, [(2, 42), (0, a1), (0, a2), (0, a3), (0, 1), (0, (x5 + 2)), (0, (100 * w0 + w1)), (0, x7), (0, (10 * v83880 + v83899 - 528)), (0, 2)], [(0, (-1))], _, _, _)
                  refine ev_bipush ?_
                  refine ev_icmpeq f270_115 (fun c83961 => absurd c83961 (by omega)) (fun c83961 => ?_)
                  refine ev_aload_n rfl ?_
                  refine ev_iload rfl ?_
                  refine ev_in (d := (d + 1)) (a := 0) (b := 0) (cd' := c266_0) (m := 2) (L0 := [(2, 42), (0, (x5 + 2))]) (jcall_v (A := [(0, (x5 + 2))]) (S' := []) (r := 42) rfl (g1.lt ad42) (g1.tg ad42) (Nat.le_of_ble_eq_true rfl)) (by decide) ml266 pp266 (Nat.le_of_ble_eq_true rfl) rfl (by decide) (by decide) ?_
                  refine ev_aload_n rfl ?_
                  refine ev_iload_n rfl ?_
                  refine g_putf (r := 42) g1 ad42 (by decide) ft12_20 (by decide) (fun e => absurd e nz12_20) rf42_20 (by decide) (by omega) (by omega) (fun h83962 e83962 g83962 => ?_)
                  have k83962 := k1.wr e83962 rfl
                  refine ev_iconst ?_
                  refine ev_ret rfl (by decide) (by decide) ?_
                  show jEv _ _ _ _ _ _ _ (_, [(2, 42), (0, a1), (0, a2), (0, a3), (0, 1), (0, (x5 + 2)), (0, (100 * w0 + w1)), (0, x7), (0, (10 * v83880 + v83899 - 528)), (0, 2)], [(0, (-1))], _, _, _)
                  exact ev_ret rfl (by decide) (by decide) ⟨⟨_, rfl, by omega, by omega, g83962, k83962⟩, fun r hr h0 => by cases hr; exfalso; omega, fun r hr => by cases hr; exact ⟨_, (((jw_ne e83962 (Or.inr (by decide))).trans ey0)), by omega, by omega, (Fr.kp H2 ((Kp.rf [(42, 0)] _).wr e83962 rfl) (fun _ => rfl) (fun _ => rfl) (fun _ => rfl) (fun _ => rfl)), fun h0 => by exfalso; omega, fun h0 => by exfalso; omega⟩, fun r hr => by cases hr; exact (Bd.M (cr_c (q := (x5 + 2)) H4 (by omega) (by unfold nm2; rw [(bR_at (p := x5) k83962 (fun _ => rfl) ew2 (((jw_ne e83962 (Or.inl (by decide))).trans ev83880)) (by omega) (by omega)), (bR_at (p := (x5 + 1)) k83962 (fun _ => rfl) ew2 (((jw_ne e83962 (Or.inl (by decide))).trans ev83899)) (by omega) (by omega))]; (repeat' split) <;> omega) (by omega) (fun z => absurd ((bR_end (p := (x5 + 2)) ew2 (by omega)).symm.trans z) (by omega)) (by omega)) ((jw_eq e83962)))⟩
                · refine ev_aload_n rfl ?_
                  refine g_getp (r := 42) (c := 54) g1 ad42 (by decide) (by decide) rf42_16 ft12_16 ?_
                  refine ev_iload_n rfl ?_
                  refine g_bald g1 ad54 rt54 (by omega) (by omega) (fun v83963 ev83963 lv83963 uv83963 => ?_)
                  refine ev_goto f264_18 ?_
                  refine ev_ret rfl (by decide) (by decide) ?_
                  show jEv _ _ _ _ _ _ _ (_, [(2, 42), (0, a1), (0, a2), (0, a3), (0, 1), (0, (x5 + 2)), (0, (100 * w0 + w1)), (0, x7), (0, (10 * v83880 + v83899 - 528)), (0, 2)], [(0, v83963)], _, _, _)
                  refine ev_bipush ?_
                  refine ev_icmpeq f270_115 (fun c83964 => ?_) (fun c83964 => ?_)
                  · rcases Int.lt_or_le (y0) 100 with c83965 | c83965
                    · refine ev_aload_n rfl ?_
                      refine ev_iload rfl ?_
                      refine ev_iload rfl ?_
                      refine ev_iload rfl ?_
                      refine ev_in (d := (d + 1)) (a := 0) (b := 0) (cd' := c268_0) (m := 4) (L0 := [(2, 42), (0, (100 * w0 + w1)), (0, x7), (0, (10 * v83880 + v83899 - 528))]) (jcall_v (A := [(0, (10 * v83880 + v83899 - 528)), (0, x7), (0, (100 * w0 + w1))]) (S' := []) (r := 42) rfl (g1.lt ad42) (g1.tg ad42) (Nat.le_of_ble_eq_true rfl)) (by decide) ml268 pp268 (Nat.le_of_ble_eq_true rfl) rfl (by decide) (by decide) ?_
                      refine ev_iload_n rfl ?_
                      refine ev_ifge f268_5 (fun c83966 => ?_) (fun c83966 => absurd c83966 (by omega))
                      refine ev_aload_n rfl ?_
                      refine g_getp (r := 42) (c := 51) g1 ad42 (by decide) (by decide) rf42_13 ft12_13 ?_
                      refine ev_iconst ?_
                      refine ev_iload_n rfl ?_
                      refine ev_imul (r := (400 * w0 + 4 * w1)) (by unfold w32; omega) ?_
                      refine ev_iload_n rfl ?_
                      refine ev_iadd (r := (400 * w0 + 4 * w1 + x7)) (by unfold w32; omega) ?_
                      refine ev_aload_n rfl ?_
                      refine g_getv (r := 42) (v := y0) g1 ad42 (by decide) ft12_21 (ey0) ?_
                      refine ev_i2b (r := y0) (by unfold w8; omega) ?_
                      refine ev_bastG (r := 51) (j := ((400 * w0 + 4 * w1 + x7)).toNat) (w := y0) (g1.lt ad51) (g1.tg ad51) (by omega) (by rw [g1.ln ad51]; omega) (by unfold w8; omega) (fun h83967 e83967 => ?_)
                      have g83967 := g1.s51 e83967 (by rw [(((k1.v (by decide)).trans ew0))]; omega) (by omega) (by omega)
                      have k83967 := k1.wr e83967 rfl
                      refine ev_aload_n rfl ?_
                      refine g_getp (r := 42) (c := 52) g83967 ad42 (by decide) (by decide) rf42_14 ft12_14 ?_
                      refine ev_iconst ?_
                      refine ev_iload_n rfl ?_
                      refine ev_imul (r := (400 * w0 + 4 * w1)) (by unfold w32; omega) ?_
                      refine ev_iload_n rfl ?_
                      refine ev_iadd (r := (400 * w0 + 4 * w1 + x7)) (by unfold w32; omega) ?_
                      refine ev_iload_n rfl ?_
                      refine g_iast g83967 ad52 rt52 (fun _ => rfl) (by omega) (by omega) (by omega) (by omega) (fun h83968 e83968 g83968 => ?_)
                      have k83968 := k83967.wr e83968 rfl
                      refine ev_ret rfl (by decide) (by decide) ?_
                      show jEv _ _ _ _ _ _ _ (_, [(2, 42), (0, a1), (0, a2), (0, a3), (0, 1), (0, (x5 + 2)), (0, (100 * w0 + w1)), (0, x7), (0, (10 * v83880 + v83899 - 528)), (0, 2)], [], _, _, _)
                      refine ev_aload_n rfl ?_
                      refine ev_iload rfl ?_
                      refine ev_iconst ?_
                      refine ev_iadd (r := (x5 + 3)) (by unfold w32; omega) ?_
                      refine ev_iload_n rfl ?_
                      refine ev_iload_n rfl ?_
                      refine ev_iconst ?_
                      refine ev_iadd (r := (a3 + 1)) (by unfold w32; omega) ?_
                      refine ev_iload rfl ?_
                      refine ev_call (jcall_v (A := [(0, 1), (0, (a3 + 1)), (0, a2), (0, (x5 + 3))]) (S' := []) (r := 42) rfl (g83968.lt ad42) (g83968.tg ad42) (Nat.le_of_ble_eq_true rfl)) (jOk_le (by omega) (rih g83968 (by omega) (by omega) (by omega) (by omega) (by omega) (by omega) (by omega) (by omega) (by omega) (by omega) (((jw_ne e83968 (Or.inl (by decide))).trans ((jw_ne e83967 (Or.inl (by decide))).trans ((k1.v (by decide)).trans ew0)))) (by omega) (by omega) (((jw_ne e83968 (Or.inl (by decide))).trans ((jw_ne e83967 (Or.inl (by decide))).trans ey0))) (by omega) (by omega) (((jw_ne e83968 (Or.inl (by decide))).trans ((jw_ne e83967 (Or.inl (by decide))).trans ((k1.v (by decide)).trans ew2)))) (by omega) (by omega) (l0 := l0) (b0 := b83873) (by omega) (Iv.kp hI k83968 (fun _ => rfl) (fun _ => rfl) rfl) (Lv.at hL (Ad.step (r' := (x5 + 3)) (Ad.step (r' := (x5 + 2)) (Ad.step (r' := (x5 + 1)) H0 (by omega) k83968 (fun _ => rfl) (((jw_ne e83968 (Or.inl (by decide))).trans ((jw_ne e83967 (Or.inl (by decide))).trans ev83880))) (by omega) (by omega) (by omega)) (by omega) k83968 (fun _ => rfl) (((jw_ne e83968 (Or.inl (by decide))).trans ((jw_ne e83967 (Or.inl (by decide))).trans ev83899))) (by omega) (by omega) (by omega)) (by omega) k83968 (fun _ => rfl) (((jw_ne e83968 (Or.inl (by decide))).trans ((jw_ne e83967 (Or.inl (by decide))).trans ev83963))) (by omega) (by omega) (by omega)) k83968 (fun _ => rfl) rfl) hb83872 hS (K := K) (q := q - 1) (hK.kp k83968 (fun _ => rfl) rfl (fun _ => rfl) rfl rfl (fun _ => rfl)) (by omega) (by rw [k83968.v rfl]; exact hN) (by omega))) (by decide) (by decide) (fun w83969 h83969 q83969 => ?_)
                      obtain ⟨q83969, ad83969, ro83969, nr83969⟩ := q83969
                      obtain ⟨v83970, rfl, lv83970, uv83970, g83969, kk83969⟩ := q83969
                      have ad83969 := ad83969 _ rfl
                      have nr83969 := nr83969 _ rfl
                      obtain ⟨m83971, em83971, lm83971, um83971, fr83969, pm83969, tr83969⟩ := ro83969 _ rfl
                      have k83969 := k83968.tr kk83969 (by decide)
                      rw [RQ_kp k83968 (fun _ => rfl) rfl (fun _ => rfl) rfl rfl, bR_kp k83968 (fun _ => rfl) rfl] at nr83969
                      show jEv _ _ _ _ _ _ _ (_, [(2, 42), (0, a1), (0, a2), (0, a3), (0, 1), (0, (x5 + 2)), (0, (100 * w0 + w1)), (0, x7), (0, (10 * v83880 + v83899 - 528)), (0, 2)], [(0, v83970)], _, _, _)
                      refine ev_istore (L' := [(2, 42), (0, a1), (0, a2), (0, a3), (0, 1), (0, v83970), (0, (100 * w0 + w1)), (0, x7), (0, (10 * v83880 + v83899 - 528)), (0, 2)]) (Nat.le_of_ble_eq_true rfl) rfl ?_
                      refine ev_iload rfl ?_
                      refine ev_ifge f270_148 (fun c83972 => ?_) (fun c83972 => ?_)
                      · refine ev_iinc (w := (x7 + 1)) (L' := [(2, 42), (0, a1), (0, a2), (0, a3), (0, 1), (0, v83970), (0, (100 * w0 + w1)), (0, (x7 + 1)), (0, (10 * v83880 + v83899 - 528)), (0, 2)]) rfl (by unfold w32; omega) rfl ?_
                        refine ev_aload_n rfl ?_
                        refine ev_iload rfl ?_
                        refine ev_in (d := (d + 1)) (a := 0) (b := 0) (cd' := c264_0) (m := 2) (L0 := [(2, 42), (0, v83970)]) (jcall_v (A := [(0, v83970)]) (S' := []) (r := 42) rfl (g83969.lt ad42) (g83969.tg ad42) (Nat.le_of_ble_eq_true rfl)) (by decide) ml264 pp264 (Nat.le_of_ble_eq_true rfl) rfl (by decide) (by decide) ?_
                        refine ev_iload_n rfl ?_
                        refine ev_aload_n rfl ?_
                        refine g_getv (r := 42) (v := w2) g83969 ad42 (by decide) ft12_17 (((kk83969.v (by decide)).trans ((jw_ne e83968 (Or.inl (by decide))).trans ((jw_ne e83967 (Or.inl (by decide))).trans ((k1.v (by decide)).trans ew2))))) ?_
                        refine ev_icmpge f264_17 (fun c83973 => ?_) (fun c83973 => ?_)
                        · refine ev_iconst ?_
                          refine ev_ret rfl (by decide) (by decide) ?_
                          show jEv _ _ _ _ _ _ _ (_, [(2, 42), (0, a1), (0, a2), (0, a3), (0, 1), (0, v83970), (0, (100 * w0 + w1)), (0, (x7 + 1)), (0, (10 * v83880 + v83899 - 528)), (0, 2)], [(0, (-1))], _, _, _)
                          refine ev_bipush ?_
                          refine ev_icmpne f270_165 (fun c83974 => ?_) (fun c83974 => absurd c83974 (by omega))
                          refine ev_aload_n rfl ?_
                          refine ev_iload rfl ?_
                          refine ev_in (d := (d + 1)) (a := 0) (b := 0) (cd' := c264_0) (m := 2) (L0 := [(2, 42), (0, v83970)]) (jcall_v (A := [(0, v83970)]) (S' := []) (r := 42) rfl (g83969.lt ad42) (g83969.tg ad42) (Nat.le_of_ble_eq_true rfl)) (by decide) ml264 pp264 (Nat.le_of_ble_eq_true rfl) rfl (by decide) (by decide) ?_
                          refine ev_iload_n rfl ?_
                          refine ev_aload_n rfl ?_
                          refine g_getv (r := 42) (v := w2) g83969 ad42 (by decide) ft12_17 (((kk83969.v (by decide)).trans ((jw_ne e83968 (Or.inl (by decide))).trans ((jw_ne e83967 (Or.inl (by decide))).trans ((k1.v (by decide)).trans ew2))))) ?_
                          refine ev_icmpge f264_17 (fun c83975 => ?_) (fun c83975 => absurd c83975 (by omega))
                          refine ev_iconst ?_
                          refine ev_ret rfl (by decide) (by decide) ?_
                          show jEv _ _ _ _ _ _ _ (_, [(2, 42), (0, a1), (0, a2), (0, a3), (0, 1), (0, v83970), (0, (100 * w0 + w1)), (0, (x7 + 1)), (0, (10 * v83880 + v83899 - 528)), (0, 2)], [(0, (-1))], _, _, _)
                          refine ev_bipush ?_
                          refine ev_icmpne f270_182 (fun c83976 => ?_) (fun c83976 => absurd c83976 (by omega))
                          refine ev_aload_n rfl ?_
                          refine ev_iload rfl ?_
                          refine ev_in (d := (d + 1)) (a := 0) (b := 0) (cd' := c266_0) (m := 2) (L0 := [(2, 42), (0, v83970)]) (jcall_v (A := [(0, v83970)]) (S' := []) (r := 42) rfl (g83969.lt ad42) (g83969.tg ad42) (Nat.le_of_ble_eq_true rfl)) (by decide) ml266 pp266 (Nat.le_of_ble_eq_true rfl) rfl (by decide) (by decide) ?_
                          refine ev_aload_n rfl ?_
                          refine ev_iload_n rfl ?_
                          refine g_putf (r := 42) g83969 ad42 (by decide) ft12_20 (by decide) (fun e => absurd e nz12_20) rf42_20 (by decide) (by omega) (by omega) (fun h83977 e83977 g83977 => ?_)
                          have k83977 := k83969.wr e83977 rfl
                          refine ev_iconst ?_
                          refine ev_ret rfl (by decide) (by decide) ?_
                          show jEv _ _ _ _ _ _ _ (_, [(2, 42), (0, a1), (0, a2), (0, a3), (0, 1), (0, v83970), (0, (100 * w0 + w1)), (0, (x7 + 1)), (0, (10 * v83880 + v83899 - 528)), (0, 2)], [(0, (-1))], _, _, _)
                          exact ev_ret rfl (by decide) (by decide) ⟨⟨_, rfl, by omega, by omega, g83977, k83977⟩, fun r hr h0 => by cases hr; exfalso; omega, fun r hr => by cases hr; exact ⟨_, (((jw_ne e83977 (Or.inr (by decide))).trans em83971)), by omega, by omega, (Fr.kp (Fr.tr (Fr.kp (Fr.w (i := (400 * w0 + 4 * w1 + x7)) H2 e83967 (by omega) (by omega)) ((Kp.rf [(52, 0)] _).wr e83968 rfl) (fun _ => rfl) (fun _ => rfl) (fun _ => rfl) (fun _ => rfl)) fr83969 (by omega)) ((Kp.rf [(42, 0)] _).wr e83977 rfl) (fun _ => rfl) (fun _ => rfl) (fun _ => rfl) (fun _ => rfl)), fun h0 => by exfalso; omega, fun h0 => by exfalso; omega⟩, fun r hr => by cases hr; exact (Bd.M (cr_x (q := (x5 + 2)) (v := v83970) H4 (by omega) (by unfold nm2; rw [(bR_at (p := x5) k83977 (fun _ => rfl) ew2 (((jw_ne e83977 (Or.inl (by decide))).trans ((kk83969.v rfl).trans ((jw_ne e83968 (Or.inl (by decide))).trans ((jw_ne e83967 (Or.inl (by decide))).trans ev83880))))) (by omega) (by omega)), (bR_at (p := (x5 + 1)) k83977 (fun _ => rfl) ew2 (((jw_ne e83977 (Or.inl (by decide))).trans ((kk83969.v rfl).trans ((jw_ne e83968 (Or.inl (by decide))).trans ((jw_ne e83967 (Or.inl (by decide))).trans ev83899))))) (by omega) (by omega))]; (repeat' split) <;> omega) (by omega) ((bR_at (p := (x5 + 2)) k83977 (fun _ => rfl) ew2 (((jw_ne e83977 (Or.inl (by decide))).trans ((kk83969.v rfl).trans ((jw_ne e83968 (Or.inl (by decide))).trans ((jw_ne e83967 (Or.inl (by decide))).trans ev83963))))) (by omega) (by omega)).trans (by omega)) (by rw [show ((x5 + 2) + 1 : Int) = (x5 + 3) by omega]; exact ⟨(nr83969.ok (by omega)).1, (nr83969.ok (by omega)).2.1⟩) (fun z => absurd ((bR_end (p := v83970) ew2 (by omega)).symm.trans z) (by omega)) (Or.inl (fun z => absurd ((bR_end (p := v83970) ew2 (by omega)).symm.trans z) (by omega))) (by omega)) ((jw_eq e83977)))⟩
                        · refine ev_aload_n rfl ?_
                          refine g_getp (r := 42) (c := 54) g83969 ad42 (by decide) (by decide) rf42_16 ft12_16 ?_
                          refine ev_iload_n rfl ?_
                          refine g_bald g83969 ad54 rt54 (by omega) (by omega) (fun v83978 ev83978 lv83978 uv83978 => ?_)
                          refine ev_goto f264_18 ?_
                          refine ev_ret rfl (by decide) (by decide) ?_
                          show jEv _ _ _ _ _ _ _ (_, [(2, 42), (0, a1), (0, a2), (0, a3), (0, 1), (0, v83970), (0, (100 * w0 + w1)), (0, (x7 + 1)), (0, (10 * v83880 + v83899 - 528)), (0, 2)], [(0, v83978)], _, _, _)
                          refine ev_bipush ?_
                          refine ev_icmpne f270_165 (fun c83979 => ?_) (fun c83979 => ?_)
                          · refine ev_aload_n rfl ?_
                            refine ev_iload rfl ?_
                            refine ev_in (d := (d + 1)) (a := 0) (b := 0) (cd' := c264_0) (m := 2) (L0 := [(2, 42), (0, v83970)]) (jcall_v (A := [(0, v83970)]) (S' := []) (r := 42) rfl (g83969.lt ad42) (g83969.tg ad42) (Nat.le_of_ble_eq_true rfl)) (by decide) ml264 pp264 (Nat.le_of_ble_eq_true rfl) rfl (by decide) (by decide) ?_
                            refine ev_iload_n rfl ?_
                            refine ev_aload_n rfl ?_
                            refine g_getv (r := 42) (v := w2) g83969 ad42 (by decide) ft12_17 (((kk83969.v (by decide)).trans ((jw_ne e83968 (Or.inl (by decide))).trans ((jw_ne e83967 (Or.inl (by decide))).trans ((k1.v (by decide)).trans ew2))))) ?_
                            refine ev_icmpge f264_17 (fun c83980 => absurd c83980 (by omega)) (fun c83980 => ?_)
                            refine ev_aload_n rfl ?_
                            refine g_getp (r := 42) (c := 54) g83969 ad42 (by decide) (by decide) rf42_16 ft12_16 ?_
                            refine ev_iload_n rfl ?_
                            refine g_baldv (v := v83978) g83969 ad54 (by omega) (by omega) (ev83978) ?_
                            refine ev_goto f264_18 ?_
                            refine ev_ret rfl (by decide) (by decide) ?_
                            show jEv _ _ _ _ _ _ _ (_, [(2, 42), (0, a1), (0, a2), (0, a3), (0, 1), (0, v83970), (0, (100 * w0 + w1)), (0, (x7 + 1)), (0, (10 * v83880 + v83899 - 528)), (0, 2)], [(0, v83978)], _, _, _)
                            refine ev_bipush ?_
                            refine ev_icmpne f270_182 (fun c83981 => ?_) (fun c83981 => ?_)
                            · refine ev_aload_n rfl ?_
                              refine ev_iload rfl ?_
                              refine ev_in (d := (d + 1)) (a := 0) (b := 0) (cd' := c266_0) (m := 2) (L0 := [(2, 42), (0, v83970)]) (jcall_v (A := [(0, v83970)]) (S' := []) (r := 42) rfl (g83969.lt ad42) (g83969.tg ad42) (Nat.le_of_ble_eq_true rfl)) (by decide) ml266 pp266 (Nat.le_of_ble_eq_true rfl) rfl (by decide) (by decide) ?_
                              refine ev_aload_n rfl ?_
                              refine ev_iload_n rfl ?_
                              refine g_putf (r := 42) g83969 ad42 (by decide) ft12_20 (by decide) (fun e => absurd e nz12_20) rf42_20 (by decide) (by omega) (by omega) (fun h83982 e83982 g83982 => ?_)
                              have k83982 := k83969.wr e83982 rfl
                              refine ev_iconst ?_
                              refine ev_ret rfl (by decide) (by decide) ?_
                              show jEv _ _ _ _ _ _ _ (_, [(2, 42), (0, a1), (0, a2), (0, a3), (0, 1), (0, v83970), (0, (100 * w0 + w1)), (0, (x7 + 1)), (0, (10 * v83880 + v83899 - 528)), (0, 2)], [(0, (-1))], _, _, _)
                              exact ev_ret rfl (by decide) (by decide) ⟨⟨_, rfl, by omega, by omega, g83982, k83982⟩, fun r hr h0 => by cases hr; exfalso; omega, fun r hr => by cases hr; exact ⟨_, (((jw_ne e83982 (Or.inr (by decide))).trans em83971)), by omega, by omega, (Fr.kp (Fr.tr (Fr.kp (Fr.w (i := (400 * w0 + 4 * w1 + x7)) H2 e83967 (by omega) (by omega)) ((Kp.rf [(52, 0)] _).wr e83968 rfl) (fun _ => rfl) (fun _ => rfl) (fun _ => rfl) (fun _ => rfl)) fr83969 (by omega)) ((Kp.rf [(42, 0)] _).wr e83982 rfl) (fun _ => rfl) (fun _ => rfl) (fun _ => rfl) (fun _ => rfl)), fun h0 => by exfalso; omega, fun h0 => by exfalso; omega⟩, fun r hr => by cases hr; exact (Bd.M (cr_x (q := (x5 + 2)) (v := v83970) H4 (by omega) (by unfold nm2; rw [(bR_at (p := x5) k83982 (fun _ => rfl) ew2 (((jw_ne e83982 (Or.inl (by decide))).trans ((kk83969.v rfl).trans ((jw_ne e83968 (Or.inl (by decide))).trans ((jw_ne e83967 (Or.inl (by decide))).trans ev83880))))) (by omega) (by omega)), (bR_at (p := (x5 + 1)) k83982 (fun _ => rfl) ew2 (((jw_ne e83982 (Or.inl (by decide))).trans ((kk83969.v rfl).trans ((jw_ne e83968 (Or.inl (by decide))).trans ((jw_ne e83967 (Or.inl (by decide))).trans ev83899))))) (by omega) (by omega))]; (repeat' split) <;> omega) (by omega) ((bR_at (p := (x5 + 2)) k83982 (fun _ => rfl) ew2 (((jw_ne e83982 (Or.inl (by decide))).trans ((kk83969.v rfl).trans ((jw_ne e83968 (Or.inl (by decide))).trans ((jw_ne e83967 (Or.inl (by decide))).trans ev83963))))) (by omega) (by omega)).trans (by omega)) (by rw [show ((x5 + 2) + 1 : Int) = (x5 + 3) by omega]; exact ⟨(nr83969.ok (by omega)).1, (nr83969.ok (by omega)).2.1⟩) (fun z => absurd ((bR_at (p := v83970) k83982 (fun _ => rfl) ew2 (((jw_ne e83982 (Or.inl (by decide))).trans ev83978)) (by omega) (by omega)).symm.trans z) (by omega)) (Or.inl (fun z => absurd ((bR_at (p := v83970) k83982 (fun _ => rfl) ew2 (((jw_ne e83982 (Or.inl (by decide))).trans ev83978)) (by omega) (by omega)).symm.trans z) (by omega))) (by omega)) ((jw_eq e83982)))⟩
                            · refine ev_iload rfl ?_
                              refine ev_iconst ?_
                              refine ev_icmpne f270_189 (fun c83983 => ?_) (fun c83983 => ?_)
                              · refine ev_iinc (w := (v83970 + 1)) (L' := [(2, 42), (0, a1), (0, a2), (0, a3), (0, 1), (0, (v83970 + 1)), (0, (100 * w0 + w1)), (0, (x7 + 1)), (0, (10 * v83880 + v83899 - 528)), (0, 2)]) rfl (by unfold w32; omega) rfl ?_
                                refine ev_goto f270_45 ?_
                                exact ih _ _ _ _ _ _ g83969 k83969 (by omega) (by omega) (by omega) (by omega) (by omega) (by omega) (by omega) (by omega) (by omega) (by omega) (by omega) (em83971) (by omega) (by omega) (Ad.step (r' := (v83970 + 1)) (Ad.tr (Ad.step (r' := (x5 + 3)) (Ad.step (r' := (x5 + 2)) (Ad.step (r' := (x5 + 1)) H0 (by omega) k83968 (fun _ => rfl) (((jw_ne e83968 (Or.inl (by decide))).trans ((jw_ne e83967 (Or.inl (by decide))).trans ev83880))) (by omega) (by omega) (by omega)) (by omega) k83968 (fun _ => rfl) (((jw_ne e83968 (Or.inl (by decide))).trans ((jw_ne e83967 (Or.inl (by decide))).trans ev83899))) (by omega) (by omega) (by omega)) (by omega) k83968 (fun _ => rfl) (((jw_ne e83968 (Or.inl (by decide))).trans ((jw_ne e83967 (Or.inl (by decide))).trans ev83963))) (by omega) (by omega) (by omega)) k83968 (fun _ => rfl) (ad83969 (by omega))) (by omega) k83969 (fun _ => rfl) (ev83978) (by omega) (by omega) (by omega)) (Mb.step H1 eb83872 um83971 (by omega)) (Fr.tr (Fr.kp (Fr.w (i := (400 * w0 + 4 * w1 + x7)) H2 e83967 (by omega) (by omega)) ((Kp.rf [(52, 0)] _).wr e83968 rfl) (fun _ => rfl) (fun _ => rfl) (fun _ => rfl) (fun _ => rfl)) fr83969 (by omega)) (PC.step (i := (100 * w0 + w1)) (j := (400 * w0 + 4 * w1 + x7)) H3 (by omega) (by omega) (by omega) (by omega) (by omega) (by omega) (by omega) e83967 ((Kp.rf [(52, 0)] _).wr e83968 rfl) (fun _ => rfl) (fun _ => rfl) (fun _ => rfl) (fun _ => rfl) rfl (fun _ => rfl) kk83969 rfl (fun _ => rfl) fr83969 lm83971 (tr83969 (by omega)) (by omega)) (cr_k (q := (x5 + 2)) (v := v83970) H4 (by omega) (by unfold nm2; rw [(bR_at (p := x5) k83969 (fun _ => rfl) ew2 (((kk83969.v rfl).trans ((jw_ne e83968 (Or.inl (by decide))).trans ((jw_ne e83967 (Or.inl (by decide))).trans ev83880)))) (by omega) (by omega)), (bR_at (p := (x5 + 1)) k83969 (fun _ => rfl) ew2 (((kk83969.v rfl).trans ((jw_ne e83968 (Or.inl (by decide))).trans ((jw_ne e83967 (Or.inl (by decide))).trans ev83899)))) (by omega) (by omega))]; (repeat' split) <;> omega) (by omega) ((bR_at (p := (x5 + 2)) k83969 (fun _ => rfl) ew2 (((kk83969.v rfl).trans ((jw_ne e83968 (Or.inl (by decide))).trans ((jw_ne e83967 (Or.inl (by decide))).trans ev83963)))) (by omega) (by omega)).trans (by omega)) (by rw [show ((x5 + 2) + 1 : Int) = (x5 + 3) by omega]; exact ⟨(nr83969.ok (by omega)).1, (nr83969.ok (by omega)).2.1⟩) ((bR_at (p := v83970) k83969 (fun _ => rfl) ew2 (ev83978) (by omega) (by omega)).trans (by omega)) (by omega) (by omega) (by rw [show ((x5 + 2) + 1 : Int) = (x5 + 3) by omega]; have z := (nr83969.ok (by omega)).2.2; rw [em83971] at z; exact z)) (by omega)
                              · refine ev_aload_n rfl ?_
                                refine ev_iload rfl ?_
                                refine ev_in (d := (d + 1)) (a := 0) (b := 0) (cd' := c266_0) (m := 2) (L0 := [(2, 42), (0, v83970)]) (jcall_v (A := [(0, v83970)]) (S' := []) (r := 42) rfl (g83969.lt ad42) (g83969.tg ad42) (Nat.le_of_ble_eq_true rfl)) (by decide) ml266 pp266 (Nat.le_of_ble_eq_true rfl) rfl (by decide) (by decide) ?_
                                refine ev_aload_n rfl ?_
                                refine ev_iload_n rfl ?_
                                refine g_putf (r := 42) g83969 ad42 (by decide) ft12_20 (by decide) (fun e => absurd e nz12_20) rf42_20 (by decide) (by omega) (by omega) (fun h83984 e83984 g83984 => ?_)
                                have k83984 := k83969.wr e83984 rfl
                                refine ev_iconst ?_
                                refine ev_ret rfl (by decide) (by decide) ?_
                                show jEv _ _ _ _ _ _ _ (_, [(2, 42), (0, a1), (0, a2), (0, a3), (0, 1), (0, v83970), (0, (100 * w0 + w1)), (0, (x7 + 1)), (0, (10 * v83880 + v83899 - 528)), (0, 2)], [(0, (-1))], _, _, _)
                                exact ev_ret rfl (by decide) (by decide) ⟨⟨_, rfl, by omega, by omega, g83984, k83984⟩, fun r hr h0 => by cases hr; exfalso; omega, fun r hr => by cases hr; exact ⟨_, (((jw_ne e83984 (Or.inr (by decide))).trans em83971)), by omega, by omega, (Fr.kp (Fr.tr (Fr.kp (Fr.w (i := (400 * w0 + 4 * w1 + x7)) H2 e83967 (by omega) (by omega)) ((Kp.rf [(52, 0)] _).wr e83968 rfl) (fun _ => rfl) (fun _ => rfl) (fun _ => rfl) (fun _ => rfl)) fr83969 (by omega)) ((Kp.rf [(42, 0)] _).wr e83984 rfl) (fun _ => rfl) (fun _ => rfl) (fun _ => rfl) (fun _ => rfl)), fun h0 => by exfalso; omega, fun h0 => by exfalso; omega⟩, fun r hr => by cases hr; exact (Bd.M (cr_x (q := (x5 + 2)) (v := v83970) H4 (by omega) (by unfold nm2; rw [(bR_at (p := x5) k83984 (fun _ => rfl) ew2 (((jw_ne e83984 (Or.inl (by decide))).trans ((kk83969.v rfl).trans ((jw_ne e83968 (Or.inl (by decide))).trans ((jw_ne e83967 (Or.inl (by decide))).trans ev83880))))) (by omega) (by omega)), (bR_at (p := (x5 + 1)) k83984 (fun _ => rfl) ew2 (((jw_ne e83984 (Or.inl (by decide))).trans ((kk83969.v rfl).trans ((jw_ne e83968 (Or.inl (by decide))).trans ((jw_ne e83967 (Or.inl (by decide))).trans ev83899))))) (by omega) (by omega))]; (repeat' split) <;> omega) (by omega) ((bR_at (p := (x5 + 2)) k83984 (fun _ => rfl) ew2 (((jw_ne e83984 (Or.inl (by decide))).trans ((kk83969.v rfl).trans ((jw_ne e83968 (Or.inl (by decide))).trans ((jw_ne e83967 (Or.inl (by decide))).trans ev83963))))) (by omega) (by omega)).trans (by omega)) (by rw [show ((x5 + 2) + 1 : Int) = (x5 + 3) by omega]; exact ⟨(nr83969.ok (by omega)).1, (nr83969.ok (by omega)).2.1⟩) (fun z => absurd ((bR_at (p := v83970) k83984 (fun _ => rfl) ew2 (((jw_ne e83984 (Or.inl (by decide))).trans ev83978)) (by omega) (by omega)).symm.trans z) (by omega)) (Or.inr (by omega)) (by omega)) ((jw_eq e83984)))⟩
                          · refine ev_goto f270_195 ?_
                            refine ev_iload rfl ?_
                            refine ev_iflt f270_209 (fun c83985 => absurd c83985 (by omega)) (fun c83985 => ?_)
                            refine ev_aload_n rfl ?_
                            refine g_getp (r := 42) (c := 50) g83969 ad42 (by decide) (by decide) rf42_12 ft12_12 ?_
                            refine ev_iload rfl ?_
                            refine ev_iload rfl ?_
                            refine ev_iastG (r := 50) (j := ((100 * w0 + w1)).toNat) (g83969.lt ad50) (g83969.tg ad50) (by omega) (by rw [g83969.ln ad50]; omega) (fun h83986 e83986 => ?_)
                            have g83986 := g83969.s50 e83986 (Or.inl (by rw [(((kk83969.v (by decide)).trans ((jw_ne e83968 (Or.inl (by decide))).trans ((jw_ne e83967 (Or.inl (by decide))).trans ((k1.v (by decide)).trans ew0)))))]; omega)) (by omega) (by omega)
                            have k83986 := k83969.wr e83986 rfl
                            refine ev_iload rfl ?_
                            refine ev_iconst ?_
                            refine ev_iadd (r := (v83970 + 1)) (by unfold w32; omega) ?_
                            exact ev_ret rfl (by decide) (by decide) ⟨⟨_, rfl, by omega, by omega, g83986, k83986⟩, fun r hr h0 => by cases hr; exact (Ad.step (r' := (v83970 + 1)) (Ad.tr (Ad.step (r' := (x5 + 3)) (Ad.step (r' := (x5 + 2)) (Ad.step (r' := (x5 + 1)) H0 (by omega) k83968 (fun _ => rfl) (((jw_ne e83968 (Or.inl (by decide))).trans ((jw_ne e83967 (Or.inl (by decide))).trans ev83880))) (by omega) (by omega) (by omega)) (by omega) k83968 (fun _ => rfl) (((jw_ne e83968 (Or.inl (by decide))).trans ((jw_ne e83967 (Or.inl (by decide))).trans ev83899))) (by omega) (by omega) (by omega)) (by omega) k83968 (fun _ => rfl) (((jw_ne e83968 (Or.inl (by decide))).trans ((jw_ne e83967 (Or.inl (by decide))).trans ev83963))) (by omega) (by omega) (by omega)) k83968 (fun _ => rfl) (ad83969 (by omega))) (by omega) k83986 (fun _ => rfl) (((jw_ne e83986 (Or.inl (by decide))).trans ev83978)) (by omega) (by omega) (by omega)), fun r hr => by cases hr; exact ⟨_, (((jw_ne e83986 (Or.inl (by decide))).trans em83971)), by omega, by omega, (Fr.w (i := (100 * w0 + w1)) (Fr.tr (Fr.kp (Fr.w (i := (400 * w0 + 4 * w1 + x7)) H2 e83967 (by omega) (by omega)) ((Kp.rf [(52, 0)] _).wr e83968 rfl) (fun _ => rfl) (fun _ => rfl) (fun _ => rfl) (fun _ => rfl)) fr83969 (by omega)) e83986 (by omega) (by omega)), fun h0 => by have := pm83969 (by omega); omega, fun h0 hm => PC.choice (i := (100 * w0 + w1)) (PC.step (i := (100 * w0 + w1)) (j := (400 * w0 + 4 * w1 + x7)) H3 (by omega) (by omega) (by omega) (by omega) (by omega) (by omega) (by omega) e83967 ((Kp.rf [(52, 0)] _).wr e83968 rfl) (fun _ => rfl) (fun _ => rfl) (fun _ => rfl) (fun _ => rfl) rfl (fun _ => rfl) kk83969 rfl (fun _ => rfl) fr83969 lm83971 (tr83969 (by omega)) (by omega)) (by omega) (by omega) (by omega) (by omega) (by omega) e83986 (by omega) hm⟩, fun r hr => by cases hr; exact Or.inl (by have y := cr_e (q := (x5 + 2)) (v := v83970) (r := (v83970 + 1)) (md' := m83971) H4 (by omega) (by unfold nm2; rw [(bR_at (p := x5) k83986 (fun _ => rfl) ew2 (((jw_ne e83986 (Or.inl (by decide))).trans ((kk83969.v rfl).trans ((jw_ne e83968 (Or.inl (by decide))).trans ((jw_ne e83967 (Or.inl (by decide))).trans ev83880))))) (by omega) (by omega)), (bR_at (p := (x5 + 1)) k83986 (fun _ => rfl) ew2 (((jw_ne e83986 (Or.inl (by decide))).trans ((kk83969.v rfl).trans ((jw_ne e83968 (Or.inl (by decide))).trans ((jw_ne e83967 (Or.inl (by decide))).trans ev83899))))) (by omega) (by omega))]; (repeat' split) <;> omega) (by omega) ((bR_at (p := (x5 + 2)) k83986 (fun _ => rfl) ew2 (((jw_ne e83986 (Or.inl (by decide))).trans ((kk83969.v rfl).trans ((jw_ne e83968 (Or.inl (by decide))).trans ((jw_ne e83967 (Or.inl (by decide))).trans ev83963))))) (by omega) (by omega)).trans (by omega)) (by rw [show ((x5 + 2) + 1 : Int) = (x5 + 3) by omega]; exact ⟨(nr83969.ok (by omega)).1, (nr83969.ok (by omega)).2.1⟩) ((bR_at (p := v83970) k83986 (fun _ => rfl) ew2 (((jw_ne e83986 (Or.inl (by decide))).trans ev83978)) (by omega) (by omega)).trans (by omega)) (by omega) (by rw [show ((x5 + 2) + 1 : Int) = (x5 + 3) by omega]; have z := (nr83969.ok (by omega)).2.2; rw [em83971] at z; exact z); exact ⟨y.1, y.2.1, (((jw_ne e83986 (Or.inl (by decide))).trans em83971)).trans y.2.2⟩)⟩
                      · refine ev_iconst ?_
                        exact ev_ret rfl (by decide) (by decide) ⟨⟨_, rfl, by omega, by omega, g83969, k83969⟩, fun r hr h0 => by cases hr; exfalso; omega, fun r hr => by cases hr; exact ⟨_, (em83971), by omega, by omega, (Fr.tr (Fr.kp (Fr.w (i := (400 * w0 + 4 * w1 + x7)) H2 e83967 (by omega) (by omega)) ((Kp.rf [(52, 0)] _).wr e83968 rfl) (fun _ => rfl) (fun _ => rfl) (fun _ => rfl) (fun _ => rfl)) fr83969 (by omega)), fun h0 => by exfalso; omega, fun h0 => by exfalso; omega⟩, fun r hr => by cases hr; exact Bd.M (cr_b (q := (x5 + 2)) H4 (by omega) (by unfold nm2; rw [(bR_at (p := x5) k83969 (fun _ => rfl) ew2 (((kk83969.v rfl).trans ((jw_ne e83968 (Or.inl (by decide))).trans ((jw_ne e83967 (Or.inl (by decide))).trans ev83880)))) (by omega) (by omega)), (bR_at (p := (x5 + 1)) k83969 (fun _ => rfl) ew2 (((kk83969.v rfl).trans ((jw_ne e83968 (Or.inl (by decide))).trans ((jw_ne e83967 (Or.inl (by decide))).trans ev83899)))) (by omega) (by omega))]; (repeat' split) <;> omega) (by omega) ((bR_at (p := (x5 + 2)) k83969 (fun _ => rfl) ew2 (((kk83969.v rfl).trans ((jw_ne e83968 (Or.inl (by decide))).trans ((jw_ne e83967 (Or.inl (by decide))).trans ev83963)))) (by omega) (by omega)).trans (by omega)) (by rw [show ((x5 + 2) + 1 : Int) = (x5 + 3) by omega]; exact nr83969.bd (by omega))) rfl⟩
                    · refine ev_aload_n rfl ?_
                      refine ev_iload rfl ?_
                      refine ev_iload rfl ?_
                      refine ev_iload rfl ?_
                      refine ev_in (d := (d + 1)) (a := 0) (b := 0) (cd' := c268_0) (m := 4) (L0 := [(2, 42), (0, (100 * w0 + w1)), (0, x7), (0, (10 * v83880 + v83899 - 528))]) (jcall_v (A := [(0, (10 * v83880 + v83899 - 528)), (0, x7), (0, (100 * w0 + w1))]) (S' := []) (r := 42) rfl (g1.lt ad42) (g1.tg ad42) (Nat.le_of_ble_eq_true rfl)) (by decide) ml268 pp268 (Nat.le_of_ble_eq_true rfl) rfl (by decide) (by decide) ?_
                      refine ev_iload_n rfl ?_
                      refine ev_ifge f268_5 (fun c83987 => ?_) (fun c83987 => absurd c83987 (by omega))
                      refine ev_aload_n rfl ?_
                      refine g_getp (r := 42) (c := 51) g1 ad42 (by decide) (by decide) rf42_13 ft12_13 ?_
                      refine ev_iconst ?_
                      refine ev_iload_n rfl ?_
                      refine ev_imul (r := (400 * w0 + 4 * w1)) (by unfold w32; omega) ?_
                      refine ev_iload_n rfl ?_
                      refine ev_iadd (r := (400 * w0 + 4 * w1 + x7)) (by unfold w32; omega) ?_
                      refine ev_aload_n rfl ?_
                      refine g_getv (r := 42) (v := y0) g1 ad42 (by decide) ft12_21 (ey0) ?_
                      refine g_i2bG (fun v83988 ev83988 lv83988 uv83988 => ?_)
                      refine ev_bastG (r := 51) (j := ((400 * w0 + 4 * w1 + x7)).toNat) (w := v83988) (g1.lt ad51) (g1.tg ad51) (by omega) (by rw [g1.ln ad51]; omega) (by unfold w8; omega) (fun h83989 e83989 => ?_)
                      have g83989 := g1.s51 e83989 (by rw [(((k1.v (by decide)).trans ew0))]; omega) (by omega) (by omega)
                      have k83989 := k1.wr e83989 rfl
                      refine ev_aload_n rfl ?_
                      refine g_getp (r := 42) (c := 52) g83989 ad42 (by decide) (by decide) rf42_14 ft12_14 ?_
                      refine ev_iconst ?_
                      refine ev_iload_n rfl ?_
                      refine ev_imul (r := (400 * w0 + 4 * w1)) (by unfold w32; omega) ?_
                      refine ev_iload_n rfl ?_
                      refine ev_iadd (r := (400 * w0 + 4 * w1 + x7)) (by unfold w32; omega) ?_
                      refine ev_iload_n rfl ?_
                      refine g_iast g83989 ad52 rt52 (fun _ => rfl) (by omega) (by omega) (by omega) (by omega) (fun h83990 e83990 g83990 => ?_)
                      have k83990 := k83989.wr e83990 rfl
                      refine ev_ret rfl (by decide) (by decide) ?_
                      show jEv _ _ _ _ _ _ _ (_, [(2, 42), (0, a1), (0, a2), (0, a3), (0, 1), (0, (x5 + 2)), (0, (100 * w0 + w1)), (0, x7), (0, (10 * v83880 + v83899 - 528)), (0, 2)], [], _, _, _)
                      refine ev_aload_n rfl ?_
                      refine ev_iload rfl ?_
                      refine ev_iconst ?_
                      refine ev_iadd (r := (x5 + 3)) (by unfold w32; omega) ?_
                      refine ev_iload_n rfl ?_
                      refine ev_iload_n rfl ?_
                      refine ev_iconst ?_
                      refine ev_iadd (r := (a3 + 1)) (by unfold w32; omega) ?_
                      refine ev_iload rfl ?_
                      refine ev_call (jcall_v (A := [(0, 1), (0, (a3 + 1)), (0, a2), (0, (x5 + 3))]) (S' := []) (r := 42) rfl (g83990.lt ad42) (g83990.tg ad42) (Nat.le_of_ble_eq_true rfl)) (jOk_le (by omega) (t272o g83990 (by omega) (by omega) (by omega) (by omega) (by omega) (by omega) (by omega) (by omega) (by omega) (by omega) (((jw_ne e83990 (Or.inl (by decide))).trans ((jw_ne e83989 (Or.inl (by decide))).trans ey0))) (by omega) (by omega) (((jw_ne e83990 (Or.inl (by decide))).trans ((jw_ne e83989 (Or.inl (by decide))).trans ((k1.v (by decide)).trans ew2)))) (by omega) (by omega) (l0 := l0) (b0 := b83873) (by omega) (Iv.kp hI k83990 (fun _ => rfl) (fun _ => rfl) rfl) (Lv.at hL (Ad.step (r' := (x5 + 3)) (Ad.step (r' := (x5 + 2)) (Ad.step (r' := (x5 + 1)) H0 (by omega) k83990 (fun _ => rfl) (((jw_ne e83990 (Or.inl (by decide))).trans ((jw_ne e83989 (Or.inl (by decide))).trans ev83880))) (by omega) (by omega) (by omega)) (by omega) k83990 (fun _ => rfl) (((jw_ne e83990 (Or.inl (by decide))).trans ((jw_ne e83989 (Or.inl (by decide))).trans ev83899))) (by omega) (by omega) (by omega)) (by omega) k83990 (fun _ => rfl) (((jw_ne e83990 (Or.inl (by decide))).trans ((jw_ne e83989 (Or.inl (by decide))).trans ev83963))) (by omega) (by omega) (by omega)) k83990 (fun _ => rfl) rfl) hb83872 (K := K) (q := q - 1) (hK.kp k83990 (fun _ => rfl) rfl (fun _ => rfl) rfl rfl (fun _ => rfl)) (by omega) (by rw [k83990.v rfl]; exact hN))) (by decide) (by decide) (fun w83991 h83991 q83991 => ?_)
                      obtain ⟨q83991, ad83991, ro83991, nr83991⟩ := q83991
                      obtain ⟨v83992, rfl, lv83992, uv83992, g83991, kk83991⟩ := q83991
                      have ad83991 := ad83991 _ rfl
                      have nr83991 := nr83991 _ rfl
                      obtain ⟨m83993, em83993, lm83993, um83993, pm83991⟩ := ro83991 _ rfl
                      have k83991 := k83990.tr kk83991 (by decide)
                      rw [RQ_kp k83990 (fun _ => rfl) rfl (fun _ => rfl) rfl rfl, bR_kp k83990 (fun _ => rfl) rfl] at nr83991
                      show jEv _ _ _ _ _ _ _ (_, [(2, 42), (0, a1), (0, a2), (0, a3), (0, 1), (0, (x5 + 2)), (0, (100 * w0 + w1)), (0, x7), (0, (10 * v83880 + v83899 - 528)), (0, 2)], [(0, v83992)], _, _, _)
                      refine ev_istore (L' := [(2, 42), (0, a1), (0, a2), (0, a3), (0, 1), (0, v83992), (0, (100 * w0 + w1)), (0, x7), (0, (10 * v83880 + v83899 - 528)), (0, 2)]) (Nat.le_of_ble_eq_true rfl) rfl ?_
                      refine ev_iload rfl ?_
                      refine ev_ifge f270_148 (fun c83994 => ?_) (fun c83994 => ?_)
                      · refine ev_iinc (w := (x7 + 1)) (L' := [(2, 42), (0, a1), (0, a2), (0, a3), (0, 1), (0, v83992), (0, (100 * w0 + w1)), (0, (x7 + 1)), (0, (10 * v83880 + v83899 - 528)), (0, 2)]) rfl (by unfold w32; omega) rfl ?_
                        refine ev_aload_n rfl ?_
                        refine ev_iload rfl ?_
                        refine ev_in (d := (d + 1)) (a := 0) (b := 0) (cd' := c264_0) (m := 2) (L0 := [(2, 42), (0, v83992)]) (jcall_v (A := [(0, v83992)]) (S' := []) (r := 42) rfl (g83991.lt ad42) (g83991.tg ad42) (Nat.le_of_ble_eq_true rfl)) (by decide) ml264 pp264 (Nat.le_of_ble_eq_true rfl) rfl (by decide) (by decide) ?_
                        refine ev_iload_n rfl ?_
                        refine ev_aload_n rfl ?_
                        refine g_getv (r := 42) (v := w2) g83991 ad42 (by decide) ft12_17 (((kk83991.v (by decide)).trans ((jw_ne e83990 (Or.inl (by decide))).trans ((jw_ne e83989 (Or.inl (by decide))).trans ((k1.v (by decide)).trans ew2))))) ?_
                        refine ev_icmpge f264_17 (fun c83995 => ?_) (fun c83995 => ?_)
                        · refine ev_iconst ?_
                          refine ev_ret rfl (by decide) (by decide) ?_
                          show jEv _ _ _ _ _ _ _ (_, [(2, 42), (0, a1), (0, a2), (0, a3), (0, 1), (0, v83992), (0, (100 * w0 + w1)), (0, (x7 + 1)), (0, (10 * v83880 + v83899 - 528)), (0, 2)], [(0, (-1))], _, _, _)
                          refine ev_bipush ?_
                          refine ev_icmpne f270_165 (fun c83996 => ?_) (fun c83996 => absurd c83996 (by omega))
                          refine ev_aload_n rfl ?_
                          refine ev_iload rfl ?_
                          refine ev_in (d := (d + 1)) (a := 0) (b := 0) (cd' := c264_0) (m := 2) (L0 := [(2, 42), (0, v83992)]) (jcall_v (A := [(0, v83992)]) (S' := []) (r := 42) rfl (g83991.lt ad42) (g83991.tg ad42) (Nat.le_of_ble_eq_true rfl)) (by decide) ml264 pp264 (Nat.le_of_ble_eq_true rfl) rfl (by decide) (by decide) ?_
                          refine ev_iload_n rfl ?_
                          refine ev_aload_n rfl ?_
                          refine g_getv (r := 42) (v := w2) g83991 ad42 (by decide) ft12_17 (((kk83991.v (by decide)).trans ((jw_ne e83990 (Or.inl (by decide))).trans ((jw_ne e83989 (Or.inl (by decide))).trans ((k1.v (by decide)).trans ew2))))) ?_
                          refine ev_icmpge f264_17 (fun c83997 => ?_) (fun c83997 => absurd c83997 (by omega))
                          refine ev_iconst ?_
                          refine ev_ret rfl (by decide) (by decide) ?_
                          show jEv _ _ _ _ _ _ _ (_, [(2, 42), (0, a1), (0, a2), (0, a3), (0, 1), (0, v83992), (0, (100 * w0 + w1)), (0, (x7 + 1)), (0, (10 * v83880 + v83899 - 528)), (0, 2)], [(0, (-1))], _, _, _)
                          refine ev_bipush ?_
                          refine ev_icmpne f270_182 (fun c83998 => ?_) (fun c83998 => absurd c83998 (by omega))
                          refine ev_aload_n rfl ?_
                          refine ev_iload rfl ?_
                          refine ev_in (d := (d + 1)) (a := 0) (b := 0) (cd' := c266_0) (m := 2) (L0 := [(2, 42), (0, v83992)]) (jcall_v (A := [(0, v83992)]) (S' := []) (r := 42) rfl (g83991.lt ad42) (g83991.tg ad42) (Nat.le_of_ble_eq_true rfl)) (by decide) ml266 pp266 (Nat.le_of_ble_eq_true rfl) rfl (by decide) (by decide) ?_
                          refine ev_aload_n rfl ?_
                          refine ev_iload_n rfl ?_
                          refine g_putf (r := 42) g83991 ad42 (by decide) ft12_20 (by decide) (fun e => absurd e nz12_20) rf42_20 (by decide) (by omega) (by omega) (fun h83999 e83999 g83999 => ?_)
                          have k83999 := k83991.wr e83999 rfl
                          refine ev_iconst ?_
                          refine ev_ret rfl (by decide) (by decide) ?_
                          show jEv _ _ _ _ _ _ _ (_, [(2, 42), (0, a1), (0, a2), (0, a3), (0, 1), (0, v83992), (0, (100 * w0 + w1)), (0, (x7 + 1)), (0, (10 * v83880 + v83899 - 528)), (0, 2)], [(0, (-1))], _, _, _)
                          exact ev_ret rfl (by decide) (by decide) ⟨⟨_, rfl, by omega, by omega, g83999, k83999⟩, fun r hr h0 => by cases hr; exfalso; omega, fun r hr => by cases hr; exact ⟨_, (((jw_ne e83999 (Or.inr (by decide))).trans em83993)), by omega, by omega, (Fr.kp (Fr.kp (Fr.kp (Fr.w (i := (400 * w0 + 4 * w1 + x7)) H2 e83989 (by omega) (by omega)) ((Kp.rf [(52, 0)] _).wr e83990 rfl) (fun _ => rfl) (fun _ => rfl) (fun _ => rfl) (fun _ => rfl)) kk83991 (fun _ => rfl) (fun _ => rfl) (fun _ => rfl) (fun _ => rfl)) ((Kp.rf [(42, 0)] _).wr e83999 rfl) (fun _ => rfl) (fun _ => rfl) (fun _ => rfl) (fun _ => rfl)), fun h0 => by exfalso; omega, fun h0 => by exfalso; omega⟩, fun r hr => by cases hr; exact (Bd.M (cr_x (q := (x5 + 2)) (v := v83992) H4 (by omega) (by unfold nm2; rw [(bR_at (p := x5) k83999 (fun _ => rfl) ew2 (((jw_ne e83999 (Or.inl (by decide))).trans ((kk83991.v rfl).trans ((jw_ne e83990 (Or.inl (by decide))).trans ((jw_ne e83989 (Or.inl (by decide))).trans ev83880))))) (by omega) (by omega)), (bR_at (p := (x5 + 1)) k83999 (fun _ => rfl) ew2 (((jw_ne e83999 (Or.inl (by decide))).trans ((kk83991.v rfl).trans ((jw_ne e83990 (Or.inl (by decide))).trans ((jw_ne e83989 (Or.inl (by decide))).trans ev83899))))) (by omega) (by omega))]; (repeat' split) <;> omega) (by omega) ((bR_at (p := (x5 + 2)) k83999 (fun _ => rfl) ew2 (((jw_ne e83999 (Or.inl (by decide))).trans ((kk83991.v rfl).trans ((jw_ne e83990 (Or.inl (by decide))).trans ((jw_ne e83989 (Or.inl (by decide))).trans ev83963))))) (by omega) (by omega)).trans (by omega)) (by rw [show ((x5 + 2) + 1 : Int) = (x5 + 3) by omega]; exact ⟨(nr83991.ok (by omega)).1, (nr83991.ok (by omega)).2.1⟩) (fun z => absurd ((bR_end (p := v83992) ew2 (by omega)).symm.trans z) (by omega)) (Or.inl (fun z => absurd ((bR_end (p := v83992) ew2 (by omega)).symm.trans z) (by omega))) (by omega)) ((jw_eq e83999)))⟩
                        · refine ev_aload_n rfl ?_
                          refine g_getp (r := 42) (c := 54) g83991 ad42 (by decide) (by decide) rf42_16 ft12_16 ?_
                          refine ev_iload_n rfl ?_
                          refine g_bald g83991 ad54 rt54 (by omega) (by omega) (fun v84000 ev84000 lv84000 uv84000 => ?_)
                          refine ev_goto f264_18 ?_
                          refine ev_ret rfl (by decide) (by decide) ?_
                          show jEv _ _ _ _ _ _ _ (_, [(2, 42), (0, a1), (0, a2), (0, a3), (0, 1), (0, v83992), (0, (100 * w0 + w1)), (0, (x7 + 1)), (0, (10 * v83880 + v83899 - 528)), (0, 2)], [(0, v84000)], _, _, _)
                          refine ev_bipush ?_
                          refine ev_icmpne f270_165 (fun c84001 => ?_) (fun c84001 => ?_)
                          · refine ev_aload_n rfl ?_
                            refine ev_iload rfl ?_
                            refine ev_in (d := (d + 1)) (a := 0) (b := 0) (cd' := c264_0) (m := 2) (L0 := [(2, 42), (0, v83992)]) (jcall_v (A := [(0, v83992)]) (S' := []) (r := 42) rfl (g83991.lt ad42) (g83991.tg ad42) (Nat.le_of_ble_eq_true rfl)) (by decide) ml264 pp264 (Nat.le_of_ble_eq_true rfl) rfl (by decide) (by decide) ?_
                            refine ev_iload_n rfl ?_
                            refine ev_aload_n rfl ?_
                            refine g_getv (r := 42) (v := w2) g83991 ad42 (by decide) ft12_17 (((kk83991.v (by decide)).trans ((jw_ne e83990 (Or.inl (by decide))).trans ((jw_ne e83989 (Or.inl (by decide))).trans ((k1.v (by decide)).trans ew2))))) ?_
                            refine ev_icmpge f264_17 (fun c84002 => absurd c84002 (by omega)) (fun c84002 => ?_)
                            refine ev_aload_n rfl ?_
                            refine g_getp (r := 42) (c := 54) g83991 ad42 (by decide) (by decide) rf42_16 ft12_16 ?_
                            refine ev_iload_n rfl ?_
                            refine g_baldv (v := v84000) g83991 ad54 (by omega) (by omega) (ev84000) ?_
                            refine ev_goto f264_18 ?_
                            refine ev_ret rfl (by decide) (by decide) ?_
                            show jEv _ _ _ _ _ _ _ (_, [(2, 42), (0, a1), (0, a2), (0, a3), (0, 1), (0, v83992), (0, (100 * w0 + w1)), (0, (x7 + 1)), (0, (10 * v83880 + v83899 - 528)), (0, 2)], [(0, v84000)], _, _, _)
                            refine ev_bipush ?_
                            refine ev_icmpne f270_182 (fun c84003 => ?_) (fun c84003 => ?_)
                            · refine ev_aload_n rfl ?_
                              refine ev_iload rfl ?_
                              refine ev_in (d := (d + 1)) (a := 0) (b := 0) (cd' := c266_0) (m := 2) (L0 := [(2, 42), (0, v83992)]) (jcall_v (A := [(0, v83992)]) (S' := []) (r := 42) rfl (g83991.lt ad42) (g83991.tg ad42) (Nat.le_of_ble_eq_true rfl)) (by decide) ml266 pp266 (Nat.le_of_ble_eq_true rfl) rfl (by decide) (by decide) ?_
                              refine ev_aload_n rfl ?_
                              refine ev_iload_n rfl ?_
                              refine g_putf (r := 42) g83991 ad42 (by decide) ft12_20 (by decide) (fun e => absurd e nz12_20) rf42_20 (by decide) (by omega) (by omega) (fun h84004 e84004 g84004 => ?_)
                              have k84004 := k83991.wr e84004 rfl
                              refine ev_iconst ?_
                              refine ev_ret rfl (by decide) (by decide) ?_
                              show jEv _ _ _ _ _ _ _ (_, [(2, 42), (0, a1), (0, a2), (0, a3), (0, 1), (0, v83992), (0, (100 * w0 + w1)), (0, (x7 + 1)), (0, (10 * v83880 + v83899 - 528)), (0, 2)], [(0, (-1))], _, _, _)
                              exact ev_ret rfl (by decide) (by decide) ⟨⟨_, rfl, by omega, by omega, g84004, k84004⟩, fun r hr h0 => by cases hr; exfalso; omega, fun r hr => by cases hr; exact ⟨_, (((jw_ne e84004 (Or.inr (by decide))).trans em83993)), by omega, by omega, (Fr.kp (Fr.kp (Fr.kp (Fr.w (i := (400 * w0 + 4 * w1 + x7)) H2 e83989 (by omega) (by omega)) ((Kp.rf [(52, 0)] _).wr e83990 rfl) (fun _ => rfl) (fun _ => rfl) (fun _ => rfl) (fun _ => rfl)) kk83991 (fun _ => rfl) (fun _ => rfl) (fun _ => rfl) (fun _ => rfl)) ((Kp.rf [(42, 0)] _).wr e84004 rfl) (fun _ => rfl) (fun _ => rfl) (fun _ => rfl) (fun _ => rfl)), fun h0 => by exfalso; omega, fun h0 => by exfalso; omega⟩, fun r hr => by cases hr; exact (Bd.M (cr_x (q := (x5 + 2)) (v := v83992) H4 (by omega) (by unfold nm2; rw [(bR_at (p := x5) k84004 (fun _ => rfl) ew2 (((jw_ne e84004 (Or.inl (by decide))).trans ((kk83991.v rfl).trans ((jw_ne e83990 (Or.inl (by decide))).trans ((jw_ne e83989 (Or.inl (by decide))).trans ev83880))))) (by omega) (by omega)), (bR_at (p := (x5 + 1)) k84004 (fun _ => rfl) ew2 (((jw_ne e84004 (Or.inl (by decide))).trans ((kk83991.v rfl).trans ((jw_ne e83990 (Or.inl (by decide))).trans ((jw_ne e83989 (Or.inl (by decide))).trans ev83899))))) (by omega) (by omega))]; (repeat' split) <;> omega) (by omega) ((bR_at (p := (x5 + 2)) k84004 (fun _ => rfl) ew2 (((jw_ne e84004 (Or.inl (by decide))).trans ((kk83991.v rfl).trans ((jw_ne e83990 (Or.inl (by decide))).trans ((jw_ne e83989 (Or.inl (by decide))).trans ev83963))))) (by omega) (by omega)).trans (by omega)) (by rw [show ((x5 + 2) + 1 : Int) = (x5 + 3) by omega]; exact ⟨(nr83991.ok (by omega)).1, (nr83991.ok (by omega)).2.1⟩) (fun z => absurd ((bR_at (p := v83992) k84004 (fun _ => rfl) ew2 (((jw_ne e84004 (Or.inl (by decide))).trans ev84000)) (by omega) (by omega)).symm.trans z) (by omega)) (Or.inl (fun z => absurd ((bR_at (p := v83992) k84004 (fun _ => rfl) ew2 (((jw_ne e84004 (Or.inl (by decide))).trans ev84000)) (by omega) (by omega)).symm.trans z) (by omega))) (by omega)) ((jw_eq e84004)))⟩
                            · refine ev_iload rfl ?_
                              refine ev_iconst ?_
                              refine ev_icmpne f270_189 (fun c84005 => ?_) (fun c84005 => ?_)
                              · refine ev_iinc (w := (v83992 + 1)) (L' := [(2, 42), (0, a1), (0, a2), (0, a3), (0, 1), (0, (v83992 + 1)), (0, (100 * w0 + w1)), (0, (x7 + 1)), (0, (10 * v83880 + v83899 - 528)), (0, 2)]) rfl (by unfold w32; omega) rfl ?_
                                refine ev_goto f270_45 ?_
                                exact ih _ _ _ _ _ _ g83991 k83991 (by omega) (by omega) (by omega) (by omega) (by omega) (by omega) (by omega) (by omega) (by omega) (by omega) (by omega) (em83993) (by omega) (by omega) (Ad.step (r' := (v83992 + 1)) (Ad.tr (Ad.step (r' := (x5 + 3)) (Ad.step (r' := (x5 + 2)) (Ad.step (r' := (x5 + 1)) H0 (by omega) k83990 (fun _ => rfl) (((jw_ne e83990 (Or.inl (by decide))).trans ((jw_ne e83989 (Or.inl (by decide))).trans ev83880))) (by omega) (by omega) (by omega)) (by omega) k83990 (fun _ => rfl) (((jw_ne e83990 (Or.inl (by decide))).trans ((jw_ne e83989 (Or.inl (by decide))).trans ev83899))) (by omega) (by omega) (by omega)) (by omega) k83990 (fun _ => rfl) (((jw_ne e83990 (Or.inl (by decide))).trans ((jw_ne e83989 (Or.inl (by decide))).trans ev83963))) (by omega) (by omega) (by omega)) k83990 (fun _ => rfl) (ad83991 (by omega))) (by omega) k83991 (fun _ => rfl) (ev84000) (by omega) (by omega) (by omega)) (Mb.step H1 eb83872 um83993 (by omega)) (Fr.kp (Fr.kp (Fr.w (i := (400 * w0 + 4 * w1 + x7)) H2 e83989 (by omega) (by omega)) ((Kp.rf [(52, 0)] _).wr e83990 rfl) (fun _ => rfl) (fun _ => rfl) (fun _ => rfl) (fun _ => rfl)) kk83991 (fun _ => rfl) (fun _ => rfl) (fun _ => rfl) (fun _ => rfl)) (PC.over (by have := pm83991 (by omega); omega)) (cr_k (q := (x5 + 2)) (v := v83992) H4 (by omega) (by unfold nm2; rw [(bR_at (p := x5) k83991 (fun _ => rfl) ew2 (((kk83991.v rfl).trans ((jw_ne e83990 (Or.inl (by decide))).trans ((jw_ne e83989 (Or.inl (by decide))).trans ev83880)))) (by omega) (by omega)), (bR_at (p := (x5 + 1)) k83991 (fun _ => rfl) ew2 (((kk83991.v rfl).trans ((jw_ne e83990 (Or.inl (by decide))).trans ((jw_ne e83989 (Or.inl (by decide))).trans ev83899)))) (by omega) (by omega))]; (repeat' split) <;> omega) (by omega) ((bR_at (p := (x5 + 2)) k83991 (fun _ => rfl) ew2 (((kk83991.v rfl).trans ((jw_ne e83990 (Or.inl (by decide))).trans ((jw_ne e83989 (Or.inl (by decide))).trans ev83963)))) (by omega) (by omega)).trans (by omega)) (by rw [show ((x5 + 2) + 1 : Int) = (x5 + 3) by omega]; exact ⟨(nr83991.ok (by omega)).1, (nr83991.ok (by omega)).2.1⟩) ((bR_at (p := v83992) k83991 (fun _ => rfl) ew2 (ev84000) (by omega) (by omega)).trans (by omega)) (by omega) (by omega) (by rw [show ((x5 + 2) + 1 : Int) = (x5 + 3) by omega]; have z := (nr83991.ok (by omega)).2.2; rw [em83993] at z; exact z)) (by omega)
                              · refine ev_aload_n rfl ?_
                                refine ev_iload rfl ?_
                                refine ev_in (d := (d + 1)) (a := 0) (b := 0) (cd' := c266_0) (m := 2) (L0 := [(2, 42), (0, v83992)]) (jcall_v (A := [(0, v83992)]) (S' := []) (r := 42) rfl (g83991.lt ad42) (g83991.tg ad42) (Nat.le_of_ble_eq_true rfl)) (by decide) ml266 pp266 (Nat.le_of_ble_eq_true rfl) rfl (by decide) (by decide) ?_
                                refine ev_aload_n rfl ?_
                                refine ev_iload_n rfl ?_
                                refine g_putf (r := 42) g83991 ad42 (by decide) ft12_20 (by decide) (fun e => absurd e nz12_20) rf42_20 (by decide) (by omega) (by omega) (fun h84006 e84006 g84006 => ?_)
                                have k84006 := k83991.wr e84006 rfl
                                refine ev_iconst ?_
                                refine ev_ret rfl (by decide) (by decide) ?_
                                show jEv _ _ _ _ _ _ _ (_, [(2, 42), (0, a1), (0, a2), (0, a3), (0, 1), (0, v83992), (0, (100 * w0 + w1)), (0, (x7 + 1)), (0, (10 * v83880 + v83899 - 528)), (0, 2)], [(0, (-1))], _, _, _)
                                exact ev_ret rfl (by decide) (by decide) ⟨⟨_, rfl, by omega, by omega, g84006, k84006⟩, fun r hr h0 => by cases hr; exfalso; omega, fun r hr => by cases hr; exact ⟨_, (((jw_ne e84006 (Or.inr (by decide))).trans em83993)), by omega, by omega, (Fr.kp (Fr.kp (Fr.kp (Fr.w (i := (400 * w0 + 4 * w1 + x7)) H2 e83989 (by omega) (by omega)) ((Kp.rf [(52, 0)] _).wr e83990 rfl) (fun _ => rfl) (fun _ => rfl) (fun _ => rfl) (fun _ => rfl)) kk83991 (fun _ => rfl) (fun _ => rfl) (fun _ => rfl) (fun _ => rfl)) ((Kp.rf [(42, 0)] _).wr e84006 rfl) (fun _ => rfl) (fun _ => rfl) (fun _ => rfl) (fun _ => rfl)), fun h0 => by exfalso; omega, fun h0 => by exfalso; omega⟩, fun r hr => by cases hr; exact (Bd.M (cr_x (q := (x5 + 2)) (v := v83992) H4 (by omega) (by unfold nm2; rw [(bR_at (p := x5) k84006 (fun _ => rfl) ew2 (((jw_ne e84006 (Or.inl (by decide))).trans ((kk83991.v rfl).trans ((jw_ne e83990 (Or.inl (by decide))).trans ((jw_ne e83989 (Or.inl (by decide))).trans ev83880))))) (by omega) (by omega)), (bR_at (p := (x5 + 1)) k84006 (fun _ => rfl) ew2 (((jw_ne e84006 (Or.inl (by decide))).trans ((kk83991.v rfl).trans ((jw_ne e83990 (Or.inl (by decide))).trans ((jw_ne e83989 (Or.inl (by decide))).trans ev83899))))) (by omega) (by omega))]; (repeat' split) <;> omega) (by omega) ((bR_at (p := (x5 + 2)) k84006 (fun _ => rfl) ew2 (((jw_ne e84006 (Or.inl (by decide))).trans ((kk83991.v rfl).trans ((jw_ne e83990 (Or.inl (by decide))).trans ((jw_ne e83989 (Or.inl (by decide))).trans ev83963))))) (by omega) (by omega)).trans (by omega)) (by rw [show ((x5 + 2) + 1 : Int) = (x5 + 3) by omega]; exact ⟨(nr83991.ok (by omega)).1, (nr83991.ok (by omega)).2.1⟩) (fun z => absurd ((bR_at (p := v83992) k84006 (fun _ => rfl) ew2 (((jw_ne e84006 (Or.inl (by decide))).trans ev84000)) (by omega) (by omega)).symm.trans z) (by omega)) (Or.inr (by omega)) (by omega)) ((jw_eq e84006)))⟩
                          · refine ev_goto f270_195 ?_
                            refine ev_iload rfl ?_
                            refine ev_iflt f270_209 (fun c84007 => absurd c84007 (by omega)) (fun c84007 => ?_)
                            refine ev_aload_n rfl ?_
                            refine g_getp (r := 42) (c := 50) g83991 ad42 (by decide) (by decide) rf42_12 ft12_12 ?_
                            refine ev_iload rfl ?_
                            refine ev_iload rfl ?_
                            refine ev_iastG (r := 50) (j := ((100 * w0 + w1)).toNat) (g83991.lt ad50) (g83991.tg ad50) (by omega) (by rw [g83991.ln ad50]; omega) (fun h84008 e84008 => ?_)
                            have g84008 := g83991.s50 e84008 (Or.inl (by rw [(((kk83991.v (by decide)).trans ((jw_ne e83990 (Or.inl (by decide))).trans ((jw_ne e83989 (Or.inl (by decide))).trans ((k1.v (by decide)).trans ew0)))))]; omega)) (by omega) (by omega)
                            have k84008 := k83991.wr e84008 rfl
                            refine ev_iload rfl ?_
                            refine ev_iconst ?_
                            refine ev_iadd (r := (v83992 + 1)) (by unfold w32; omega) ?_
                            exact ev_ret rfl (by decide) (by decide) ⟨⟨_, rfl, by omega, by omega, g84008, k84008⟩, fun r hr h0 => by cases hr; exact (Ad.step (r' := (v83992 + 1)) (Ad.tr (Ad.step (r' := (x5 + 3)) (Ad.step (r' := (x5 + 2)) (Ad.step (r' := (x5 + 1)) H0 (by omega) k83990 (fun _ => rfl) (((jw_ne e83990 (Or.inl (by decide))).trans ((jw_ne e83989 (Or.inl (by decide))).trans ev83880))) (by omega) (by omega) (by omega)) (by omega) k83990 (fun _ => rfl) (((jw_ne e83990 (Or.inl (by decide))).trans ((jw_ne e83989 (Or.inl (by decide))).trans ev83899))) (by omega) (by omega) (by omega)) (by omega) k83990 (fun _ => rfl) (((jw_ne e83990 (Or.inl (by decide))).trans ((jw_ne e83989 (Or.inl (by decide))).trans ev83963))) (by omega) (by omega) (by omega)) k83990 (fun _ => rfl) (ad83991 (by omega))) (by omega) k84008 (fun _ => rfl) (((jw_ne e84008 (Or.inl (by decide))).trans ev84000)) (by omega) (by omega) (by omega)), fun r hr => by cases hr; exact ⟨_, (((jw_ne e84008 (Or.inl (by decide))).trans em83993)), by omega, by omega, (Fr.w (i := (100 * w0 + w1)) (Fr.kp (Fr.kp (Fr.w (i := (400 * w0 + 4 * w1 + x7)) H2 e83989 (by omega) (by omega)) ((Kp.rf [(52, 0)] _).wr e83990 rfl) (fun _ => rfl) (fun _ => rfl) (fun _ => rfl) (fun _ => rfl)) kk83991 (fun _ => rfl) (fun _ => rfl) (fun _ => rfl) (fun _ => rfl)) e84008 (by omega) (by omega)), fun h0 => by have := pm83991 (by omega); omega, fun h0 hm => by exfalso; have := pm83991 (by omega); omega⟩, fun r hr => by cases hr; exact Or.inl (by have y := cr_e (q := (x5 + 2)) (v := v83992) (r := (v83992 + 1)) (md' := m83993) H4 (by omega) (by unfold nm2; rw [(bR_at (p := x5) k84008 (fun _ => rfl) ew2 (((jw_ne e84008 (Or.inl (by decide))).trans ((kk83991.v rfl).trans ((jw_ne e83990 (Or.inl (by decide))).trans ((jw_ne e83989 (Or.inl (by decide))).trans ev83880))))) (by omega) (by omega)), (bR_at (p := (x5 + 1)) k84008 (fun _ => rfl) ew2 (((jw_ne e84008 (Or.inl (by decide))).trans ((kk83991.v rfl).trans ((jw_ne e83990 (Or.inl (by decide))).trans ((jw_ne e83989 (Or.inl (by decide))).trans ev83899))))) (by omega) (by omega))]; (repeat' split) <;> omega) (by omega) ((bR_at (p := (x5 + 2)) k84008 (fun _ => rfl) ew2 (((jw_ne e84008 (Or.inl (by decide))).trans ((kk83991.v rfl).trans ((jw_ne e83990 (Or.inl (by decide))).trans ((jw_ne e83989 (Or.inl (by decide))).trans ev83963))))) (by omega) (by omega)).trans (by omega)) (by rw [show ((x5 + 2) + 1 : Int) = (x5 + 3) by omega]; exact ⟨(nr83991.ok (by omega)).1, (nr83991.ok (by omega)).2.1⟩) ((bR_at (p := v83992) k84008 (fun _ => rfl) ew2 (((jw_ne e84008 (Or.inl (by decide))).trans ev84000)) (by omega) (by omega)).trans (by omega)) (by omega) (by rw [show ((x5 + 2) + 1 : Int) = (x5 + 3) by omega]; have z := (nr83991.ok (by omega)).2.2; rw [em83993] at z; exact z); exact ⟨y.1, y.2.1, (((jw_ne e84008 (Or.inl (by decide))).trans em83993)).trans y.2.2⟩)⟩
                      · refine ev_iconst ?_
                        exact ev_ret rfl (by decide) (by decide) ⟨⟨_, rfl, by omega, by omega, g83991, k83991⟩, fun r hr h0 => by cases hr; exfalso; omega, fun r hr => by cases hr; exact ⟨_, (em83993), by omega, by omega, (Fr.kp (Fr.kp (Fr.w (i := (400 * w0 + 4 * w1 + x7)) H2 e83989 (by omega) (by omega)) ((Kp.rf [(52, 0)] _).wr e83990 rfl) (fun _ => rfl) (fun _ => rfl) (fun _ => rfl) (fun _ => rfl)) kk83991 (fun _ => rfl) (fun _ => rfl) (fun _ => rfl) (fun _ => rfl)), fun h0 => by exfalso; omega, fun h0 => by exfalso; omega⟩, fun r hr => by cases hr; exact Bd.M (cr_b (q := (x5 + 2)) H4 (by omega) (by unfold nm2; rw [(bR_at (p := x5) k83991 (fun _ => rfl) ew2 (((kk83991.v rfl).trans ((jw_ne e83990 (Or.inl (by decide))).trans ((jw_ne e83989 (Or.inl (by decide))).trans ev83880)))) (by omega) (by omega)), (bR_at (p := (x5 + 1)) k83991 (fun _ => rfl) ew2 (((kk83991.v rfl).trans ((jw_ne e83990 (Or.inl (by decide))).trans ((jw_ne e83989 (Or.inl (by decide))).trans ev83899)))) (by omega) (by omega))]; (repeat' split) <;> omega) (by omega) ((bR_at (p := (x5 + 2)) k83991 (fun _ => rfl) ew2 (((kk83991.v rfl).trans ((jw_ne e83990 (Or.inl (by decide))).trans ((jw_ne e83989 (Or.inl (by decide))).trans ev83963)))) (by omega) (by omega)).trans (by omega)) (by rw [show ((x5 + 2) + 1 : Int) = (x5 + 3) by omega]; exact nr83991.bd (by omega))) rfl⟩
                  · refine ev_aload_n rfl ?_
                    refine ev_iload rfl ?_
                    refine ev_in (d := (d + 1)) (a := 0) (b := 0) (cd' := c266_0) (m := 2) (L0 := [(2, 42), (0, (x5 + 2))]) (jcall_v (A := [(0, (x5 + 2))]) (S' := []) (r := 42) rfl (g1.lt ad42) (g1.tg ad42) (Nat.le_of_ble_eq_true rfl)) (by decide) ml266 pp266 (Nat.le_of_ble_eq_true rfl) rfl (by decide) (by decide) ?_
                    refine ev_aload_n rfl ?_
                    refine ev_iload_n rfl ?_
                    refine g_putf (r := 42) g1 ad42 (by decide) ft12_20 (by decide) (fun e => absurd e nz12_20) rf42_20 (by decide) (by omega) (by omega) (fun h84009 e84009 g84009 => ?_)
                    have k84009 := k1.wr e84009 rfl
                    refine ev_iconst ?_
                    refine ev_ret rfl (by decide) (by decide) ?_
                    show jEv _ _ _ _ _ _ _ (_, [(2, 42), (0, a1), (0, a2), (0, a3), (0, 1), (0, (x5 + 2)), (0, (100 * w0 + w1)), (0, x7), (0, (10 * v83880 + v83899 - 528)), (0, 2)], [(0, (-1))], _, _, _)
                    exact ev_ret rfl (by decide) (by decide) ⟨⟨_, rfl, by omega, by omega, g84009, k84009⟩, fun r hr h0 => by cases hr; exfalso; omega, fun r hr => by cases hr; exact ⟨_, (((jw_ne e84009 (Or.inr (by decide))).trans ey0)), by omega, by omega, (Fr.kp H2 ((Kp.rf [(42, 0)] _).wr e84009 rfl) (fun _ => rfl) (fun _ => rfl) (fun _ => rfl) (fun _ => rfl)), fun h0 => by exfalso; omega, fun h0 => by exfalso; omega⟩, fun r hr => by cases hr; exact (Bd.M (cr_c (q := (x5 + 2)) H4 (by omega) (by unfold nm2; rw [(bR_at (p := x5) k84009 (fun _ => rfl) ew2 (((jw_ne e84009 (Or.inl (by decide))).trans ev83880)) (by omega) (by omega)), (bR_at (p := (x5 + 1)) k84009 (fun _ => rfl) ew2 (((jw_ne e84009 (Or.inl (by decide))).trans ev83899)) (by omega) (by omega))]; (repeat' split) <;> omega) (by omega) (fun z => absurd ((bR_at (p := (x5 + 2)) k84009 (fun _ => rfl) ew2 (((jw_ne e84009 (Or.inl (by decide))).trans ev83963)) (by omega) (by omega)).symm.trans z) (by omega)) (by omega)) ((jw_eq e84009)))⟩
set_option maxHeartbeats 4000000 in
theorem t270i_s {G : GH} {h : JH} (g : Gd G h) {l0 : Int} (ll0 : 0 ≤ l0) (ul0 : l0 ≤ 6) {b0 : Int} (lb0 : 1 ≤ b0) (ub0 : b0 ≤ 30000000) {a1 : Int} (la1 : 0 ≤ a1) (ua1 : a1 ≤ 202) {a2 : Int} (la2 : 0 ≤ a2) (ua2 : a2 ≤ 15) {a3 : Int} (la3 : 0 ≤ a3) (ua3 : a3 ≤ 12) {w0 : Int} (ew0 : h.2.2 42 9 = w0) (lw0 : 0 ≤ w0) (uw0 : w0 ≤ 5) {w1 : Int} (ew1 : h.2.2 42 21 = w1) (lw1 : 0 ≤ w1) (uw1 : w1 ≤ 99) {w2 : Int} (ew2 : h.2.2 42 17 = w2) (lw2 : 0 ≤ w2) (uw2 : w2 ≤ 200) (F0 : (b0 + w1) ≤ 200000000) {S : List Nat} {K : Int → Int × Int × Int} {q : Nat} (hI : Iv h) (hL : Lv h l0 a1) (hb : NB a3 = b0) (hS : Sk a2 S) (hK : KoR h K) (hq : 13 - a3 = q) (hN : h.2.2 42 1 ≤ 4) (hq3 : h.2.2 54 (a1).toNat = 63) {M : Int} (hM : M = (7 * a3 - l0)) {d : Nat} (hd : 371 ≤ d) (rih : ∀ {G : GH} {h : JH} (g : Gd G h) {l0 : Int} (ll0 : 0 ≤ l0) (ul0 : l0 ≤ 6) {b0 : Int} (lb0 : 1 ≤ b0) (ub0 : b0 ≤ 30000000) {a1 : Int} (la1 : 0 ≤ a1) (ua1 : a1 ≤ 202) {a2 : Int} (la2 : 0 ≤ a2) (ua2 : a2 ≤ 15) {a3 : Int} (la3 : 0 ≤ a3) (ua3 : a3 ≤ 12) {w0 : Int} (ew0 : h.2.2 42 9 = w0) (lw0 : 0 ≤ w0) (uw0 : w0 ≤ 5) {w1 : Int} (ew1 : h.2.2 42 21 = w1) (lw1 : 0 ≤ w1) (uw1 : w1 ≤ 99) {w2 : Int} (ew2 : h.2.2 42 17 = w2) (lw2 : 0 ≤ w2) (uw2 : w2 ≤ 200) (F0 : (b0 + w1) ≤ 200000000) {S : List Nat} {K : Int → Int × Int × Int} {q : Nat} (hI : Iv h) (hL : Lv h l0 a1) (hb : NB a3 = b0) (hS : Sk a2 S) (hK : KoR h K) (hq : 13 - a3 = q) (hN : h.2.2 42 1 ≤ 4) (hm : M + 1 ≤ (7 * a3 - l0)), jOk d 0 0 272 [(2, 42), (0, a1), (0, a2), (0, a3), (0, 1)] h (fun v h' => PI G [(42, 21), (42, 22), (49, 0), (50, 0), (51, 0), (52, 0), (53, 0)] h 0 (-1) 200 v h' ∧ (∀ r, v = some (0, r) → 0 ≤ r → Ad h l0 a1 r) ∧ (∀ r, v = some (0, r) → RI h h' w0 w1 a3 b0 S r) ∧ (∀ r, v = some (0, r) → RdM (bR h) h' w1 (RQ h K q a2 a3 a1) r))) : jOk (d + 3) 0 0 270 [(2, 42), (0, a1), (0, a2), (0, a3), (0, 1)] h (fun v h' => PI G [(42, 21), (42, 22), (49, 0), (50, 0), (51, 0), (52, 0), (53, 0)] h 0 (-1) 200 v h' ∧ (∀ r, v = some (0, r) → 0 ≤ r → Ad h l0 a1 r) ∧ (∀ r, v = some (0, r) → RI h h' w0 w1 a3 b0 S r) ∧ (∀ r, v = some (0, r) → RdM (bR h) h' w1 (if bR h (a1 + 1) ≠ 40 ∨ 12 ≤ a3 then rF (a1 + 1) else chL (bR h) (RQ h K (q - 1) a2 (a3 + 1)) 4 (a1 + 2) 0 0 1) r)) := by
  refine ⟨by decide, by rw [ml270]; exact Nat.le_of_ble_eq_true rfl, ?_⟩
  rw [ml270, pp270]
  show jEv _ none _ c270_0 0 0 _ (c270_0, [(2, 42), (0, a1), (0, a2), (0, a3), (0, 1), (9, 0), (9, 0), (9, 0), (9, 0), (9, 0)], [], h, 0, 0)
  have k0 := Kp.rf [(42, 21), (42, 22), (49, 0), (50, 0), (51, 0), (52, 0), (53, 0)] h
  refine ev_iload_n rfl ?_
  refine ev_iconst ?_
  refine ev_iadd (r := (a1 + 1)) (by unfold w32; omega) ?_
  refine ev_istore (L' := [(2, 42), (0, a1), (0, a2), (0, a3), (0, 1), (0, (a1 + 1)), (9, 0), (9, 0), (9, 0), (9, 0)]) (Nat.le_of_ble_eq_true rfl) rfl ?_
  refine ev_aload_n rfl ?_
  refine ev_iload rfl ?_
  refine ev_in (d := (d + 1)) (a := 0) (b := 0) (cd' := c264_0) (m := 2) (L0 := [(2, 42), (0, (a1 + 1))]) (jcall_v (A := [(0, (a1 + 1))]) (S' := []) (r := 42) rfl (g.lt ad42) (g.tg ad42) (Nat.le_of_ble_eq_true rfl)) (by decide) ml264 pp264 (Nat.le_of_ble_eq_true rfl) rfl (by decide) (by decide) ?_
  refine ev_iload_n rfl ?_
  refine ev_aload_n rfl ?_
  refine g_getv (r := 42) (v := w2) g ad42 (by decide) ft12_17 (ew2) ?_
  refine ev_icmpge f264_17 (fun c84010 => ?_) (fun c84010 => ?_)
  · refine ev_iconst ?_
    refine ev_ret rfl (by decide) (by decide) ?_
    show jEv _ _ _ _ _ _ _ (_, [(2, 42), (0, a1), (0, a2), (0, a3), (0, 1), (0, (a1 + 1)), (9, 0), (9, 0), (9, 0), (9, 0)], [(0, (-1))], _, _, _)
    refine ev_bipush ?_
    refine ev_icmpne f270_22 (fun c84011 => ?_) (fun c84011 => absurd c84011 (by omega))
    refine ev_aload_n rfl ?_
    refine ev_iload rfl ?_
    refine ev_in (d := (d + 1)) (a := 0) (b := 0) (cd' := c266_0) (m := 2) (L0 := [(2, 42), (0, (a1 + 1))]) (jcall_v (A := [(0, (a1 + 1))]) (S' := []) (r := 42) rfl (g.lt ad42) (g.tg ad42) (Nat.le_of_ble_eq_true rfl)) (by decide) ml266 pp266 (Nat.le_of_ble_eq_true rfl) rfl (by decide) (by decide) ?_
    refine ev_aload_n rfl ?_
    refine ev_iload_n rfl ?_
    refine g_putf (r := 42) g ad42 (by decide) ft12_20 (by decide) (fun e => absurd e nz12_20) rf42_20 (by decide) (by omega) (by omega) (fun h84012 e84012 g84012 => ?_)
    have k84012 := k0.wr e84012 rfl
    refine ev_iconst ?_
    refine ev_ret rfl (by decide) (by decide) ?_
    show jEv _ _ _ _ _ _ _ (_, [(2, 42), (0, a1), (0, a2), (0, a3), (0, 1), (0, (a1 + 1)), (9, 0), (9, 0), (9, 0), (9, 0)], [(0, (-1))], _, _, _)
    exact ev_ret rfl (by decide) (by decide) ⟨⟨_, rfl, by omega, by omega, g84012, k84012⟩, fun r hr h0 => by cases hr; exfalso; omega, fun r hr => by cases hr; exact ⟨_, (((jw_ne e84012 (Or.inr (by decide))).trans ew1)), by omega, by omega, (Fr.kp (Fr.rf _ _) ((Kp.rf [(42, 0)] _).wr e84012 rfl) (fun _ => rfl) (fun _ => rfl) (fun _ => rfl) (fun _ => rfl)), fun h0 => by exfalso; omega, fun h0 => by exfalso; omega⟩, fun r hr => by cases hr; exact (Bd.M (bd_rF (p := a1 + 1) (if_pos (Or.inl (fun z => absurd ((bR_end (p := (a1 + 1)) ew2 (by omega)).symm.trans z) (by omega)))) (by omega) (by omega)) ((jw_eq e84012)))⟩
  · refine ev_aload_n rfl ?_
    refine g_getp (r := 42) (c := 54) g ad42 (by decide) (by decide) rf42_16 ft12_16 ?_
    refine ev_iload_n rfl ?_
    refine g_bald g ad54 rt54 (by omega) (by omega) (fun v84013 ev84013 lv84013 uv84013 => ?_)
    refine ev_goto f264_18 ?_
    refine ev_ret rfl (by decide) (by decide) ?_
    show jEv _ _ _ _ _ _ _ (_, [(2, 42), (0, a1), (0, a2), (0, a3), (0, 1), (0, (a1 + 1)), (9, 0), (9, 0), (9, 0), (9, 0)], [(0, v84013)], _, _, _)
    refine ev_bipush ?_
    refine ev_icmpne f270_22 (fun c84014 => ?_) (fun c84014 => ?_)
    · refine ev_aload_n rfl ?_
      refine ev_iload rfl ?_
      refine ev_in (d := (d + 1)) (a := 0) (b := 0) (cd' := c266_0) (m := 2) (L0 := [(2, 42), (0, (a1 + 1))]) (jcall_v (A := [(0, (a1 + 1))]) (S' := []) (r := 42) rfl (g.lt ad42) (g.tg ad42) (Nat.le_of_ble_eq_true rfl)) (by decide) ml266 pp266 (Nat.le_of_ble_eq_true rfl) rfl (by decide) (by decide) ?_
      refine ev_aload_n rfl ?_
      refine ev_iload_n rfl ?_
      refine g_putf (r := 42) g ad42 (by decide) ft12_20 (by decide) (fun e => absurd e nz12_20) rf42_20 (by decide) (by omega) (by omega) (fun h84015 e84015 g84015 => ?_)
      have k84015 := k0.wr e84015 rfl
      refine ev_iconst ?_
      refine ev_ret rfl (by decide) (by decide) ?_
      show jEv _ _ _ _ _ _ _ (_, [(2, 42), (0, a1), (0, a2), (0, a3), (0, 1), (0, (a1 + 1)), (9, 0), (9, 0), (9, 0), (9, 0)], [(0, (-1))], _, _, _)
      exact ev_ret rfl (by decide) (by decide) ⟨⟨_, rfl, by omega, by omega, g84015, k84015⟩, fun r hr h0 => by cases hr; exfalso; omega, fun r hr => by cases hr; exact ⟨_, (((jw_ne e84015 (Or.inr (by decide))).trans ew1)), by omega, by omega, (Fr.kp (Fr.rf _ _) ((Kp.rf [(42, 0)] _).wr e84015 rfl) (fun _ => rfl) (fun _ => rfl) (fun _ => rfl) (fun _ => rfl)), fun h0 => by exfalso; omega, fun h0 => by exfalso; omega⟩, fun r hr => by cases hr; exact (Bd.M (bd_rF (p := a1 + 1) (if_pos (Or.inl (fun z => absurd ((bR_at (p := (a1 + 1)) k84015 (fun _ => rfl) ew2 (((jw_ne e84015 (Or.inl (by decide))).trans ev84013)) (by omega) (by omega)).symm.trans z) (by omega)))) (by omega) (by omega)) ((jw_eq e84015)))⟩
    · refine ev_iload_n rfl ?_
      refine ev_bipush ?_
      refine ev_icmpne f270_29 (fun c84016 => ?_) (fun c84016 => ?_)
      · refine ev_aload_n rfl ?_
        refine ev_iload rfl ?_
        refine ev_iconst ?_
        refine ev_iconst ?_
        refine ev_in (d := (d + 1)) (a := 0) (b := 0) (cd' := c267_0) (m := 6) (L0 := [(2, 42), (0, 1), (0, 1), (0, 0), (9, 0), (9, 0)]) (jcall_v (A := [(0, 0), (0, 1), (0, 1)]) (S' := []) (r := 42) rfl (g.lt ad42) (g.tg ad42) (Nat.le_of_ble_eq_true rfl)) (by decide) ml267 pp267 (Nat.le_of_ble_eq_true rfl) rfl (by decide) (by decide) ?_
        refine ev_iload_n rfl ?_
        refine ev_ifne f267_6 (fun c84017 => ?_) (fun c84017 => absurd c84017 (by omega))
        refine ev_aload_n rfl ?_
        refine ev_dup (by decide) ?_
        refine g_getv (r := 42) (v := w1) g ad42 (by decide) ft12_21 (ew1) ?_
        refine ev_iconst ?_
        refine ev_iadd (r := (w1 + 1)) (by unfold w32; omega) ?_
        refine g_putf (r := 42) g ad42 (by decide) ft12_21 (by decide) (fun e => absurd e nz12_21) rf42_21 (by decide) (by omega) (by omega) (fun h84018 e84018 g84018 => ?_)
        have k84018 := k0.wr e84018 rfl
        refine ev_aload_n rfl ?_
        refine g_getv (r := 42) (v := (w1 + 1)) g84018 ad42 (by decide) ft12_21 ((jw_eq e84018)) ?_
        refine ev_bipush ?_
        refine ev_icmple f267_27 (fun c84019 => ?_) (fun c84019 => absurd c84019 (by omega))
        refine ev_bipush ?_
        refine ev_aload_n rfl ?_
        refine g_getv (r := 42) (v := w0) g84018 ad42 (by decide) ft12_9 (((jw_ne e84018 (Or.inr (by decide))).trans ew0)) ?_
        refine ev_imul (r := (100 * w0)) (by unfold w32; omega) ?_
        refine ev_aload_n rfl ?_
        refine g_getv (r := 42) (v := (w1 + 1)) g84018 ad42 (by decide) ft12_21 ((jw_eq e84018)) ?_
        refine ev_iadd (r := (100 * w0 + w1 + 1)) (by unfold w32; omega) ?_
        refine ev_iconst ?_
        refine ev_isub (r := (100 * w0 + w1)) (by unfold w32; omega) ?_
        refine ev_istore (L' := [(2, 42), (0, 1), (0, 1), (0, 0), (0, (100 * w0 + w1)), (9, 0)]) (Nat.le_of_ble_eq_true rfl) rfl ?_
        refine ev_aload_n rfl ?_
        refine g_getp (r := 42) (c := 49) g84018 ad42 (by decide) (by decide) rf42_11 ft12_11 ?_
        refine ev_iload rfl ?_
        refine ev_iload_n rfl ?_
        refine ev_i2b (r := 1) (by unfold w8; omega) ?_
        refine ev_bastG (r := 49) (j := ((100 * w0 + w1)).toNat) (w := 1) (g84018.lt ad49) (g84018.tg ad49) (by omega) (by rw [g84018.ln ad49]; omega) (by unfold w8; omega) (fun h84020 e84020 => ?_)
        have g84020 := g84018.s49 e84020 (by rw [(((jw_ne e84018 (Or.inr (by decide))).trans ew0))]; omega) (by omega) (by omega)
        have k84020 := k84018.wr e84020 rfl
        refine ev_aload_n rfl ?_
        refine g_getp (r := 42) (c := 50) g84020 ad42 (by decide) (by decide) rf42_12 ft12_12 ?_
        refine ev_iload rfl ?_
        refine ev_iload_n rfl ?_
        refine ev_iastG (r := 50) (j := ((100 * w0 + w1)).toNat) (g84020.lt ad50) (g84020.tg ad50) (by omega) (by rw [g84020.ln ad50]; omega) (fun h84021 e84021 => ?_)
        have g84021 := g84020.s50 e84021 (Or.inl (by rw [(((jw_ne e84020 (Or.inl (by decide))).trans ((jw_ne e84018 (Or.inr (by decide))).trans ew0)))]; omega)) (by omega) (by omega)
        have k84021 := k84020.wr e84021 rfl
        refine ev_aload_n rfl ?_
        refine g_getp (r := 42) (c := 53) g84021 ad42 (by decide) (by decide) rf42_15 ft12_15 ?_
        refine ev_iload rfl ?_
        refine ev_iconst ?_
        refine ev_bastG (r := 53) (j := ((100 * w0 + w1)).toNat) (w := 0) (g84021.lt ad53) (g84021.tg ad53) (by omega) (by rw [g84021.ln ad53]; omega) (by unfold w8; omega) (fun h84022 e84022 => ?_)
        have g84022 := g84021.s53 e84022 (Or.inl (by rw [(((jw_ne e84021 (Or.inl (by decide))).trans ((jw_ne e84020 (Or.inl (by decide))).trans ((jw_ne e84018 (Or.inr (by decide))).trans ew0))))]; omega)) (by omega) (by omega)
        have k84022 := k84021.wr e84022 rfl
        refine ev_iconst ?_
        refine ev_istore (L' := [(2, 42), (0, 1), (0, 1), (0, 0), (0, (100 * w0 + w1)), (0, 0)]) (Nat.le_of_ble_eq_true rfl) rfl ?_
        refine ev_iload rfl ?_
        refine ev_iconst ?_
        refine ev_icmpge f267_109 (fun c84023 => absurd c84023 (by omega)) (fun c84023 => ?_)
        refine ev_aload_n rfl ?_
        refine g_getp (r := 42) (c := 51) g84022 ad42 (by decide) (by decide) rf42_13 ft12_13 ?_
        refine ev_iconst ?_
        refine ev_iload rfl ?_
        refine ev_imul (r := (400 * w0 + 4 * w1)) (by unfold w32; omega) ?_
        refine ev_iload rfl ?_
        refine ev_iadd (r := (400 * w0 + 4 * w1)) (by unfold w32; omega) ?_
        refine ev_iconst ?_
        refine ev_bastG (r := 51) (j := ((400 * w0 + 4 * w1)).toNat) (w := (-1)) (g84022.lt ad51) (g84022.tg ad51) (by omega) (by rw [g84022.ln ad51]; omega) (by unfold w8; omega) (fun h84024 e84024 => ?_)
        have g84024 := g84022.s51 e84024 (by rw [(((jw_ne e84022 (Or.inl (by decide))).trans ((jw_ne e84021 (Or.inl (by decide))).trans ((jw_ne e84020 (Or.inl (by decide))).trans ((jw_ne e84018 (Or.inr (by decide))).trans ew0)))))]; omega) (by omega) (by omega)
        have k84024 := k84022.wr e84024 rfl
        refine ev_aload_n rfl ?_
        refine g_getp (r := 42) (c := 52) g84024 ad42 (by decide) (by decide) rf42_14 ft12_14 ?_
        refine ev_iconst ?_
        refine ev_iload rfl ?_
        refine ev_imul (r := (400 * w0 + 4 * w1)) (by unfold w32; omega) ?_
        refine ev_iload rfl ?_
        refine ev_iadd (r := (400 * w0 + 4 * w1)) (by unfold w32; omega) ?_
        refine ev_iconst ?_
        refine g_iast g84024 ad52 rt52 (fun _ => rfl) (by omega) (by omega) (by omega) (by omega) (fun h84025 e84025 g84025 => ?_)
        have k84025 := k84024.wr e84025 rfl
        refine ev_iinc (w := 1) (L' := [(2, 42), (0, 1), (0, 1), (0, 0), (0, (100 * w0 + w1)), (0, 1)]) rfl (by decide) rfl ?_
        refine ev_goto f267_71 ?_
        refine ev_iload rfl ?_
        refine ev_iconst ?_
        refine ev_icmpge f267_109 (fun c84026 => absurd c84026 (by omega)) (fun c84026 => ?_)
        refine ev_aload_n rfl ?_
        refine g_getp (r := 42) (c := 51) g84025 ad42 (by decide) (by decide) rf42_13 ft12_13 ?_
        refine ev_iconst ?_
        refine ev_iload rfl ?_
        refine ev_imul (r := (400 * w0 + 4 * w1)) (by unfold w32; omega) ?_
        refine ev_iload rfl ?_
        refine ev_iadd (r := (400 * w0 + 4 * w1 + 1)) (by unfold w32; omega) ?_
        refine ev_iconst ?_
        refine ev_bastG (r := 51) (j := ((400 * w0 + 4 * w1 + 1)).toNat) (w := (-1)) (g84025.lt ad51) (g84025.tg ad51) (by omega) (by rw [g84025.ln ad51]; omega) (by unfold w8; omega) (fun h84027 e84027 => ?_)
        have g84027 := g84025.s51 e84027 (by rw [(((jw_ne e84025 (Or.inl (by decide))).trans ((jw_ne e84024 (Or.inl (by decide))).trans ((jw_ne e84022 (Or.inl (by decide))).trans ((jw_ne e84021 (Or.inl (by decide))).trans ((jw_ne e84020 (Or.inl (by decide))).trans ((jw_ne e84018 (Or.inr (by decide))).trans ew0)))))))]; omega) (by omega) (by omega)
        have k84027 := k84025.wr e84027 rfl
        refine ev_aload_n rfl ?_
        refine g_getp (r := 42) (c := 52) g84027 ad42 (by decide) (by decide) rf42_14 ft12_14 ?_
        refine ev_iconst ?_
        refine ev_iload rfl ?_
        refine ev_imul (r := (400 * w0 + 4 * w1)) (by unfold w32; omega) ?_
        refine ev_iload rfl ?_
        refine ev_iadd (r := (400 * w0 + 4 * w1 + 1)) (by unfold w32; omega) ?_
        refine ev_iconst ?_
        refine g_iast g84027 ad52 rt52 (fun _ => rfl) (by omega) (by omega) (by omega) (by omega) (fun h84028 e84028 g84028 => ?_)
        have k84028 := k84027.wr e84028 rfl
        refine ev_iinc (w := 2) (L' := [(2, 42), (0, 1), (0, 1), (0, 0), (0, (100 * w0 + w1)), (0, 2)]) rfl (by decide) rfl ?_
        refine ev_goto f267_71 ?_
        refine ev_iload rfl ?_
        refine ev_iconst ?_
        refine ev_icmpge f267_109 (fun c84029 => absurd c84029 (by omega)) (fun c84029 => ?_)
        refine ev_aload_n rfl ?_
        refine g_getp (r := 42) (c := 51) g84028 ad42 (by decide) (by decide) rf42_13 ft12_13 ?_
        refine ev_iconst ?_
        refine ev_iload rfl ?_
        refine ev_imul (r := (400 * w0 + 4 * w1)) (by unfold w32; omega) ?_
        refine ev_iload rfl ?_
        refine ev_iadd (r := (400 * w0 + 4 * w1 + 2)) (by unfold w32; omega) ?_
        refine ev_iconst ?_
        refine ev_bastG (r := 51) (j := ((400 * w0 + 4 * w1 + 2)).toNat) (w := (-1)) (g84028.lt ad51) (g84028.tg ad51) (by omega) (by rw [g84028.ln ad51]; omega) (by unfold w8; omega) (fun h84030 e84030 => ?_)
        have g84030 := g84028.s51 e84030 (by rw [(((jw_ne e84028 (Or.inl (by decide))).trans ((jw_ne e84027 (Or.inl (by decide))).trans ((jw_ne e84025 (Or.inl (by decide))).trans ((jw_ne e84024 (Or.inl (by decide))).trans ((jw_ne e84022 (Or.inl (by decide))).trans ((jw_ne e84021 (Or.inl (by decide))).trans ((jw_ne e84020 (Or.inl (by decide))).trans ((jw_ne e84018 (Or.inr (by decide))).trans ew0)))))))))]; omega) (by omega) (by omega)
        have k84030 := k84028.wr e84030 rfl
        refine ev_aload_n rfl ?_
        refine g_getp (r := 42) (c := 52) g84030 ad42 (by decide) (by decide) rf42_14 ft12_14 ?_
        refine ev_iconst ?_
        refine ev_iload rfl ?_
        refine ev_imul (r := (400 * w0 + 4 * w1)) (by unfold w32; omega) ?_
        refine ev_iload rfl ?_
        refine ev_iadd (r := (400 * w0 + 4 * w1 + 2)) (by unfold w32; omega) ?_
        refine ev_iconst ?_
        refine g_iast g84030 ad52 rt52 (fun _ => rfl) (by omega) (by omega) (by omega) (by omega) (fun h84031 e84031 g84031 => ?_)
        have k84031 := k84030.wr e84031 rfl
        refine ev_iinc (w := 3) (L' := [(2, 42), (0, 1), (0, 1), (0, 0), (0, (100 * w0 + w1)), (0, 3)]) rfl (by decide) rfl ?_
        refine ev_goto f267_71 ?_
        refine ev_iload rfl ?_
        refine ev_iconst ?_
        refine ev_icmpge f267_109 (fun c84032 => absurd c84032 (by omega)) (fun c84032 => ?_)
        refine ev_aload_n rfl ?_
        refine g_getp (r := 42) (c := 51) g84031 ad42 (by decide) (by decide) rf42_13 ft12_13 ?_
        refine ev_iconst ?_
        refine ev_iload rfl ?_
        refine ev_imul (r := (400 * w0 + 4 * w1)) (by unfold w32; omega) ?_
        refine ev_iload rfl ?_
        refine ev_iadd (r := (400 * w0 + 4 * w1 + 3)) (by unfold w32; omega) ?_
        refine ev_iconst ?_
        refine ev_bastG (r := 51) (j := ((400 * w0 + 4 * w1 + 3)).toNat) (w := (-1)) (g84031.lt ad51) (g84031.tg ad51) (by omega) (by rw [g84031.ln ad51]; omega) (by unfold w8; omega) (fun h84033 e84033 => ?_)
        have g84033 := g84031.s51 e84033 (by rw [(((jw_ne e84031 (Or.inl (by decide))).trans ((jw_ne e84030 (Or.inl (by decide))).trans ((jw_ne e84028 (Or.inl (by decide))).trans ((jw_ne e84027 (Or.inl (by decide))).trans ((jw_ne e84025 (Or.inl (by decide))).trans ((jw_ne e84024 (Or.inl (by decide))).trans ((jw_ne e84022 (Or.inl (by decide))).trans ((jw_ne e84021 (Or.inl (by decide))).trans ((jw_ne e84020 (Or.inl (by decide))).trans ((jw_ne e84018 (Or.inr (by decide))).trans ew0)))))))))))]; omega) (by omega) (by omega)
        have k84033 := k84031.wr e84033 rfl
        refine ev_aload_n rfl ?_
        refine g_getp (r := 42) (c := 52) g84033 ad42 (by decide) (by decide) rf42_14 ft12_14 ?_
        refine ev_iconst ?_
        refine ev_iload rfl ?_
        refine ev_imul (r := (400 * w0 + 4 * w1)) (by unfold w32; omega) ?_
        refine ev_iload rfl ?_
        refine ev_iadd (r := (400 * w0 + 4 * w1 + 3)) (by unfold w32; omega) ?_
        refine ev_iconst ?_
        refine g_iast g84033 ad52 rt52 (fun _ => rfl) (by omega) (by omega) (by omega) (by omega) (fun h84034 e84034 g84034 => ?_)
        have k84034 := k84033.wr e84034 rfl
        refine ev_iinc (w := 4) (L' := [(2, 42), (0, 1), (0, 1), (0, 0), (0, (100 * w0 + w1)), (0, 4)]) rfl (by decide) rfl ?_
        refine ev_goto f267_71 ?_
        refine ev_iload rfl ?_
        refine ev_iconst ?_
        refine ev_icmpge f267_109 (fun c84035 => ?_) (fun c84035 => absurd c84035 (by omega))
        refine ev_iload rfl ?_
        refine ev_ret rfl (by decide) (by decide) ?_
        show jEv _ _ _ _ _ _ _ (_, [(2, 42), (0, a1), (0, a2), (0, a3), (0, 1), (0, (a1 + 1)), (9, 0), (9, 0), (9, 0), (9, 0)], [(0, (100 * w0 + w1))], _, _, _)
        refine ev_istore (L' := [(2, 42), (0, a1), (0, a2), (0, a3), (0, 1), (0, (a1 + 1)), (0, (100 * w0 + w1)), (9, 0), (9, 0), (9, 0)]) (Nat.le_of_ble_eq_true rfl) rfl ?_
        refine ev_iconst ?_
        refine ev_istore (L' := [(2, 42), (0, a1), (0, a2), (0, a3), (0, 1), (0, (a1 + 1)), (0, (100 * w0 + w1)), (0, 0), (9, 0), (9, 0)]) (Nat.le_of_ble_eq_true rfl) rfl ?_
        refine ev_iinc (w := (a1 + 2)) (L' := [(2, 42), (0, a1), (0, a2), (0, a3), (0, 1), (0, (a1 + 2)), (0, (100 * w0 + w1)), (0, 0), (9, 0), (9, 0)]) rfl (by unfold w32; omega) rfl ?_
        exact (t270i_s_l ll0 ul0 lb0 ub0 la1 ua1 la2 ua2 la3 ua3 ew0 lw0 uw0 ew1 lw1 uw1 ew2 lw2 uw2 F0 hI hL hb hS hK hq hN hq3 hM hd rih 8) _ _ _ _ _ _ g84034 k84034 (by omega) (by omega) (by omega) (by omega) (by omega) (by omega) (by omega) (by omega) (by omega) (by omega) (by omega) (((jw_ne e84034 (Or.inl (by decide))).trans ((jw_ne e84033 (Or.inl (by decide))).trans ((jw_ne e84031 (Or.inl (by decide))).trans ((jw_ne e84030 (Or.inl (by decide))).trans ((jw_ne e84028 (Or.inl (by decide))).trans ((jw_ne e84027 (Or.inl (by decide))).trans ((jw_ne e84025 (Or.inl (by decide))).trans ((jw_ne e84024 (Or.inl (by decide))).trans ((jw_ne e84022 (Or.inl (by decide))).trans ((jw_ne e84021 (Or.inl (by decide))).trans ((jw_ne e84020 (Or.inl (by decide))).trans (jw_eq e84018))))))))))))) (by omega) (by omega) (Ad.step (r' := (a1 + 2)) (Ad.step (r' := (a1 + 1)) (Ad.rf _ _ _) (by omega) k84034 (fun _ => rfl) (((jw_ne e84034 (Or.inl (by decide))).trans ((jw_ne e84033 (Or.inl (by decide))).trans ((jw_ne e84031 (Or.inl (by decide))).trans ((jw_ne e84030 (Or.inl (by decide))).trans ((jw_ne e84028 (Or.inl (by decide))).trans ((jw_ne e84027 (Or.inl (by decide))).trans ((jw_ne e84025 (Or.inl (by decide))).trans ((jw_ne e84024 (Or.inl (by decide))).trans ((jw_ne e84022 (Or.inl (by decide))).trans ((jw_ne e84021 (Or.inl (by decide))).trans ((jw_ne e84020 (Or.inl (by decide))).trans ((jw_ne e84018 (Or.inl (by decide))).trans hq3))))))))))))) (by omega) (by omega) (by omega)) (by omega) k84034 (fun _ => rfl) (((jw_ne e84034 (Or.inl (by decide))).trans ((jw_ne e84033 (Or.inl (by decide))).trans ((jw_ne e84031 (Or.inl (by decide))).trans ((jw_ne e84030 (Or.inl (by decide))).trans ((jw_ne e84028 (Or.inl (by decide))).trans ((jw_ne e84027 (Or.inl (by decide))).trans ((jw_ne e84025 (Or.inl (by decide))).trans ((jw_ne e84024 (Or.inl (by decide))).trans ((jw_ne e84022 (Or.inl (by decide))).trans ((jw_ne e84021 (Or.inl (by decide))).trans ((jw_ne e84020 (Or.inl (by decide))).trans ((jw_ne e84018 (Or.inl (by decide))).trans ev84013))))))))))))) (by omega) (by omega) (by omega)) (Mb.start _ _ (by omega)) (Fr.kp (Fr.w (i := (400 * w0 + 4 * w1 + 3)) (Fr.kp (Fr.w (i := (400 * w0 + 4 * w1 + 2)) (Fr.kp (Fr.w (i := (400 * w0 + 4 * w1 + 1)) (Fr.kp (Fr.w (i := (400 * w0 + 4 * w1)) (Fr.w (i := (100 * w0 + w1)) (Fr.w (i := (100 * w0 + w1)) (Fr.w (i := (100 * w0 + w1)) (Fr.kp (Fr.rf _ _) ((Kp.rf [(42, 0)] _).wr e84018 rfl) (fun _ => rfl) (fun _ => rfl) (fun _ => rfl) (fun _ => rfl)) e84020 (by omega) (by omega)) e84021 (by omega) (by omega)) e84022 (by omega) (by omega)) e84024 (by omega) (by omega)) ((Kp.rf [(52, 0)] _).wr e84025 rfl) (fun _ => rfl) (fun _ => rfl) (fun _ => rfl) (fun _ => rfl)) e84027 (by omega) (by omega)) ((Kp.rf [(52, 0)] _).wr e84028 rfl) (fun _ => rfl) (fun _ => rfl) (fun _ => rfl) (fun _ => rfl)) e84030 (by omega) (by omega)) ((Kp.rf [(52, 0)] _).wr e84031 rfl) (fun _ => rfl) (fun _ => rfl) (fun _ => rfl) (fun _ => rfl)) e84033 (by omega) (by omega)) ((Kp.rf [(52, 0)] _).wr e84034 rfl) (fun _ => rfl) (fun _ => rfl) (fun _ => rfl) (fun _ => rfl)) (PC.start (i := (100 * w0 + w1)) (by omega) (by omega) (by omega) (((jw_ne e84034 (Or.inl (by decide))).trans ((jw_ne e84033 (Or.inl (by decide))).trans ((jw_ne e84031 (Or.inl (by decide))).trans ((jw_ne e84030 (Or.inl (by decide))).trans ((jw_ne e84028 (Or.inl (by decide))).trans ((jw_ne e84027 (Or.inl (by decide))).trans ((jw_ne e84025 (Or.inl (by decide))).trans ((jw_ne e84024 (Or.inl (by decide))).trans ((jw_ne e84022 (Or.inl (by decide))).trans ((jw_ne e84021 (Or.inl (by decide))).trans (jw_eq e84020)))))))))))) (fun z => absurd z (by decide)) (((jw_ne e84034 (Or.inl (by decide))).trans ((jw_ne e84033 (Or.inl (by decide))).trans ((jw_ne e84031 (Or.inl (by decide))).trans ((jw_ne e84030 (Or.inl (by decide))).trans ((jw_ne e84028 (Or.inl (by decide))).trans ((jw_ne e84027 (Or.inl (by decide))).trans ((jw_ne e84025 (Or.inl (by decide))).trans ((jw_ne e84024 (Or.inl (by decide))).trans (jw_eq e84022)))))))))) (by omega)) (cr_start (show (if bR h (a1 + 1) ≠ 40 ∨ 12 ≤ a3 then rF (a1 + 1) else chL (bR h) (RQ h K (q - 1) a2 (a3 + 1)) 4 (a1 + 2) 0 0 1) = chL (bR h) (RQ h K (q - 1) a2 (a3 + 1)) 4 (a1 + 2) 0 0 1 from if_neg (fun z => by rw [(bR_at (p := (a1 + 1)) k84034 (fun _ => rfl) ew2 (((jw_ne e84034 (Or.inl (by decide))).trans ((jw_ne e84033 (Or.inl (by decide))).trans ((jw_ne e84031 (Or.inl (by decide))).trans ((jw_ne e84030 (Or.inl (by decide))).trans ((jw_ne e84028 (Or.inl (by decide))).trans ((jw_ne e84027 (Or.inl (by decide))).trans ((jw_ne e84025 (Or.inl (by decide))).trans ((jw_ne e84024 (Or.inl (by decide))).trans ((jw_ne e84022 (Or.inl (by decide))).trans ((jw_ne e84021 (Or.inl (by decide))).trans ((jw_ne e84020 (Or.inl (by decide))).trans ((jw_ne e84018 (Or.inl (by decide))).trans ev84013))))))))))))) (by omega) (by omega))] at z; omega)) (by omega) (by omega)) (by omega)
      · refine ev_aload_n rfl ?_
        refine ev_iload rfl ?_
        refine ev_in (d := (d + 1)) (a := 0) (b := 0) (cd' := c266_0) (m := 2) (L0 := [(2, 42), (0, (a1 + 1))]) (jcall_v (A := [(0, (a1 + 1))]) (S' := []) (r := 42) rfl (g.lt ad42) (g.tg ad42) (Nat.le_of_ble_eq_true rfl)) (by decide) ml266 pp266 (Nat.le_of_ble_eq_true rfl) rfl (by decide) (by decide) ?_
        refine ev_aload_n rfl ?_
        refine ev_iload_n rfl ?_
        refine g_putf (r := 42) g ad42 (by decide) ft12_20 (by decide) (fun e => absurd e nz12_20) rf42_20 (by decide) (by omega) (by omega) (fun h84036 e84036 g84036 => ?_)
        have k84036 := k0.wr e84036 rfl
        refine ev_iconst ?_
        refine ev_ret rfl (by decide) (by decide) ?_
        show jEv _ _ _ _ _ _ _ (_, [(2, 42), (0, a1), (0, a2), (0, a3), (0, 1), (0, (a1 + 1)), (9, 0), (9, 0), (9, 0), (9, 0)], [(0, (-1))], _, _, _)
        exact ev_ret rfl (by decide) (by decide) ⟨⟨_, rfl, by omega, by omega, g84036, k84036⟩, fun r hr h0 => by cases hr; exfalso; omega, fun r hr => by cases hr; exact ⟨_, (((jw_ne e84036 (Or.inr (by decide))).trans ew1)), by omega, by omega, (Fr.kp (Fr.rf _ _) ((Kp.rf [(42, 0)] _).wr e84036 rfl) (fun _ => rfl) (fun _ => rfl) (fun _ => rfl) (fun _ => rfl)), fun h0 => by exfalso; omega, fun h0 => by exfalso; omega⟩, fun r hr => by cases hr; exact (Bd.M (bd_rF (p := a1 + 1) (if_pos (Or.inr (by omega))) (by omega) (by omega)) ((jw_eq e84036)))⟩
set_option maxHeartbeats 4000000 in
theorem t271i_s_l {G : GH} {h : JH} {l0 : Int} (ll0 : 0 ≤ l0) (ul0 : l0 ≤ 6) {b0 : Int} (lb0 : 1 ≤ b0) (ub0 : b0 ≤ 30000000) {a1 : Int} (la1 : 0 ≤ a1) (ua1 : a1 ≤ 202) {a2 : Int} (la2 : 0 ≤ a2) (ua2 : a2 ≤ 15) {a3 : Int} (la3 : 0 ≤ a3) (ua3 : a3 ≤ 12) {w0 : Int} (ew0 : h.2.2 42 9 = w0) (lw0 : 0 ≤ w0) (uw0 : w0 ≤ 5) {w1 : Int} (ew1 : h.2.2 42 21 = w1) (lw1 : 0 ≤ w1) (uw1 : w1 ≤ 99) {w2 : Int} (ew2 : h.2.2 42 17 = w2) (lw2 : 0 ≤ w2) (uw2 : w2 ≤ 200) (F0 : (b0 + w1) ≤ 200000000) {S : List Nat} {K : Int → Int × Int × Int} {q : Nat} (hI : Iv h) (hL : Lv h l0 a1) (hb : NB a3 = b0) (hS : Sk a2 S) (hK : KoR h K) (hq : 13 - a3 = q) (hN : h.2.2 42 1 ≤ 4) (hq3 : h.2.2 54 (a1).toNat = 33) {M : Int} (hM : M = (7 * a3 - l0)) {d : Nat} (hd : 371 ≤ d) (rih : ∀ {G : GH} {h : JH} (g : Gd G h) {l0 : Int} (ll0 : 0 ≤ l0) (ul0 : l0 ≤ 6) {b0 : Int} (lb0 : 1 ≤ b0) (ub0 : b0 ≤ 30000000) {a1 : Int} (la1 : 0 ≤ a1) (ua1 : a1 ≤ 202) {a2 : Int} (la2 : 0 ≤ a2) (ua2 : a2 ≤ 15) {a3 : Int} (la3 : 0 ≤ a3) (ua3 : a3 ≤ 12) {w0 : Int} (ew0 : h.2.2 42 9 = w0) (lw0 : 0 ≤ w0) (uw0 : w0 ≤ 5) {w1 : Int} (ew1 : h.2.2 42 21 = w1) (lw1 : 0 ≤ w1) (uw1 : w1 ≤ 99) {w2 : Int} (ew2 : h.2.2 42 17 = w2) (lw2 : 0 ≤ w2) (uw2 : w2 ≤ 200) (F0 : (b0 + w1) ≤ 200000000) {S : List Nat} {K : Int → Int × Int × Int} {q : Nat} (hI : Iv h) (hL : Lv h l0 a1) (hb : NB a3 = b0) (hS : Sk a2 S) (hK : KoR h K) (hq : 13 - a3 = q) (hN : h.2.2 42 1 ≤ 4) (hm : M + 1 ≤ (7 * a3 - l0)), jOk d 0 0 272 [(2, 42), (0, a1), (0, a2), (0, a3), (0, 1)] h (fun v h' => PI G [(42, 21), (42, 22), (49, 0), (50, 0), (51, 0), (52, 0), (53, 0)] h 0 (-1) 200 v h' ∧ (∀ r, v = some (0, r) → 0 ≤ r → Ad h l0 a1 r) ∧ (∀ r, v = some (0, r) → RI h h' w0 w1 a3 b0 S r) ∧ (∀ r, v = some (0, r) → RdM (bR h) h' w1 (RQ h K q a2 a3 a1) r))) : ∀ N : Nat, (∀ (h1 : JH) (x5 x6 x8 y0 y1 y2 : Int), Gd G h1 → Kp [(42, 21), (42, 22), (49, 0), (50, 0), (51, 0), (52, 0), (53, 0)] h h1 → 0 ≤ a1 → a1 ≤ 197 → 0 ≤ a2 → a2 ≤ 15 → 0 ≤ a3 → a3 ≤ 11 → 0 ≤ x5 → x5 ≤ 3 → 1 ≤ x6 → x6 ≤ 200 → 0 ≤ x8 → x8 ≤ 3 → (w1 + (-y0)) ≤ (-1) → (x5 + (-y1)) ≤ (-1) → (x8 + (-y2)) ≤ 0 → h1.2.2 42 21 = y0 → 1 ≤ y0 → y0 ≤ 200000000 → h1.2.2 42 1 = y1 → 0 ≤ y1 → y1 ≤ 4 → h1.2.2 43 (x5).toNat = y2 → 2 ≤ y2 → y2 ≤ 3 → Ad h l0 a1 x6 → Mb w1 b0 x8 y0 → Fr h h1 (100 * w0 + w1) → PC h1 (w0).toNat (w1).toNat (13 - (a3 + 1)).toNat ((x5).toNat :: S) 2 x5 x8 y0 → (x5).toNat ∉ S → Tq (bR h) (RQ h K (q - 1) (jor a2 (jshl 1 x5)) (a3 + 1)) (tuL (bR h) (RQ h K (q - 1) (jor a2 (jshl 1 x5)) (a3 + 1)) (y2).toNat (a1 + 3) 0 0 1) x8 y2 x6 w1 y0 → (tuN (bR h) (h.2.2 42 1) (yR h) (fun t => RQ h K (q - 1) t (a3 + 1)) a2 a3 a1) = tuE (tuL (bR h) (RQ h K (q - 1) (jor a2 (jshl 1 x5)) (a3 + 1)) (y2).toNat (a1 + 3) 0 0 1) x5 → ((-x8) + 3) < N → jEv (jOk (d + 2)) none (fun _ => 0) c271_0 0 0 (fun v h' => PI G [(42, 21), (42, 22), (49, 0), (50, 0), (51, 0), (52, 0), (53, 0)] h 0 (-1) 200 v h' ∧ (∀ r, v = some (0, r) → 0 ≤ r → Ad h l0 a1 r) ∧ (∀ r, v = some (0, r) → RI h h' w0 w1 a3 b0 S r) ∧ (∀ r, v = some (0, r) → RdM (bR h) h' w1 (tuN (bR h) (h.2.2 42 1) (yR h) (fun t => RQ h K (q - 1) t (a3 + 1)) a2 a3 a1) r)) (c271_85, [(2, 42), (0, a1), (0, a2), (0, a3), (0, 1), (0, x5), (0, x6), (0, (100 * w0 + w1)), (0, x8)], [], h1, 0, 0)) := by
  intro N
  induction N with
  | zero => exact fun h1 x5 x6 x8 y0 y1 y2 g1 k1 b0 b1 b2 b3 b4 b5 b6 b7 b8 b9 b10 b11 b12 b13 b14 b15 b16 b17 b18 b19 b20 b21 b22 b23 b24 b25 b26 b27 b28 b29 b30 hm => absurd hm (by omega)
  | succ N ih =>
    show _
    intro h1 x5 x6 x8 y0 y1 y2 g1 k1 b0 b1 b2 b3 b4 b5 b6 b7 b8 b9 b10 b11 b12 b13 b14 ey0 ly0 uy0 ey1 ly1 uy1 ey2 ly2 uy2 H0 H1 H2 H3 H4 H5 H6 hm
    obtain ⟨b84357, hb84356, eb84356, lb84356⟩ := NB.split hb (by omega)
    have rm84356 := Mb.room H1 (by omega) eb84356 lb84356
    refine ev_iload rfl ?_
    refine ev_aload_n rfl ?_
    refine g_getp (r := 42) (c := 43) g1 ad42 (by decide) (by decide) rf42_2 ft12_2 ?_
    refine ev_iload rfl ?_
    refine g_ialdv (v := y2) g1 ad43 (by omega) (by omega) (ey2) ?_
    refine ev_icmpge f271_178 (fun c84358 => ?_) (fun c84358 => ?_)
    · refine ev_iload rfl ?_
      exact ev_ret rfl (by decide) (by decide) ⟨⟨_, rfl, by omega, by omega, g1, k1⟩, fun r hr h0 => by cases hr; exact H0, fun r hr => by cases hr; exact ⟨_, (ey0), by omega, by omega, H2, fun h0 => by omega, fun h0 hm => PC.turn (t := x5) H3 (by omega) (ey1) (by omega) H4 (ey2) (by omega) (by omega) (by omega) hm⟩, fun r hr => by cases hr; exact Or.inl (by have y := tq_e H5 H6 (by omega) (by omega) (show x6 = x6 from rfl); exact ⟨y.1, y.2.1, (ey0).trans y.2.2⟩)⟩
    · rcases Int.lt_or_le (y0) 100 with c84359 | c84359
      · refine ev_aload_n rfl ?_
        refine ev_iload rfl ?_
        refine ev_iload rfl ?_
        refine ev_iconst ?_
        refine ev_in (d := (d + 1)) (a := 0) (b := 0) (cd' := c268_0) (m := 4) (L0 := [(2, 42), (0, (100 * w0 + w1)), (0, x8), (0, 0)]) (jcall_v (A := [(0, 0), (0, x8), (0, (100 * w0 + w1))]) (S' := []) (r := 42) rfl (g1.lt ad42) (g1.tg ad42) (Nat.le_of_ble_eq_true rfl)) (by decide) ml268 pp268 (Nat.le_of_ble_eq_true rfl) rfl (by decide) (by decide) ?_
        refine ev_iload_n rfl ?_
        refine ev_ifge f268_5 (fun c84360 => ?_) (fun c84360 => absurd c84360 (by omega))
        refine ev_aload_n rfl ?_
        refine g_getp (r := 42) (c := 51) g1 ad42 (by decide) (by decide) rf42_13 ft12_13 ?_
        refine ev_iconst ?_
        refine ev_iload_n rfl ?_
        refine ev_imul (r := (400 * w0 + 4 * w1)) (by unfold w32; omega) ?_
        refine ev_iload_n rfl ?_
        refine ev_iadd (r := (400 * w0 + 4 * w1 + x8)) (by unfold w32; omega) ?_
        refine ev_aload_n rfl ?_
        refine g_getv (r := 42) (v := y0) g1 ad42 (by decide) ft12_21 (ey0) ?_
        refine ev_i2b (r := y0) (by unfold w8; omega) ?_
        refine ev_bastG (r := 51) (j := ((400 * w0 + 4 * w1 + x8)).toNat) (w := y0) (g1.lt ad51) (g1.tg ad51) (by omega) (by rw [g1.ln ad51]; omega) (by unfold w8; omega) (fun h84361 e84361 => ?_)
        have g84361 := g1.s51 e84361 (by rw [(((k1.v (by decide)).trans ew0))]; omega) (by omega) (by omega)
        have k84361 := k1.wr e84361 rfl
        refine ev_aload_n rfl ?_
        refine g_getp (r := 42) (c := 52) g84361 ad42 (by decide) (by decide) rf42_14 ft12_14 ?_
        refine ev_iconst ?_
        refine ev_iload_n rfl ?_
        refine ev_imul (r := (400 * w0 + 4 * w1)) (by unfold w32; omega) ?_
        refine ev_iload_n rfl ?_
        refine ev_iadd (r := (400 * w0 + 4 * w1 + x8)) (by unfold w32; omega) ?_
        refine ev_iload_n rfl ?_
        refine g_iast g84361 ad52 rt52 (fun _ => rfl) (by omega) (by omega) (by omega) (by omega) (fun h84362 e84362 g84362 => ?_)
        have k84362 := k84361.wr e84362 rfl
        refine ev_ret rfl (by decide) (by decide) ?_
        show jEv _ _ _ _ _ _ _ (_, [(2, 42), (0, a1), (0, a2), (0, a3), (0, 1), (0, x5), (0, x6), (0, (100 * w0 + w1)), (0, x8)], [], _, _, _)
        refine ev_aload_n rfl ?_
        refine ev_iload rfl ?_
        refine ev_iload_n rfl ?_
        refine ev_iconst ?_
        refine ev_iload rfl ?_
        refine g_ishlB (a' := 1) (a := 1) (b := 3) (hi := 8) (by omega) (by omega) (by omega) (by omega) (by decide) (by decide) (fun v84363 ev84363 lv84363 uv84363 => ?_)
        refine g_iorB (k := 4) (hi := 15) (by decide) (by decide) (by omega) (by omega) (by omega) (by omega) (fun v84364 ev84364 lv84364 uv84364 => ?_)
        refine ev_iload_n rfl ?_
        refine ev_iconst ?_
        refine ev_iadd (r := (a3 + 1)) (by unfold w32; omega) ?_
        refine ev_iload rfl ?_
        refine ev_call (jcall_v (A := [(0, 1), (0, (a3 + 1)), (0, v84364), (0, x6)]) (S' := []) (r := 42) rfl (g84362.lt ad42) (g84362.tg ad42) (Nat.le_of_ble_eq_true rfl)) (jOk_le (by omega) (rih g84362 (by omega) (by omega) (by omega) (by omega) (by omega) (by omega) (by omega) (by omega) (by omega) (by omega) (((jw_ne e84362 (Or.inl (by decide))).trans ((jw_ne e84361 (Or.inl (by decide))).trans ((k1.v (by decide)).trans ew0)))) (by omega) (by omega) (((jw_ne e84362 (Or.inl (by decide))).trans ((jw_ne e84361 (Or.inl (by decide))).trans ey0))) (by omega) (by omega) (((jw_ne e84362 (Or.inl (by decide))).trans ((jw_ne e84361 (Or.inl (by decide))).trans ((k1.v (by decide)).trans ew2)))) (by omega) (by omega) (l0 := l0) (b0 := b84357) (by omega) (Iv.kp hI k84362 (fun _ => rfl) (fun _ => rfl) rfl) (Lv.at hL H0 k84362 (fun _ => rfl) rfl) hb84356 (Sk.cons hS (by omega) (by omega) (by omega) (by omega) ev84363 ev84364) (K := K) (q := q - 1) (hK.kp k84362 (fun _ => rfl) rfl (fun _ => rfl) rfl rfl (fun _ => rfl)) (by omega) (by rw [k84362.v rfl]; exact hN) (by omega))) (by decide) (by decide) (fun w84365 h84365 q84365 => ?_)
        obtain ⟨q84365, ad84365, ro84365, nr84365⟩ := q84365
        obtain ⟨v84366, rfl, lv84366, uv84366, g84365, kk84365⟩ := q84365
        have ad84365 := ad84365 _ rfl
        have nr84365 := nr84365 _ rfl
        obtain ⟨m84367, em84367, lm84367, um84367, fr84365, pm84365, tr84365⟩ := ro84365 _ rfl
        have k84365 := k84362.tr kk84365 (by decide)
        rw [RQ_kp k84362 (fun _ => rfl) rfl (fun _ => rfl) rfl rfl, bR_kp k84362 (fun _ => rfl) rfl] at nr84365
        show jEv _ _ _ _ _ _ _ (_, [(2, 42), (0, a1), (0, a2), (0, a3), (0, 1), (0, x5), (0, x6), (0, (100 * w0 + w1)), (0, x8)], [(0, v84366)], _, _, _)
        refine ev_istore (L' := [(2, 42), (0, a1), (0, a2), (0, a3), (0, 1), (0, x5), (0, v84366), (0, (100 * w0 + w1)), (0, x8)]) (Nat.le_of_ble_eq_true rfl) rfl ?_
        refine ev_iload rfl ?_
        refine ev_ifge f271_132 (fun c84368 => ?_) (fun c84368 => ?_)
        · refine ev_aload_n rfl ?_
          refine ev_iload rfl ?_
          refine ev_in (d := (d + 1)) (a := 0) (b := 0) (cd' := c264_0) (m := 2) (L0 := [(2, 42), (0, v84366)]) (jcall_v (A := [(0, v84366)]) (S' := []) (r := 42) rfl (g84365.lt ad42) (g84365.tg ad42) (Nat.le_of_ble_eq_true rfl)) (by decide) ml264 pp264 (Nat.le_of_ble_eq_true rfl) rfl (by decide) (by decide) ?_
          refine ev_iload_n rfl ?_
          refine ev_aload_n rfl ?_
          refine g_getv (r := 42) (v := w2) g84365 ad42 (by decide) ft12_17 (((kk84365.v (by decide)).trans ((jw_ne e84362 (Or.inl (by decide))).trans ((jw_ne e84361 (Or.inl (by decide))).trans ((k1.v (by decide)).trans ew2))))) ?_
          refine ev_icmpge f264_17 (fun c84369 => ?_) (fun c84369 => ?_)
          · refine ev_iconst ?_
            refine ev_ret rfl (by decide) (by decide) ?_
            show jEv _ _ _ _ _ _ _ (_, [(2, 42), (0, a1), (0, a2), (0, a3), (0, 1), (0, x5), (0, v84366), (0, (100 * w0 + w1)), (0, x8)], [(0, (-1))], _, _, _)
            refine ev_iload rfl ?_
            refine ev_iconst ?_
            refine ev_iadd (r := (x8 + 1)) (by unfold w32; omega) ?_
            refine ev_aload_n rfl ?_
            refine g_getp (r := 42) (c := 43) g84365 ad42 (by decide) (by decide) rf42_2 ft12_2 ?_
            refine ev_iload rfl ?_
            refine g_ialdv (v := y2) g84365 ad43 (by omega) (by omega) (((kk84365.v rfl).trans ((jw_ne e84362 (Or.inl (by decide))).trans ((jw_ne e84361 (Or.inl (by decide))).trans ey2)))) ?_
            refine ev_icmpge f271_157 (fun c84370 => ?_) (fun c84370 => ?_)
            · refine ev_bipush ?_
              refine ev_icmpeq f271_169 (fun c84371 => absurd c84371 (by omega)) (fun c84371 => ?_)
              refine ev_aload_n rfl ?_
              refine ev_iload rfl ?_
              refine ev_in (d := (d + 1)) (a := 0) (b := 0) (cd' := c266_0) (m := 2) (L0 := [(2, 42), (0, v84366)]) (jcall_v (A := [(0, v84366)]) (S' := []) (r := 42) rfl (g84365.lt ad42) (g84365.tg ad42) (Nat.le_of_ble_eq_true rfl)) (by decide) ml266 pp266 (Nat.le_of_ble_eq_true rfl) rfl (by decide) (by decide) ?_
              refine ev_aload_n rfl ?_
              refine ev_iload_n rfl ?_
              refine g_putf (r := 42) g84365 ad42 (by decide) ft12_20 (by decide) (fun e => absurd e nz12_20) rf42_20 (by decide) (by omega) (by omega) (fun h84372 e84372 g84372 => ?_)
              have k84372 := k84365.wr e84372 rfl
              refine ev_iconst ?_
              refine ev_ret rfl (by decide) (by decide) ?_
              show jEv _ _ _ _ _ _ _ (_, [(2, 42), (0, a1), (0, a2), (0, a3), (0, 1), (0, x5), (0, v84366), (0, (100 * w0 + w1)), (0, x8)], [(0, (-1))], _, _, _)
              exact ev_ret rfl (by decide) (by decide) ⟨⟨_, rfl, by omega, by omega, g84372, k84372⟩, fun r hr h0 => by cases hr; exfalso; omega, fun r hr => by cases hr; exact ⟨_, (((jw_ne e84372 (Or.inr (by decide))).trans em84367)), by omega, by omega, (Fr.kp (Fr.tr (Fr.kp (Fr.w (i := (400 * w0 + 4 * w1 + x8)) H2 e84361 (by omega) (by omega)) ((Kp.rf [(52, 0)] _).wr e84362 rfl) (fun _ => rfl) (fun _ => rfl) (fun _ => rfl) (fun _ => rfl)) fr84365 (by omega)) ((Kp.rf [(42, 0)] _).wr e84372 rfl) (fun _ => rfl) (fun _ => rfl) (fun _ => rfl) (fun _ => rfl)), fun h0 => by exfalso; omega, fun h0 => by exfalso; omega⟩, fun r hr => by cases hr; exact (Bd.M (tq_x (v := v84366) H5 H6 (by omega) (by rw [(show (RQ h K (q - 1) (jor a2 (jshl 1 x5)) (a3 + 1)) _ = RQ h K (q - 1) v84364 (a3 + 1) x6 by rw [ev84363, ev84364])]; exact ⟨(nr84365.ok (by omega)).1, (nr84365.ok (by omega)).2.1⟩) (Or.inr ⟨by omega, fun z => absurd ((bR_end (p := v84366) ew2 (by omega)).symm.trans z) (by omega)⟩) (by omega)) ((jw_eq e84372)))⟩
            · refine ev_bipush ?_
              refine ev_goto f271_159 ?_
              refine ev_icmpeq f271_169 (fun c84373 => absurd c84373 (by omega)) (fun c84373 => ?_)
              refine ev_aload_n rfl ?_
              refine ev_iload rfl ?_
              refine ev_in (d := (d + 1)) (a := 0) (b := 0) (cd' := c266_0) (m := 2) (L0 := [(2, 42), (0, v84366)]) (jcall_v (A := [(0, v84366)]) (S' := []) (r := 42) rfl (g84365.lt ad42) (g84365.tg ad42) (Nat.le_of_ble_eq_true rfl)) (by decide) ml266 pp266 (Nat.le_of_ble_eq_true rfl) rfl (by decide) (by decide) ?_
              refine ev_aload_n rfl ?_
              refine ev_iload_n rfl ?_
              refine g_putf (r := 42) g84365 ad42 (by decide) ft12_20 (by decide) (fun e => absurd e nz12_20) rf42_20 (by decide) (by omega) (by omega) (fun h84374 e84374 g84374 => ?_)
              have k84374 := k84365.wr e84374 rfl
              refine ev_iconst ?_
              refine ev_ret rfl (by decide) (by decide) ?_
              show jEv _ _ _ _ _ _ _ (_, [(2, 42), (0, a1), (0, a2), (0, a3), (0, 1), (0, x5), (0, v84366), (0, (100 * w0 + w1)), (0, x8)], [(0, (-1))], _, _, _)
              exact ev_ret rfl (by decide) (by decide) ⟨⟨_, rfl, by omega, by omega, g84374, k84374⟩, fun r hr h0 => by cases hr; exfalso; omega, fun r hr => by cases hr; exact ⟨_, (((jw_ne e84374 (Or.inr (by decide))).trans em84367)), by omega, by omega, (Fr.kp (Fr.tr (Fr.kp (Fr.w (i := (400 * w0 + 4 * w1 + x8)) H2 e84361 (by omega) (by omega)) ((Kp.rf [(52, 0)] _).wr e84362 rfl) (fun _ => rfl) (fun _ => rfl) (fun _ => rfl) (fun _ => rfl)) fr84365 (by omega)) ((Kp.rf [(42, 0)] _).wr e84374 rfl) (fun _ => rfl) (fun _ => rfl) (fun _ => rfl) (fun _ => rfl)), fun h0 => by exfalso; omega, fun h0 => by exfalso; omega⟩, fun r hr => by cases hr; exact (Bd.M (tq_x (v := v84366) H5 H6 (by omega) (by rw [(show (RQ h K (q - 1) (jor a2 (jshl 1 x5)) (a3 + 1)) _ = RQ h K (q - 1) v84364 (a3 + 1) x6 by rw [ev84363, ev84364])]; exact ⟨(nr84365.ok (by omega)).1, (nr84365.ok (by omega)).2.1⟩) (Or.inl ⟨by omega, fun z => absurd ((bR_end (p := v84366) ew2 (by omega)).symm.trans z) (by omega)⟩) (by omega)) ((jw_eq e84374)))⟩
          · refine ev_aload_n rfl ?_
            refine g_getp (r := 42) (c := 54) g84365 ad42 (by decide) (by decide) rf42_16 ft12_16 ?_
            refine ev_iload_n rfl ?_
            refine g_bald g84365 ad54 rt54 (by omega) (by omega) (fun v84375 ev84375 lv84375 uv84375 => ?_)
            refine ev_goto f264_18 ?_
            refine ev_ret rfl (by decide) (by decide) ?_
            show jEv _ _ _ _ _ _ _ (_, [(2, 42), (0, a1), (0, a2), (0, a3), (0, 1), (0, x5), (0, v84366), (0, (100 * w0 + w1)), (0, x8)], [(0, v84375)], _, _, _)
            refine ev_iload rfl ?_
            refine ev_iconst ?_
            refine ev_iadd (r := (x8 + 1)) (by unfold w32; omega) ?_
            refine ev_aload_n rfl ?_
            refine g_getp (r := 42) (c := 43) g84365 ad42 (by decide) (by decide) rf42_2 ft12_2 ?_
            refine ev_iload rfl ?_
            refine g_ialdv (v := y2) g84365 ad43 (by omega) (by omega) (((kk84365.v rfl).trans ((jw_ne e84362 (Or.inl (by decide))).trans ((jw_ne e84361 (Or.inl (by decide))).trans ey2)))) ?_
            refine ev_icmpge f271_157 (fun c84376 => ?_) (fun c84376 => ?_)
            · refine ev_bipush ?_
              refine ev_icmpeq f271_169 (fun c84377 => ?_) (fun c84377 => ?_)
              · refine ev_iinc (w := (v84366 + 1)) (L' := [(2, 42), (0, a1), (0, a2), (0, a3), (0, 1), (0, x5), (0, (v84366 + 1)), (0, (100 * w0 + w1)), (0, x8)]) rfl (by unfold w32; omega) rfl ?_
                refine ev_iinc (w := (x8 + 1)) (L' := [(2, 42), (0, a1), (0, a2), (0, a3), (0, 1), (0, x5), (0, (v84366 + 1)), (0, (100 * w0 + w1)), (0, (x8 + 1))]) rfl (by unfold w32; omega) rfl ?_
                refine ev_goto f271_85 ?_
                exact ih _ _ _ _ _ _ _ g84365 k84365 (by omega) (by omega) (by omega) (by omega) (by omega) (by omega) (by omega) (by omega) (by omega) (by omega) (by omega) (by omega) (by omega) (by omega) (by omega) (em84367) (by omega) (by omega) (((kk84365.v (by decide)).trans ((jw_ne e84362 (Or.inl (by decide))).trans ((jw_ne e84361 (Or.inl (by decide))).trans ey1)))) (by omega) (by omega) (((kk84365.v rfl).trans ((jw_ne e84362 (Or.inl (by decide))).trans ((jw_ne e84361 (Or.inl (by decide))).trans ey2)))) (by omega) (by omega) (Ad.step (r' := (v84366 + 1)) (Ad.tr H0 k84362 (fun _ => rfl) (ad84365 (by omega))) (by omega) k84365 (fun _ => rfl) (ev84375) (by omega) (by omega) (by omega)) (Mb.step H1 eb84356 um84367 (by omega)) (Fr.tr (Fr.kp (Fr.w (i := (400 * w0 + 4 * w1 + x8)) H2 e84361 (by omega) (by omega)) ((Kp.rf [(52, 0)] _).wr e84362 rfl) (fun _ => rfl) (fun _ => rfl) (fun _ => rfl) (fun _ => rfl)) fr84365 (by omega)) (PC.step (i := (100 * w0 + w1)) (j := (400 * w0 + 4 * w1 + x8)) H3 (by omega) (by omega) (by omega) (by omega) (by omega) (by omega) (by omega) e84361 ((Kp.rf [(52, 0)] _).wr e84362 rfl) (fun _ => rfl) (fun _ => rfl) (fun _ => rfl) (fun _ => rfl) rfl (fun _ => rfl) kk84365 rfl (fun _ => rfl) fr84365 lm84367 (tr84365 (by omega)) (by omega)) H4 (tq_k (v := v84366) H5 (by omega) (by rw [(show (RQ h K (q - 1) (jor a2 (jshl 1 x5)) (a3 + 1)) _ = RQ h K (q - 1) v84364 (a3 + 1) x6 by rw [ev84363, ev84364])]; exact ⟨(nr84365.ok (by omega)).1, (nr84365.ok (by omega)).2.1⟩) (Or.inr ⟨by omega, (bR_at (p := v84366) k84365 (fun _ => rfl) ew2 (ev84375) (by omega) (by omega)).trans (by omega)⟩) (by omega) (by omega) (by rw [(show (RQ h K (q - 1) (jor a2 (jshl 1 x5)) (a3 + 1)) _ = RQ h K (q - 1) v84364 (a3 + 1) x6 by rw [ev84363, ev84364])]; have z := (nr84365.ok (by omega)).2.2; rw [em84367] at z; exact z)) H6 (by omega)
              · refine ev_aload_n rfl ?_
                refine ev_iload rfl ?_
                refine ev_in (d := (d + 1)) (a := 0) (b := 0) (cd' := c266_0) (m := 2) (L0 := [(2, 42), (0, v84366)]) (jcall_v (A := [(0, v84366)]) (S' := []) (r := 42) rfl (g84365.lt ad42) (g84365.tg ad42) (Nat.le_of_ble_eq_true rfl)) (by decide) ml266 pp266 (Nat.le_of_ble_eq_true rfl) rfl (by decide) (by decide) ?_
                refine ev_aload_n rfl ?_
                refine ev_iload_n rfl ?_
                refine g_putf (r := 42) g84365 ad42 (by decide) ft12_20 (by decide) (fun e => absurd e nz12_20) rf42_20 (by decide) (by omega) (by omega) (fun h84378 e84378 g84378 => ?_)
                have k84378 := k84365.wr e84378 rfl
                refine ev_iconst ?_
                refine ev_ret rfl (by decide) (by decide) ?_
                show jEv _ _ _ _ _ _ _ (_, [(2, 42), (0, a1), (0, a2), (0, a3), (0, 1), (0, x5), (0, v84366), (0, (100 * w0 + w1)), (0, x8)], [(0, (-1))], _, _, _)
                exact ev_ret rfl (by decide) (by decide) ⟨⟨_, rfl, by omega, by omega, g84378, k84378⟩, fun r hr h0 => by cases hr; exfalso; omega, fun r hr => by cases hr; exact ⟨_, (((jw_ne e84378 (Or.inr (by decide))).trans em84367)), by omega, by omega, (Fr.kp (Fr.tr (Fr.kp (Fr.w (i := (400 * w0 + 4 * w1 + x8)) H2 e84361 (by omega) (by omega)) ((Kp.rf [(52, 0)] _).wr e84362 rfl) (fun _ => rfl) (fun _ => rfl) (fun _ => rfl) (fun _ => rfl)) fr84365 (by omega)) ((Kp.rf [(42, 0)] _).wr e84378 rfl) (fun _ => rfl) (fun _ => rfl) (fun _ => rfl) (fun _ => rfl)), fun h0 => by exfalso; omega, fun h0 => by exfalso; omega⟩, fun r hr => by cases hr; exact (Bd.M (tq_x (v := v84366) H5 H6 (by omega) (by rw [(show (RQ h K (q - 1) (jor a2 (jshl 1 x5)) (a3 + 1)) _ = RQ h K (q - 1) v84364 (a3 + 1) x6 by rw [ev84363, ev84364])]; exact ⟨(nr84365.ok (by omega)).1, (nr84365.ok (by omega)).2.1⟩) (Or.inr ⟨by omega, fun z => absurd ((bR_at (p := v84366) k84378 (fun _ => rfl) ew2 (((jw_ne e84378 (Or.inl (by decide))).trans ev84375)) (by omega) (by omega)).symm.trans z) (by omega)⟩) (by omega)) ((jw_eq e84378)))⟩
            · refine ev_bipush ?_
              refine ev_goto f271_159 ?_
              refine ev_icmpeq f271_169 (fun c84379 => ?_) (fun c84379 => ?_)
              · refine ev_iinc (w := (v84366 + 1)) (L' := [(2, 42), (0, a1), (0, a2), (0, a3), (0, 1), (0, x5), (0, (v84366 + 1)), (0, (100 * w0 + w1)), (0, x8)]) rfl (by unfold w32; omega) rfl ?_
                refine ev_iinc (w := (x8 + 1)) (L' := [(2, 42), (0, a1), (0, a2), (0, a3), (0, 1), (0, x5), (0, (v84366 + 1)), (0, (100 * w0 + w1)), (0, (x8 + 1))]) rfl (by unfold w32; omega) rfl ?_
                refine ev_goto f271_85 ?_
                exact ih _ _ _ _ _ _ _ g84365 k84365 (by omega) (by omega) (by omega) (by omega) (by omega) (by omega) (by omega) (by omega) (by omega) (by omega) (by omega) (by omega) (by omega) (by omega) (by omega) (em84367) (by omega) (by omega) (((kk84365.v (by decide)).trans ((jw_ne e84362 (Or.inl (by decide))).trans ((jw_ne e84361 (Or.inl (by decide))).trans ey1)))) (by omega) (by omega) (((kk84365.v rfl).trans ((jw_ne e84362 (Or.inl (by decide))).trans ((jw_ne e84361 (Or.inl (by decide))).trans ey2)))) (by omega) (by omega) (Ad.step (r' := (v84366 + 1)) (Ad.tr H0 k84362 (fun _ => rfl) (ad84365 (by omega))) (by omega) k84365 (fun _ => rfl) (ev84375) (by omega) (by omega) (by omega)) (Mb.step H1 eb84356 um84367 (by omega)) (Fr.tr (Fr.kp (Fr.w (i := (400 * w0 + 4 * w1 + x8)) H2 e84361 (by omega) (by omega)) ((Kp.rf [(52, 0)] _).wr e84362 rfl) (fun _ => rfl) (fun _ => rfl) (fun _ => rfl) (fun _ => rfl)) fr84365 (by omega)) (PC.step (i := (100 * w0 + w1)) (j := (400 * w0 + 4 * w1 + x8)) H3 (by omega) (by omega) (by omega) (by omega) (by omega) (by omega) (by omega) e84361 ((Kp.rf [(52, 0)] _).wr e84362 rfl) (fun _ => rfl) (fun _ => rfl) (fun _ => rfl) (fun _ => rfl) rfl (fun _ => rfl) kk84365 rfl (fun _ => rfl) fr84365 lm84367 (tr84365 (by omega)) (by omega)) H4 (tq_k (v := v84366) H5 (by omega) (by rw [(show (RQ h K (q - 1) (jor a2 (jshl 1 x5)) (a3 + 1)) _ = RQ h K (q - 1) v84364 (a3 + 1) x6 by rw [ev84363, ev84364])]; exact ⟨(nr84365.ok (by omega)).1, (nr84365.ok (by omega)).2.1⟩) (Or.inl ⟨by omega, (bR_at (p := v84366) k84365 (fun _ => rfl) ew2 (ev84375) (by omega) (by omega)).trans (by omega)⟩) (by omega) (by omega) (by rw [(show (RQ h K (q - 1) (jor a2 (jshl 1 x5)) (a3 + 1)) _ = RQ h K (q - 1) v84364 (a3 + 1) x6 by rw [ev84363, ev84364])]; have z := (nr84365.ok (by omega)).2.2; rw [em84367] at z; exact z)) H6 (by omega)
              · refine ev_aload_n rfl ?_
                refine ev_iload rfl ?_
                refine ev_in (d := (d + 1)) (a := 0) (b := 0) (cd' := c266_0) (m := 2) (L0 := [(2, 42), (0, v84366)]) (jcall_v (A := [(0, v84366)]) (S' := []) (r := 42) rfl (g84365.lt ad42) (g84365.tg ad42) (Nat.le_of_ble_eq_true rfl)) (by decide) ml266 pp266 (Nat.le_of_ble_eq_true rfl) rfl (by decide) (by decide) ?_
                refine ev_aload_n rfl ?_
                refine ev_iload_n rfl ?_
                refine g_putf (r := 42) g84365 ad42 (by decide) ft12_20 (by decide) (fun e => absurd e nz12_20) rf42_20 (by decide) (by omega) (by omega) (fun h84380 e84380 g84380 => ?_)
                have k84380 := k84365.wr e84380 rfl
                refine ev_iconst ?_
                refine ev_ret rfl (by decide) (by decide) ?_
                show jEv _ _ _ _ _ _ _ (_, [(2, 42), (0, a1), (0, a2), (0, a3), (0, 1), (0, x5), (0, v84366), (0, (100 * w0 + w1)), (0, x8)], [(0, (-1))], _, _, _)
                exact ev_ret rfl (by decide) (by decide) ⟨⟨_, rfl, by omega, by omega, g84380, k84380⟩, fun r hr h0 => by cases hr; exfalso; omega, fun r hr => by cases hr; exact ⟨_, (((jw_ne e84380 (Or.inr (by decide))).trans em84367)), by omega, by omega, (Fr.kp (Fr.tr (Fr.kp (Fr.w (i := (400 * w0 + 4 * w1 + x8)) H2 e84361 (by omega) (by omega)) ((Kp.rf [(52, 0)] _).wr e84362 rfl) (fun _ => rfl) (fun _ => rfl) (fun _ => rfl) (fun _ => rfl)) fr84365 (by omega)) ((Kp.rf [(42, 0)] _).wr e84380 rfl) (fun _ => rfl) (fun _ => rfl) (fun _ => rfl) (fun _ => rfl)), fun h0 => by exfalso; omega, fun h0 => by exfalso; omega⟩, fun r hr => by cases hr; exact (Bd.M (tq_x (v := v84366) H5 H6 (by omega) (by rw [(show (RQ h K (q - 1) (jor a2 (jshl 1 x5)) (a3 + 1)) _ = RQ h K (q - 1) v84364 (a3 + 1) x6 by rw [ev84363, ev84364])]; exact ⟨(nr84365.ok (by omega)).1, (nr84365.ok (by omega)).2.1⟩) (Or.inl ⟨by omega, fun z => absurd ((bR_at (p := v84366) k84380 (fun _ => rfl) ew2 (((jw_ne e84380 (Or.inl (by decide))).trans ev84375)) (by omega) (by omega)).symm.trans z) (by omega)⟩) (by omega)) ((jw_eq e84380)))⟩
        · refine ev_iconst ?_
          exact ev_ret rfl (by decide) (by decide) ⟨⟨_, rfl, by omega, by omega, g84365, k84365⟩, fun r hr h0 => by cases hr; exfalso; omega, fun r hr => by cases hr; exact ⟨_, (em84367), by omega, by omega, (Fr.tr (Fr.kp (Fr.w (i := (400 * w0 + 4 * w1 + x8)) H2 e84361 (by omega) (by omega)) ((Kp.rf [(52, 0)] _).wr e84362 rfl) (fun _ => rfl) (fun _ => rfl) (fun _ => rfl) (fun _ => rfl)) fr84365 (by omega)), fun h0 => by exfalso; omega, fun h0 => by exfalso; omega⟩, fun r hr => by cases hr; exact Bd.M (tq_b H5 H6 (by omega) (by rw [(show (RQ h K (q - 1) (jor a2 (jshl 1 x5)) (a3 + 1)) _ = RQ h K (q - 1) v84364 (a3 + 1) x6 by rw [ev84363, ev84364])]; exact nr84365.bd (by omega))) rfl⟩
      · refine ev_aload_n rfl ?_
        refine ev_iload rfl ?_
        refine ev_iload rfl ?_
        refine ev_iconst ?_
        refine ev_in (d := (d + 1)) (a := 0) (b := 0) (cd' := c268_0) (m := 4) (L0 := [(2, 42), (0, (100 * w0 + w1)), (0, x8), (0, 0)]) (jcall_v (A := [(0, 0), (0, x8), (0, (100 * w0 + w1))]) (S' := []) (r := 42) rfl (g1.lt ad42) (g1.tg ad42) (Nat.le_of_ble_eq_true rfl)) (by decide) ml268 pp268 (Nat.le_of_ble_eq_true rfl) rfl (by decide) (by decide) ?_
        refine ev_iload_n rfl ?_
        refine ev_ifge f268_5 (fun c84381 => ?_) (fun c84381 => absurd c84381 (by omega))
        refine ev_aload_n rfl ?_
        refine g_getp (r := 42) (c := 51) g1 ad42 (by decide) (by decide) rf42_13 ft12_13 ?_
        refine ev_iconst ?_
        refine ev_iload_n rfl ?_
        refine ev_imul (r := (400 * w0 + 4 * w1)) (by unfold w32; omega) ?_
        refine ev_iload_n rfl ?_
        refine ev_iadd (r := (400 * w0 + 4 * w1 + x8)) (by unfold w32; omega) ?_
        refine ev_aload_n rfl ?_
        refine g_getv (r := 42) (v := y0) g1 ad42 (by decide) ft12_21 (ey0) ?_
        refine g_i2bG (fun v84382 ev84382 lv84382 uv84382 => ?_)
        refine ev_bastG (r := 51) (j := ((400 * w0 + 4 * w1 + x8)).toNat) (w := v84382) (g1.lt ad51) (g1.tg ad51) (by omega) (by rw [g1.ln ad51]; omega) (by unfold w8; omega) (fun h84383 e84383 => ?_)
        have g84383 := g1.s51 e84383 (by rw [(((k1.v (by decide)).trans ew0))]; omega) (by omega) (by omega)
        have k84383 := k1.wr e84383 rfl
        refine ev_aload_n rfl ?_
        refine g_getp (r := 42) (c := 52) g84383 ad42 (by decide) (by decide) rf42_14 ft12_14 ?_
        refine ev_iconst ?_
        refine ev_iload_n rfl ?_
        refine ev_imul (r := (400 * w0 + 4 * w1)) (by unfold w32; omega) ?_
        refine ev_iload_n rfl ?_
        refine ev_iadd (r := (400 * w0 + 4 * w1 + x8)) (by unfold w32; omega) ?_
        refine ev_iload_n rfl ?_
        refine g_iast g84383 ad52 rt52 (fun _ => rfl) (by omega) (by omega) (by omega) (by omega) (fun h84384 e84384 g84384 => ?_)
        have k84384 := k84383.wr e84384 rfl
        refine ev_ret rfl (by decide) (by decide) ?_
        show jEv _ _ _ _ _ _ _ (_, [(2, 42), (0, a1), (0, a2), (0, a3), (0, 1), (0, x5), (0, x6), (0, (100 * w0 + w1)), (0, x8)], [], _, _, _)
        refine ev_aload_n rfl ?_
        refine ev_iload rfl ?_
        refine ev_iload_n rfl ?_
        refine ev_iconst ?_
        refine ev_iload rfl ?_
        refine g_ishlB (a' := 1) (a := 1) (b := 3) (hi := 8) (by omega) (by omega) (by omega) (by omega) (by decide) (by decide) (fun v84385 ev84385 lv84385 uv84385 => ?_)
        refine g_iorB (k := 4) (hi := 15) (by decide) (by decide) (by omega) (by omega) (by omega) (by omega) (fun v84386 ev84386 lv84386 uv84386 => ?_)
        refine ev_iload_n rfl ?_
        refine ev_iconst ?_
        refine ev_iadd (r := (a3 + 1)) (by unfold w32; omega) ?_
        refine ev_iload rfl ?_
        refine ev_call (jcall_v (A := [(0, 1), (0, (a3 + 1)), (0, v84386), (0, x6)]) (S' := []) (r := 42) rfl (g84384.lt ad42) (g84384.tg ad42) (Nat.le_of_ble_eq_true rfl)) (jOk_le (by omega) (t272o g84384 (by omega) (by omega) (by omega) (by omega) (by omega) (by omega) (by omega) (by omega) (by omega) (by omega) (((jw_ne e84384 (Or.inl (by decide))).trans ((jw_ne e84383 (Or.inl (by decide))).trans ey0))) (by omega) (by omega) (((jw_ne e84384 (Or.inl (by decide))).trans ((jw_ne e84383 (Or.inl (by decide))).trans ((k1.v (by decide)).trans ew2)))) (by omega) (by omega) (l0 := l0) (b0 := b84357) (by omega) (Iv.kp hI k84384 (fun _ => rfl) (fun _ => rfl) rfl) (Lv.at hL H0 k84384 (fun _ => rfl) rfl) hb84356 (K := K) (q := q - 1) (hK.kp k84384 (fun _ => rfl) rfl (fun _ => rfl) rfl rfl (fun _ => rfl)) (by omega) (by rw [k84384.v rfl]; exact hN))) (by decide) (by decide) (fun w84387 h84387 q84387 => ?_)
        obtain ⟨q84387, ad84387, ro84387, nr84387⟩ := q84387
        obtain ⟨v84388, rfl, lv84388, uv84388, g84387, kk84387⟩ := q84387
        have ad84387 := ad84387 _ rfl
        have nr84387 := nr84387 _ rfl
        obtain ⟨m84389, em84389, lm84389, um84389, pm84387⟩ := ro84387 _ rfl
        have k84387 := k84384.tr kk84387 (by decide)
        rw [RQ_kp k84384 (fun _ => rfl) rfl (fun _ => rfl) rfl rfl, bR_kp k84384 (fun _ => rfl) rfl] at nr84387
        show jEv _ _ _ _ _ _ _ (_, [(2, 42), (0, a1), (0, a2), (0, a3), (0, 1), (0, x5), (0, x6), (0, (100 * w0 + w1)), (0, x8)], [(0, v84388)], _, _, _)
        refine ev_istore (L' := [(2, 42), (0, a1), (0, a2), (0, a3), (0, 1), (0, x5), (0, v84388), (0, (100 * w0 + w1)), (0, x8)]) (Nat.le_of_ble_eq_true rfl) rfl ?_
        refine ev_iload rfl ?_
        refine ev_ifge f271_132 (fun c84390 => ?_) (fun c84390 => ?_)
        · refine ev_aload_n rfl ?_
          refine ev_iload rfl ?_
          refine ev_in (d := (d + 1)) (a := 0) (b := 0) (cd' := c264_0) (m := 2) (L0 := [(2, 42), (0, v84388)]) (jcall_v (A := [(0, v84388)]) (S' := []) (r := 42) rfl (g84387.lt ad42) (g84387.tg ad42) (Nat.le_of_ble_eq_true rfl)) (by decide) ml264 pp264 (Nat.le_of_ble_eq_true rfl) rfl (by decide) (by decide) ?_
          refine ev_iload_n rfl ?_
          refine ev_aload_n rfl ?_
          refine g_getv (r := 42) (v := w2) g84387 ad42 (by decide) ft12_17 (((kk84387.v (by decide)).trans ((jw_ne e84384 (Or.inl (by decide))).trans ((jw_ne e84383 (Or.inl (by decide))).trans ((k1.v (by decide)).trans ew2))))) ?_
          refine ev_icmpge f264_17 (fun c84391 => ?_) (fun c84391 => ?_)
          · refine ev_iconst ?_
            refine ev_ret rfl (by decide) (by decide) ?_
            show jEv _ _ _ _ _ _ _ (_, [(2, 42), (0, a1), (0, a2), (0, a3), (0, 1), (0, x5), (0, v84388), (0, (100 * w0 + w1)), (0, x8)], [(0, (-1))], _, _, _)
            refine ev_iload rfl ?_
            refine ev_iconst ?_
            refine ev_iadd (r := (x8 + 1)) (by unfold w32; omega) ?_
            refine ev_aload_n rfl ?_
            refine g_getp (r := 42) (c := 43) g84387 ad42 (by decide) (by decide) rf42_2 ft12_2 ?_
            refine ev_iload rfl ?_
            refine g_ialdv (v := y2) g84387 ad43 (by omega) (by omega) (((kk84387.v rfl).trans ((jw_ne e84384 (Or.inl (by decide))).trans ((jw_ne e84383 (Or.inl (by decide))).trans ey2)))) ?_
            refine ev_icmpge f271_157 (fun c84392 => ?_) (fun c84392 => ?_)
            · refine ev_bipush ?_
              refine ev_icmpeq f271_169 (fun c84393 => absurd c84393 (by omega)) (fun c84393 => ?_)
              refine ev_aload_n rfl ?_
              refine ev_iload rfl ?_
              refine ev_in (d := (d + 1)) (a := 0) (b := 0) (cd' := c266_0) (m := 2) (L0 := [(2, 42), (0, v84388)]) (jcall_v (A := [(0, v84388)]) (S' := []) (r := 42) rfl (g84387.lt ad42) (g84387.tg ad42) (Nat.le_of_ble_eq_true rfl)) (by decide) ml266 pp266 (Nat.le_of_ble_eq_true rfl) rfl (by decide) (by decide) ?_
              refine ev_aload_n rfl ?_
              refine ev_iload_n rfl ?_
              refine g_putf (r := 42) g84387 ad42 (by decide) ft12_20 (by decide) (fun e => absurd e nz12_20) rf42_20 (by decide) (by omega) (by omega) (fun h84394 e84394 g84394 => ?_)
              have k84394 := k84387.wr e84394 rfl
              refine ev_iconst ?_
              refine ev_ret rfl (by decide) (by decide) ?_
              show jEv _ _ _ _ _ _ _ (_, [(2, 42), (0, a1), (0, a2), (0, a3), (0, 1), (0, x5), (0, v84388), (0, (100 * w0 + w1)), (0, x8)], [(0, (-1))], _, _, _)
              exact ev_ret rfl (by decide) (by decide) ⟨⟨_, rfl, by omega, by omega, g84394, k84394⟩, fun r hr h0 => by cases hr; exfalso; omega, fun r hr => by cases hr; exact ⟨_, (((jw_ne e84394 (Or.inr (by decide))).trans em84389)), by omega, by omega, (Fr.kp (Fr.kp (Fr.kp (Fr.w (i := (400 * w0 + 4 * w1 + x8)) H2 e84383 (by omega) (by omega)) ((Kp.rf [(52, 0)] _).wr e84384 rfl) (fun _ => rfl) (fun _ => rfl) (fun _ => rfl) (fun _ => rfl)) kk84387 (fun _ => rfl) (fun _ => rfl) (fun _ => rfl) (fun _ => rfl)) ((Kp.rf [(42, 0)] _).wr e84394 rfl) (fun _ => rfl) (fun _ => rfl) (fun _ => rfl) (fun _ => rfl)), fun h0 => by exfalso; omega, fun h0 => by exfalso; omega⟩, fun r hr => by cases hr; exact (Bd.M (tq_x (v := v84388) H5 H6 (by omega) (by rw [(show (RQ h K (q - 1) (jor a2 (jshl 1 x5)) (a3 + 1)) _ = RQ h K (q - 1) v84386 (a3 + 1) x6 by rw [ev84385, ev84386])]; exact ⟨(nr84387.ok (by omega)).1, (nr84387.ok (by omega)).2.1⟩) (Or.inr ⟨by omega, fun z => absurd ((bR_end (p := v84388) ew2 (by omega)).symm.trans z) (by omega)⟩) (by omega)) ((jw_eq e84394)))⟩
            · refine ev_bipush ?_
              refine ev_goto f271_159 ?_
              refine ev_icmpeq f271_169 (fun c84395 => absurd c84395 (by omega)) (fun c84395 => ?_)
              refine ev_aload_n rfl ?_
              refine ev_iload rfl ?_
              refine ev_in (d := (d + 1)) (a := 0) (b := 0) (cd' := c266_0) (m := 2) (L0 := [(2, 42), (0, v84388)]) (jcall_v (A := [(0, v84388)]) (S' := []) (r := 42) rfl (g84387.lt ad42) (g84387.tg ad42) (Nat.le_of_ble_eq_true rfl)) (by decide) ml266 pp266 (Nat.le_of_ble_eq_true rfl) rfl (by decide) (by decide) ?_
              refine ev_aload_n rfl ?_
              refine ev_iload_n rfl ?_
              refine g_putf (r := 42) g84387 ad42 (by decide) ft12_20 (by decide) (fun e => absurd e nz12_20) rf42_20 (by decide) (by omega) (by omega) (fun h84396 e84396 g84396 => ?_)
              have k84396 := k84387.wr e84396 rfl
              refine ev_iconst ?_
              refine ev_ret rfl (by decide) (by decide) ?_
              show jEv _ _ _ _ _ _ _ (_, [(2, 42), (0, a1), (0, a2), (0, a3), (0, 1), (0, x5), (0, v84388), (0, (100 * w0 + w1)), (0, x8)], [(0, (-1))], _, _, _)
              exact ev_ret rfl (by decide) (by decide) ⟨⟨_, rfl, by omega, by omega, g84396, k84396⟩, fun r hr h0 => by cases hr; exfalso; omega, fun r hr => by cases hr; exact ⟨_, (((jw_ne e84396 (Or.inr (by decide))).trans em84389)), by omega, by omega, (Fr.kp (Fr.kp (Fr.kp (Fr.w (i := (400 * w0 + 4 * w1 + x8)) H2 e84383 (by omega) (by omega)) ((Kp.rf [(52, 0)] _).wr e84384 rfl) (fun _ => rfl) (fun _ => rfl) (fun _ => rfl) (fun _ => rfl)) kk84387 (fun _ => rfl) (fun _ => rfl) (fun _ => rfl) (fun _ => rfl)) ((Kp.rf [(42, 0)] _).wr e84396 rfl) (fun _ => rfl) (fun _ => rfl) (fun _ => rfl) (fun _ => rfl)), fun h0 => by exfalso; omega, fun h0 => by exfalso; omega⟩, fun r hr => by cases hr; exact (Bd.M (tq_x (v := v84388) H5 H6 (by omega) (by rw [(show (RQ h K (q - 1) (jor a2 (jshl 1 x5)) (a3 + 1)) _ = RQ h K (q - 1) v84386 (a3 + 1) x6 by rw [ev84385, ev84386])]; exact ⟨(nr84387.ok (by omega)).1, (nr84387.ok (by omega)).2.1⟩) (Or.inl ⟨by omega, fun z => absurd ((bR_end (p := v84388) ew2 (by omega)).symm.trans z) (by omega)⟩) (by omega)) ((jw_eq e84396)))⟩
          · refine ev_aload_n rfl ?_
            refine g_getp (r := 42) (c := 54) g84387 ad42 (by decide) (by decide) rf42_16 ft12_16 ?_
            refine ev_iload_n rfl ?_
            refine g_bald g84387 ad54 rt54 (by omega) (by omega) (fun v84397 ev84397 lv84397 uv84397 => ?_)
            refine ev_goto f264_18 ?_
            refine ev_ret rfl (by decide) (by decide) ?_
            show jEv _ _ _ _ _ _ _ (_, [(2, 42), (0, a1), (0, a2), (0, a3), (0, 1), (0, x5), (0, v84388), (0, (100 * w0 + w1)), (0, x8)], [(0, v84397)], _, _, _)
            refine ev_iload rfl ?_
            refine ev_iconst ?_
            refine ev_iadd (r := (x8 + 1)) (by unfold w32; omega) ?_
            refine ev_aload_n rfl ?_
            refine g_getp (r := 42) (c := 43) g84387 ad42 (by decide) (by decide) rf42_2 ft12_2 ?_
            refine ev_iload rfl ?_
            refine g_ialdv (v := y2) g84387 ad43 (by omega) (by omega) (((kk84387.v rfl).trans ((jw_ne e84384 (Or.inl (by decide))).trans ((jw_ne e84383 (Or.inl (by decide))).trans ey2)))) ?_
            refine ev_icmpge f271_157 (fun c84398 => ?_) (fun c84398 => ?_)
            · refine ev_bipush ?_
              refine ev_icmpeq f271_169 (fun c84399 => ?_) (fun c84399 => ?_)
              · refine ev_iinc (w := (v84388 + 1)) (L' := [(2, 42), (0, a1), (0, a2), (0, a3), (0, 1), (0, x5), (0, (v84388 + 1)), (0, (100 * w0 + w1)), (0, x8)]) rfl (by unfold w32; omega) rfl ?_
                refine ev_iinc (w := (x8 + 1)) (L' := [(2, 42), (0, a1), (0, a2), (0, a3), (0, 1), (0, x5), (0, (v84388 + 1)), (0, (100 * w0 + w1)), (0, (x8 + 1))]) rfl (by unfold w32; omega) rfl ?_
                refine ev_goto f271_85 ?_
                exact ih _ _ _ _ _ _ _ g84387 k84387 (by omega) (by omega) (by omega) (by omega) (by omega) (by omega) (by omega) (by omega) (by omega) (by omega) (by omega) (by omega) (by omega) (by omega) (by omega) (em84389) (by omega) (by omega) (((kk84387.v (by decide)).trans ((jw_ne e84384 (Or.inl (by decide))).trans ((jw_ne e84383 (Or.inl (by decide))).trans ey1)))) (by omega) (by omega) (((kk84387.v rfl).trans ((jw_ne e84384 (Or.inl (by decide))).trans ((jw_ne e84383 (Or.inl (by decide))).trans ey2)))) (by omega) (by omega) (Ad.step (r' := (v84388 + 1)) (Ad.tr H0 k84384 (fun _ => rfl) (ad84387 (by omega))) (by omega) k84387 (fun _ => rfl) (ev84397) (by omega) (by omega) (by omega)) (Mb.step H1 eb84356 um84389 (by omega)) (Fr.kp (Fr.kp (Fr.w (i := (400 * w0 + 4 * w1 + x8)) H2 e84383 (by omega) (by omega)) ((Kp.rf [(52, 0)] _).wr e84384 rfl) (fun _ => rfl) (fun _ => rfl) (fun _ => rfl) (fun _ => rfl)) kk84387 (fun _ => rfl) (fun _ => rfl) (fun _ => rfl) (fun _ => rfl)) (PC.over (by have := pm84387 (by omega); omega)) H4 (tq_k (v := v84388) H5 (by omega) (by rw [(show (RQ h K (q - 1) (jor a2 (jshl 1 x5)) (a3 + 1)) _ = RQ h K (q - 1) v84386 (a3 + 1) x6 by rw [ev84385, ev84386])]; exact ⟨(nr84387.ok (by omega)).1, (nr84387.ok (by omega)).2.1⟩) (Or.inr ⟨by omega, (bR_at (p := v84388) k84387 (fun _ => rfl) ew2 (ev84397) (by omega) (by omega)).trans (by omega)⟩) (by omega) (by omega) (by rw [(show (RQ h K (q - 1) (jor a2 (jshl 1 x5)) (a3 + 1)) _ = RQ h K (q - 1) v84386 (a3 + 1) x6 by rw [ev84385, ev84386])]; have z := (nr84387.ok (by omega)).2.2; rw [em84389] at z; exact z)) H6 (by omega)
              · refine ev_aload_n rfl ?_
                refine ev_iload rfl ?_
                refine ev_in (d := (d + 1)) (a := 0) (b := 0) (cd' := c266_0) (m := 2) (L0 := [(2, 42), (0, v84388)]) (jcall_v (A := [(0, v84388)]) (S' := []) (r := 42) rfl (g84387.lt ad42) (g84387.tg ad42) (Nat.le_of_ble_eq_true rfl)) (by decide) ml266 pp266 (Nat.le_of_ble_eq_true rfl) rfl (by decide) (by decide) ?_
                refine ev_aload_n rfl ?_
                refine ev_iload_n rfl ?_
                refine g_putf (r := 42) g84387 ad42 (by decide) ft12_20 (by decide) (fun e => absurd e nz12_20) rf42_20 (by decide) (by omega) (by omega) (fun h84400 e84400 g84400 => ?_)
                have k84400 := k84387.wr e84400 rfl
                refine ev_iconst ?_
                refine ev_ret rfl (by decide) (by decide) ?_
                show jEv _ _ _ _ _ _ _ (_, [(2, 42), (0, a1), (0, a2), (0, a3), (0, 1), (0, x5), (0, v84388), (0, (100 * w0 + w1)), (0, x8)], [(0, (-1))], _, _, _)
                exact ev_ret rfl (by decide) (by decide) ⟨⟨_, rfl, by omega, by omega, g84400, k84400⟩, fun r hr h0 => by cases hr; exfalso; omega, fun r hr => by cases hr; exact ⟨_, (((jw_ne e84400 (Or.inr (by decide))).trans em84389)), by omega, by omega, (Fr.kp (Fr.kp (Fr.kp (Fr.w (i := (400 * w0 + 4 * w1 + x8)) H2 e84383 (by omega) (by omega)) ((Kp.rf [(52, 0)] _).wr e84384 rfl) (fun _ => rfl) (fun _ => rfl) (fun _ => rfl) (fun _ => rfl)) kk84387 (fun _ => rfl) (fun _ => rfl) (fun _ => rfl) (fun _ => rfl)) ((Kp.rf [(42, 0)] _).wr e84400 rfl) (fun _ => rfl) (fun _ => rfl) (fun _ => rfl) (fun _ => rfl)), fun h0 => by exfalso; omega, fun h0 => by exfalso; omega⟩, fun r hr => by cases hr; exact (Bd.M (tq_x (v := v84388) H5 H6 (by omega) (by rw [(show (RQ h K (q - 1) (jor a2 (jshl 1 x5)) (a3 + 1)) _ = RQ h K (q - 1) v84386 (a3 + 1) x6 by rw [ev84385, ev84386])]; exact ⟨(nr84387.ok (by omega)).1, (nr84387.ok (by omega)).2.1⟩) (Or.inr ⟨by omega, fun z => absurd ((bR_at (p := v84388) k84400 (fun _ => rfl) ew2 (((jw_ne e84400 (Or.inl (by decide))).trans ev84397)) (by omega) (by omega)).symm.trans z) (by omega)⟩) (by omega)) ((jw_eq e84400)))⟩
            · refine ev_bipush ?_
              refine ev_goto f271_159 ?_
              refine ev_icmpeq f271_169 (fun c84401 => ?_) (fun c84401 => ?_)
              · refine ev_iinc (w := (v84388 + 1)) (L' := [(2, 42), (0, a1), (0, a2), (0, a3), (0, 1), (0, x5), (0, (v84388 + 1)), (0, (100 * w0 + w1)), (0, x8)]) rfl (by unfold w32; omega) rfl ?_
                refine ev_iinc (w := (x8 + 1)) (L' := [(2, 42), (0, a1), (0, a2), (0, a3), (0, 1), (0, x5), (0, (v84388 + 1)), (0, (100 * w0 + w1)), (0, (x8 + 1))]) rfl (by unfold w32; omega) rfl ?_
                refine ev_goto f271_85 ?_
                exact ih _ _ _ _ _ _ _ g84387 k84387 (by omega) (by omega) (by omega) (by omega) (by omega) (by omega) (by omega) (by omega) (by omega) (by omega) (by omega) (by omega) (by omega) (by omega) (by omega) (em84389) (by omega) (by omega) (((kk84387.v (by decide)).trans ((jw_ne e84384 (Or.inl (by decide))).trans ((jw_ne e84383 (Or.inl (by decide))).trans ey1)))) (by omega) (by omega) (((kk84387.v rfl).trans ((jw_ne e84384 (Or.inl (by decide))).trans ((jw_ne e84383 (Or.inl (by decide))).trans ey2)))) (by omega) (by omega) (Ad.step (r' := (v84388 + 1)) (Ad.tr H0 k84384 (fun _ => rfl) (ad84387 (by omega))) (by omega) k84387 (fun _ => rfl) (ev84397) (by omega) (by omega) (by omega)) (Mb.step H1 eb84356 um84389 (by omega)) (Fr.kp (Fr.kp (Fr.w (i := (400 * w0 + 4 * w1 + x8)) H2 e84383 (by omega) (by omega)) ((Kp.rf [(52, 0)] _).wr e84384 rfl) (fun _ => rfl) (fun _ => rfl) (fun _ => rfl) (fun _ => rfl)) kk84387 (fun _ => rfl) (fun _ => rfl) (fun _ => rfl) (fun _ => rfl)) (PC.over (by have := pm84387 (by omega); omega)) H4 (tq_k (v := v84388) H5 (by omega) (by rw [(show (RQ h K (q - 1) (jor a2 (jshl 1 x5)) (a3 + 1)) _ = RQ h K (q - 1) v84386 (a3 + 1) x6 by rw [ev84385, ev84386])]; exact ⟨(nr84387.ok (by omega)).1, (nr84387.ok (by omega)).2.1⟩) (Or.inl ⟨by omega, (bR_at (p := v84388) k84387 (fun _ => rfl) ew2 (ev84397) (by omega) (by omega)).trans (by omega)⟩) (by omega) (by omega) (by rw [(show (RQ h K (q - 1) (jor a2 (jshl 1 x5)) (a3 + 1)) _ = RQ h K (q - 1) v84386 (a3 + 1) x6 by rw [ev84385, ev84386])]; have z := (nr84387.ok (by omega)).2.2; rw [em84389] at z; exact z)) H6 (by omega)
              · refine ev_aload_n rfl ?_
                refine ev_iload rfl ?_
                refine ev_in (d := (d + 1)) (a := 0) (b := 0) (cd' := c266_0) (m := 2) (L0 := [(2, 42), (0, v84388)]) (jcall_v (A := [(0, v84388)]) (S' := []) (r := 42) rfl (g84387.lt ad42) (g84387.tg ad42) (Nat.le_of_ble_eq_true rfl)) (by decide) ml266 pp266 (Nat.le_of_ble_eq_true rfl) rfl (by decide) (by decide) ?_
                refine ev_aload_n rfl ?_
                refine ev_iload_n rfl ?_
                refine g_putf (r := 42) g84387 ad42 (by decide) ft12_20 (by decide) (fun e => absurd e nz12_20) rf42_20 (by decide) (by omega) (by omega) (fun h84402 e84402 g84402 => ?_)
                have k84402 := k84387.wr e84402 rfl
                refine ev_iconst ?_
                refine ev_ret rfl (by decide) (by decide) ?_
                show jEv _ _ _ _ _ _ _ (_, [(2, 42), (0, a1), (0, a2), (0, a3), (0, 1), (0, x5), (0, v84388), (0, (100 * w0 + w1)), (0, x8)], [(0, (-1))], _, _, _)
                exact ev_ret rfl (by decide) (by decide) ⟨⟨_, rfl, by omega, by omega, g84402, k84402⟩, fun r hr h0 => by cases hr; exfalso; omega, fun r hr => by cases hr; exact ⟨_, (((jw_ne e84402 (Or.inr (by decide))).trans em84389)), by omega, by omega, (Fr.kp (Fr.kp (Fr.kp (Fr.w (i := (400 * w0 + 4 * w1 + x8)) H2 e84383 (by omega) (by omega)) ((Kp.rf [(52, 0)] _).wr e84384 rfl) (fun _ => rfl) (fun _ => rfl) (fun _ => rfl) (fun _ => rfl)) kk84387 (fun _ => rfl) (fun _ => rfl) (fun _ => rfl) (fun _ => rfl)) ((Kp.rf [(42, 0)] _).wr e84402 rfl) (fun _ => rfl) (fun _ => rfl) (fun _ => rfl) (fun _ => rfl)), fun h0 => by exfalso; omega, fun h0 => by exfalso; omega⟩, fun r hr => by cases hr; exact (Bd.M (tq_x (v := v84388) H5 H6 (by omega) (by rw [(show (RQ h K (q - 1) (jor a2 (jshl 1 x5)) (a3 + 1)) _ = RQ h K (q - 1) v84386 (a3 + 1) x6 by rw [ev84385, ev84386])]; exact ⟨(nr84387.ok (by omega)).1, (nr84387.ok (by omega)).2.1⟩) (Or.inl ⟨by omega, fun z => absurd ((bR_at (p := v84388) k84402 (fun _ => rfl) ew2 (((jw_ne e84402 (Or.inl (by decide))).trans ev84397)) (by omega) (by omega)).symm.trans z) (by omega)⟩) (by omega)) ((jw_eq e84402)))⟩
        · refine ev_iconst ?_
          exact ev_ret rfl (by decide) (by decide) ⟨⟨_, rfl, by omega, by omega, g84387, k84387⟩, fun r hr h0 => by cases hr; exfalso; omega, fun r hr => by cases hr; exact ⟨_, (em84389), by omega, by omega, (Fr.kp (Fr.kp (Fr.w (i := (400 * w0 + 4 * w1 + x8)) H2 e84383 (by omega) (by omega)) ((Kp.rf [(52, 0)] _).wr e84384 rfl) (fun _ => rfl) (fun _ => rfl) (fun _ => rfl) (fun _ => rfl)) kk84387 (fun _ => rfl) (fun _ => rfl) (fun _ => rfl) (fun _ => rfl)), fun h0 => by exfalso; omega, fun h0 => by exfalso; omega⟩, fun r hr => by cases hr; exact Bd.M (tq_b H5 H6 (by omega) (by rw [(show (RQ h K (q - 1) (jor a2 (jshl 1 x5)) (a3 + 1)) _ = RQ h K (q - 1) v84386 (a3 + 1) x6 by rw [ev84385, ev84386])]; exact nr84387.bd (by omega))) rfl⟩
set_option maxHeartbeats 4000000 in
theorem t271i_s {G : GH} {h : JH} (g : Gd G h) {l0 : Int} (ll0 : 0 ≤ l0) (ul0 : l0 ≤ 6) {b0 : Int} (lb0 : 1 ≤ b0) (ub0 : b0 ≤ 30000000) {a1 : Int} (la1 : 0 ≤ a1) (ua1 : a1 ≤ 202) {a2 : Int} (la2 : 0 ≤ a2) (ua2 : a2 ≤ 15) {a3 : Int} (la3 : 0 ≤ a3) (ua3 : a3 ≤ 12) {w0 : Int} (ew0 : h.2.2 42 9 = w0) (lw0 : 0 ≤ w0) (uw0 : w0 ≤ 5) {w1 : Int} (ew1 : h.2.2 42 21 = w1) (lw1 : 0 ≤ w1) (uw1 : w1 ≤ 99) {w2 : Int} (ew2 : h.2.2 42 17 = w2) (lw2 : 0 ≤ w2) (uw2 : w2 ≤ 200) (F0 : (b0 + w1) ≤ 200000000) {S : List Nat} {K : Int → Int × Int × Int} {q : Nat} (hI : Iv h) (hL : Lv h l0 a1) (hb : NB a3 = b0) (hS : Sk a2 S) (hK : KoR h K) (hq : 13 - a3 = q) (hN : h.2.2 42 1 ≤ 4) (hq3 : h.2.2 54 (a1).toNat = 33) {M : Int} (hM : M = (7 * a3 - l0)) {d : Nat} (hd : 371 ≤ d) (rih : ∀ {G : GH} {h : JH} (g : Gd G h) {l0 : Int} (ll0 : 0 ≤ l0) (ul0 : l0 ≤ 6) {b0 : Int} (lb0 : 1 ≤ b0) (ub0 : b0 ≤ 30000000) {a1 : Int} (la1 : 0 ≤ a1) (ua1 : a1 ≤ 202) {a2 : Int} (la2 : 0 ≤ a2) (ua2 : a2 ≤ 15) {a3 : Int} (la3 : 0 ≤ a3) (ua3 : a3 ≤ 12) {w0 : Int} (ew0 : h.2.2 42 9 = w0) (lw0 : 0 ≤ w0) (uw0 : w0 ≤ 5) {w1 : Int} (ew1 : h.2.2 42 21 = w1) (lw1 : 0 ≤ w1) (uw1 : w1 ≤ 99) {w2 : Int} (ew2 : h.2.2 42 17 = w2) (lw2 : 0 ≤ w2) (uw2 : w2 ≤ 200) (F0 : (b0 + w1) ≤ 200000000) {S : List Nat} {K : Int → Int × Int × Int} {q : Nat} (hI : Iv h) (hL : Lv h l0 a1) (hb : NB a3 = b0) (hS : Sk a2 S) (hK : KoR h K) (hq : 13 - a3 = q) (hN : h.2.2 42 1 ≤ 4) (hm : M + 1 ≤ (7 * a3 - l0)), jOk d 0 0 272 [(2, 42), (0, a1), (0, a2), (0, a3), (0, 1)] h (fun v h' => PI G [(42, 21), (42, 22), (49, 0), (50, 0), (51, 0), (52, 0), (53, 0)] h 0 (-1) 200 v h' ∧ (∀ r, v = some (0, r) → 0 ≤ r → Ad h l0 a1 r) ∧ (∀ r, v = some (0, r) → RI h h' w0 w1 a3 b0 S r) ∧ (∀ r, v = some (0, r) → RdM (bR h) h' w1 (RQ h K q a2 a3 a1) r))) : jOk (d + 3) 0 0 271 [(2, 42), (0, a1), (0, a2), (0, a3), (0, 1)] h (fun v h' => PI G [(42, 21), (42, 22), (49, 0), (50, 0), (51, 0), (52, 0), (53, 0)] h 0 (-1) 200 v h' ∧ (∀ r, v = some (0, r) → 0 ≤ r → Ad h l0 a1 r) ∧ (∀ r, v = some (0, r) → RI h h' w0 w1 a3 b0 S r) ∧ (∀ r, v = some (0, r) → RdM (bR h) h' w1 (tuN (bR h) (h.2.2 42 1) (yR h) (fun t => RQ h K (q - 1) t (a3 + 1)) a2 a3 a1) r)) := by
  refine ⟨by decide, by rw [ml271]; exact Nat.le_of_ble_eq_true rfl, ?_⟩
  rw [ml271, pp271]
  show jEv _ none _ c271_0 0 0 _ (c271_0, [(2, 42), (0, a1), (0, a2), (0, a3), (0, 1), (9, 0), (9, 0), (9, 0), (9, 0)], [], h, 0, 0)
  have k0 := Kp.rf [(42, 21), (42, 22), (49, 0), (50, 0), (51, 0), (52, 0), (53, 0)] h
  refine ev_aload_n rfl ?_
  refine ev_iload_n rfl ?_
  refine ev_iconst ?_
  refine ev_iadd (r := (a1 + 1)) (by unfold w32; omega) ?_
  refine ev_in (d := (d + 1)) (a := 0) (b := 0) (cd' := c264_0) (m := 2) (L0 := [(2, 42), (0, (a1 + 1))]) (jcall_v (A := [(0, (a1 + 1))]) (S' := []) (r := 42) rfl (g.lt ad42) (g.tg ad42) (Nat.le_of_ble_eq_true rfl)) (by decide) ml264 pp264 (Nat.le_of_ble_eq_true rfl) rfl (by decide) (by decide) ?_
  refine ev_iload_n rfl ?_
  refine ev_aload_n rfl ?_
  refine g_getv (r := 42) (v := w2) g ad42 (by decide) ft12_17 (ew2) ?_
  refine ev_icmpge f264_17 (fun c84403 => ?_) (fun c84403 => ?_)
  · refine ev_iconst ?_
    refine ev_ret rfl (by decide) (by decide) ?_
    show jEv _ _ _ _ _ _ _ (_, [(2, 42), (0, a1), (0, a2), (0, a3), (0, 1), (9, 0), (9, 0), (9, 0), (9, 0)], [(0, (-1))], _, _, _)
    refine ev_bipush ?_
    refine ev_isub (r := (-98)) (by decide) ?_
    refine ev_istore (L' := [(2, 42), (0, a1), (0, a2), (0, a3), (0, 1), (0, (-98)), (9, 0), (9, 0), (9, 0)]) (Nat.le_of_ble_eq_true rfl) rfl ?_
    refine ev_aload_n rfl ?_
    refine ev_iload rfl ?_
    refine ev_in (d := (d + 1)) (a := 0) (b := 0) (cd' := c245_0) (m := 2) (L0 := [(2, 42), (0, (-98))]) (jcall_v (A := [(0, (-98))]) (S' := []) (r := 42) rfl (g.lt ad42) (g.tg ad42) (Nat.le_of_ble_eq_true rfl)) (by decide) ml245 pp245 (Nat.le_of_ble_eq_true rfl) rfl (by decide) (by decide) ?_
    refine ev_iload_n rfl ?_
    refine ev_iconst ?_
    refine ev_aload_n rfl ?_
    obtain ⟨v84404, ev84404, lv84404, uv84404⟩ := g.rd ad42 (show 1 < 66 by decide) rf42_1
    refine g_getv (r := 42) (v := v84404) g ad42 (by decide) ft12_1 ev84404 ?_
    refine ev_iconst ?_
    refine ev_isub (r := (v84404 - 1)) (by unfold w32; omega) ?_
    refine ev_in (d := (d + 0)) (a := 0) (b := 0) (cd' := c242_0) (m := 3) (L0 := [(0, (-98)), (0, 0), (0, (v84404 - 1))]) (jcall_s (A := [(0, (v84404 - 1)), (0, 0), (0, (-98))]) (S' := []) (by decide) rfl (Nat.le_of_ble_eq_true rfl)) (by decide) ml242 pp242 (Nat.le_of_ble_eq_true rfl) rfl (by decide) (by decide) ?_
    refine ev_iload_n rfl ?_
    refine ev_iload_n rfl ?_
    refine ev_icmplt f242_14 (fun c84405 => ?_) (fun c84405 => absurd c84405 (by omega))
    refine ev_iconst ?_
    refine ev_ret rfl (by decide) (by decide) ?_
    show jEv _ _ _ _ _ _ _ (_, [(2, 42), (0, (-98))], [(0, 0)], _, _, _)
    refine ev_ret rfl (by decide) (by decide) ?_
    show jEv _ _ _ _ _ _ _ (_, [(2, 42), (0, a1), (0, a2), (0, a3), (0, 1), (0, (-98)), (9, 0), (9, 0), (9, 0)], [(0, 0)], _, _, _)
    refine ev_ifeq f271_31 (fun c84406 => ?_) (fun c84406 => absurd c84406 (by omega))
    refine ev_aload_n rfl ?_
    refine ev_iload_n rfl ?_
    refine ev_iconst ?_
    refine ev_iadd (r := (a1 + 1)) (by unfold w32; omega) ?_
    refine ev_in (d := (d + 1)) (a := 0) (b := 0) (cd' := c266_0) (m := 2) (L0 := [(2, 42), (0, (a1 + 1))]) (jcall_v (A := [(0, (a1 + 1))]) (S' := []) (r := 42) rfl (g.lt ad42) (g.tg ad42) (Nat.le_of_ble_eq_true rfl)) (by decide) ml266 pp266 (Nat.le_of_ble_eq_true rfl) rfl (by decide) (by decide) ?_
    refine ev_aload_n rfl ?_
    refine ev_iload_n rfl ?_
    refine g_putf (r := 42) g ad42 (by decide) ft12_20 (by decide) (fun e => absurd e nz12_20) rf42_20 (by decide) (by omega) (by omega) (fun h84407 e84407 g84407 => ?_)
    have k84407 := k0.wr e84407 rfl
    refine ev_iconst ?_
    refine ev_ret rfl (by decide) (by decide) ?_
    show jEv _ _ _ _ _ _ _ (_, [(2, 42), (0, a1), (0, a2), (0, a3), (0, 1), (0, (-98)), (9, 0), (9, 0), (9, 0)], [(0, (-1))], _, _, _)
    exact ev_ret rfl (by decide) (by decide) ⟨⟨_, rfl, by omega, by omega, g84407, k84407⟩, fun r hr h0 => by cases hr; exfalso; omega, fun r hr => by cases hr; exact ⟨_, (((jw_ne e84407 (Or.inr (by decide))).trans ew1)), by omega, by omega, (Fr.kp (Fr.rf _ _) ((Kp.rf [(42, 0)] _).wr e84407 rfl) (fun _ => rfl) (fun _ => rfl) (fun _ => rfl) (fun _ => rfl)), fun h0 => by exfalso; omega, fun h0 => by exfalso; omega⟩, fun r hr => by cases hr; exact (Bd.M (bd_rF (p := a1 + 1) (tuN_1 (bR_end (p := (a1 + 1)) ew2 (by omega)) (Or.inl (by rw [show h.2.2 42 1 = v84404 from (k84407.v rfl).symm.trans (((jw_ne e84407 (Or.inr (by decide))).trans ev84404))]; omega))) (by omega) (by omega)) ((jw_eq e84407)))⟩
  · refine ev_aload_n rfl ?_
    refine g_getp (r := 42) (c := 54) g ad42 (by decide) (by decide) rf42_16 ft12_16 ?_
    refine ev_iload_n rfl ?_
    refine g_bald g ad54 rt54 (by omega) (by omega) (fun v84408 ev84408 lv84408 uv84408 => ?_)
    refine ev_goto f264_18 ?_
    refine ev_ret rfl (by decide) (by decide) ?_
    show jEv _ _ _ _ _ _ _ (_, [(2, 42), (0, a1), (0, a2), (0, a3), (0, 1), (9, 0), (9, 0), (9, 0), (9, 0)], [(0, v84408)], _, _, _)
    refine ev_bipush ?_
    refine ev_isub (r := (v84408 - 97)) (by unfold w32; omega) ?_
    refine ev_istore (L' := [(2, 42), (0, a1), (0, a2), (0, a3), (0, 1), (0, (v84408 - 97)), (9, 0), (9, 0), (9, 0)]) (Nat.le_of_ble_eq_true rfl) rfl ?_
    refine ev_aload_n rfl ?_
    refine ev_iload rfl ?_
    refine ev_in (d := (d + 1)) (a := 0) (b := 0) (cd' := c245_0) (m := 2) (L0 := [(2, 42), (0, (v84408 - 97))]) (jcall_v (A := [(0, (v84408 - 97))]) (S' := []) (r := 42) rfl (g.lt ad42) (g.tg ad42) (Nat.le_of_ble_eq_true rfl)) (by decide) ml245 pp245 (Nat.le_of_ble_eq_true rfl) rfl (by decide) (by decide) ?_
    refine ev_iload_n rfl ?_
    refine ev_iconst ?_
    refine ev_aload_n rfl ?_
    obtain ⟨v84409, ev84409, lv84409, uv84409⟩ := g.rd ad42 (show 1 < 66 by decide) rf42_1
    refine g_getv (r := 42) (v := v84409) g ad42 (by decide) ft12_1 ev84409 ?_
    refine ev_iconst ?_
    refine ev_isub (r := (v84409 - 1)) (by unfold w32; omega) ?_
    refine ev_in (d := (d + 0)) (a := 0) (b := 0) (cd' := c242_0) (m := 3) (L0 := [(0, (v84408 - 97)), (0, 0), (0, (v84409 - 1))]) (jcall_s (A := [(0, (v84409 - 1)), (0, 0), (0, (v84408 - 97))]) (S' := []) (by decide) rfl (Nat.le_of_ble_eq_true rfl)) (by decide) ml242 pp242 (Nat.le_of_ble_eq_true rfl) rfl (by decide) (by decide) ?_
    refine ev_iload_n rfl ?_
    refine ev_iload_n rfl ?_
    refine ev_icmplt f242_14 (fun c84410 => ?_) (fun c84410 => ?_)
    · refine ev_iconst ?_
      refine ev_ret rfl (by decide) (by decide) ?_
      show jEv _ _ _ _ _ _ _ (_, [(2, 42), (0, (v84408 - 97))], [(0, 0)], _, _, _)
      refine ev_ret rfl (by decide) (by decide) ?_
      show jEv _ _ _ _ _ _ _ (_, [(2, 42), (0, a1), (0, a2), (0, a3), (0, 1), (0, (v84408 - 97)), (9, 0), (9, 0), (9, 0)], [(0, 0)], _, _, _)
      refine ev_ifeq f271_31 (fun c84411 => ?_) (fun c84411 => absurd c84411 (by omega))
      refine ev_aload_n rfl ?_
      refine ev_iload_n rfl ?_
      refine ev_iconst ?_
      refine ev_iadd (r := (a1 + 1)) (by unfold w32; omega) ?_
      refine ev_in (d := (d + 1)) (a := 0) (b := 0) (cd' := c266_0) (m := 2) (L0 := [(2, 42), (0, (a1 + 1))]) (jcall_v (A := [(0, (a1 + 1))]) (S' := []) (r := 42) rfl (g.lt ad42) (g.tg ad42) (Nat.le_of_ble_eq_true rfl)) (by decide) ml266 pp266 (Nat.le_of_ble_eq_true rfl) rfl (by decide) (by decide) ?_
      refine ev_aload_n rfl ?_
      refine ev_iload_n rfl ?_
      refine g_putf (r := 42) g ad42 (by decide) ft12_20 (by decide) (fun e => absurd e nz12_20) rf42_20 (by decide) (by omega) (by omega) (fun h84412 e84412 g84412 => ?_)
      have k84412 := k0.wr e84412 rfl
      refine ev_iconst ?_
      refine ev_ret rfl (by decide) (by decide) ?_
      show jEv _ _ _ _ _ _ _ (_, [(2, 42), (0, a1), (0, a2), (0, a3), (0, 1), (0, (v84408 - 97)), (9, 0), (9, 0), (9, 0)], [(0, (-1))], _, _, _)
      exact ev_ret rfl (by decide) (by decide) ⟨⟨_, rfl, by omega, by omega, g84412, k84412⟩, fun r hr h0 => by cases hr; exfalso; omega, fun r hr => by cases hr; exact ⟨_, (((jw_ne e84412 (Or.inr (by decide))).trans ew1)), by omega, by omega, (Fr.kp (Fr.rf _ _) ((Kp.rf [(42, 0)] _).wr e84412 rfl) (fun _ => rfl) (fun _ => rfl) (fun _ => rfl) (fun _ => rfl)), fun h0 => by exfalso; omega, fun h0 => by exfalso; omega⟩, fun r hr => by cases hr; exact (Bd.M (bd_rF (p := a1 + 1) (tuN_1 (bR_at (p := (a1 + 1)) k84412 (fun _ => rfl) ew2 (((jw_ne e84412 (Or.inl (by decide))).trans ev84408)) (by omega) (by omega)) (Or.inl (by rw [show h.2.2 42 1 = v84409 from (k84412.v rfl).symm.trans (((jw_ne e84412 (Or.inr (by decide))).trans ev84409))]; omega))) (by omega) (by omega)) ((jw_eq e84412)))⟩
    · refine ev_iload_n rfl ?_
      refine ev_iload_n rfl ?_
      refine ev_icmpgt f242_14 (fun c84413 => ?_) (fun c84413 => ?_)
      · refine ev_iconst ?_
        refine ev_ret rfl (by decide) (by decide) ?_
        show jEv _ _ _ _ _ _ _ (_, [(2, 42), (0, (v84408 - 97))], [(0, 0)], _, _, _)
        refine ev_ret rfl (by decide) (by decide) ?_
        show jEv _ _ _ _ _ _ _ (_, [(2, 42), (0, a1), (0, a2), (0, a3), (0, 1), (0, (v84408 - 97)), (9, 0), (9, 0), (9, 0)], [(0, 0)], _, _, _)
        refine ev_ifeq f271_31 (fun c84414 => ?_) (fun c84414 => absurd c84414 (by omega))
        refine ev_aload_n rfl ?_
        refine ev_iload_n rfl ?_
        refine ev_iconst ?_
        refine ev_iadd (r := (a1 + 1)) (by unfold w32; omega) ?_
        refine ev_in (d := (d + 1)) (a := 0) (b := 0) (cd' := c266_0) (m := 2) (L0 := [(2, 42), (0, (a1 + 1))]) (jcall_v (A := [(0, (a1 + 1))]) (S' := []) (r := 42) rfl (g.lt ad42) (g.tg ad42) (Nat.le_of_ble_eq_true rfl)) (by decide) ml266 pp266 (Nat.le_of_ble_eq_true rfl) rfl (by decide) (by decide) ?_
        refine ev_aload_n rfl ?_
        refine ev_iload_n rfl ?_
        refine g_putf (r := 42) g ad42 (by decide) ft12_20 (by decide) (fun e => absurd e nz12_20) rf42_20 (by decide) (by omega) (by omega) (fun h84415 e84415 g84415 => ?_)
        have k84415 := k0.wr e84415 rfl
        refine ev_iconst ?_
        refine ev_ret rfl (by decide) (by decide) ?_
        show jEv _ _ _ _ _ _ _ (_, [(2, 42), (0, a1), (0, a2), (0, a3), (0, 1), (0, (v84408 - 97)), (9, 0), (9, 0), (9, 0)], [(0, (-1))], _, _, _)
        exact ev_ret rfl (by decide) (by decide) ⟨⟨_, rfl, by omega, by omega, g84415, k84415⟩, fun r hr h0 => by cases hr; exfalso; omega, fun r hr => by cases hr; exact ⟨_, (((jw_ne e84415 (Or.inr (by decide))).trans ew1)), by omega, by omega, (Fr.kp (Fr.rf _ _) ((Kp.rf [(42, 0)] _).wr e84415 rfl) (fun _ => rfl) (fun _ => rfl) (fun _ => rfl) (fun _ => rfl)), fun h0 => by exfalso; omega, fun h0 => by exfalso; omega⟩, fun r hr => by cases hr; exact (Bd.M (bd_rF (p := a1 + 1) (tuN_1 (bR_at (p := (a1 + 1)) k84415 (fun _ => rfl) ew2 (((jw_ne e84415 (Or.inl (by decide))).trans ev84408)) (by omega) (by omega)) (Or.inl (by rw [show h.2.2 42 1 = v84409 from (k84415.v rfl).symm.trans (((jw_ne e84415 (Or.inr (by decide))).trans ev84409))]; omega))) (by omega) (by omega)) ((jw_eq e84415)))⟩
      · refine ev_iconst ?_
        refine ev_goto f242_15 ?_
        refine ev_ret rfl (by decide) (by decide) ?_
        show jEv _ _ _ _ _ _ _ (_, [(2, 42), (0, (v84408 - 97))], [(0, 1)], _, _, _)
        refine ev_ret rfl (by decide) (by decide) ?_
        show jEv _ _ _ _ _ _ _ (_, [(2, 42), (0, a1), (0, a2), (0, a3), (0, 1), (0, (v84408 - 97)), (9, 0), (9, 0), (9, 0)], [(0, 1)], _, _, _)
        refine ev_ifeq f271_31 (fun c84416 => absurd c84416 (by omega)) (fun c84416 => ?_)
        refine ev_iload_n rfl ?_
        refine ev_iload rfl ?_
        refine g_ishrB (a := 15) (by omega) (by omega) (by decide) (fun v84417 ev84417 lv84417 uv84417 => ?_)
        refine ev_iconst ?_
        refine g_iandB (b := 1) (by omega) (by omega) (by decide) (fun v84418 ev84418 lv84418 uv84418 => ?_)
        refine ev_iconst ?_
        refine ev_icmpne f271_39 (fun c84419 => ?_) (fun c84419 => ?_)
        · refine ev_iload_n rfl ?_
          refine ev_iconst ?_
          refine ev_iadd (r := (a1 + 2)) (by unfold w32; omega) ?_
          refine ev_istore (L' := [(2, 42), (0, a1), (0, a2), (0, a3), (0, 1), (0, (v84408 - 97)), (0, (a1 + 2)), (9, 0), (9, 0)]) (Nat.le_of_ble_eq_true rfl) rfl ?_
          refine ev_aload_n rfl ?_
          refine ev_iload rfl ?_
          refine ev_in (d := (d + 1)) (a := 0) (b := 0) (cd' := c264_0) (m := 2) (L0 := [(2, 42), (0, (a1 + 2))]) (jcall_v (A := [(0, (a1 + 2))]) (S' := []) (r := 42) rfl (g.lt ad42) (g.tg ad42) (Nat.le_of_ble_eq_true rfl)) (by decide) ml264 pp264 (Nat.le_of_ble_eq_true rfl) rfl (by decide) (by decide) ?_
          refine ev_iload_n rfl ?_
          refine ev_aload_n rfl ?_
          refine g_getv (r := 42) (v := w2) g ad42 (by decide) ft12_17 (ew2) ?_
          refine ev_icmpge f264_17 (fun c84420 => ?_) (fun c84420 => ?_)
          · refine ev_iconst ?_
            refine ev_ret rfl (by decide) (by decide) ?_
            show jEv _ _ _ _ _ _ _ (_, [(2, 42), (0, a1), (0, a2), (0, a3), (0, 1), (0, (v84408 - 97)), (0, (a1 + 2)), (9, 0), (9, 0)], [(0, (-1))], _, _, _)
            refine ev_bipush ?_
            refine ev_icmpne f271_61 (fun c84421 => ?_) (fun c84421 => absurd c84421 (by omega))
            refine ev_aload_n rfl ?_
            refine ev_iload rfl ?_
            refine ev_in (d := (d + 1)) (a := 0) (b := 0) (cd' := c266_0) (m := 2) (L0 := [(2, 42), (0, (a1 + 2))]) (jcall_v (A := [(0, (a1 + 2))]) (S' := []) (r := 42) rfl (g.lt ad42) (g.tg ad42) (Nat.le_of_ble_eq_true rfl)) (by decide) ml266 pp266 (Nat.le_of_ble_eq_true rfl) rfl (by decide) (by decide) ?_
            refine ev_aload_n rfl ?_
            refine ev_iload_n rfl ?_
            refine g_putf (r := 42) g ad42 (by decide) ft12_20 (by decide) (fun e => absurd e nz12_20) rf42_20 (by decide) (by omega) (by omega) (fun h84422 e84422 g84422 => ?_)
            have k84422 := k0.wr e84422 rfl
            refine ev_iconst ?_
            refine ev_ret rfl (by decide) (by decide) ?_
            show jEv _ _ _ _ _ _ _ (_, [(2, 42), (0, a1), (0, a2), (0, a3), (0, 1), (0, (v84408 - 97)), (0, (a1 + 2)), (9, 0), (9, 0)], [(0, (-1))], _, _, _)
            exact ev_ret rfl (by decide) (by decide) ⟨⟨_, rfl, by omega, by omega, g84422, k84422⟩, fun r hr h0 => by cases hr; exfalso; omega, fun r hr => by cases hr; exact ⟨_, (((jw_ne e84422 (Or.inr (by decide))).trans ew1)), by omega, by omega, (Fr.kp (Fr.rf _ _) ((Kp.rf [(42, 0)] _).wr e84422 rfl) (fun _ => rfl) (fun _ => rfl) (fun _ => rfl) (fun _ => rfl)), fun h0 => by exfalso; omega, fun h0 => by exfalso; omega⟩, fun r hr => by cases hr; exact (Bd.M (bd_rF (p := a1 + 2) (tuN_2 (by rw [(bR_at (p := (a1 + 1)) k84422 (fun _ => rfl) ew2 (((jw_ne e84422 (Or.inl (by decide))).trans ev84408)) (by omega) (by omega))] <;> omega) (by omega) (by rw [show h.2.2 42 1 = v84409 from (k84422.v rfl).symm.trans (((jw_ne e84422 (Or.inr (by decide))).trans ev84409))]; omega) (fun z => absurd ((show bt a2 (v84408 - 97) = v84418 by unfold bt; rw [ev84417, ev84418]).symm.trans z) (by omega)) (Or.inl (fun z => absurd ((bR_end (p := (a1 + 2)) ew2 (by omega)).symm.trans z) (by omega)))) (by omega) (by omega)) ((jw_eq e84422)))⟩
          · refine ev_aload_n rfl ?_
            refine g_getp (r := 42) (c := 54) g ad42 (by decide) (by decide) rf42_16 ft12_16 ?_
            refine ev_iload_n rfl ?_
            refine g_bald g ad54 rt54 (by omega) (by omega) (fun v84423 ev84423 lv84423 uv84423 => ?_)
            refine ev_goto f264_18 ?_
            refine ev_ret rfl (by decide) (by decide) ?_
            show jEv _ _ _ _ _ _ _ (_, [(2, 42), (0, a1), (0, a2), (0, a3), (0, 1), (0, (v84408 - 97)), (0, (a1 + 2)), (9, 0), (9, 0)], [(0, v84423)], _, _, _)
            refine ev_bipush ?_
            refine ev_icmpne f271_61 (fun c84424 => ?_) (fun c84424 => ?_)
            · refine ev_aload_n rfl ?_
              refine ev_iload rfl ?_
              refine ev_in (d := (d + 1)) (a := 0) (b := 0) (cd' := c266_0) (m := 2) (L0 := [(2, 42), (0, (a1 + 2))]) (jcall_v (A := [(0, (a1 + 2))]) (S' := []) (r := 42) rfl (g.lt ad42) (g.tg ad42) (Nat.le_of_ble_eq_true rfl)) (by decide) ml266 pp266 (Nat.le_of_ble_eq_true rfl) rfl (by decide) (by decide) ?_
              refine ev_aload_n rfl ?_
              refine ev_iload_n rfl ?_
              refine g_putf (r := 42) g ad42 (by decide) ft12_20 (by decide) (fun e => absurd e nz12_20) rf42_20 (by decide) (by omega) (by omega) (fun h84425 e84425 g84425 => ?_)
              have k84425 := k0.wr e84425 rfl
              refine ev_iconst ?_
              refine ev_ret rfl (by decide) (by decide) ?_
              show jEv _ _ _ _ _ _ _ (_, [(2, 42), (0, a1), (0, a2), (0, a3), (0, 1), (0, (v84408 - 97)), (0, (a1 + 2)), (9, 0), (9, 0)], [(0, (-1))], _, _, _)
              exact ev_ret rfl (by decide) (by decide) ⟨⟨_, rfl, by omega, by omega, g84425, k84425⟩, fun r hr h0 => by cases hr; exfalso; omega, fun r hr => by cases hr; exact ⟨_, (((jw_ne e84425 (Or.inr (by decide))).trans ew1)), by omega, by omega, (Fr.kp (Fr.rf _ _) ((Kp.rf [(42, 0)] _).wr e84425 rfl) (fun _ => rfl) (fun _ => rfl) (fun _ => rfl) (fun _ => rfl)), fun h0 => by exfalso; omega, fun h0 => by exfalso; omega⟩, fun r hr => by cases hr; exact (Bd.M (bd_rF (p := a1 + 2) (tuN_2 (by rw [(bR_at (p := (a1 + 1)) k84425 (fun _ => rfl) ew2 (((jw_ne e84425 (Or.inl (by decide))).trans ev84408)) (by omega) (by omega))] <;> omega) (by omega) (by rw [show h.2.2 42 1 = v84409 from (k84425.v rfl).symm.trans (((jw_ne e84425 (Or.inr (by decide))).trans ev84409))]; omega) (fun z => absurd ((show bt a2 (v84408 - 97) = v84418 by unfold bt; rw [ev84417, ev84418]).symm.trans z) (by omega)) (Or.inl (fun z => absurd ((bR_at (p := (a1 + 2)) k84425 (fun _ => rfl) ew2 (((jw_ne e84425 (Or.inl (by decide))).trans ev84423)) (by omega) (by omega)).symm.trans z) (by omega)))) (by omega) (by omega)) ((jw_eq e84425)))⟩
            · refine ev_iload_n rfl ?_
              refine ev_bipush ?_
              refine ev_icmpne f271_68 (fun c84426 => ?_) (fun c84426 => ?_)
              · refine ev_aload_n rfl ?_
                refine ev_iload rfl ?_
                refine ev_iconst ?_
                refine ev_iload rfl ?_
                refine ev_in (d := (d + 1)) (a := 0) (b := 0) (cd' := c267_0) (m := 6) (L0 := [(2, 42), (0, 1), (0, 2), (0, (v84408 - 97)), (9, 0), (9, 0)]) (jcall_v (A := [(0, (v84408 - 97)), (0, 2), (0, 1)]) (S' := []) (r := 42) rfl (g.lt ad42) (g.tg ad42) (Nat.le_of_ble_eq_true rfl)) (by decide) ml267 pp267 (Nat.le_of_ble_eq_true rfl) rfl (by decide) (by decide) ?_
                refine ev_iload_n rfl ?_
                refine ev_ifne f267_6 (fun c84427 => ?_) (fun c84427 => absurd c84427 (by omega))
                refine ev_aload_n rfl ?_
                refine ev_dup (by decide) ?_
                refine g_getv (r := 42) (v := w1) g ad42 (by decide) ft12_21 (ew1) ?_
                refine ev_iconst ?_
                refine ev_iadd (r := (w1 + 1)) (by unfold w32; omega) ?_
                refine g_putf (r := 42) g ad42 (by decide) ft12_21 (by decide) (fun e => absurd e nz12_21) rf42_21 (by decide) (by omega) (by omega) (fun h84428 e84428 g84428 => ?_)
                have k84428 := k0.wr e84428 rfl
                refine ev_aload_n rfl ?_
                refine g_getv (r := 42) (v := (w1 + 1)) g84428 ad42 (by decide) ft12_21 ((jw_eq e84428)) ?_
                refine ev_bipush ?_
                refine ev_icmple f267_27 (fun c84429 => ?_) (fun c84429 => absurd c84429 (by omega))
                refine ev_bipush ?_
                refine ev_aload_n rfl ?_
                refine g_getv (r := 42) (v := w0) g84428 ad42 (by decide) ft12_9 (((jw_ne e84428 (Or.inr (by decide))).trans ew0)) ?_
                refine ev_imul (r := (100 * w0)) (by unfold w32; omega) ?_
                refine ev_aload_n rfl ?_
                refine g_getv (r := 42) (v := (w1 + 1)) g84428 ad42 (by decide) ft12_21 ((jw_eq e84428)) ?_
                refine ev_iadd (r := (100 * w0 + w1 + 1)) (by unfold w32; omega) ?_
                refine ev_iconst ?_
                refine ev_isub (r := (100 * w0 + w1)) (by unfold w32; omega) ?_
                refine ev_istore (L' := [(2, 42), (0, 1), (0, 2), (0, (v84408 - 97)), (0, (100 * w0 + w1)), (9, 0)]) (Nat.le_of_ble_eq_true rfl) rfl ?_
                refine ev_aload_n rfl ?_
                refine g_getp (r := 42) (c := 49) g84428 ad42 (by decide) (by decide) rf42_11 ft12_11 ?_
                refine ev_iload rfl ?_
                refine ev_iload_n rfl ?_
                refine ev_i2b (r := 2) (by unfold w8; omega) ?_
                refine ev_bastG (r := 49) (j := ((100 * w0 + w1)).toNat) (w := 2) (g84428.lt ad49) (g84428.tg ad49) (by omega) (by rw [g84428.ln ad49]; omega) (by unfold w8; omega) (fun h84430 e84430 => ?_)
                have g84430 := g84428.s49 e84430 (by rw [(((jw_ne e84428 (Or.inr (by decide))).trans ew0))]; omega) (by omega) (by omega)
                have k84430 := k84428.wr e84430 rfl
                refine ev_aload_n rfl ?_
                refine g_getp (r := 42) (c := 50) g84430 ad42 (by decide) (by decide) rf42_12 ft12_12 ?_
                refine ev_iload rfl ?_
                refine ev_iload_n rfl ?_
                refine ev_iastG (r := 50) (j := ((100 * w0 + w1)).toNat) (g84430.lt ad50) (g84430.tg ad50) (by omega) (by rw [g84430.ln ad50]; omega) (fun h84431 e84431 => ?_)
                have g84431 := g84430.s50 e84431 (Or.inl (by rw [(((jw_ne e84430 (Or.inl (by decide))).trans ((jw_ne e84428 (Or.inr (by decide))).trans ew0)))]; omega)) (by omega) (by omega)
                have k84431 := k84430.wr e84431 rfl
                refine ev_aload_n rfl ?_
                refine g_getp (r := 42) (c := 53) g84431 ad42 (by decide) (by decide) rf42_15 ft12_15 ?_
                refine ev_iload rfl ?_
                refine ev_iconst ?_
                refine ev_bastG (r := 53) (j := ((100 * w0 + w1)).toNat) (w := 0) (g84431.lt ad53) (g84431.tg ad53) (by omega) (by rw [g84431.ln ad53]; omega) (by unfold w8; omega) (fun h84432 e84432 => ?_)
                have g84432 := g84431.s53 e84432 (Or.inl (by rw [(((jw_ne e84431 (Or.inl (by decide))).trans ((jw_ne e84430 (Or.inl (by decide))).trans ((jw_ne e84428 (Or.inr (by decide))).trans ew0))))]; omega)) (by omega) (by omega)
                have k84432 := k84431.wr e84432 rfl
                refine ev_iconst ?_
                refine ev_istore (L' := [(2, 42), (0, 1), (0, 2), (0, (v84408 - 97)), (0, (100 * w0 + w1)), (0, 0)]) (Nat.le_of_ble_eq_true rfl) rfl ?_
                refine ev_iload rfl ?_
                refine ev_iconst ?_
                refine ev_icmpge f267_109 (fun c84433 => absurd c84433 (by omega)) (fun c84433 => ?_)
                refine ev_aload_n rfl ?_
                refine g_getp (r := 42) (c := 51) g84432 ad42 (by decide) (by decide) rf42_13 ft12_13 ?_
                refine ev_iconst ?_
                refine ev_iload rfl ?_
                refine ev_imul (r := (400 * w0 + 4 * w1)) (by unfold w32; omega) ?_
                refine ev_iload rfl ?_
                refine ev_iadd (r := (400 * w0 + 4 * w1)) (by unfold w32; omega) ?_
                refine ev_iconst ?_
                refine ev_bastG (r := 51) (j := ((400 * w0 + 4 * w1)).toNat) (w := (-1)) (g84432.lt ad51) (g84432.tg ad51) (by omega) (by rw [g84432.ln ad51]; omega) (by unfold w8; omega) (fun h84434 e84434 => ?_)
                have g84434 := g84432.s51 e84434 (by rw [(((jw_ne e84432 (Or.inl (by decide))).trans ((jw_ne e84431 (Or.inl (by decide))).trans ((jw_ne e84430 (Or.inl (by decide))).trans ((jw_ne e84428 (Or.inr (by decide))).trans ew0)))))]; omega) (by omega) (by omega)
                have k84434 := k84432.wr e84434 rfl
                refine ev_aload_n rfl ?_
                refine g_getp (r := 42) (c := 52) g84434 ad42 (by decide) (by decide) rf42_14 ft12_14 ?_
                refine ev_iconst ?_
                refine ev_iload rfl ?_
                refine ev_imul (r := (400 * w0 + 4 * w1)) (by unfold w32; omega) ?_
                refine ev_iload rfl ?_
                refine ev_iadd (r := (400 * w0 + 4 * w1)) (by unfold w32; omega) ?_
                refine ev_iconst ?_
                refine g_iast g84434 ad52 rt52 (fun _ => rfl) (by omega) (by omega) (by omega) (by omega) (fun h84435 e84435 g84435 => ?_)
                have k84435 := k84434.wr e84435 rfl
                refine ev_iinc (w := 1) (L' := [(2, 42), (0, 1), (0, 2), (0, (v84408 - 97)), (0, (100 * w0 + w1)), (0, 1)]) rfl (by decide) rfl ?_
                refine ev_goto f267_71 ?_
                refine ev_iload rfl ?_
                refine ev_iconst ?_
                refine ev_icmpge f267_109 (fun c84436 => absurd c84436 (by omega)) (fun c84436 => ?_)
                refine ev_aload_n rfl ?_
                refine g_getp (r := 42) (c := 51) g84435 ad42 (by decide) (by decide) rf42_13 ft12_13 ?_
                refine ev_iconst ?_
                refine ev_iload rfl ?_
                refine ev_imul (r := (400 * w0 + 4 * w1)) (by unfold w32; omega) ?_
                refine ev_iload rfl ?_
                refine ev_iadd (r := (400 * w0 + 4 * w1 + 1)) (by unfold w32; omega) ?_
                refine ev_iconst ?_
                refine ev_bastG (r := 51) (j := ((400 * w0 + 4 * w1 + 1)).toNat) (w := (-1)) (g84435.lt ad51) (g84435.tg ad51) (by omega) (by rw [g84435.ln ad51]; omega) (by unfold w8; omega) (fun h84437 e84437 => ?_)
                have g84437 := g84435.s51 e84437 (by rw [(((jw_ne e84435 (Or.inl (by decide))).trans ((jw_ne e84434 (Or.inl (by decide))).trans ((jw_ne e84432 (Or.inl (by decide))).trans ((jw_ne e84431 (Or.inl (by decide))).trans ((jw_ne e84430 (Or.inl (by decide))).trans ((jw_ne e84428 (Or.inr (by decide))).trans ew0)))))))]; omega) (by omega) (by omega)
                have k84437 := k84435.wr e84437 rfl
                refine ev_aload_n rfl ?_
                refine g_getp (r := 42) (c := 52) g84437 ad42 (by decide) (by decide) rf42_14 ft12_14 ?_
                refine ev_iconst ?_
                refine ev_iload rfl ?_
                refine ev_imul (r := (400 * w0 + 4 * w1)) (by unfold w32; omega) ?_
                refine ev_iload rfl ?_
                refine ev_iadd (r := (400 * w0 + 4 * w1 + 1)) (by unfold w32; omega) ?_
                refine ev_iconst ?_
                refine g_iast g84437 ad52 rt52 (fun _ => rfl) (by omega) (by omega) (by omega) (by omega) (fun h84438 e84438 g84438 => ?_)
                have k84438 := k84437.wr e84438 rfl
                refine ev_iinc (w := 2) (L' := [(2, 42), (0, 1), (0, 2), (0, (v84408 - 97)), (0, (100 * w0 + w1)), (0, 2)]) rfl (by decide) rfl ?_
                refine ev_goto f267_71 ?_
                refine ev_iload rfl ?_
                refine ev_iconst ?_
                refine ev_icmpge f267_109 (fun c84439 => absurd c84439 (by omega)) (fun c84439 => ?_)
                refine ev_aload_n rfl ?_
                refine g_getp (r := 42) (c := 51) g84438 ad42 (by decide) (by decide) rf42_13 ft12_13 ?_
                refine ev_iconst ?_
                refine ev_iload rfl ?_
                refine ev_imul (r := (400 * w0 + 4 * w1)) (by unfold w32; omega) ?_
                refine ev_iload rfl ?_
                refine ev_iadd (r := (400 * w0 + 4 * w1 + 2)) (by unfold w32; omega) ?_
                refine ev_iconst ?_
                refine ev_bastG (r := 51) (j := ((400 * w0 + 4 * w1 + 2)).toNat) (w := (-1)) (g84438.lt ad51) (g84438.tg ad51) (by omega) (by rw [g84438.ln ad51]; omega) (by unfold w8; omega) (fun h84440 e84440 => ?_)
                have g84440 := g84438.s51 e84440 (by rw [(((jw_ne e84438 (Or.inl (by decide))).trans ((jw_ne e84437 (Or.inl (by decide))).trans ((jw_ne e84435 (Or.inl (by decide))).trans ((jw_ne e84434 (Or.inl (by decide))).trans ((jw_ne e84432 (Or.inl (by decide))).trans ((jw_ne e84431 (Or.inl (by decide))).trans ((jw_ne e84430 (Or.inl (by decide))).trans ((jw_ne e84428 (Or.inr (by decide))).trans ew0)))))))))]; omega) (by omega) (by omega)
                have k84440 := k84438.wr e84440 rfl
                refine ev_aload_n rfl ?_
                refine g_getp (r := 42) (c := 52) g84440 ad42 (by decide) (by decide) rf42_14 ft12_14 ?_
                refine ev_iconst ?_
                refine ev_iload rfl ?_
                refine ev_imul (r := (400 * w0 + 4 * w1)) (by unfold w32; omega) ?_
                refine ev_iload rfl ?_
                refine ev_iadd (r := (400 * w0 + 4 * w1 + 2)) (by unfold w32; omega) ?_
                refine ev_iconst ?_
                refine g_iast g84440 ad52 rt52 (fun _ => rfl) (by omega) (by omega) (by omega) (by omega) (fun h84441 e84441 g84441 => ?_)
                have k84441 := k84440.wr e84441 rfl
                refine ev_iinc (w := 3) (L' := [(2, 42), (0, 1), (0, 2), (0, (v84408 - 97)), (0, (100 * w0 + w1)), (0, 3)]) rfl (by decide) rfl ?_
                refine ev_goto f267_71 ?_
                refine ev_iload rfl ?_
                refine ev_iconst ?_
                refine ev_icmpge f267_109 (fun c84442 => absurd c84442 (by omega)) (fun c84442 => ?_)
                refine ev_aload_n rfl ?_
                refine g_getp (r := 42) (c := 51) g84441 ad42 (by decide) (by decide) rf42_13 ft12_13 ?_
                refine ev_iconst ?_
                refine ev_iload rfl ?_
                refine ev_imul (r := (400 * w0 + 4 * w1)) (by unfold w32; omega) ?_
                refine ev_iload rfl ?_
                refine ev_iadd (r := (400 * w0 + 4 * w1 + 3)) (by unfold w32; omega) ?_
                refine ev_iconst ?_
                refine ev_bastG (r := 51) (j := ((400 * w0 + 4 * w1 + 3)).toNat) (w := (-1)) (g84441.lt ad51) (g84441.tg ad51) (by omega) (by rw [g84441.ln ad51]; omega) (by unfold w8; omega) (fun h84443 e84443 => ?_)
                have g84443 := g84441.s51 e84443 (by rw [(((jw_ne e84441 (Or.inl (by decide))).trans ((jw_ne e84440 (Or.inl (by decide))).trans ((jw_ne e84438 (Or.inl (by decide))).trans ((jw_ne e84437 (Or.inl (by decide))).trans ((jw_ne e84435 (Or.inl (by decide))).trans ((jw_ne e84434 (Or.inl (by decide))).trans ((jw_ne e84432 (Or.inl (by decide))).trans ((jw_ne e84431 (Or.inl (by decide))).trans ((jw_ne e84430 (Or.inl (by decide))).trans ((jw_ne e84428 (Or.inr (by decide))).trans ew0)))))))))))]; omega) (by omega) (by omega)
                have k84443 := k84441.wr e84443 rfl
                refine ev_aload_n rfl ?_
                refine g_getp (r := 42) (c := 52) g84443 ad42 (by decide) (by decide) rf42_14 ft12_14 ?_
                refine ev_iconst ?_
                refine ev_iload rfl ?_
                refine ev_imul (r := (400 * w0 + 4 * w1)) (by unfold w32; omega) ?_
                refine ev_iload rfl ?_
                refine ev_iadd (r := (400 * w0 + 4 * w1 + 3)) (by unfold w32; omega) ?_
                refine ev_iconst ?_
                refine g_iast g84443 ad52 rt52 (fun _ => rfl) (by omega) (by omega) (by omega) (by omega) (fun h84444 e84444 g84444 => ?_)
                have k84444 := k84443.wr e84444 rfl
                refine ev_iinc (w := 4) (L' := [(2, 42), (0, 1), (0, 2), (0, (v84408 - 97)), (0, (100 * w0 + w1)), (0, 4)]) rfl (by decide) rfl ?_
                refine ev_goto f267_71 ?_
                refine ev_iload rfl ?_
                refine ev_iconst ?_
                refine ev_icmpge f267_109 (fun c84445 => ?_) (fun c84445 => absurd c84445 (by omega))
                refine ev_iload rfl ?_
                refine ev_ret rfl (by decide) (by decide) ?_
                show jEv _ _ _ _ _ _ _ (_, [(2, 42), (0, a1), (0, a2), (0, a3), (0, 1), (0, (v84408 - 97)), (0, (a1 + 2)), (9, 0), (9, 0)], [(0, (100 * w0 + w1))], _, _, _)
                refine ev_istore (L' := [(2, 42), (0, a1), (0, a2), (0, a3), (0, 1), (0, (v84408 - 97)), (0, (a1 + 2)), (0, (100 * w0 + w1)), (9, 0)]) (Nat.le_of_ble_eq_true rfl) rfl ?_
                refine ev_iinc (w := (a1 + 3)) (L' := [(2, 42), (0, a1), (0, a2), (0, a3), (0, 1), (0, (v84408 - 97)), (0, (a1 + 3)), (0, (100 * w0 + w1)), (9, 0)]) rfl (by unfold w32; omega) rfl ?_
                refine ev_iconst ?_
                refine ev_istore (L' := [(2, 42), (0, a1), (0, a2), (0, a3), (0, 1), (0, (v84408 - 97)), (0, (a1 + 3)), (0, (100 * w0 + w1)), (0, 0)]) (Nat.le_of_ble_eq_true rfl) rfl ?_
                obtain ⟨v84446, ev84446, lv84446, uv84446⟩ := g84444.rd ad43 (show ((v84408 - 97)).toNat < 4 by omega) (rt43 _)
                have xv84446 := (g84444.ex.2.1 ((v84408 - 97) : Int).toNat (by rw [(((jw_ne e84444 (Or.inl (by decide))).trans ((jw_ne e84443 (Or.inl (by decide))).trans ((jw_ne e84441 (Or.inl (by decide))).trans ((jw_ne e84440 (Or.inl (by decide))).trans ((jw_ne e84438 (Or.inl (by decide))).trans ((jw_ne e84437 (Or.inl (by decide))).trans ((jw_ne e84435 (Or.inl (by decide))).trans ((jw_ne e84434 (Or.inl (by decide))).trans ((jw_ne e84432 (Or.inl (by decide))).trans ((jw_ne e84431 (Or.inl (by decide))).trans ((jw_ne e84430 (Or.inl (by decide))).trans ((jw_ne e84428 (Or.inr (by decide))).trans ev84409)))))))))))))]; omega))
                rw [ev84446] at xv84446
                exact (t271i_s_l ll0 ul0 lb0 ub0 la1 ua1 la2 ua2 la3 ua3 ew0 lw0 uw0 ew1 lw1 uw1 ew2 lw2 uw2 F0 hI hL hb hS hK hq hN hq3 hM hd rih 8) _ _ _ _ _ _ _ g84444 k84444 (by omega) (by omega) (by omega) (by omega) (by omega) (by omega) (by omega) (by omega) (by omega) (by omega) (by omega) (by omega) (by omega) (by omega) (by omega) (((jw_ne e84444 (Or.inl (by decide))).trans ((jw_ne e84443 (Or.inl (by decide))).trans ((jw_ne e84441 (Or.inl (by decide))).trans ((jw_ne e84440 (Or.inl (by decide))).trans ((jw_ne e84438 (Or.inl (by decide))).trans ((jw_ne e84437 (Or.inl (by decide))).trans ((jw_ne e84435 (Or.inl (by decide))).trans ((jw_ne e84434 (Or.inl (by decide))).trans ((jw_ne e84432 (Or.inl (by decide))).trans ((jw_ne e84431 (Or.inl (by decide))).trans ((jw_ne e84430 (Or.inl (by decide))).trans (jw_eq e84428))))))))))))) (by omega) (by omega) (((jw_ne e84444 (Or.inl (by decide))).trans ((jw_ne e84443 (Or.inl (by decide))).trans ((jw_ne e84441 (Or.inl (by decide))).trans ((jw_ne e84440 (Or.inl (by decide))).trans ((jw_ne e84438 (Or.inl (by decide))).trans ((jw_ne e84437 (Or.inl (by decide))).trans ((jw_ne e84435 (Or.inl (by decide))).trans ((jw_ne e84434 (Or.inl (by decide))).trans ((jw_ne e84432 (Or.inl (by decide))).trans ((jw_ne e84431 (Or.inl (by decide))).trans ((jw_ne e84430 (Or.inl (by decide))).trans ((jw_ne e84428 (Or.inr (by decide))).trans ev84409))))))))))))) (by omega) (by omega) ev84446 (by omega) (by omega) (Ad.step (r' := (a1 + 3)) (Ad.step (r' := (a1 + 2)) (Ad.step (r' := (a1 + 1)) (Ad.rf _ _ _) (by omega) k84444 (fun _ => rfl) (((jw_ne e84444 (Or.inl (by decide))).trans ((jw_ne e84443 (Or.inl (by decide))).trans ((jw_ne e84441 (Or.inl (by decide))).trans ((jw_ne e84440 (Or.inl (by decide))).trans ((jw_ne e84438 (Or.inl (by decide))).trans ((jw_ne e84437 (Or.inl (by decide))).trans ((jw_ne e84435 (Or.inl (by decide))).trans ((jw_ne e84434 (Or.inl (by decide))).trans ((jw_ne e84432 (Or.inl (by decide))).trans ((jw_ne e84431 (Or.inl (by decide))).trans ((jw_ne e84430 (Or.inl (by decide))).trans ((jw_ne e84428 (Or.inl (by decide))).trans hq3))))))))))))) (by omega) (by omega) (by omega)) (by omega) k84444 (fun _ => rfl) (((jw_ne e84444 (Or.inl (by decide))).trans ((jw_ne e84443 (Or.inl (by decide))).trans ((jw_ne e84441 (Or.inl (by decide))).trans ((jw_ne e84440 (Or.inl (by decide))).trans ((jw_ne e84438 (Or.inl (by decide))).trans ((jw_ne e84437 (Or.inl (by decide))).trans ((jw_ne e84435 (Or.inl (by decide))).trans ((jw_ne e84434 (Or.inl (by decide))).trans ((jw_ne e84432 (Or.inl (by decide))).trans ((jw_ne e84431 (Or.inl (by decide))).trans ((jw_ne e84430 (Or.inl (by decide))).trans ((jw_ne e84428 (Or.inl (by decide))).trans ev84408))))))))))))) (by omega) (by omega) (by omega)) (by omega) k84444 (fun _ => rfl) (((jw_ne e84444 (Or.inl (by decide))).trans ((jw_ne e84443 (Or.inl (by decide))).trans ((jw_ne e84441 (Or.inl (by decide))).trans ((jw_ne e84440 (Or.inl (by decide))).trans ((jw_ne e84438 (Or.inl (by decide))).trans ((jw_ne e84437 (Or.inl (by decide))).trans ((jw_ne e84435 (Or.inl (by decide))).trans ((jw_ne e84434 (Or.inl (by decide))).trans ((jw_ne e84432 (Or.inl (by decide))).trans ((jw_ne e84431 (Or.inl (by decide))).trans ((jw_ne e84430 (Or.inl (by decide))).trans ((jw_ne e84428 (Or.inl (by decide))).trans ev84423))))))))))))) (by omega) (by omega) (by omega)) (Mb.start _ _ (by omega)) (Fr.kp (Fr.w (i := (400 * w0 + 4 * w1 + 3)) (Fr.kp (Fr.w (i := (400 * w0 + 4 * w1 + 2)) (Fr.kp (Fr.w (i := (400 * w0 + 4 * w1 + 1)) (Fr.kp (Fr.w (i := (400 * w0 + 4 * w1)) (Fr.w (i := (100 * w0 + w1)) (Fr.w (i := (100 * w0 + w1)) (Fr.w (i := (100 * w0 + w1)) (Fr.kp (Fr.rf _ _) ((Kp.rf [(42, 0)] _).wr e84428 rfl) (fun _ => rfl) (fun _ => rfl) (fun _ => rfl) (fun _ => rfl)) e84430 (by omega) (by omega)) e84431 (by omega) (by omega)) e84432 (by omega) (by omega)) e84434 (by omega) (by omega)) ((Kp.rf [(52, 0)] _).wr e84435 rfl) (fun _ => rfl) (fun _ => rfl) (fun _ => rfl) (fun _ => rfl)) e84437 (by omega) (by omega)) ((Kp.rf [(52, 0)] _).wr e84438 rfl) (fun _ => rfl) (fun _ => rfl) (fun _ => rfl) (fun _ => rfl)) e84440 (by omega) (by omega)) ((Kp.rf [(52, 0)] _).wr e84441 rfl) (fun _ => rfl) (fun _ => rfl) (fun _ => rfl) (fun _ => rfl)) e84443 (by omega) (by omega)) ((Kp.rf [(52, 0)] _).wr e84444 rfl) (fun _ => rfl) (fun _ => rfl) (fun _ => rfl) (fun _ => rfl)) (PC.start (i := (100 * w0 + w1)) (by omega) (by omega) (by omega) (((jw_ne e84444 (Or.inl (by decide))).trans ((jw_ne e84443 (Or.inl (by decide))).trans ((jw_ne e84441 (Or.inl (by decide))).trans ((jw_ne e84440 (Or.inl (by decide))).trans ((jw_ne e84438 (Or.inl (by decide))).trans ((jw_ne e84437 (Or.inl (by decide))).trans ((jw_ne e84435 (Or.inl (by decide))).trans ((jw_ne e84434 (Or.inl (by decide))).trans ((jw_ne e84432 (Or.inl (by decide))).trans ((jw_ne e84431 (Or.inl (by decide))).trans (jw_eq e84430)))))))))))) (fun _ => (((jw_ne e84444 (Or.inl (by decide))).trans ((jw_ne e84443 (Or.inl (by decide))).trans ((jw_ne e84441 (Or.inl (by decide))).trans ((jw_ne e84440 (Or.inl (by decide))).trans ((jw_ne e84438 (Or.inl (by decide))).trans ((jw_ne e84437 (Or.inl (by decide))).trans ((jw_ne e84435 (Or.inl (by decide))).trans ((jw_ne e84434 (Or.inl (by decide))).trans ((jw_ne e84432 (Or.inl (by decide))).trans (jw_eq e84431)))))))))))) (((jw_ne e84444 (Or.inl (by decide))).trans ((jw_ne e84443 (Or.inl (by decide))).trans ((jw_ne e84441 (Or.inl (by decide))).trans ((jw_ne e84440 (Or.inl (by decide))).trans ((jw_ne e84438 (Or.inl (by decide))).trans ((jw_ne e84437 (Or.inl (by decide))).trans ((jw_ne e84435 (Or.inl (by decide))).trans ((jw_ne e84434 (Or.inl (by decide))).trans (jw_eq e84432)))))))))) (by omega)) (Sk.not hS (by omega) ev84417 ev84418 (by omega)) (tq_start (by omega) (by omega) (by omega)) (tuN_3 (y := v84446) (by rw [(bR_at (p := (a1 + 1)) k84444 (fun _ => rfl) ew2 (((jw_ne e84444 (Or.inl (by decide))).trans ((jw_ne e84443 (Or.inl (by decide))).trans ((jw_ne e84441 (Or.inl (by decide))).trans ((jw_ne e84440 (Or.inl (by decide))).trans ((jw_ne e84438 (Or.inl (by decide))).trans ((jw_ne e84437 (Or.inl (by decide))).trans ((jw_ne e84435 (Or.inl (by decide))).trans ((jw_ne e84434 (Or.inl (by decide))).trans ((jw_ne e84432 (Or.inl (by decide))).trans ((jw_ne e84431 (Or.inl (by decide))).trans ((jw_ne e84430 (Or.inl (by decide))).trans ((jw_ne e84428 (Or.inl (by decide))).trans ev84408))))))))))))) (by omega) (by omega))] <;> omega) (by omega) (by rw [show h.2.2 42 1 = v84409 from (k84444.v rfl).symm.trans (((jw_ne e84444 (Or.inl (by decide))).trans ((jw_ne e84443 (Or.inl (by decide))).trans ((jw_ne e84441 (Or.inl (by decide))).trans ((jw_ne e84440 (Or.inl (by decide))).trans ((jw_ne e84438 (Or.inl (by decide))).trans ((jw_ne e84437 (Or.inl (by decide))).trans ((jw_ne e84435 (Or.inl (by decide))).trans ((jw_ne e84434 (Or.inl (by decide))).trans ((jw_ne e84432 (Or.inl (by decide))).trans ((jw_ne e84431 (Or.inl (by decide))).trans ((jw_ne e84430 (Or.inl (by decide))).trans ((jw_ne e84428 (Or.inr (by decide))).trans ev84409)))))))))))))]; omega) (fun z => absurd ((show bt a2 (v84408 - 97) = v84418 by unfold bt; rw [ev84417, ev84418]).symm.trans z) (by omega)) ((bR_at (p := (a1 + 2)) k84444 (fun _ => rfl) ew2 (((jw_ne e84444 (Or.inl (by decide))).trans ((jw_ne e84443 (Or.inl (by decide))).trans ((jw_ne e84441 (Or.inl (by decide))).trans ((jw_ne e84440 (Or.inl (by decide))).trans ((jw_ne e84438 (Or.inl (by decide))).trans ((jw_ne e84437 (Or.inl (by decide))).trans ((jw_ne e84435 (Or.inl (by decide))).trans ((jw_ne e84434 (Or.inl (by decide))).trans ((jw_ne e84432 (Or.inl (by decide))).trans ((jw_ne e84431 (Or.inl (by decide))).trans ((jw_ne e84430 (Or.inl (by decide))).trans ((jw_ne e84428 (Or.inl (by decide))).trans ev84423))))))))))))) (by omega) (by omega)).trans (by omega)) (by omega) (yR_at k84444 (fun _ => rfl) rfl (((jw_ne e84444 (Or.inl (by decide))).trans ((jw_ne e84443 (Or.inl (by decide))).trans ((jw_ne e84441 (Or.inl (by decide))).trans ((jw_ne e84440 (Or.inl (by decide))).trans ((jw_ne e84438 (Or.inl (by decide))).trans ((jw_ne e84437 (Or.inl (by decide))).trans ((jw_ne e84435 (Or.inl (by decide))).trans ((jw_ne e84434 (Or.inl (by decide))).trans ((jw_ne e84432 (Or.inl (by decide))).trans ((jw_ne e84431 (Or.inl (by decide))).trans ((jw_ne e84430 (Or.inl (by decide))).trans ((jw_ne e84428 (Or.inr (by decide))).trans ev84409))))))))))))) (ev84446) (by omega) (by omega))) (by omega)
              · refine ev_aload_n rfl ?_
                refine ev_iload rfl ?_
                refine ev_in (d := (d + 1)) (a := 0) (b := 0) (cd' := c266_0) (m := 2) (L0 := [(2, 42), (0, (a1 + 2))]) (jcall_v (A := [(0, (a1 + 2))]) (S' := []) (r := 42) rfl (g.lt ad42) (g.tg ad42) (Nat.le_of_ble_eq_true rfl)) (by decide) ml266 pp266 (Nat.le_of_ble_eq_true rfl) rfl (by decide) (by decide) ?_
                refine ev_aload_n rfl ?_
                refine ev_iload_n rfl ?_
                refine g_putf (r := 42) g ad42 (by decide) ft12_20 (by decide) (fun e => absurd e nz12_20) rf42_20 (by decide) (by omega) (by omega) (fun h84447 e84447 g84447 => ?_)
                have k84447 := k0.wr e84447 rfl
                refine ev_iconst ?_
                refine ev_ret rfl (by decide) (by decide) ?_
                show jEv _ _ _ _ _ _ _ (_, [(2, 42), (0, a1), (0, a2), (0, a3), (0, 1), (0, (v84408 - 97)), (0, (a1 + 2)), (9, 0), (9, 0)], [(0, (-1))], _, _, _)
                exact ev_ret rfl (by decide) (by decide) ⟨⟨_, rfl, by omega, by omega, g84447, k84447⟩, fun r hr h0 => by cases hr; exfalso; omega, fun r hr => by cases hr; exact ⟨_, (((jw_ne e84447 (Or.inr (by decide))).trans ew1)), by omega, by omega, (Fr.kp (Fr.rf _ _) ((Kp.rf [(42, 0)] _).wr e84447 rfl) (fun _ => rfl) (fun _ => rfl) (fun _ => rfl) (fun _ => rfl)), fun h0 => by exfalso; omega, fun h0 => by exfalso; omega⟩, fun r hr => by cases hr; exact (Bd.M (bd_rF (p := a1 + 2) (tuN_2 (by rw [(bR_at (p := (a1 + 1)) k84447 (fun _ => rfl) ew2 (((jw_ne e84447 (Or.inl (by decide))).trans ev84408)) (by omega) (by omega))] <;> omega) (by omega) (by rw [show h.2.2 42 1 = v84409 from (k84447.v rfl).symm.trans (((jw_ne e84447 (Or.inr (by decide))).trans ev84409))]; omega) (fun z => absurd ((show bt a2 (v84408 - 97) = v84418 by unfold bt; rw [ev84417, ev84418]).symm.trans z) (by omega)) (Or.inr (by omega))) (by omega) (by omega)) ((jw_eq e84447)))⟩
        · refine ev_aload_n rfl ?_
          refine ev_iload_n rfl ?_
          refine ev_iconst ?_
          refine ev_iadd (r := (a1 + 1)) (by unfold w32; omega) ?_
          refine ev_in (d := (d + 1)) (a := 0) (b := 0) (cd' := c266_0) (m := 2) (L0 := [(2, 42), (0, (a1 + 1))]) (jcall_v (A := [(0, (a1 + 1))]) (S' := []) (r := 42) rfl (g.lt ad42) (g.tg ad42) (Nat.le_of_ble_eq_true rfl)) (by decide) ml266 pp266 (Nat.le_of_ble_eq_true rfl) rfl (by decide) (by decide) ?_
          refine ev_aload_n rfl ?_
          refine ev_iload_n rfl ?_
          refine g_putf (r := 42) g ad42 (by decide) ft12_20 (by decide) (fun e => absurd e nz12_20) rf42_20 (by decide) (by omega) (by omega) (fun h84448 e84448 g84448 => ?_)
          have k84448 := k0.wr e84448 rfl
          refine ev_iconst ?_
          refine ev_ret rfl (by decide) (by decide) ?_
          show jEv _ _ _ _ _ _ _ (_, [(2, 42), (0, a1), (0, a2), (0, a3), (0, 1), (0, (v84408 - 97)), (9, 0), (9, 0), (9, 0)], [(0, (-1))], _, _, _)
          exact ev_ret rfl (by decide) (by decide) ⟨⟨_, rfl, by omega, by omega, g84448, k84448⟩, fun r hr h0 => by cases hr; exfalso; omega, fun r hr => by cases hr; exact ⟨_, (((jw_ne e84448 (Or.inr (by decide))).trans ew1)), by omega, by omega, (Fr.kp (Fr.rf _ _) ((Kp.rf [(42, 0)] _).wr e84448 rfl) (fun _ => rfl) (fun _ => rfl) (fun _ => rfl) (fun _ => rfl)), fun h0 => by exfalso; omega, fun h0 => by exfalso; omega⟩, fun r hr => by cases hr; exact (Bd.M (bd_rF (p := a1 + 1) (tuN_1 (bR_at (p := (a1 + 1)) k84448 (fun _ => rfl) ew2 (((jw_ne e84448 (Or.inl (by decide))).trans ev84408)) (by omega) (by omega)) (Or.inr (by rw [show v84408 - 97 = (v84408 - 97) by omega]; show jand (jshr a2 (v84408 - 97)) 1 = 1; rw [ev84417, ev84418]; omega))) (by omega) (by omega)) ((jw_eq e84448)))⟩
set_option maxHeartbeats 4000000 in
theorem t272i_s {G : GH} {h : JH} (g : Gd G h) {l0 : Int} (ll0 : 0 ≤ l0) (ul0 : l0 ≤ 6) {b0 : Int} (lb0 : 1 ≤ b0) (ub0 : b0 ≤ 30000000) {a1 : Int} (la1 : 0 ≤ a1) (ua1 : a1 ≤ 202) {a2 : Int} (la2 : 0 ≤ a2) (ua2 : a2 ≤ 15) {a3 : Int} (la3 : 0 ≤ a3) (ua3 : a3 ≤ 12) {w0 : Int} (ew0 : h.2.2 42 9 = w0) (lw0 : 0 ≤ w0) (uw0 : w0 ≤ 5) {w1 : Int} (ew1 : h.2.2 42 21 = w1) (lw1 : 0 ≤ w1) (uw1 : w1 ≤ 99) {w2 : Int} (ew2 : h.2.2 42 17 = w2) (lw2 : 0 ≤ w2) (uw2 : w2 ≤ 200) (F0 : (b0 + w1) ≤ 200000000) {S : List Nat} {K : Int → Int × Int × Int} {q : Nat} (hI : Iv h) (hL : Lv h l0 a1) (hb : NB a3 = b0) (hS : Sk a2 S) (hK : KoR h K) (hq : 13 - a3 = q) (hN : h.2.2 42 1 ≤ 4) {M : Int} (hM : M = (7 * a3 - l0)) {d : Nat} (hd : 371 ≤ d) (rih : ∀ {G : GH} {h : JH} (g : Gd G h) {l0 : Int} (ll0 : 0 ≤ l0) (ul0 : l0 ≤ 6) {b0 : Int} (lb0 : 1 ≤ b0) (ub0 : b0 ≤ 30000000) {a1 : Int} (la1 : 0 ≤ a1) (ua1 : a1 ≤ 202) {a2 : Int} (la2 : 0 ≤ a2) (ua2 : a2 ≤ 15) {a3 : Int} (la3 : 0 ≤ a3) (ua3 : a3 ≤ 12) {w0 : Int} (ew0 : h.2.2 42 9 = w0) (lw0 : 0 ≤ w0) (uw0 : w0 ≤ 5) {w1 : Int} (ew1 : h.2.2 42 21 = w1) (lw1 : 0 ≤ w1) (uw1 : w1 ≤ 99) {w2 : Int} (ew2 : h.2.2 42 17 = w2) (lw2 : 0 ≤ w2) (uw2 : w2 ≤ 200) (F0 : (b0 + w1) ≤ 200000000) {S : List Nat} {K : Int → Int × Int × Int} {q : Nat} (hI : Iv h) (hL : Lv h l0 a1) (hb : NB a3 = b0) (hS : Sk a2 S) (hK : KoR h K) (hq : 13 - a3 = q) (hN : h.2.2 42 1 ≤ 4) (hm : M + 1 ≤ (7 * a3 - l0)), jOk d 0 0 272 [(2, 42), (0, a1), (0, a2), (0, a3), (0, 1)] h (fun v h' => PI G [(42, 21), (42, 22), (49, 0), (50, 0), (51, 0), (52, 0), (53, 0)] h 0 (-1) 200 v h' ∧ (∀ r, v = some (0, r) → 0 ≤ r → Ad h l0 a1 r) ∧ (∀ r, v = some (0, r) → RI h h' w0 w1 a3 b0 S r) ∧ (∀ r, v = some (0, r) → RdM (bR h) h' w1 (RQ h K q a2 a3 a1) r))) : jOk (d + 4) 0 0 272 [(2, 42), (0, a1), (0, a2), (0, a3), (0, 1)] h (fun v h' => PI G [(42, 21), (42, 22), (49, 0), (50, 0), (51, 0), (52, 0), (53, 0)] h 0 (-1) 200 v h' ∧ (∀ r, v = some (0, r) → 0 ≤ r → Ad h l0 a1 r) ∧ (∀ r, v = some (0, r) → RI h h' w0 w1 a3 b0 S r) ∧ (∀ r, v = some (0, r) → RdM (bR h) h' w1 (RQ h K q a2 a3 a1) r)) := by
  refine ⟨by decide, by rw [ml272]; exact Nat.le_of_ble_eq_true rfl, ?_⟩
  rw [ml272, pp272]
  show jEv _ none _ c272_0 0 0 _ (c272_0, [(2, 42), (0, a1), (0, a2), (0, a3), (0, 1), (9, 0), (9, 0)], [], h, 0, 0)
  have k0 := Kp.rf [(42, 21), (42, 22), (49, 0), (50, 0), (51, 0), (52, 0), (53, 0)] h
  refine ev_aload_n rfl ?_
  refine ev_iload_n rfl ?_
  refine ev_in (d := (d + 2)) (a := 0) (b := 0) (cd' := c264_0) (m := 2) (L0 := [(2, 42), (0, a1)]) (jcall_v (A := [(0, a1)]) (S' := []) (r := 42) rfl (g.lt ad42) (g.tg ad42) (Nat.le_of_ble_eq_true rfl)) (by decide) ml264 pp264 (Nat.le_of_ble_eq_true rfl) rfl (by decide) (by decide) ?_
  refine ev_iload_n rfl ?_
  refine ev_aload_n rfl ?_
  refine g_getv (r := 42) (v := w2) g ad42 (by decide) ft12_17 (ew2) ?_
  refine ev_icmpge f264_17 (fun c84553 => ?_) (fun c84553 => ?_)
  · refine ev_iconst ?_
    refine ev_ret rfl (by decide) (by decide) ?_
    show jEv _ _ _ _ _ _ _ (_, [(2, 42), (0, a1), (0, a2), (0, a3), (0, 1), (9, 0), (9, 0)], [(0, (-1))], _, _, _)
    refine ev_istore (L' := [(2, 42), (0, a1), (0, a2), (0, a3), (0, 1), (0, (-1)), (9, 0)]) (Nat.le_of_ble_eq_true rfl) rfl ?_
    refine ev_iload rfl ?_
    refine ev_bipush ?_
    refine ev_icmpne f272_24 (fun c84554 => ?_) (fun c84554 => absurd c84554 (by omega))
    refine ev_iload rfl ?_
    refine ev_bipush ?_
    refine ev_icmpne f272_41 (fun c84555 => ?_) (fun c84555 => absurd c84555 (by omega))
    refine ev_iload rfl ?_
    refine ev_bipush ?_
    refine ev_icmpeq f272_56 (fun c84556 => absurd c84556 (by omega)) (fun c84556 => ?_)
    refine ev_aload_n rfl ?_
    refine ev_iload_n rfl ?_
    refine ev_in (d := (d + 2)) (a := 0) (b := 0) (cd' := c265_0) (m := 2) (L0 := [(2, 42), (0, a1)]) (jcall_v (A := [(0, a1)]) (S' := []) (r := 42) rfl (g.lt ad42) (g.tg ad42) (Nat.le_of_ble_eq_true rfl)) (by decide) ml265 pp265 (Nat.le_of_ble_eq_true rfl) rfl (by decide) (by decide) ?_
    refine ev_aload_n rfl ?_
    refine ev_iload_n rfl ?_
    refine ev_in (d := (d + 1)) (a := 0) (b := 0) (cd' := c264_0) (m := 2) (L0 := [(2, 42), (0, a1)]) (jcall_v (A := [(0, a1)]) (S' := []) (r := 42) rfl (g.lt ad42) (g.tg ad42) (Nat.le_of_ble_eq_true rfl)) (by decide) ml264 pp264 (Nat.le_of_ble_eq_true rfl) rfl (by decide) (by decide) ?_
    refine ev_iload_n rfl ?_
    refine ev_aload_n rfl ?_
    refine g_getv (r := 42) (v := w2) g ad42 (by decide) ft12_17 (ew2) ?_
    refine ev_icmpge f264_17 (fun c84557 => ?_) (fun c84557 => absurd c84557 (by omega))
    refine ev_iconst ?_
    refine ev_ret rfl (by decide) (by decide) ?_
    show jEv _ _ _ _ _ _ _ (_, [(2, 42), (0, a1)], [(0, (-1))], _, _, _)
    refine ev_bipush ?_
    refine ev_bipush ?_
    refine ev_in (d := (d + 1)) (a := 0) (b := 0) (cd' := c242_0) (m := 3) (L0 := [(0, (-1)), (0, 48), (0, 57)]) (jcall_s (A := [(0, 57), (0, 48), (0, (-1))]) (S' := []) (by decide) rfl (Nat.le_of_ble_eq_true rfl)) (by decide) ml242 pp242 (Nat.le_of_ble_eq_true rfl) rfl (by decide) (by decide) ?_
    refine ev_iload_n rfl ?_
    refine ev_iload_n rfl ?_
    refine ev_icmplt f242_14 (fun c84558 => ?_) (fun c84558 => absurd c84558 (by omega))
    refine ev_iconst ?_
    refine ev_ret rfl (by decide) (by decide) ?_
    show jEv _ _ _ _ _ _ _ (_, [(2, 42), (0, a1)], [(0, 0)], _, _, _)
    refine ev_ret rfl (by decide) (by decide) ?_
    show jEv _ _ _ _ _ _ _ (_, [(2, 42), (0, a1), (0, a2), (0, a3), (0, 1), (0, (-1)), (9, 0)], [(0, 0)], _, _, _)
    refine ev_ifeq f272_64 (fun c84559 => ?_) (fun c84559 => absurd c84559 (by omega))
    refine ev_iload rfl ?_
    refine ev_bipush ?_
    refine ev_isub (r := (-66)) (by decide) ?_
    refine ev_istore (L' := [(2, 42), (0, a1), (0, a2), (0, a3), (0, 1), (0, (-1)), (0, (-66))]) (Nat.le_of_ble_eq_true rfl) rfl ?_
    refine ev_iload rfl ?_
    refine ev_iconst ?_
    refine ev_aload_n rfl ?_
    obtain ⟨v84560, ev84560, lv84560, uv84560⟩ := g.rd ad42 (show 19 < 66 by decide) rf42_19
    refine g_getv (r := 42) (v := v84560) g ad42 (by decide) ft12_19 ev84560 ?_
    refine ev_iconst ?_
    refine ev_isub (r := (v84560 - 1)) (by unfold w32; omega) ?_
    refine ev_in (d := (d + 2)) (a := 0) (b := 0) (cd' := c242_0) (m := 3) (L0 := [(0, (-66)), (0, 0), (0, (v84560 - 1))]) (jcall_s (A := [(0, (v84560 - 1)), (0, 0), (0, (-66))]) (S' := []) (by decide) rfl (Nat.le_of_ble_eq_true rfl)) (by decide) ml242 pp242 (Nat.le_of_ble_eq_true rfl) rfl (by decide) (by decide) ?_
    refine ev_iload_n rfl ?_
    refine ev_iload_n rfl ?_
    refine ev_icmplt f242_14 (fun c84561 => ?_) (fun c84561 => absurd c84561 (by omega))
    refine ev_iconst ?_
    refine ev_ret rfl (by decide) (by decide) ?_
    show jEv _ _ _ _ _ _ _ (_, [(2, 42), (0, a1), (0, a2), (0, a3), (0, 1), (0, (-1)), (0, (-66))], [(0, 0)], _, _, _)
    refine ev_ifne f272_92 (fun c84562 => absurd c84562 (by omega)) (fun c84562 => ?_)
    refine ev_aload_n rfl ?_
    refine ev_iload_n rfl ?_
    refine ev_in (d := (d + 2)) (a := 0) (b := 0) (cd' := c266_0) (m := 2) (L0 := [(2, 42), (0, a1)]) (jcall_v (A := [(0, a1)]) (S' := []) (r := 42) rfl (g.lt ad42) (g.tg ad42) (Nat.le_of_ble_eq_true rfl)) (by decide) ml266 pp266 (Nat.le_of_ble_eq_true rfl) rfl (by decide) (by decide) ?_
    refine ev_aload_n rfl ?_
    refine ev_iload_n rfl ?_
    refine g_putf (r := 42) g ad42 (by decide) ft12_20 (by decide) (fun e => absurd e nz12_20) rf42_20 (by decide) (by omega) (by omega) (fun h84563 e84563 g84563 => ?_)
    have k84563 := k0.wr e84563 rfl
    refine ev_iconst ?_
    refine ev_ret rfl (by decide) (by decide) ?_
    show jEv _ _ _ _ _ _ _ (_, [(2, 42), (0, a1), (0, a2), (0, a3), (0, 1), (0, (-1)), (0, (-66))], [(0, (-1))], _, _, _)
    exact ev_ret rfl (by decide) (by decide) ⟨⟨_, rfl, by omega, by omega, g84563, k84563⟩, fun r hr h0 => by cases hr; exfalso; omega, fun r hr => by cases hr; exact ⟨_, (((jw_ne e84563 (Or.inr (by decide))).trans ew1)), by omega, by omega, (Fr.kp (Fr.rf _ _) ((Kp.rf [(42, 0)] _).wr e84563 rfl) (fun _ => rfl) (fun _ => rfl) (fun _ => rfl) (fun _ => rfl)), fun h0 => by exfalso; omega, fun h0 => by exfalso; omega⟩, fun r hr => by cases hr; exact (Bd.M (bd_rF (p := a1) (nocap (by omega) (by omega) (bR_end (p := a1) ew2 (by omega)) (by omega) (by omega) (by omega) (by omega) (by rw [(show h.2.2 42 19 = v84560 from (k84563.v rfl).symm.trans (((jw_ne e84563 (Or.inr (by decide))).trans ev84560)))]; omega)) (by omega) (by omega)) ((jw_eq e84563)))⟩
  · refine ev_aload_n rfl ?_
    refine g_getp (r := 42) (c := 54) g ad42 (by decide) (by decide) rf42_16 ft12_16 ?_
    refine ev_iload_n rfl ?_
    refine g_bald g ad54 rt54 (by omega) (by omega) (fun v84564 ev84564 lv84564 uv84564 => ?_)
    refine ev_goto f264_18 ?_
    refine ev_ret rfl (by decide) (by decide) ?_
    show jEv _ _ _ _ _ _ _ (_, [(2, 42), (0, a1), (0, a2), (0, a3), (0, 1), (9, 0), (9, 0)], [(0, v84564)], _, _, _)
    refine ev_istore (L' := [(2, 42), (0, a1), (0, a2), (0, a3), (0, 1), (0, v84564), (9, 0)]) (Nat.le_of_ble_eq_true rfl) rfl ?_
    refine ev_iload rfl ?_
    refine ev_bipush ?_
    refine ev_icmpne f272_24 (fun c84565 => ?_) (fun c84565 => ?_)
    · refine ev_iload rfl ?_
      refine ev_bipush ?_
      refine ev_icmpne f272_41 (fun c84566 => ?_) (fun c84566 => ?_)
      · refine ev_iload rfl ?_
        refine ev_bipush ?_
        refine ev_icmpeq f272_56 (fun c84567 => ?_) (fun c84567 => ?_)
        · refine ev_aload_n rfl ?_
          refine ev_iload_n rfl ?_
          refine ev_iload rfl ?_
          refine ev_call (jcall_v (A := [(0, 1), (0, a1)]) (S' := []) (r := 42) rfl (g.lt ad42) (g.tg ad42) (Nat.le_of_ble_eq_true rfl)) (jOk_le (by omega) (t269i g (by omega) (by omega) (by omega) (by omega) (by omega) (by omega) (by omega) (by omega) (ew0) (by omega) (by omega) (ew1) (by omega) (by omega) (ew2) (by omega) (by omega) (l0 := l0) (b0 := b0) (k0 := a3) (by omega)  (S := S))) (by decide) (by decide) (fun w84568 h84568 q84568 => ?_)
          obtain ⟨q84568, ad84568, ro84568, nr84568⟩ := q84568
          obtain ⟨v84569, rfl, lv84569, uv84569, g84568, kk84568⟩ := q84568
          have ad84568 := ad84568 _ rfl
          have nr84568 := nr84568 _ rfl
          obtain ⟨m84570, em84570, lm84570, um84570, fr84568, pm84568, tr84568⟩ := ro84568 _ rfl
          have k84568 := k0.tr kk84568 (by decide)
          show jEv _ _ _ _ _ _ _ (_, [(2, 42), (0, a1), (0, a2), (0, a3), (0, 1), (0, v84564), (9, 0)], [(0, v84569)], _, _, _)
          exact ev_ret rfl (by decide) (by decide) ⟨⟨_, rfl, by omega, by omega, g84568, k84568⟩, fun r hr h0 => by cases hr; exact ad84568 h0, fun r hr => by cases hr; exact ⟨_, (em84570), by omega, by omega, (Fr.tr (Fr.rf _ _) fr84568 (by omega)), fun h0 => by have := pm84568 (by omega); omega, fun h0 hm => tr84568 h0 hm⟩, fun r hr => by cases hr; exact (show _ from by rw [show (RQ h K q a2 a3 a1) = _ from ((((rd_s (B := bR h) (N := h.2.2 42 1) (Y := yR h) (m := h.2.2 42 19) (K := K) (q := q) (by omega) a2 a3 a1).trans (if_neg (fun z => absurd ((bR_at (p := a1) k84568 (fun _ => rfl) ew2 (((kk84568.v rfl).trans ev84564)) (by omega) (by omega)).symm.trans z) (by omega)))).trans (if_neg (fun z => absurd ((bR_at (p := a1) k84568 (fun _ => rfl) ew2 (((kk84568.v rfl).trans ev84564)) (by omega) (by omega)).symm.trans z) (by omega)))).trans (if_neg (fun z => by rw [(bR_at (p := a1) k84568 (fun _ => rfl) ew2 (((kk84568.v rfl).trans ev84564)) (by omega) (by omega))] at z; omega)))]; exact nr84568)⟩
        · refine ev_aload_n rfl ?_
          refine ev_iload_n rfl ?_
          refine ev_in (d := (d + 2)) (a := 0) (b := 0) (cd' := c265_0) (m := 2) (L0 := [(2, 42), (0, a1)]) (jcall_v (A := [(0, a1)]) (S' := []) (r := 42) rfl (g.lt ad42) (g.tg ad42) (Nat.le_of_ble_eq_true rfl)) (by decide) ml265 pp265 (Nat.le_of_ble_eq_true rfl) rfl (by decide) (by decide) ?_
          refine ev_aload_n rfl ?_
          refine ev_iload_n rfl ?_
          refine ev_in (d := (d + 1)) (a := 0) (b := 0) (cd' := c264_0) (m := 2) (L0 := [(2, 42), (0, a1)]) (jcall_v (A := [(0, a1)]) (S' := []) (r := 42) rfl (g.lt ad42) (g.tg ad42) (Nat.le_of_ble_eq_true rfl)) (by decide) ml264 pp264 (Nat.le_of_ble_eq_true rfl) rfl (by decide) (by decide) ?_
          refine ev_iload_n rfl ?_
          refine ev_aload_n rfl ?_
          refine g_getv (r := 42) (v := w2) g ad42 (by decide) ft12_17 (ew2) ?_
          refine ev_icmpge f264_17 (fun c84571 => absurd c84571 (by omega)) (fun c84571 => ?_)
          refine ev_aload_n rfl ?_
          refine g_getp (r := 42) (c := 54) g ad42 (by decide) (by decide) rf42_16 ft12_16 ?_
          refine ev_iload_n rfl ?_
          refine g_baldv (v := v84564) g ad54 (by omega) (by omega) (ev84564) ?_
          refine ev_goto f264_18 ?_
          refine ev_ret rfl (by decide) (by decide) ?_
          show jEv _ _ _ _ _ _ _ (_, [(2, 42), (0, a1)], [(0, v84564)], _, _, _)
          refine ev_bipush ?_
          refine ev_bipush ?_
          refine ev_in (d := (d + 1)) (a := 0) (b := 0) (cd' := c242_0) (m := 3) (L0 := [(0, v84564), (0, 48), (0, 57)]) (jcall_s (A := [(0, 57), (0, 48), (0, v84564)]) (S' := []) (by decide) rfl (Nat.le_of_ble_eq_true rfl)) (by decide) ml242 pp242 (Nat.le_of_ble_eq_true rfl) rfl (by decide) (by decide) ?_
          refine ev_iload_n rfl ?_
          refine ev_iload_n rfl ?_
          refine ev_icmplt f242_14 (fun c84572 => ?_) (fun c84572 => ?_)
          · refine ev_iconst ?_
            refine ev_ret rfl (by decide) (by decide) ?_
            show jEv _ _ _ _ _ _ _ (_, [(2, 42), (0, a1)], [(0, 0)], _, _, _)
            refine ev_ret rfl (by decide) (by decide) ?_
            show jEv _ _ _ _ _ _ _ (_, [(2, 42), (0, a1), (0, a2), (0, a3), (0, 1), (0, v84564), (9, 0)], [(0, 0)], _, _, _)
            refine ev_ifeq f272_64 (fun c84573 => ?_) (fun c84573 => absurd c84573 (by omega))
            refine ev_iload rfl ?_
            refine ev_bipush ?_
            refine ev_isub (r := (v84564 - 65)) (by unfold w32; omega) ?_
            refine ev_istore (L' := [(2, 42), (0, a1), (0, a2), (0, a3), (0, 1), (0, v84564), (0, (v84564 - 65))]) (Nat.le_of_ble_eq_true rfl) rfl ?_
            refine ev_iload rfl ?_
            refine ev_iconst ?_
            refine ev_aload_n rfl ?_
            obtain ⟨v84574, ev84574, lv84574, uv84574⟩ := g.rd ad42 (show 19 < 66 by decide) rf42_19
            refine g_getv (r := 42) (v := v84574) g ad42 (by decide) ft12_19 ev84574 ?_
            refine ev_iconst ?_
            refine ev_isub (r := (v84574 - 1)) (by unfold w32; omega) ?_
            refine ev_in (d := (d + 2)) (a := 0) (b := 0) (cd' := c242_0) (m := 3) (L0 := [(0, (v84564 - 65)), (0, 0), (0, (v84574 - 1))]) (jcall_s (A := [(0, (v84574 - 1)), (0, 0), (0, (v84564 - 65))]) (S' := []) (by decide) rfl (Nat.le_of_ble_eq_true rfl)) (by decide) ml242 pp242 (Nat.le_of_ble_eq_true rfl) rfl (by decide) (by decide) ?_
            refine ev_iload_n rfl ?_
            refine ev_iload_n rfl ?_
            refine ev_icmplt f242_14 (fun c84575 => ?_) (fun c84575 => absurd c84575 (by omega))
            refine ev_iconst ?_
            refine ev_ret rfl (by decide) (by decide) ?_
            show jEv _ _ _ _ _ _ _ (_, [(2, 42), (0, a1), (0, a2), (0, a3), (0, 1), (0, v84564), (0, (v84564 - 65))], [(0, 0)], _, _, _)
            refine ev_ifne f272_92 (fun c84576 => absurd c84576 (by omega)) (fun c84576 => ?_)
            refine ev_aload_n rfl ?_
            refine ev_iload_n rfl ?_
            refine ev_in (d := (d + 2)) (a := 0) (b := 0) (cd' := c266_0) (m := 2) (L0 := [(2, 42), (0, a1)]) (jcall_v (A := [(0, a1)]) (S' := []) (r := 42) rfl (g.lt ad42) (g.tg ad42) (Nat.le_of_ble_eq_true rfl)) (by decide) ml266 pp266 (Nat.le_of_ble_eq_true rfl) rfl (by decide) (by decide) ?_
            refine ev_aload_n rfl ?_
            refine ev_iload_n rfl ?_
            refine g_putf (r := 42) g ad42 (by decide) ft12_20 (by decide) (fun e => absurd e nz12_20) rf42_20 (by decide) (by omega) (by omega) (fun h84577 e84577 g84577 => ?_)
            have k84577 := k0.wr e84577 rfl
            refine ev_iconst ?_
            refine ev_ret rfl (by decide) (by decide) ?_
            show jEv _ _ _ _ _ _ _ (_, [(2, 42), (0, a1), (0, a2), (0, a3), (0, 1), (0, v84564), (0, (v84564 - 65))], [(0, (-1))], _, _, _)
            exact ev_ret rfl (by decide) (by decide) ⟨⟨_, rfl, by omega, by omega, g84577, k84577⟩, fun r hr h0 => by cases hr; exfalso; omega, fun r hr => by cases hr; exact ⟨_, (((jw_ne e84577 (Or.inr (by decide))).trans ew1)), by omega, by omega, (Fr.kp (Fr.rf _ _) ((Kp.rf [(42, 0)] _).wr e84577 rfl) (fun _ => rfl) (fun _ => rfl) (fun _ => rfl) (fun _ => rfl)), fun h0 => by exfalso; omega, fun h0 => by exfalso; omega⟩, fun r hr => by cases hr; exact (Bd.M (bd_rF (p := a1) (nocap (by omega) (by omega) (bR_at (p := a1) k84577 (fun _ => rfl) ew2 (((jw_ne e84577 (Or.inl (by decide))).trans ev84564)) (by omega) (by omega)) (by omega) (by omega) (by omega) (by omega) (by rw [(show h.2.2 42 19 = v84574 from (k84577.v rfl).symm.trans (((jw_ne e84577 (Or.inr (by decide))).trans ev84574)))]; omega)) (by omega) (by omega)) ((jw_eq e84577)))⟩
          · refine ev_iload_n rfl ?_
            refine ev_iload_n rfl ?_
            refine ev_icmpgt f242_14 (fun c84578 => ?_) (fun c84578 => ?_)
            · refine ev_iconst ?_
              refine ev_ret rfl (by decide) (by decide) ?_
              show jEv _ _ _ _ _ _ _ (_, [(2, 42), (0, a1)], [(0, 0)], _, _, _)
              refine ev_ret rfl (by decide) (by decide) ?_
              show jEv _ _ _ _ _ _ _ (_, [(2, 42), (0, a1), (0, a2), (0, a3), (0, 1), (0, v84564), (9, 0)], [(0, 0)], _, _, _)
              refine ev_ifeq f272_64 (fun c84579 => ?_) (fun c84579 => absurd c84579 (by omega))
              refine ev_iload rfl ?_
              refine ev_bipush ?_
              refine ev_isub (r := (v84564 - 65)) (by unfold w32; omega) ?_
              refine ev_istore (L' := [(2, 42), (0, a1), (0, a2), (0, a3), (0, 1), (0, v84564), (0, (v84564 - 65))]) (Nat.le_of_ble_eq_true rfl) rfl ?_
              refine ev_iload rfl ?_
              refine ev_iconst ?_
              refine ev_aload_n rfl ?_
              obtain ⟨v84580, ev84580, lv84580, uv84580⟩ := g.rd ad42 (show 19 < 66 by decide) rf42_19
              refine g_getv (r := 42) (v := v84580) g ad42 (by decide) ft12_19 ev84580 ?_
              refine ev_iconst ?_
              refine ev_isub (r := (v84580 - 1)) (by unfold w32; omega) ?_
              refine ev_in (d := (d + 2)) (a := 0) (b := 0) (cd' := c242_0) (m := 3) (L0 := [(0, (v84564 - 65)), (0, 0), (0, (v84580 - 1))]) (jcall_s (A := [(0, (v84580 - 1)), (0, 0), (0, (v84564 - 65))]) (S' := []) (by decide) rfl (Nat.le_of_ble_eq_true rfl)) (by decide) ml242 pp242 (Nat.le_of_ble_eq_true rfl) rfl (by decide) (by decide) ?_
              refine ev_iload_n rfl ?_
              refine ev_iload_n rfl ?_
              refine ev_icmplt f242_14 (fun c84581 => ?_) (fun c84581 => ?_)
              · refine ev_iconst ?_
                refine ev_ret rfl (by decide) (by decide) ?_
                show jEv _ _ _ _ _ _ _ (_, [(2, 42), (0, a1), (0, a2), (0, a3), (0, 1), (0, v84564), (0, (v84564 - 65))], [(0, 0)], _, _, _)
                refine ev_ifne f272_92 (fun c84582 => absurd c84582 (by omega)) (fun c84582 => ?_)
                refine ev_aload_n rfl ?_
                refine ev_iload_n rfl ?_
                refine ev_in (d := (d + 2)) (a := 0) (b := 0) (cd' := c266_0) (m := 2) (L0 := [(2, 42), (0, a1)]) (jcall_v (A := [(0, a1)]) (S' := []) (r := 42) rfl (g.lt ad42) (g.tg ad42) (Nat.le_of_ble_eq_true rfl)) (by decide) ml266 pp266 (Nat.le_of_ble_eq_true rfl) rfl (by decide) (by decide) ?_
                refine ev_aload_n rfl ?_
                refine ev_iload_n rfl ?_
                refine g_putf (r := 42) g ad42 (by decide) ft12_20 (by decide) (fun e => absurd e nz12_20) rf42_20 (by decide) (by omega) (by omega) (fun h84583 e84583 g84583 => ?_)
                have k84583 := k0.wr e84583 rfl
                refine ev_iconst ?_
                refine ev_ret rfl (by decide) (by decide) ?_
                show jEv _ _ _ _ _ _ _ (_, [(2, 42), (0, a1), (0, a2), (0, a3), (0, 1), (0, v84564), (0, (v84564 - 65))], [(0, (-1))], _, _, _)
                exact ev_ret rfl (by decide) (by decide) ⟨⟨_, rfl, by omega, by omega, g84583, k84583⟩, fun r hr h0 => by cases hr; exfalso; omega, fun r hr => by cases hr; exact ⟨_, (((jw_ne e84583 (Or.inr (by decide))).trans ew1)), by omega, by omega, (Fr.kp (Fr.rf _ _) ((Kp.rf [(42, 0)] _).wr e84583 rfl) (fun _ => rfl) (fun _ => rfl) (fun _ => rfl) (fun _ => rfl)), fun h0 => by exfalso; omega, fun h0 => by exfalso; omega⟩, fun r hr => by cases hr; exact (Bd.M (bd_rF (p := a1) (nocap (by omega) (by omega) (bR_at (p := a1) k84583 (fun _ => rfl) ew2 (((jw_ne e84583 (Or.inl (by decide))).trans ev84564)) (by omega) (by omega)) (by omega) (by omega) (by omega) (by omega) (by rw [(show h.2.2 42 19 = v84580 from (k84583.v rfl).symm.trans (((jw_ne e84583 (Or.inr (by decide))).trans ev84580)))]; omega)) (by omega) (by omega)) ((jw_eq e84583)))⟩
              · refine ev_iload_n rfl ?_
                refine ev_iload_n rfl ?_
                refine ev_icmpgt f242_14 (fun c84584 => ?_) (fun c84584 => ?_)
                · refine ev_iconst ?_
                  refine ev_ret rfl (by decide) (by decide) ?_
                  show jEv _ _ _ _ _ _ _ (_, [(2, 42), (0, a1), (0, a2), (0, a3), (0, 1), (0, v84564), (0, (v84564 - 65))], [(0, 0)], _, _, _)
                  refine ev_ifne f272_92 (fun c84585 => absurd c84585 (by omega)) (fun c84585 => ?_)
                  refine ev_aload_n rfl ?_
                  refine ev_iload_n rfl ?_
                  refine ev_in (d := (d + 2)) (a := 0) (b := 0) (cd' := c266_0) (m := 2) (L0 := [(2, 42), (0, a1)]) (jcall_v (A := [(0, a1)]) (S' := []) (r := 42) rfl (g.lt ad42) (g.tg ad42) (Nat.le_of_ble_eq_true rfl)) (by decide) ml266 pp266 (Nat.le_of_ble_eq_true rfl) rfl (by decide) (by decide) ?_
                  refine ev_aload_n rfl ?_
                  refine ev_iload_n rfl ?_
                  refine g_putf (r := 42) g ad42 (by decide) ft12_20 (by decide) (fun e => absurd e nz12_20) rf42_20 (by decide) (by omega) (by omega) (fun h84586 e84586 g84586 => ?_)
                  have k84586 := k0.wr e84586 rfl
                  refine ev_iconst ?_
                  refine ev_ret rfl (by decide) (by decide) ?_
                  show jEv _ _ _ _ _ _ _ (_, [(2, 42), (0, a1), (0, a2), (0, a3), (0, 1), (0, v84564), (0, (v84564 - 65))], [(0, (-1))], _, _, _)
                  exact ev_ret rfl (by decide) (by decide) ⟨⟨_, rfl, by omega, by omega, g84586, k84586⟩, fun r hr h0 => by cases hr; exfalso; omega, fun r hr => by cases hr; exact ⟨_, (((jw_ne e84586 (Or.inr (by decide))).trans ew1)), by omega, by omega, (Fr.kp (Fr.rf _ _) ((Kp.rf [(42, 0)] _).wr e84586 rfl) (fun _ => rfl) (fun _ => rfl) (fun _ => rfl) (fun _ => rfl)), fun h0 => by exfalso; omega, fun h0 => by exfalso; omega⟩, fun r hr => by cases hr; exact (Bd.M (bd_rF (p := a1) (nocap (by omega) (by omega) (bR_at (p := a1) k84586 (fun _ => rfl) ew2 (((jw_ne e84586 (Or.inl (by decide))).trans ev84564)) (by omega) (by omega)) (by omega) (by omega) (by omega) (by omega) (by rw [(show h.2.2 42 19 = v84580 from (k84586.v rfl).symm.trans (((jw_ne e84586 (Or.inr (by decide))).trans ev84580)))]; omega)) (by omega) (by omega)) ((jw_eq e84586)))⟩
                · refine ev_iconst ?_
                  refine ev_goto f242_15 ?_
                  refine ev_ret rfl (by decide) (by decide) ?_
                  show jEv _ _ _ _ _ _ _ (_, [(2, 42), (0, a1), (0, a2), (0, a3), (0, 1), (0, v84564), (0, (v84564 - 65))], [(0, 1)], _, _, _)
                  refine ev_ifne f272_92 (fun c84587 => ?_) (fun c84587 => absurd c84587 (by omega))
                  have zc84588 := Lv.cap hL (by omega) (ev84564) (ev84580) (by omega) (by omega)
                  refine ev_aload_n rfl ?_
                  refine ev_aload_n rfl ?_
                  refine g_getp (r := 42) (c := 55) g ad42 (by decide) (by decide) rf42_18 ft12_18 ?_
                  refine ev_iload rfl ?_
                  refine g_iald g ad55 rt55 (by omega) (by omega) (fun v84589 ev84589 lv84589 uv84589 => ?_)
                  refine ev_iload_n rfl ?_
                  refine ev_iload_n rfl ?_
                  refine ev_iload rfl ?_
                  refine ev_call (jcall_v (A := [(0, 1), (0, a3), (0, a2), (0, v84589)]) (S' := []) (r := 42) rfl (g.lt ad42) (g.tg ad42) (Nat.le_of_ble_eq_true rfl)) (jOk_le (by omega) (rih g (by omega) (by omega) (by omega) (by omega) (by omega) (by omega) (by omega) (by omega) (by omega) (by omega) (ew0) (by omega) (by omega) (ew1) (by omega) (by omega) (ew2) (by omega) (by omega) (l0 := (v84564 - 65)) (b0 := b0) (by omega) hI (Iv.lv hI (by omega) (ev84580) (by omega) (by omega) (ev84589)) hb hS (K := K) (q := q) hK hq hN (by omega))) (by decide) (by decide) (fun w84590 h84590 q84590 => ?_)
                  obtain ⟨q84590, ad84590, ro84590, nr84590⟩ := q84590
                  obtain ⟨v84591, rfl, lv84591, uv84591, g84590, kk84590⟩ := q84590
                  have ad84590 := ad84590 _ rfl
                  have nr84590 := nr84590 _ rfl
                  obtain ⟨m84592, em84592, lm84592, um84592, fr84590, pm84590, tr84590⟩ := ro84590 _ rfl
                  have k84590 := k0.tr kk84590 (by decide)
                  show jEv _ _ _ _ _ _ _ (_, [(2, 42), (0, a1), (0, a2), (0, a3), (0, 1), (0, v84564), (0, (v84564 - 65))], [(0, v84591)], _, _, _)
                  refine ev_ifge f272_116 (fun c84593 => ?_) (fun c84593 => ?_)
                  · refine ev_iload_n rfl ?_
                    refine ev_iconst ?_
                    refine ev_iadd (r := (a1 + 1)) (by unfold w32; omega) ?_
                    exact ev_ret rfl (by decide) (by decide) ⟨⟨_, rfl, by omega, by omega, g84590, k84590⟩, fun r hr h0 => by cases hr; exact (Ad.step (r' := (a1 + 1)) (Ad.rf _ _ _) (by omega) k84590 (fun _ => rfl) (((kk84590.v rfl).trans ev84564)) (by omega) (by omega) (by omega)), fun r hr => by cases hr; exact ⟨_, (em84592), by omega, by omega, (Fr.tr (Fr.rf _ _) fr84590 (by omega)), fun h0 => by have := pm84590 (by omega); omega, fun h0 hm => tr84590 (by omega) hm⟩, fun r hr => by cases hr; exact okM (((((rd_s (B := bR h) (N := h.2.2 42 1) (Y := yR h) (m := h.2.2 42 19) (K := K) (q := q) (by omega) a2 a3 a1).trans (if_neg (fun z => absurd ((bR_at (p := a1) k84590 (fun _ => rfl) ew2 (((kk84590.v rfl).trans ev84564)) (by omega) (by omega)).symm.trans z) (by omega)))).trans (if_neg (fun z => absurd ((bR_at (p := a1) k84590 (fun _ => rfl) ew2 (((kk84590.v rfl).trans ev84564)) (by omega) (by omega)).symm.trans z) (by omega)))).trans (if_pos ⟨by rw [(bR_at (p := a1) k84590 (fun _ => rfl) ew2 (((kk84590.v rfl).trans ev84564)) (by omega) (by omega))]; omega, by rw [(bR_at (p := a1) k84590 (fun _ => rfl) ew2 (((kk84590.v rfl).trans ev84564)) (by omega) (by omega))]; omega⟩)).trans ((by rw [show bR h a1 - 65 = (v84564 - 65) by rw [(bR_at (p := a1) k84590 (fun _ => rfl) ew2 (((kk84590.v rfl).trans ev84564)) (by omega) (by omega))] <;> omega] : _ = cpR (h.2.2 42 19) K a2 a3 a1 ((v84564 - 65))).trans (cap_F (r := a1 + 1) hK hN (by omega) (by rw [show h.2.2 42 19 = v84580 from (k84590.v rfl).symm.trans (((kk84590.v (by decide)).trans ev84580))]; omega) (show h.2.2 55 ((v84564 - 65)).toNat = v84589 from ((k84590.v rfl).symm.trans (((kk84590.v rfl).trans ev84589)))) (by omega) (by omega) (by omega) (by omega) (by omega) (by omega) (by omega) (nr84590.ok (by omega)).1 rfl).1)) (by omega) (by omega) (em84592) (by have z := (nr84590.ok (by omega)).2.2; rw [em84592, (cap_F (r := a1 + 1) hK hN (by omega) (by rw [show h.2.2 42 19 = v84580 from (k84590.v rfl).symm.trans (((kk84590.v (by decide)).trans ev84580))]; omega) (show h.2.2 55 ((v84564 - 65)).toNat = v84589 from ((k84590.v rfl).symm.trans (((kk84590.v rfl).trans ev84589)))) (by omega) (by omega) (by omega) (by omega) (by omega) (by omega) (by omega) (nr84590.ok (by omega)).1 rfl).2] at z; exact z)⟩
                  · refine ev_aload_n rfl ?_
                    refine ev_iload_n rfl ?_
                    refine ev_in (d := (d + 2)) (a := 0) (b := 0) (cd' := c266_0) (m := 2) (L0 := [(2, 42), (0, a1)]) (jcall_v (A := [(0, a1)]) (S' := []) (r := 42) rfl (g84590.lt ad42) (g84590.tg ad42) (Nat.le_of_ble_eq_true rfl)) (by decide) ml266 pp266 (Nat.le_of_ble_eq_true rfl) rfl (by decide) (by decide) ?_
                    refine ev_aload_n rfl ?_
                    refine ev_iload_n rfl ?_
                    refine g_putf (r := 42) g84590 ad42 (by decide) ft12_20 (by decide) (fun e => absurd e nz12_20) rf42_20 (by decide) (by omega) (by omega) (fun h84594 e84594 g84594 => ?_)
                    have k84594 := k84590.wr e84594 rfl
                    refine ev_iconst ?_
                    refine ev_ret rfl (by decide) (by decide) ?_
                    show jEv _ _ _ _ _ _ _ (_, [(2, 42), (0, a1), (0, a2), (0, a3), (0, 1), (0, v84564), (0, (v84564 - 65))], [(0, (-1))], _, _, _)
                    exact ev_ret rfl (by decide) (by decide) ⟨⟨_, rfl, by omega, by omega, g84594, k84594⟩, fun r hr h0 => by cases hr; exfalso; omega, fun r hr => by cases hr; exact ⟨_, (((jw_ne e84594 (Or.inr (by decide))).trans em84592)), by omega, by omega, (Fr.kp (Fr.tr (Fr.rf _ _) fr84590 (by omega)) ((Kp.rf [(42, 0)] _).wr e84594 rfl) (fun _ => rfl) (fun _ => rfl) (fun _ => rfl) (fun _ => rfl)), fun h0 => by exfalso; omega, fun h0 => by exfalso; omega⟩, fun r hr => by cases hr; exact (Bd.M (bd_to (((((rd_s (B := bR h) (N := h.2.2 42 1) (Y := yR h) (m := h.2.2 42 19) (K := K) (q := q) (by omega) a2 a3 a1).trans (if_neg (fun z => absurd ((bR_at (p := a1) k84594 (fun _ => rfl) ew2 (((jw_ne e84594 (Or.inl (by decide))).trans ((kk84590.v rfl).trans ev84564))) (by omega) (by omega)).symm.trans z) (by omega)))).trans (if_neg (fun z => absurd ((bR_at (p := a1) k84594 (fun _ => rfl) ew2 (((jw_ne e84594 (Or.inl (by decide))).trans ((kk84590.v rfl).trans ev84564))) (by omega) (by omega)).symm.trans z) (by omega)))).trans (if_pos ⟨by rw [(bR_at (p := a1) k84594 (fun _ => rfl) ew2 (((jw_ne e84594 (Or.inl (by decide))).trans ((kk84590.v rfl).trans ev84564))) (by omega) (by omega))]; omega, by rw [(bR_at (p := a1) k84594 (fun _ => rfl) ew2 (((jw_ne e84594 (Or.inl (by decide))).trans ((kk84590.v rfl).trans ev84564))) (by omega) (by omega))]; omega⟩)).trans (by rw [show bR h a1 - 65 = (v84564 - 65) by rw [(bR_at (p := a1) k84594 (fun _ => rfl) ew2 (((jw_ne e84594 (Or.inl (by decide))).trans ((kk84590.v rfl).trans ev84564))) (by omega) (by omega))] <;> omega])) (cap_bd hK hN (by omega) (by rw [show h.2.2 42 19 = v84580 from (k84594.v rfl).symm.trans (((jw_ne e84594 (Or.inr (by decide))).trans ((kk84590.v (by decide)).trans ev84580)))]; omega) (show h.2.2 55 ((v84564 - 65)).toNat = v84589 from ((k84594.v rfl).symm.trans (((jw_ne e84594 (Or.inl (by decide))).trans ((kk84590.v rfl).trans ev84589))))) (by omega) (by omega) (by omega) (by omega) (by omega) (by omega) (by omega) (nr84590.bd (by omega)) (by omega))) ((jw_eq e84594)))⟩
            · refine ev_iconst ?_
              refine ev_goto f242_15 ?_
              refine ev_ret rfl (by decide) (by decide) ?_
              show jEv _ _ _ _ _ _ _ (_, [(2, 42), (0, a1)], [(0, 1)], _, _, _)
              refine ev_ret rfl (by decide) (by decide) ?_
              show jEv _ _ _ _ _ _ _ (_, [(2, 42), (0, a1), (0, a2), (0, a3), (0, 1), (0, v84564), (9, 0)], [(0, 1)], _, _, _)
              refine ev_ifeq f272_64 (fun c84595 => absurd c84595 (by omega)) (fun c84595 => ?_)
              refine ev_aload_n rfl ?_
              refine ev_iload_n rfl ?_
              refine ev_iload rfl ?_
              refine ev_call (jcall_v (A := [(0, 1), (0, a1)]) (S' := []) (r := 42) rfl (g.lt ad42) (g.tg ad42) (Nat.le_of_ble_eq_true rfl)) (jOk_le (by omega) (t269i g (by omega) (by omega) (by omega) (by omega) (by omega) (by omega) (by omega) (by omega) (ew0) (by omega) (by omega) (ew1) (by omega) (by omega) (ew2) (by omega) (by omega) (l0 := l0) (b0 := b0) (k0 := a3) (by omega)  (S := S))) (by decide) (by decide) (fun w84596 h84596 q84596 => ?_)
              obtain ⟨q84596, ad84596, ro84596, nr84596⟩ := q84596
              obtain ⟨v84597, rfl, lv84597, uv84597, g84596, kk84596⟩ := q84596
              have ad84596 := ad84596 _ rfl
              have nr84596 := nr84596 _ rfl
              obtain ⟨m84598, em84598, lm84598, um84598, fr84596, pm84596, tr84596⟩ := ro84596 _ rfl
              have k84596 := k0.tr kk84596 (by decide)
              show jEv _ _ _ _ _ _ _ (_, [(2, 42), (0, a1), (0, a2), (0, a3), (0, 1), (0, v84564), (9, 0)], [(0, v84597)], _, _, _)
              exact ev_ret rfl (by decide) (by decide) ⟨⟨_, rfl, by omega, by omega, g84596, k84596⟩, fun r hr h0 => by cases hr; exact ad84596 h0, fun r hr => by cases hr; exact ⟨_, (em84598), by omega, by omega, (Fr.tr (Fr.rf _ _) fr84596 (by omega)), fun h0 => by have := pm84596 (by omega); omega, fun h0 hm => tr84596 h0 hm⟩, fun r hr => by cases hr; exact (show _ from by rw [show (RQ h K q a2 a3 a1) = _ from ((((rd_s (B := bR h) (N := h.2.2 42 1) (Y := yR h) (m := h.2.2 42 19) (K := K) (q := q) (by omega) a2 a3 a1).trans (if_neg (fun z => absurd ((bR_at (p := a1) k84596 (fun _ => rfl) ew2 (((kk84596.v rfl).trans ev84564)) (by omega) (by omega)).symm.trans z) (by omega)))).trans (if_neg (fun z => absurd ((bR_at (p := a1) k84596 (fun _ => rfl) ew2 (((kk84596.v rfl).trans ev84564)) (by omega) (by omega)).symm.trans z) (by omega)))).trans (if_neg (fun z => by rw [(bR_at (p := a1) k84596 (fun _ => rfl) ew2 (((kk84596.v rfl).trans ev84564)) (by omega) (by omega))] at z; omega)))]; exact nr84596)⟩
      · refine ev_aload_n rfl ?_
        refine ev_iload_n rfl ?_
        refine ev_iload_n rfl ?_
        refine ev_iload_n rfl ?_
        refine ev_iload rfl ?_
        refine ev_call (jcall_v (A := [(0, 1), (0, a3), (0, a2), (0, a1)]) (S' := []) (r := 42) rfl (g.lt ad42) (g.tg ad42) (Nat.le_of_ble_eq_true rfl)) (jOk_le (by omega) (t271i_s g (by omega) (by omega) (by omega) (by omega) (by omega) (by omega) (by omega) (by omega) (by omega) (by omega) (ew0) (by omega) (by omega) (ew1) (by omega) (by omega) (ew2) (by omega) (by omega) (l0 := l0) (b0 := b0) (by omega) hI hL hb hS (K := K) (q := q) hK hq hN (by rw [(ev84564)]; omega)  (S := S) hM (by omega) rih)) (by decide) (by decide) (fun w84599 h84599 q84599 => ?_)
        obtain ⟨q84599, ad84599, ro84599, nr84599⟩ := q84599
        obtain ⟨v84600, rfl, lv84600, uv84600, g84599, kk84599⟩ := q84599
        have ad84599 := ad84599 _ rfl
        have nr84599 := nr84599 _ rfl
        obtain ⟨m84601, em84601, lm84601, um84601, fr84599, pm84599, tr84599⟩ := ro84599 _ rfl
        have k84599 := k0.tr kk84599 (by decide)
        show jEv _ _ _ _ _ _ _ (_, [(2, 42), (0, a1), (0, a2), (0, a3), (0, 1), (0, v84564), (9, 0)], [(0, v84600)], _, _, _)
        exact ev_ret rfl (by decide) (by decide) ⟨⟨_, rfl, by omega, by omega, g84599, k84599⟩, fun r hr h0 => by cases hr; exact ad84599 h0, fun r hr => by cases hr; exact ⟨_, (em84601), by omega, by omega, (Fr.tr (Fr.rf _ _) fr84599 (by omega)), fun h0 => by have := pm84599 (by omega); omega, fun h0 hm => tr84599 h0 hm⟩, fun r hr => by cases hr; exact (show _ from by rw [show (RQ h K q a2 a3 a1) = _ from (((rd_s (B := bR h) (N := h.2.2 42 1) (Y := yR h) (m := h.2.2 42 19) (K := K) (q := q) (by omega) a2 a3 a1).trans (if_neg (fun z => absurd ((bR_at (p := a1) k84599 (fun _ => rfl) ew2 (((kk84599.v rfl).trans ev84564)) (by omega) (by omega)).symm.trans z) (by omega)))).trans (if_pos ((bR_at (p := a1) k84599 (fun _ => rfl) ew2 (((kk84599.v rfl).trans ev84564)) (by omega) (by omega)).trans (by omega))))]; exact nr84599)⟩
    · refine ev_aload_n rfl ?_
      refine ev_iload_n rfl ?_
      refine ev_iload_n rfl ?_
      refine ev_iload_n rfl ?_
      refine ev_iload rfl ?_
      refine ev_call (jcall_v (A := [(0, 1), (0, a3), (0, a2), (0, a1)]) (S' := []) (r := 42) rfl (g.lt ad42) (g.tg ad42) (Nat.le_of_ble_eq_true rfl)) (jOk_le (by omega) (t270i_s g (by omega) (by omega) (by omega) (by omega) (by omega) (by omega) (by omega) (by omega) (by omega) (by omega) (ew0) (by omega) (by omega) (ew1) (by omega) (by omega) (ew2) (by omega) (by omega) (l0 := l0) (b0 := b0) (by omega) hI hL hb hS (K := K) (q := q) hK hq hN (by rw [(ev84564)]; omega)  (S := S) hM (by omega) rih)) (by decide) (by decide) (fun w84602 h84602 q84602 => ?_)
      obtain ⟨q84602, ad84602, ro84602, nr84602⟩ := q84602
      obtain ⟨v84603, rfl, lv84603, uv84603, g84602, kk84602⟩ := q84602
      have ad84602 := ad84602 _ rfl
      have nr84602 := nr84602 _ rfl
      obtain ⟨m84604, em84604, lm84604, um84604, fr84602, pm84602, tr84602⟩ := ro84602 _ rfl
      have k84602 := k0.tr kk84602 (by decide)
      show jEv _ _ _ _ _ _ _ (_, [(2, 42), (0, a1), (0, a2), (0, a3), (0, 1), (0, v84564), (9, 0)], [(0, v84603)], _, _, _)
      exact ev_ret rfl (by decide) (by decide) ⟨⟨_, rfl, by omega, by omega, g84602, k84602⟩, fun r hr h0 => by cases hr; exact ad84602 h0, fun r hr => by cases hr; exact ⟨_, (em84604), by omega, by omega, (Fr.tr (Fr.rf _ _) fr84602 (by omega)), fun h0 => by have := pm84602 (by omega); omega, fun h0 hm => tr84602 h0 hm⟩, fun r hr => by cases hr; exact (show _ from by rw [show (RQ h K q a2 a3 a1) = _ from ((rd_s (B := bR h) (N := h.2.2 42 1) (Y := yR h) (m := h.2.2 42 19) (K := K) (q := q) (by omega) a2 a3 a1).trans (if_pos ((bR_at (p := a1) k84602 (fun _ => rfl) ew2 (((kk84602.v rfl).trans ev84564)) (by omega) (by omega)).trans (by omega))))]; exact nr84602)⟩
theorem t272i_n (N : Nat) : ∀ {G : GH} {h : JH} (g : Gd G h) {l0 : Int} (ll0 : 0 ≤ l0) (ul0 : l0 ≤ 6) {b0 : Int} (lb0 : 1 ≤ b0) (ub0 : b0 ≤ 30000000) {a1 : Int} (la1 : 0 ≤ a1) (ua1 : a1 ≤ 202) {a2 : Int} (la2 : 0 ≤ a2) (ua2 : a2 ≤ 15) {a3 : Int} (la3 : 0 ≤ a3) (ua3 : a3 ≤ 12) {w0 : Int} (ew0 : h.2.2 42 9 = w0) (lw0 : 0 ≤ w0) (uw0 : w0 ≤ 5) {w1 : Int} (ew1 : h.2.2 42 21 = w1) (lw1 : 0 ≤ w1) (uw1 : w1 ≤ 99) {w2 : Int} (ew2 : h.2.2 42 17 = w2) (lw2 : 0 ≤ w2) (uw2 : w2 ≤ 200) (F0 : (b0 + w1) ≤ 200000000) {S : List Nat} {K : Int → Int × Int × Int} {q : Nat} (hI : Iv h) (hL : Lv h l0 a1) (hb : NB a3 = b0) (hS : Sk a2 S) (hK : KoR h K) (hq : 13 - a3 = q) (hN : h.2.2 42 1 ≤ 4) (hN2 : 85 - (7 * a3 - l0) ≤ (N : Int)), jOk (371 + 4 * N) 0 0 272 [(2, 42), (0, a1), (0, a2), (0, a3), (0, 1)] h (fun v h' => PI G [(42, 21), (42, 22), (49, 0), (50, 0), (51, 0), (52, 0), (53, 0)] h 0 (-1) 200 v h' ∧ (∀ r, v = some (0, r) → 0 ≤ r → Ad h l0 a1 r) ∧ (∀ r, v = some (0, r) → RI h h' w0 w1 a3 b0 S r) ∧ (∀ r, v = some (0, r) → RdM (bR h) h' w1 (RQ h K q a2 a3 a1) r)) := by
  induction N with
  | zero => intro G h g l0 ll0 ul0 b0 lb0 ub0 a1 la1 ua1 a2 la2 ua2 a3 la3 ua3 w0 ew0 lw0 uw0 w1 ew1 lw1 uw1 w2 ew2 lw2 uw2 F0 S K q hI hL hb hS hK hq hN hN2; exfalso; omega
  | succ N ih =>
    intro G h g l0 ll0 ul0 b0 lb0 ub0 a1 la1 ua1 a2 la2 ua2 a3 la3 ua3 w0 ew0 lw0 uw0 w1 ew1 lw1 uw1 w2 ew2 lw2 uw2 F0 S K q hI hL hb hS hK hq hN hN2
    exact jOk_le (by omega) (t272i_s g ll0 ul0 lb0 ub0 la1 ua1 la2 ua2 la3 ua3 ew0 lw0 uw0 ew1 lw1 uw1 ew2 lw2 uw2 F0 hI hL hb hS hK hq hN (M := (7 * a3 - l0)) rfl (d := 371 + 4 * N) (by omega) (fun {G} {h} g {l0} ll0 ul0 {b0} lb0 ub0 {a1} la1 ua1 {a2} la2 ua2 {a3} la3 ua3 {w0} ew0 lw0 uw0 {w1} ew1 lw1 uw1 {w2} ew2 lw2 uw2 F0 {S} {K} {q} hI hL hb hS hK hq hN hm => ih g ll0 ul0 lb0 ub0 la1 ua1 la2 ua2 la3 ua3 ew0 lw0 uw0 ew1 lw1 uw1 ew2 lw2 uw2 F0 hI hL hb hS hK hq hN (by omega)))
theorem t272i {G : GH} {h : JH} (g : Gd G h) {l0 : Int} (ll0 : 0 ≤ l0) (ul0 : l0 ≤ 6) {b0 : Int} (lb0 : 1 ≤ b0) (ub0 : b0 ≤ 30000000) {a1 : Int} (la1 : 0 ≤ a1) (ua1 : a1 ≤ 202) {a2 : Int} (la2 : 0 ≤ a2) (ua2 : a2 ≤ 15) {a3 : Int} (la3 : 0 ≤ a3) (ua3 : a3 ≤ 12) {w0 : Int} (ew0 : h.2.2 42 9 = w0) (lw0 : 0 ≤ w0) (uw0 : w0 ≤ 5) {w1 : Int} (ew1 : h.2.2 42 21 = w1) (lw1 : 0 ≤ w1) (uw1 : w1 ≤ 99) {w2 : Int} (ew2 : h.2.2 42 17 = w2) (lw2 : 0 ≤ w2) (uw2 : w2 ≤ 200) (F0 : (b0 + w1) ≤ 200000000) {S : List Nat} {K : Int → Int × Int × Int} {q : Nat} (hI : Iv h) (hL : Lv h l0 a1) (hb : NB a3 = b0) (hS : Sk a2 S) (hK : KoR h K) (hq : 13 - a3 = q) (hN : h.2.2 42 1 ≤ 4) : jOk 739 0 0 272 [(2, 42), (0, a1), (0, a2), (0, a3), (0, 1)] h (fun v h' => PI G [(42, 21), (42, 22), (49, 0), (50, 0), (51, 0), (52, 0), (53, 0)] h 0 (-1) 200 v h' ∧ (∀ r, v = some (0, r) → 0 ≤ r → Ad h l0 a1 r) ∧ (∀ r, v = some (0, r) → RI h h' w0 w1 a3 b0 S r) ∧ (∀ r, v = some (0, r) → RdM (bR h) h' w1 (RQ h K q a2 a3 a1) r)) := jOk_le (by decide) (t272i_n 92 g ll0 ul0 lb0 ub0 la1 ua1 la2 ua2 la3 ua3 ew0 lw0 uw0 ew1 lw1 uw1 ew2 lw2 uw2 F0 hI hL hb hS hK hq hN (by omega))
set_option maxHeartbeats 4000000 in
theorem t273_l {G : GH} {h : JH} {w0 : Int} (ew0 : h.2.2 42 9 = w0) (lw0 : 0 ≤ w0) (uw0 : w0 ≤ 5) (ew1 : h.2.2 42 21 = 0) {w2 : Int} (ew2 : h.2.2 42 17 = w2) (lw2 : 0 ≤ w2) (uw2 : w2 ≤ 200) : ∀ N : Nat, (∀ (h1 : JH) (x1 y0 y1 : Int) (j2 : AV), Gd G h1 → Kp [(42, 21), (42, 22), (49, 0), (50, 0), (51, 0), (52, 0), (53, 0), (42, 20), (55, 0)] h h1 → 0 ≤ x1 → x1 ≤ 200 → h1.2.2 42 19 = y0 → 0 ≤ y0 → y0 ≤ 6 → h1.2.2 42 21 = y1 → 0 ≤ y1 → y1 ≤ 0 → Iv h1 → (∃ K, KoR h1 K ∧ (TR h 6 0 K00 0) = TR h (6 - y0).toNat y0 K x1) → ((-y0) + 6) < N → jEv (jOk 739) none (fun _ => 0) c273_0 0 0 (fun v h' => PI G [(42, 21), (42, 22), (49, 0), (50, 0), (51, 0), (52, 0), (53, 0), (42, 20), (55, 0)] h 0 (-1) 200 v h' ∧ (∀ r, v = some (0, r) → RA h' w0 r) ∧ ∀ r, v = some (0, r) → TxR h' (TR h 6 0 K00 0) r) (c273_7, [(2, 42), (0, x1), j2], [], h1, 0, 0)) := by
  intro N
  induction N with
  | zero => exact fun h1 x1 y0 y1 j2 g1 k1 b0 b1 b2 b3 b4 b5 b6 b7 b8 b9 hm => absurd hm (by omega)
  | succ N ih =>
    show _
    intro h1 x1 y0 y1 j2 g1 k1 b0 b1 ey0 ly0 uy0 ey1 ly1 uy1 H0 H1 hm
    refine ev_aload_n rfl ?_
    obtain ⟨K, hK, eR⟩ := H1
    refine g_getv (r := 42) (v := y0) g1 ad42 (by decide) ft12_19 (ey0) ?_
    refine ev_bipush ?_
    refine ev_icmpge f273_112 (fun c84726 => ?_) (fun c84726 => ?_)
    · refine ev_aload_n rfl ?_
      refine ev_iload_n rfl ?_
      refine ev_iconst ?_
      refine ev_iconst ?_
      refine ev_iconst ?_
      refine ev_call (jcall_v (A := [(0, 1), (0, 0), (0, 0), (0, x1)]) (S' := []) (r := 42) rfl (g1.lt ad42) (g1.tg ad42) (Nat.le_of_ble_eq_true rfl)) (jOk_le (by decide) (t272i g1 (by omega) (by omega) (by omega) (by omega) (by omega) (by omega) (by omega) (by omega) (by omega) (by omega) (((k1.v (by decide)).trans ew0)) (by omega) (by omega) (ey1) (by omega) (by omega) (((k1.v (by decide)).trans ew2)) (by omega) (by omega) (l0 := y0) (b0 := 22369621) (by omega) H0 (Lv.top _ (ey0)) (by decide) (Sk.nil _) (K := K) (q := 13) hK (by decide) (g1.rg ad42 (i := 1) (by decide) rf42_1).2)) (by decide) (by decide) (fun w84727 h84727 q84727 => ?_)
      obtain ⟨q84727, ad84727, ro84727, nr84727⟩ := q84727
      obtain ⟨v84728, rfl, lv84728, uv84728, g84727, kk84727⟩ := q84727
      have ad84727 := ad84727 _ rfl
      have nr84727 := nr84727 _ rfl
      obtain ⟨m84729, em84729, lm84729, um84729, fr84727, pm84727, tr84727⟩ := ro84727 _ rfl
      have k84727 := k1.tr kk84727 (by decide)
      show jEv _ _ _ _ _ _ _ (_, [(2, 42), (0, x1), j2], [(0, v84728)], _, _, _)
      obtain ⟨Q84727, eQ84727⟩ : ∃ R : RS, (rd (bR h) (h.2.2 42 1) (yR h) y0 K 13 0 0 x1) = R := ⟨_, rfl⟩
      have X84727 := nr84727
      unfold RQ at X84727
      rw [bR_kp k1 (fun _ => rfl) rfl, yR_kp k1 (fun _ => rfl) rfl, k1.v (a := 42) (i := 1) rfl, (ey0), eQ84727] at X84727
      refine ev_istore_n (L' := [(2, 42), (0, v84728), j2]) (Nat.le_of_ble_eq_true rfl) rfl ?_
      refine ev_iload_n rfl ?_
      refine ev_ifge f273_129 (fun c84730 => ?_) (fun c84730 => ?_)
      · refine ev_iload_n rfl ?_
        refine ev_aload_n rfl ?_
        refine g_getv (r := 42) (v := w2) g84727 ad42 (by decide) ft12_17 (((kk84727.v (by decide)).trans ((k1.v (by decide)).trans ew2))) ?_
        refine ev_icmpge f273_145 (fun c84731 => ?_) (fun c84731 => ?_)
        · refine ev_iload_n rfl ?_
          obtain ⟨v84732, ev84732, lv84732, uv84732⟩ := g84727.rd ad42 (show 20 < 66 by decide) rf42_20
          exact ev_ret rfl (by decide) (by decide) ⟨⟨_, rfl, by omega, by omega, g84727, k84727⟩, fun r hr => by cases hr; exact ⟨_, (em84729), by omega, fun h0 => ⟨by have := pm84727 (by omega); omega, fun hm => Tr.at0 (tr84727 (by omega) hm) (by omega)⟩⟩, fun r hr => by cases hr; exact TxR.good (by rw [(eR.trans (TR_z (Or.inl (by omega)) eQ84727)), ew2]; exact fiR_e ⟨(X84727.ok (by omega)).1, (X84727.ok (by omega)).2.1⟩ (by omega)) (X84727.ok (by omega)).1 (by omega) (by have z := (X84727.ok (by omega)).2.2; omega)⟩
        · refine ev_aload_n rfl ?_
          refine ev_iload_n rfl ?_
          refine ev_in (d := 738) (a := 0) (b := 0) (cd' := c266_0) (m := 2) (L0 := [(2, 42), (0, v84728)]) (jcall_v (A := [(0, v84728)]) (S' := []) (r := 42) rfl (g84727.lt ad42) (g84727.tg ad42) (Nat.le_of_ble_eq_true rfl)) (by decide) ml266 pp266 (Nat.le_of_ble_eq_true rfl) rfl (by decide) (by decide) ?_
          refine ev_aload_n rfl ?_
          refine ev_iload_n rfl ?_
          refine g_putf (r := 42) g84727 ad42 (by decide) ft12_20 (by decide) (fun e => absurd e nz12_20) rf42_20 (by decide) (by omega) (by omega) (fun h84733 e84733 g84733 => ?_)
          have k84733 := k84727.wr e84733 rfl
          refine ev_iconst ?_
          refine ev_ret rfl (by decide) (by decide) ?_
          show jEv _ _ _ _ _ _ _ (_, [(2, 42), (0, v84728), j2], [(0, (-1))], _, _, _)
          refine ev_goto f273_146 ?_
          exact ev_ret rfl (by decide) (by decide) ⟨⟨_, rfl, by omega, by omega, g84733, k84733⟩, fun r hr => by cases hr; exact ⟨_, (((jw_ne e84733 (Or.inr (by decide))).trans em84729)), by omega, fun h0 => by exfalso; omega⟩, fun r hr => by cases hr; exact TxR.bad (z := v84728) (by rw [(eR.trans (TR_z (Or.inl (by omega)) eQ84727)), ew2, fiR_x ⟨(X84727.ok (by omega)).1, (X84727.ok (by omega)).2.1⟩ (by omega)]; rfl) (by omega) ((jw_eq e84733))⟩
      · refine ev_iconst ?_
        refine ev_goto f273_146 ?_
        obtain ⟨v84734, ev84734, lv84734, uv84734⟩ := g84727.rd ad42 (show 20 < 66 by decide) rf42_20
        exact ev_ret rfl (by decide) (by decide) ⟨⟨_, rfl, by omega, by omega, g84727, k84727⟩, fun r hr => by cases hr; exact ⟨_, (em84729), by omega, fun h0 => by exfalso; omega⟩, fun r hr => by cases hr; exact TxR.bad ((congrArg Prod.fst (eR.trans (TR_z (Or.inl (by omega)) eQ84727))).trans (by rw [ew2]; exact fiR_b ew2 (X84727.bd (by omega)))) (X84727.bd (by omega)).1 rfl⟩
    · refine ev_aload_n rfl ?_
      refine ev_iload_n rfl ?_
      refine ev_in (d := 738) (a := 0) (b := 0) (cd' := c264_0) (m := 2) (L0 := [(2, 42), (0, x1)]) (jcall_v (A := [(0, x1)]) (S' := []) (r := 42) rfl (g1.lt ad42) (g1.tg ad42) (Nat.le_of_ble_eq_true rfl)) (by decide) ml264 pp264 (Nat.le_of_ble_eq_true rfl) rfl (by decide) (by decide) ?_
      refine ev_iload_n rfl ?_
      refine ev_aload_n rfl ?_
      refine g_getv (r := 42) (v := w2) g1 ad42 (by decide) ft12_17 (((k1.v (by decide)).trans ew2)) ?_
      refine ev_icmpge f264_17 (fun c84735 => ?_) (fun c84735 => ?_)
      · refine ev_iconst ?_
        refine ev_ret rfl (by decide) (by decide) ?_
        show jEv _ _ _ _ _ _ _ (_, [(2, 42), (0, x1), j2], [(0, (-1))], _, _, _)
        refine ev_bipush ?_
        refine ev_aload_n rfl ?_
        refine g_getv (r := 42) (v := y0) g1 ad42 (by decide) ft12_19 (ey0) ?_
        refine ev_iadd (r := (y0 + 65)) (by unfold w32; omega) ?_
        refine ev_icmpne f273_112 (fun c84736 => ?_) (fun c84736 => absurd c84736 (by omega))
        refine ev_aload_n rfl ?_
        refine ev_iload_n rfl ?_
        refine ev_iconst ?_
        refine ev_iconst ?_
        refine ev_iconst ?_
        refine ev_call (jcall_v (A := [(0, 1), (0, 0), (0, 0), (0, x1)]) (S' := []) (r := 42) rfl (g1.lt ad42) (g1.tg ad42) (Nat.le_of_ble_eq_true rfl)) (jOk_le (by decide) (t272i g1 (by omega) (by omega) (by omega) (by omega) (by omega) (by omega) (by omega) (by omega) (by omega) (by omega) (((k1.v (by decide)).trans ew0)) (by omega) (by omega) (ey1) (by omega) (by omega) (((k1.v (by decide)).trans ew2)) (by omega) (by omega) (l0 := y0) (b0 := 22369621) (by omega) H0 (Lv.top _ (ey0)) (by decide) (Sk.nil _) (K := K) (q := 13) hK (by decide) (g1.rg ad42 (i := 1) (by decide) rf42_1).2)) (by decide) (by decide) (fun w84737 h84737 q84737 => ?_)
        obtain ⟨q84737, ad84737, ro84737, nr84737⟩ := q84737
        obtain ⟨v84738, rfl, lv84738, uv84738, g84737, kk84737⟩ := q84737
        have ad84737 := ad84737 _ rfl
        have nr84737 := nr84737 _ rfl
        obtain ⟨m84739, em84739, lm84739, um84739, fr84737, pm84737, tr84737⟩ := ro84737 _ rfl
        have k84737 := k1.tr kk84737 (by decide)
        show jEv _ _ _ _ _ _ _ (_, [(2, 42), (0, x1), j2], [(0, v84738)], _, _, _)
        obtain ⟨Q84737, eQ84737⟩ : ∃ R : RS, (rd (bR h) (h.2.2 42 1) (yR h) y0 K 13 0 0 x1) = R := ⟨_, rfl⟩
        have X84737 := nr84737
        unfold RQ at X84737
        rw [bR_kp k1 (fun _ => rfl) rfl, yR_kp k1 (fun _ => rfl) rfl, k1.v (a := 42) (i := 1) rfl, (ey0), eQ84737] at X84737
        refine ev_istore_n (L' := [(2, 42), (0, v84738), j2]) (Nat.le_of_ble_eq_true rfl) rfl ?_
        refine ev_iload_n rfl ?_
        refine ev_ifge f273_129 (fun c84740 => ?_) (fun c84740 => ?_)
        · refine ev_iload_n rfl ?_
          refine ev_aload_n rfl ?_
          refine g_getv (r := 42) (v := w2) g84737 ad42 (by decide) ft12_17 (((kk84737.v (by decide)).trans ((k1.v (by decide)).trans ew2))) ?_
          refine ev_icmpge f273_145 (fun c84741 => ?_) (fun c84741 => ?_)
          · refine ev_iload_n rfl ?_
            obtain ⟨v84742, ev84742, lv84742, uv84742⟩ := g84737.rd ad42 (show 20 < 66 by decide) rf42_20
            exact ev_ret rfl (by decide) (by decide) ⟨⟨_, rfl, by omega, by omega, g84737, k84737⟩, fun r hr => by cases hr; exact ⟨_, (em84739), by omega, fun h0 => ⟨by have := pm84737 (by omega); omega, fun hm => Tr.at0 (tr84737 (by omega) hm) (by omega)⟩⟩, fun r hr => by cases hr; exact TxR.good (by rw [(eR.trans (TR_z (Or.inr (fun z => absurd ((bR_end (p := x1) ew2 (by omega)).symm.trans z) (by omega))) eQ84737)), ew2]; exact fiR_e ⟨(X84737.ok (by omega)).1, (X84737.ok (by omega)).2.1⟩ (by omega)) (X84737.ok (by omega)).1 (by omega) (by have z := (X84737.ok (by omega)).2.2; omega)⟩
          · refine ev_aload_n rfl ?_
            refine ev_iload_n rfl ?_
            refine ev_in (d := 738) (a := 0) (b := 0) (cd' := c266_0) (m := 2) (L0 := [(2, 42), (0, v84738)]) (jcall_v (A := [(0, v84738)]) (S' := []) (r := 42) rfl (g84737.lt ad42) (g84737.tg ad42) (Nat.le_of_ble_eq_true rfl)) (by decide) ml266 pp266 (Nat.le_of_ble_eq_true rfl) rfl (by decide) (by decide) ?_
            refine ev_aload_n rfl ?_
            refine ev_iload_n rfl ?_
            refine g_putf (r := 42) g84737 ad42 (by decide) ft12_20 (by decide) (fun e => absurd e nz12_20) rf42_20 (by decide) (by omega) (by omega) (fun h84743 e84743 g84743 => ?_)
            have k84743 := k84737.wr e84743 rfl
            refine ev_iconst ?_
            refine ev_ret rfl (by decide) (by decide) ?_
            show jEv _ _ _ _ _ _ _ (_, [(2, 42), (0, v84738), j2], [(0, (-1))], _, _, _)
            refine ev_goto f273_146 ?_
            exact ev_ret rfl (by decide) (by decide) ⟨⟨_, rfl, by omega, by omega, g84743, k84743⟩, fun r hr => by cases hr; exact ⟨_, (((jw_ne e84743 (Or.inr (by decide))).trans em84739)), by omega, fun h0 => by exfalso; omega⟩, fun r hr => by cases hr; exact TxR.bad (z := v84738) (by rw [(eR.trans (TR_z (Or.inr (fun z => absurd ((bR_end (p := x1) ew2 (by omega)).symm.trans z) (by omega))) eQ84737)), ew2, fiR_x ⟨(X84737.ok (by omega)).1, (X84737.ok (by omega)).2.1⟩ (by omega)]; rfl) (by omega) ((jw_eq e84743))⟩
        · refine ev_iconst ?_
          refine ev_goto f273_146 ?_
          obtain ⟨v84744, ev84744, lv84744, uv84744⟩ := g84737.rd ad42 (show 20 < 66 by decide) rf42_20
          exact ev_ret rfl (by decide) (by decide) ⟨⟨_, rfl, by omega, by omega, g84737, k84737⟩, fun r hr => by cases hr; exact ⟨_, (em84739), by omega, fun h0 => by exfalso; omega⟩, fun r hr => by cases hr; exact TxR.bad ((congrArg Prod.fst (eR.trans (TR_z (Or.inr (fun z => absurd ((bR_end (p := x1) ew2 (by omega)).symm.trans z) (by omega))) eQ84737))).trans (by rw [ew2]; exact fiR_b ew2 (X84737.bd (by omega)))) (X84737.bd (by omega)).1 rfl⟩
      · refine ev_aload_n rfl ?_
        refine g_getp (r := 42) (c := 54) g1 ad42 (by decide) (by decide) rf42_16 ft12_16 ?_
        refine ev_iload_n rfl ?_
        refine g_bald g1 ad54 rt54 (by omega) (by omega) (fun v84745 ev84745 lv84745 uv84745 => ?_)
        refine ev_goto f264_18 ?_
        refine ev_ret rfl (by decide) (by decide) ?_
        show jEv _ _ _ _ _ _ _ (_, [(2, 42), (0, x1), j2], [(0, v84745)], _, _, _)
        refine ev_bipush ?_
        refine ev_aload_n rfl ?_
        refine g_getv (r := 42) (v := y0) g1 ad42 (by decide) ft12_19 (ey0) ?_
        refine ev_iadd (r := (y0 + 65)) (by unfold w32; omega) ?_
        refine ev_icmpne f273_112 (fun c84746 => ?_) (fun c84746 => ?_)
        · refine ev_aload_n rfl ?_
          refine ev_iload_n rfl ?_
          refine ev_iconst ?_
          refine ev_iconst ?_
          refine ev_iconst ?_
          refine ev_call (jcall_v (A := [(0, 1), (0, 0), (0, 0), (0, x1)]) (S' := []) (r := 42) rfl (g1.lt ad42) (g1.tg ad42) (Nat.le_of_ble_eq_true rfl)) (jOk_le (by decide) (t272i g1 (by omega) (by omega) (by omega) (by omega) (by omega) (by omega) (by omega) (by omega) (by omega) (by omega) (((k1.v (by decide)).trans ew0)) (by omega) (by omega) (ey1) (by omega) (by omega) (((k1.v (by decide)).trans ew2)) (by omega) (by omega) (l0 := y0) (b0 := 22369621) (by omega) H0 (Lv.top _ (ey0)) (by decide) (Sk.nil _) (K := K) (q := 13) hK (by decide) (g1.rg ad42 (i := 1) (by decide) rf42_1).2)) (by decide) (by decide) (fun w84747 h84747 q84747 => ?_)
          obtain ⟨q84747, ad84747, ro84747, nr84747⟩ := q84747
          obtain ⟨v84748, rfl, lv84748, uv84748, g84747, kk84747⟩ := q84747
          have ad84747 := ad84747 _ rfl
          have nr84747 := nr84747 _ rfl
          obtain ⟨m84749, em84749, lm84749, um84749, fr84747, pm84747, tr84747⟩ := ro84747 _ rfl
          have k84747 := k1.tr kk84747 (by decide)
          show jEv _ _ _ _ _ _ _ (_, [(2, 42), (0, x1), j2], [(0, v84748)], _, _, _)
          obtain ⟨Q84747, eQ84747⟩ : ∃ R : RS, (rd (bR h) (h.2.2 42 1) (yR h) y0 K 13 0 0 x1) = R := ⟨_, rfl⟩
          have X84747 := nr84747
          unfold RQ at X84747
          rw [bR_kp k1 (fun _ => rfl) rfl, yR_kp k1 (fun _ => rfl) rfl, k1.v (a := 42) (i := 1) rfl, (ey0), eQ84747] at X84747
          refine ev_istore_n (L' := [(2, 42), (0, v84748), j2]) (Nat.le_of_ble_eq_true rfl) rfl ?_
          refine ev_iload_n rfl ?_
          refine ev_ifge f273_129 (fun c84750 => ?_) (fun c84750 => ?_)
          · refine ev_iload_n rfl ?_
            refine ev_aload_n rfl ?_
            refine g_getv (r := 42) (v := w2) g84747 ad42 (by decide) ft12_17 (((kk84747.v (by decide)).trans ((k1.v (by decide)).trans ew2))) ?_
            refine ev_icmpge f273_145 (fun c84751 => ?_) (fun c84751 => ?_)
            · refine ev_iload_n rfl ?_
              obtain ⟨v84752, ev84752, lv84752, uv84752⟩ := g84747.rd ad42 (show 20 < 66 by decide) rf42_20
              exact ev_ret rfl (by decide) (by decide) ⟨⟨_, rfl, by omega, by omega, g84747, k84747⟩, fun r hr => by cases hr; exact ⟨_, (em84749), by omega, fun h0 => ⟨by have := pm84747 (by omega); omega, fun hm => Tr.at0 (tr84747 (by omega) hm) (by omega)⟩⟩, fun r hr => by cases hr; exact TxR.good (by rw [(eR.trans (TR_z (Or.inr (fun z => absurd ((bR_at (p := x1) k84747 (fun _ => rfl) ew2 (((kk84747.v rfl).trans ev84745)) (by omega) (by omega)).symm.trans z) (by omega))) eQ84747)), ew2]; exact fiR_e ⟨(X84747.ok (by omega)).1, (X84747.ok (by omega)).2.1⟩ (by omega)) (X84747.ok (by omega)).1 (by omega) (by have z := (X84747.ok (by omega)).2.2; omega)⟩
            · refine ev_aload_n rfl ?_
              refine ev_iload_n rfl ?_
              refine ev_in (d := 738) (a := 0) (b := 0) (cd' := c266_0) (m := 2) (L0 := [(2, 42), (0, v84748)]) (jcall_v (A := [(0, v84748)]) (S' := []) (r := 42) rfl (g84747.lt ad42) (g84747.tg ad42) (Nat.le_of_ble_eq_true rfl)) (by decide) ml266 pp266 (Nat.le_of_ble_eq_true rfl) rfl (by decide) (by decide) ?_
              refine ev_aload_n rfl ?_
              refine ev_iload_n rfl ?_
              refine g_putf (r := 42) g84747 ad42 (by decide) ft12_20 (by decide) (fun e => absurd e nz12_20) rf42_20 (by decide) (by omega) (by omega) (fun h84753 e84753 g84753 => ?_)
              have k84753 := k84747.wr e84753 rfl
              refine ev_iconst ?_
              refine ev_ret rfl (by decide) (by decide) ?_
              show jEv _ _ _ _ _ _ _ (_, [(2, 42), (0, v84748), j2], [(0, (-1))], _, _, _)
              refine ev_goto f273_146 ?_
              exact ev_ret rfl (by decide) (by decide) ⟨⟨_, rfl, by omega, by omega, g84753, k84753⟩, fun r hr => by cases hr; exact ⟨_, (((jw_ne e84753 (Or.inr (by decide))).trans em84749)), by omega, fun h0 => by exfalso; omega⟩, fun r hr => by cases hr; exact TxR.bad (z := v84748) (by rw [(eR.trans (TR_z (Or.inr (fun z => absurd ((bR_at (p := x1) k84753 (fun _ => rfl) ew2 (((jw_ne e84753 (Or.inl (by decide))).trans ((kk84747.v rfl).trans ev84745))) (by omega) (by omega)).symm.trans z) (by omega))) eQ84747)), ew2, fiR_x ⟨(X84747.ok (by omega)).1, (X84747.ok (by omega)).2.1⟩ (by omega)]; rfl) (by omega) ((jw_eq e84753))⟩
          · refine ev_iconst ?_
            refine ev_goto f273_146 ?_
            obtain ⟨v84754, ev84754, lv84754, uv84754⟩ := g84747.rd ad42 (show 20 < 66 by decide) rf42_20
            exact ev_ret rfl (by decide) (by decide) ⟨⟨_, rfl, by omega, by omega, g84747, k84747⟩, fun r hr => by cases hr; exact ⟨_, (em84749), by omega, fun h0 => by exfalso; omega⟩, fun r hr => by cases hr; exact TxR.bad ((congrArg Prod.fst (eR.trans (TR_z (Or.inr (fun z => absurd ((bR_at (p := x1) k84747 (fun _ => rfl) ew2 (((kk84747.v rfl).trans ev84745)) (by omega) (by omega)).symm.trans z) (by omega))) eQ84747))).trans (by rw [ew2]; exact fiR_b ew2 (X84747.bd (by omega)))) (X84747.bd (by omega)).1 rfl⟩
        · refine ev_aload_n rfl ?_
          refine ev_iload_n rfl ?_
          refine ev_iconst ?_
          refine ev_iadd (r := (x1 + 1)) (by unfold w32; omega) ?_
          refine ev_in (d := 738) (a := 0) (b := 0) (cd' := c264_0) (m := 2) (L0 := [(2, 42), (0, (x1 + 1))]) (jcall_v (A := [(0, (x1 + 1))]) (S' := []) (r := 42) rfl (g1.lt ad42) (g1.tg ad42) (Nat.le_of_ble_eq_true rfl)) (by decide) ml264 pp264 (Nat.le_of_ble_eq_true rfl) rfl (by decide) (by decide) ?_
          refine ev_iload_n rfl ?_
          refine ev_aload_n rfl ?_
          refine g_getv (r := 42) (v := w2) g1 ad42 (by decide) ft12_17 (((k1.v (by decide)).trans ew2)) ?_
          refine ev_icmpge f264_17 (fun c84755 => ?_) (fun c84755 => ?_)
          · refine ev_iconst ?_
            refine ev_ret rfl (by decide) (by decide) ?_
            show jEv _ _ _ _ _ _ _ (_, [(2, 42), (0, x1), j2], [(0, (-1))], _, _, _)
            refine ev_bipush ?_
            refine ev_icmpeq f273_51 (fun c84756 => absurd c84756 (by omega)) (fun c84756 => ?_)
            refine ev_aload_n rfl ?_
            refine ev_iload_n rfl ?_
            refine ev_iconst ?_
            refine ev_iadd (r := (x1 + 1)) (by unfold w32; omega) ?_
            refine ev_in (d := 738) (a := 0) (b := 0) (cd' := c266_0) (m := 2) (L0 := [(2, 42), (0, (x1 + 1))]) (jcall_v (A := [(0, (x1 + 1))]) (S' := []) (r := 42) rfl (g1.lt ad42) (g1.tg ad42) (Nat.le_of_ble_eq_true rfl)) (by decide) ml266 pp266 (Nat.le_of_ble_eq_true rfl) rfl (by decide) (by decide) ?_
            refine ev_aload_n rfl ?_
            refine ev_iload_n rfl ?_
            refine g_putf (r := 42) g1 ad42 (by decide) ft12_20 (by decide) (fun e => absurd e nz12_20) rf42_20 (by decide) (by omega) (by omega) (fun h84757 e84757 g84757 => ?_)
            have k84757 := k1.wr e84757 rfl
            refine ev_iconst ?_
            refine ev_ret rfl (by decide) (by decide) ?_
            show jEv _ _ _ _ _ _ _ (_, [(2, 42), (0, x1), j2], [(0, (-1))], _, _, _)
            exact ev_ret rfl (by decide) (by decide) ⟨⟨_, rfl, by omega, by omega, g84757, k84757⟩, fun r hr => by cases hr; exact ⟨_, (((jw_ne e84757 (Or.inr (by decide))).trans ey1)), by omega, fun h0 => by exfalso; omega⟩, fun r hr => by cases hr; exact TxR.bad (z := x1 + 1) (by rw [eR, (TR_1 (show 0 < (6 - y0).toNat by omega) ((bR_at (p := x1) k84757 (fun _ => rfl) ew2 (((jw_ne e84757 (Or.inl (by decide))).trans ev84745)) (by omega) (by omega)).trans (by omega)) (fun z => absurd ((bR_end (p := (x1 + 1)) ew2 (by omega)).symm.trans z) (by omega)))]; show -1 - (x1 + 1) = _; omega) (by omega) ((jw_eq e84757))⟩
          · refine ev_aload_n rfl ?_
            refine g_getp (r := 42) (c := 54) g1 ad42 (by decide) (by decide) rf42_16 ft12_16 ?_
            refine ev_iload_n rfl ?_
            refine g_bald g1 ad54 rt54 (by omega) (by omega) (fun v84758 ev84758 lv84758 uv84758 => ?_)
            refine ev_goto f264_18 ?_
            refine ev_ret rfl (by decide) (by decide) ?_
            show jEv _ _ _ _ _ _ _ (_, [(2, 42), (0, x1), j2], [(0, v84758)], _, _, _)
            refine ev_bipush ?_
            refine ev_icmpeq f273_51 (fun c84759 => ?_) (fun c84759 => ?_)
            · refine ev_iload_n rfl ?_
              refine ev_iconst ?_
              refine ev_iadd (r := (x1 + 2)) (by unfold w32; omega) ?_
              refine ev_istore_n (L' := [(2, 42), (0, x1), (0, (x1 + 2))]) (Nat.le_of_ble_eq_true rfl) rfl ?_
              refine ev_aload_n rfl ?_
              refine ev_iload_n rfl ?_
              refine ev_iconst ?_
              refine ev_iconst ?_
              refine ev_iconst ?_
              refine ev_call (jcall_v (A := [(0, 0), (0, 0), (0, 0), (0, (x1 + 2))]) (S' := []) (r := 42) rfl (g1.lt ad42) (g1.tg ad42) (Nat.le_of_ble_eq_true rfl)) (jOk_le (by decide) (t272f g1 (by omega) (by omega) (by omega) (by omega) (by omega) (by omega) (by omega) (by omega) (((k1.v (by decide)).trans ew2)) (by omega) (by omega) (l0 := y0) H0 (Lv.top _ (ey0)) (K := K) (q := 13) hK (by decide) (g1.rg ad42 (i := 1) (by decide) rf42_1).2)) (by decide) (by decide) (fun w84760 h84760 q84760 => ?_)
              obtain ⟨q84760, ad84760, nr84760⟩ := q84760
              obtain ⟨v84761, rfl, lv84761, uv84761, g84760, kk84760⟩ := q84760
              have ad84760 := ad84760 _ rfl
              have nr84760 := nr84760 _ rfl
              have k84760 := k1.tr kk84760 (by decide)
              show jEv _ _ _ _ _ _ _ (_, [(2, 42), (0, x1), (0, (x1 + 2))], [(0, v84761)], _, _, _)
              obtain ⟨Q84760, eQ84760⟩ : ∃ R : RS, (rd (bR h) (h.2.2 42 1) (yR h) y0 K 13 0 0 (x1 + 2)) = R := ⟨_, rfl⟩
              have X84760 := nr84760
              unfold RQ at X84760
              rw [bR_kp k1 (fun _ => rfl) rfl, yR_kp k1 (fun _ => rfl) rfl, k1.v (a := 42) (i := 1) rfl, (ey0), eQ84760] at X84760
              refine ev_istore_n (L' := [(2, 42), (0, v84761), (0, (x1 + 2))]) (Nat.le_of_ble_eq_true rfl) rfl ?_
              refine ev_iload_n rfl ?_
              refine ev_ifge f273_70 (fun c84762 => ?_) (fun c84762 => ?_)
              · refine ev_aload_n rfl ?_
                refine ev_iload_n rfl ?_
                refine ev_in (d := 738) (a := 0) (b := 0) (cd' := c264_0) (m := 2) (L0 := [(2, 42), (0, v84761)]) (jcall_v (A := [(0, v84761)]) (S' := []) (r := 42) rfl (g84760.lt ad42) (g84760.tg ad42) (Nat.le_of_ble_eq_true rfl)) (by decide) ml264 pp264 (Nat.le_of_ble_eq_true rfl) rfl (by decide) (by decide) ?_
                refine ev_iload_n rfl ?_
                refine ev_aload_n rfl ?_
                refine g_getv (r := 42) (v := w2) g84760 ad42 (by decide) ft12_17 (((kk84760.v (by decide)).trans ((k1.v (by decide)).trans ew2))) ?_
                refine ev_icmpge f264_17 (fun c84763 => ?_) (fun c84763 => ?_)
                · refine ev_iconst ?_
                  refine ev_ret rfl (by decide) (by decide) ?_
                  show jEv _ _ _ _ _ _ _ (_, [(2, 42), (0, v84761), (0, (x1 + 2))], [(0, (-1))], _, _, _)
                  refine ev_bipush ?_
                  refine ev_icmpeq f273_86 (fun c84764 => absurd c84764 (by omega)) (fun c84764 => ?_)
                  refine ev_aload_n rfl ?_
                  refine ev_iload_n rfl ?_
                  refine ev_in (d := 738) (a := 0) (b := 0) (cd' := c266_0) (m := 2) (L0 := [(2, 42), (0, v84761)]) (jcall_v (A := [(0, v84761)]) (S' := []) (r := 42) rfl (g84760.lt ad42) (g84760.tg ad42) (Nat.le_of_ble_eq_true rfl)) (by decide) ml266 pp266 (Nat.le_of_ble_eq_true rfl) rfl (by decide) (by decide) ?_
                  refine ev_aload_n rfl ?_
                  refine ev_iload_n rfl ?_
                  refine g_putf (r := 42) g84760 ad42 (by decide) ft12_20 (by decide) (fun e => absurd e nz12_20) rf42_20 (by decide) (by omega) (by omega) (fun h84765 e84765 g84765 => ?_)
                  have k84765 := k84760.wr e84765 rfl
                  refine ev_iconst ?_
                  refine ev_ret rfl (by decide) (by decide) ?_
                  show jEv _ _ _ _ _ _ _ (_, [(2, 42), (0, v84761), (0, (x1 + 2))], [(0, (-1))], _, _, _)
                  exact ev_ret rfl (by decide) (by decide) ⟨⟨_, rfl, by omega, by omega, g84765, k84765⟩, fun r hr => by cases hr; exact ⟨_, (((jw_ne e84765 (Or.inr (by decide))).trans ((kk84760.v (by decide)).trans ey1))), by omega, fun h0 => by exfalso; omega⟩, fun r hr => by cases hr; exact TxR.bad (z := v84761) (by rw [eR, (TR_x (show 0 < (6 - y0).toNat by omega) ((bR_at (p := x1) k84765 (fun _ => rfl) ew2 (((jw_ne e84765 (Or.inl (by decide))).trans ((kk84760.v rfl).trans ev84745))) (by omega) (by omega)).trans (by omega)) ((bR_at (p := (x1 + 1)) k84765 (fun _ => rfl) ew2 (((jw_ne e84765 (Or.inl (by decide))).trans ((kk84760.v rfl).trans ev84758))) (by omega) (by omega)).trans (by omega)) eQ84760 (X84760.ok (by omega)) (fun z => absurd ((bR_end (p := v84761) ew2 (by omega)).symm.trans z) (by omega)))]; rfl) (by omega) ((jw_eq e84765))⟩
                · refine ev_aload_n rfl ?_
                  refine g_getp (r := 42) (c := 54) g84760 ad42 (by decide) (by decide) rf42_16 ft12_16 ?_
                  refine ev_iload_n rfl ?_
                  refine g_bald g84760 ad54 rt54 (by omega) (by omega) (fun v84766 ev84766 lv84766 uv84766 => ?_)
                  refine ev_goto f264_18 ?_
                  refine ev_ret rfl (by decide) (by decide) ?_
                  show jEv _ _ _ _ _ _ _ (_, [(2, 42), (0, v84761), (0, (x1 + 2))], [(0, v84766)], _, _, _)
                  refine ev_bipush ?_
                  refine ev_icmpeq f273_86 (fun c84767 => ?_) (fun c84767 => ?_)
                  · refine ev_aload_n rfl ?_
                    refine g_getp (r := 42) (c := 55) g84760 ad42 (by decide) (by decide) rf42_18 ft12_18 ?_
                    refine ev_aload_n rfl ?_
                    refine g_getv (r := 42) (v := y0) g84760 ad42 (by decide) ft12_19 (((kk84760.v (by decide)).trans ey0)) ?_
                    refine ev_iload_n rfl ?_
                    refine g_iast g84760 ad55 rt55 (fun _ => rfl) (by omega) (by omega) (by omega) (by omega) (fun h84768 e84768 g84768 => ?_)
                    have k84768 := k84760.wr e84768 rfl
                    refine ev_aload_n rfl ?_
                    refine ev_dup (by decide) ?_
                    refine g_getv (r := 42) (v := y0) g84768 ad42 (by decide) ft12_19 (((jw_ne e84768 (Or.inl (by decide))).trans ((kk84760.v (by decide)).trans ey0))) ?_
                    refine ev_iconst ?_
                    refine ev_iadd (r := (y0 + 1)) (by unfold w32; omega) ?_
                    refine g_putf (r := 42) g84768 ad42 (by decide) ft12_19 (by decide) (fun e => absurd e nz12_19) rf42_19 (by decide) (by omega) (by omega) (fun h84769 e84769 g84769 => ?_)
                    have k84769 := k84768.wr e84769 rfl
                    refine ev_iinc (w := (v84761 + 1)) (L' := [(2, 42), (0, (v84761 + 1)), (0, (x1 + 2))]) rfl (by unfold w32; omega) rfl ?_
                    refine ev_goto f273_7 ?_
                    exact ih _ _ _ _ _ g84769 k84769 (by omega) (by omega) ((jw_eq e84769)) (by omega) (by omega) (((jw_ne e84769 (Or.inr (by decide))).trans ((jw_ne e84768 (Or.inl (by decide))).trans ((kk84760.v (by decide)).trans ey1)))) (by omega) (by omega) (Iv.next (Iv.kp H0 kk84760 (fun _ => rfl) (fun _ => rfl) rfl) ((kk84760.v rfl).trans ey0) (by omega) ((ad84760 (by omega)).kp kk84760 (fun _ => rfl)) (by omega) (by rw [(ev84766)]; omega) e84768 e84769 (by omega)) ⟨upK K y0 Q84760.2, KoR.next hK kk84760 (fun _ => rfl) rfl (fun _ => rfl) rfl rfl (fun _ => rfl) (g1.rg ad42 (i := 1) (by decide) rf42_1).2 ey0 (by omega) (by omega) (by rw [bR_kp k1 (fun _ => rfl) rfl, yR_kp k1 (fun _ => rfl) rfl, k1.v (a := 42) (i := 1) rfl]; exact eQ84760) (X84760.ok (by omega)) (by rw [bR_kp k1 (fun _ => rfl) rfl]; exact (bR_at (p := v84761) k84769 (fun _ => rfl) ew2 (((jw_ne e84769 (Or.inl (by decide))).trans ((jw_ne e84768 (Or.inl (by decide))).trans ev84766))) (by omega) (by omega)).trans (by omega)) e84768 e84769 (by omega), eR.trans ((TR_k (show 0 < (6 - y0).toNat by omega) ((bR_at (p := x1) k84769 (fun _ => rfl) ew2 (((jw_ne e84769 (Or.inl (by decide))).trans ((jw_ne e84768 (Or.inl (by decide))).trans ((kk84760.v rfl).trans ev84745)))) (by omega) (by omega)).trans (by omega)) ((bR_at (p := (x1 + 1)) k84769 (fun _ => rfl) ew2 (((jw_ne e84769 (Or.inl (by decide))).trans ((jw_ne e84768 (Or.inl (by decide))).trans ((kk84760.v rfl).trans ev84758)))) (by omega) (by omega)).trans (by omega)) eQ84760 (X84760.ok (by omega)) ((bR_at (p := v84761) k84769 (fun _ => rfl) ew2 (((jw_ne e84769 (Or.inl (by decide))).trans ((jw_ne e84768 (Or.inl (by decide))).trans ev84766))) (by omega) (by omega)).trans (by omega))).trans (by rw [show (6 - y0).toNat - 1 = (6 - (y0 + 1)).toNat by omega]))⟩ (by omega)
                  · refine ev_aload_n rfl ?_
                    refine ev_iload_n rfl ?_
                    refine ev_in (d := 738) (a := 0) (b := 0) (cd' := c266_0) (m := 2) (L0 := [(2, 42), (0, v84761)]) (jcall_v (A := [(0, v84761)]) (S' := []) (r := 42) rfl (g84760.lt ad42) (g84760.tg ad42) (Nat.le_of_ble_eq_true rfl)) (by decide) ml266 pp266 (Nat.le_of_ble_eq_true rfl) rfl (by decide) (by decide) ?_
                    refine ev_aload_n rfl ?_
                    refine ev_iload_n rfl ?_
                    refine g_putf (r := 42) g84760 ad42 (by decide) ft12_20 (by decide) (fun e => absurd e nz12_20) rf42_20 (by decide) (by omega) (by omega) (fun h84770 e84770 g84770 => ?_)
                    have k84770 := k84760.wr e84770 rfl
                    refine ev_iconst ?_
                    refine ev_ret rfl (by decide) (by decide) ?_
                    show jEv _ _ _ _ _ _ _ (_, [(2, 42), (0, v84761), (0, (x1 + 2))], [(0, (-1))], _, _, _)
                    exact ev_ret rfl (by decide) (by decide) ⟨⟨_, rfl, by omega, by omega, g84770, k84770⟩, fun r hr => by cases hr; exact ⟨_, (((jw_ne e84770 (Or.inr (by decide))).trans ((kk84760.v (by decide)).trans ey1))), by omega, fun h0 => by exfalso; omega⟩, fun r hr => by cases hr; exact TxR.bad (z := v84761) (by rw [eR, (TR_x (show 0 < (6 - y0).toNat by omega) ((bR_at (p := x1) k84770 (fun _ => rfl) ew2 (((jw_ne e84770 (Or.inl (by decide))).trans ((kk84760.v rfl).trans ev84745))) (by omega) (by omega)).trans (by omega)) ((bR_at (p := (x1 + 1)) k84770 (fun _ => rfl) ew2 (((jw_ne e84770 (Or.inl (by decide))).trans ((kk84760.v rfl).trans ev84758))) (by omega) (by omega)).trans (by omega)) eQ84760 (X84760.ok (by omega)) (fun z => absurd ((bR_at (p := v84761) k84770 (fun _ => rfl) ew2 (((jw_ne e84770 (Or.inl (by decide))).trans ev84766)) (by omega) (by omega)).symm.trans z) (by omega)))]; rfl) (by omega) ((jw_eq e84770))⟩
              · refine ev_iconst ?_
                obtain ⟨v84771, ev84771, lv84771, uv84771⟩ := g84760.rd ad42 (show 20 < 66 by decide) rf42_20
                exact ev_ret rfl (by decide) (by decide) ⟨⟨_, rfl, by omega, by omega, g84760, k84760⟩, fun r hr => by cases hr; exact ⟨_, (((kk84760.v (by decide)).trans ey1)), by omega, fun h0 => by exfalso; omega⟩, fun r hr => by cases hr; exact TxR.bad ((congrArg Prod.fst eR).trans (TR_b (show 0 < (6 - y0).toNat by omega) ((bR_at (p := x1) k84760 (fun _ => rfl) ew2 (((kk84760.v rfl).trans ev84745)) (by omega) (by omega)).trans (by omega)) ((bR_at (p := (x1 + 1)) k84760 (fun _ => rfl) ew2 (((kk84760.v rfl).trans ev84758)) (by omega) (by omega)).trans (by omega)) eQ84760 (X84760.bd (by omega)))) (X84760.bd (by omega)).1 rfl⟩
            · refine ev_aload_n rfl ?_
              refine ev_iload_n rfl ?_
              refine ev_iconst ?_
              refine ev_iadd (r := (x1 + 1)) (by unfold w32; omega) ?_
              refine ev_in (d := 738) (a := 0) (b := 0) (cd' := c266_0) (m := 2) (L0 := [(2, 42), (0, (x1 + 1))]) (jcall_v (A := [(0, (x1 + 1))]) (S' := []) (r := 42) rfl (g1.lt ad42) (g1.tg ad42) (Nat.le_of_ble_eq_true rfl)) (by decide) ml266 pp266 (Nat.le_of_ble_eq_true rfl) rfl (by decide) (by decide) ?_
              refine ev_aload_n rfl ?_
              refine ev_iload_n rfl ?_
              refine g_putf (r := 42) g1 ad42 (by decide) ft12_20 (by decide) (fun e => absurd e nz12_20) rf42_20 (by decide) (by omega) (by omega) (fun h84772 e84772 g84772 => ?_)
              have k84772 := k1.wr e84772 rfl
              refine ev_iconst ?_
              refine ev_ret rfl (by decide) (by decide) ?_
              show jEv _ _ _ _ _ _ _ (_, [(2, 42), (0, x1), j2], [(0, (-1))], _, _, _)
              exact ev_ret rfl (by decide) (by decide) ⟨⟨_, rfl, by omega, by omega, g84772, k84772⟩, fun r hr => by cases hr; exact ⟨_, (((jw_ne e84772 (Or.inr (by decide))).trans ey1)), by omega, fun h0 => by exfalso; omega⟩, fun r hr => by cases hr; exact TxR.bad (z := x1 + 1) (by rw [eR, (TR_1 (show 0 < (6 - y0).toNat by omega) ((bR_at (p := x1) k84772 (fun _ => rfl) ew2 (((jw_ne e84772 (Or.inl (by decide))).trans ev84745)) (by omega) (by omega)).trans (by omega)) (fun z => absurd ((bR_at (p := (x1 + 1)) k84772 (fun _ => rfl) ew2 (((jw_ne e84772 (Or.inl (by decide))).trans ev84758)) (by omega) (by omega)).symm.trans z) (by omega)))]; show -1 - (x1 + 1) = _; omega) (by omega) ((jw_eq e84772))⟩
set_option maxHeartbeats 4000000 in
theorem t273 {G : GH} {h : JH} (g : Gd G h) {w0 : Int} (ew0 : h.2.2 42 9 = w0) (lw0 : 0 ≤ w0) (uw0 : w0 ≤ 5) (ew1 : h.2.2 42 21 = 0) {w2 : Int} (ew2 : h.2.2 42 17 = w2) (lw2 : 0 ≤ w2) (uw2 : w2 ≤ 200) : jOk 740 0 0 273 [(2, 42)] h (fun v h' => PI G [(42, 21), (42, 22), (49, 0), (50, 0), (51, 0), (52, 0), (53, 0), (42, 20), (55, 0)] h 0 (-1) 200 v h' ∧ (∀ r, v = some (0, r) → RA h' w0 r) ∧ ∀ r, v = some (0, r) → TxR h' (TR h 6 0 K00 0) r) := by
  refine ⟨by decide, by rw [ml273]; exact Nat.le_of_ble_eq_true rfl, ?_⟩
  rw [ml273, pp273]
  show jEv _ none _ c273_0 0 0 _ (c273_0, [(2, 42), (9, 0), (9, 0)], [], h, 0, 0)
  have k0 := Kp.rf [(42, 21), (42, 22), (49, 0), (50, 0), (51, 0), (52, 0), (53, 0), (42, 20), (55, 0)] h
  refine ev_iconst ?_
  refine ev_istore_n (L' := [(2, 42), (0, 0), (9, 0)]) (Nat.le_of_ble_eq_true rfl) rfl ?_
  refine ev_aload_n rfl ?_
  refine ev_iconst ?_
  refine g_putf (r := 42) g ad42 (by decide) ft12_19 (by decide) (fun e => absurd e nz12_19) rf42_19 (by decide) (by omega) (by omega) (fun h84773 e84773 g84773 => ?_)
  have k84773 := k0.wr e84773 rfl
  exact (t273_l ew0 lw0 uw0 ew1 ew2 lw2 uw2 14) _ _ _ _ _ g84773 k84773 (by omega) (by omega) ((jw_eq e84773)) (by omega) (by omega) (((jw_ne e84773 (Or.inr (by decide))).trans ew1)) (by omega) (by omega) (Iv.zero ((jw_eq e84773))) ⟨K00, KoR.zero ((jw_eq e84773)), rfl⟩ (by omega)
set_option maxHeartbeats 4000000 in
theorem t274 {G : GH} {h : JH} (g : Gd G h) {w0 : Int} (ew0 : h.2.2 42 9 = w0) (lw0 : 0 ≤ w0) (uw0 : w0 ≤ 6) {w1 : Int} (ew1 : h.2.2 42 17 = w1) (lw1 : 0 ≤ w1) (uw1 : w1 ≤ 200) : jOk 741 0 0 274 [(2, 42)] h (fun v h' => ∃ r : Int, v = some (0, r) ∧ Gd G h' ∧ Kp [(42, 21), (42, 22), (49, 0), (50, 0), (51, 0), (52, 0), (53, 0), (42, 20), (55, 0), (42, 18), (48, 0), (42, 10)] h h' ∧ (-2147483648) ≤ r ∧ r ≤ 2147483647 ∧ r = qzA w0 (TR h 6 0 K00 0) ∧ h'.2.2 42 9 = qzN w0 (TR h 6 0 K00 0) ∧ h'.2.2 42 17 = (if w0 = 6 then 0 + w1 else 0)) := by
  refine ⟨by decide, by rw [ml274]; exact Nat.le_of_ble_eq_true rfl, ?_⟩
  rw [ml274, pp274]
  show jEv _ none _ c274_0 0 0 _ (c274_0, [(2, 42), (9, 0)], [], h, 0, 0)
  have k0 := Kp.rf [(42, 21), (42, 22), (49, 0), (50, 0), (51, 0), (52, 0), (53, 0), (42, 20), (55, 0), (42, 18), (48, 0), (42, 10)] h
  refine ev_aload_n rfl ?_
  refine g_getv (r := 42) (v := w0) g ad42 (by decide) ft12_9 (ew0) ?_
  refine ev_bipush ?_
  refine ev_icmpne f274_12 (fun c84800 => ?_) (fun c84800 => ?_)
  · refine ev_aload_n rfl ?_
    refine ev_iconst ?_
    refine g_putf (r := 42) g ad42 (by decide) ft12_20 (by decide) (fun e => absurd e nz12_20) rf42_20 (by decide) (by omega) (by omega) (fun h84801 e84801 g84801 => ?_)
    have k84801 := k0.wr e84801 rfl
    refine ev_aload_n rfl ?_
    refine ev_iconst ?_
    refine g_putf (r := 42) g84801 ad42 (by decide) ft12_21 (by decide) (fun e => absurd e nz12_21) rf42_21 (by decide) (by omega) (by omega) (fun h84802 e84802 g84802 => ?_)
    have k84802 := k84801.wr e84802 rfl
    refine ev_aload_n rfl ?_
    refine ev_call (jcall_v (A := []) (S' := []) (r := 42) rfl (g84802.lt ad42) (g84802.tg ad42) (Nat.le_of_ble_eq_true rfl)) (jOk_le (by decide) (t273 g84802 (((jw_ne e84802 (Or.inr (by decide))).trans ((jw_ne e84801 (Or.inr (by decide))).trans ew0))) (by omega) (by omega) ((jw_eq e84802)) (((jw_ne e84802 (Or.inr (by decide))).trans ((jw_ne e84801 (Or.inr (by decide))).trans ew1))) (by omega) (by omega))) (by decide) (by decide) (fun w84803 h84803 q84803 => ?_)
    obtain ⟨q84803, ra84803, xr84803⟩ := q84803
    obtain ⟨v84804, rfl, lv84804, uv84804, g84803, kk84803⟩ := q84803
    obtain ⟨m84805, em84805, lm84805, ra84803⟩ := ra84803 _ rfl
    have um84805 := (g84803.rg ad42 (i := 21) (by decide) rf42_21).2
    rw [em84805] at um84805
    have xr84803 := xr84803 _ rfl
    rw [TR_kp (((Kp.rf [(42, 21), (42, 22)] _).wr e84801 rfl).wr e84802 rfl) (fun _ => rfl) rfl (fun _ => rfl) rfl] at xr84803
    unfold TxR at xr84803
    obtain ⟨Q, eQ⟩ : ∃ R : RS, TR h 6 0 K00 0 = R := ⟨_, rfl⟩
    obtain ⟨f84806, ef84806⟩ : ∃ z : Int, h84803.2.2 42 20 = z := ⟨_, rfl⟩
    rw [eQ, ef84806, em84805] at xr84803
    have bf84806 := g84803.rg ad42 (i := 20) (by decide) rf42_20
    rw [ef84806] at bf84806
    have k84803 := k84802.tr kk84803 (by decide)
    show jEv _ _ _ _ _ _ _ (_, [(2, 42), (9, 0)], [(0, v84804)], _, _, _)
    refine ev_istore_n (L' := [(2, 42), (0, v84804)]) (Nat.le_of_ble_eq_true rfl) rfl ?_
    refine ev_aload_n rfl ?_
    refine ev_iconst ?_
    refine g_putf (r := 42) g84803 ad42 (by decide) ft12_17 (by decide) (fun e => absurd e nz12_17) rf42_17 (by decide) (by omega) (by omega) (fun h84807 e84807 g84807 => ?_)
    have k84807 := k84803.wr e84807 rfl
    refine ev_iload_n rfl ?_
    refine ev_ifge f274_44 (fun c84808 => ?_) (fun c84808 => ?_)
    · refine ev_aload_n rfl ?_
      refine g_getv (r := 42) (v := m84805) g84807 ad42 (by decide) ft12_21 (((jw_ne e84807 (Or.inr (by decide))).trans em84805)) ?_
      refine ev_bipush ?_
      refine ev_icmple f274_56 (fun c84809 => ?_) (fun c84809 => ?_)
      · refine ev_aload_n rfl ?_
        refine g_getp (r := 42) (c := 48) g84807 ad42 (by decide) (by decide) rf42_10 ft12_10 ?_
        refine ev_aload_n rfl ?_
        refine g_getv (r := 42) (v := w0) g84807 ad42 (by decide) ft12_9 (((jw_ne e84807 (Or.inr (by decide))).trans ((kk84803.v (by decide)).trans ((jw_ne e84802 (Or.inr (by decide))).trans ((jw_ne e84801 (Or.inr (by decide))).trans ew0))))) ?_
        refine ev_aload_n rfl ?_
        refine g_getv (r := 42) (v := m84805) g84807 ad42 (by decide) ft12_21 (((jw_ne e84807 (Or.inr (by decide))).trans em84805)) ?_
        refine ev_iastG (r := 48) (j := (w0).toNat) (g84807.lt ad48) (g84807.tg ad48) (by omega) (by rw [g84807.ln ad48]; omega) (fun h84810 e84810 => ?_)
        have g84810 := g84807.s48 e84810 (by rw [(((jw_ne e84807 (Or.inr (by decide))).trans ((kk84803.v (by decide)).trans ((jw_ne e84802 (Or.inr (by decide))).trans ((jw_ne e84801 (Or.inr (by decide))).trans ew0)))))]; omega) (by omega) (by omega)
        have k84810 := k84807.wr e84810 rfl
        refine ev_aload_n rfl ?_
        refine ev_dup (by decide) ?_
        refine g_getv (r := 42) (v := w0) g84810 ad42 (by decide) ft12_9 (((jw_ne e84810 (Or.inl (by decide))).trans ((jw_ne e84807 (Or.inr (by decide))).trans ((kk84803.v (by decide)).trans ((jw_ne e84802 (Or.inr (by decide))).trans ((jw_ne e84801 (Or.inr (by decide))).trans ew0)))))) ?_
        refine ev_iconst ?_
        refine ev_iadd (r := (w0 + 1)) (by unfold w32; omega) ?_
        refine ev_putfG (r := 42) (g84810.lt ad42) (g84810.fam ad42 (by decide)) ft12_9 (fun e => absurd e nz12_9) (fun e => absurd e (by decide)) (fun h84811 e84811 => ?_)
        have g84811 := g84810.newq e84811 (((jw_ne e84810 (Or.inl (by decide))).trans ((jw_ne e84807 (Or.inr (by decide))).trans ((kk84803.v (by decide)).trans ((jw_ne e84802 (Or.inr (by decide))).trans ((jw_ne e84801 (Or.inr (by decide))).trans ew0)))))) (by omega) (by omega) ((jw_eq e84810)) (Tr.kp ((ra84803 (by omega)).2 (by omega)) (((Kp.rf [(42, 18), (48, 0)] _).wr e84807 rfl).wr e84810 rfl) rfl (fun _ => rfl) (fun _ => rfl) (fun _ => rfl) (fun _ => rfl) (fun _ => rfl))
        have k84811 := k84810.wr e84811 rfl
        refine ev_aload_n rfl ?_
        refine g_getv (r := 42) (v := (w0 + 1)) g84811 ad42 (by decide) ft12_9 ((jw_eq e84811)) ?_
        refine ev_iconst ?_
        refine ev_isub (r := w0) (by unfold w32; omega) ?_
        exact ev_ret rfl (by decide) (by decide) ⟨_, rfl, g84811, k84811, by omega, by omega, by rw [eQ]; unfold qzA w32; (repeat' split) <;> omega, (((jw_eq e84811))).trans (by rw [eQ]; unfold qzN; (repeat' split) <;> omega), ((((jw_ne e84811 (Or.inr (by decide))).trans ((jw_ne e84810 (Or.inl (by decide))).trans (jw_eq e84807))))).trans (by rw [if_neg (by omega)])⟩
      · refine ev_bipush ?_
        exact ev_ret rfl (by decide) (by decide) ⟨_, rfl, g84807, k84807, by omega, by omega, by rw [eQ]; unfold qzA w32; (repeat' split) <;> omega, ((((jw_ne e84807 (Or.inr (by decide))).trans ((kk84803.v (by decide)).trans ((jw_ne e84802 (Or.inr (by decide))).trans ((jw_ne e84801 (Or.inr (by decide))).trans ew0)))))).trans (by rw [eQ]; unfold qzN; (repeat' split) <;> omega), (((jw_eq e84807))).trans (by rw [if_neg (by omega)])⟩
    · refine ev_bipush ?_
      refine ev_aload_n rfl ?_
      refine g_getv (r := 42) (v := f84806) g84807 ad42 (by decide) ft12_20 (((jw_ne e84807 (Or.inr (by decide))).trans ef84806)) ?_
      refine g_isubG (fun v84812 ev84812 lv84812 uv84812 => ?_)
      exact ev_ret rfl (by decide) (by decide) ⟨_, rfl, g84807, k84807, by omega, by omega, by rw [eQ, ← ev84812]; unfold qzA w32; (repeat' split) <;> omega, ((((jw_ne e84807 (Or.inr (by decide))).trans ((kk84803.v (by decide)).trans ((jw_ne e84802 (Or.inr (by decide))).trans ((jw_ne e84801 (Or.inr (by decide))).trans ew0)))))).trans (by rw [eQ]; unfold qzN; (repeat' split) <;> omega), (((jw_eq e84807))).trans (by rw [if_neg (by omega)])⟩
  · refine ev_bipush ?_
    exact ev_ret rfl (by decide) (by decide) ⟨_, rfl, g, k0, by omega, by omega, by unfold qzA; rw [if_pos (by omega)], ((ew0)).trans (by unfold qzN; rw [if_pos (by omega)]), ((ew1)).trans (by rw [if_pos (by omega)]; omega)⟩
set_option maxHeartbeats 4000000 in
theorem t166 {G : GH} {h : JH} (g : Gd G h) {a1 : Int} (la1 : (-2147483648) ≤ a1) (ua1 : a1 ≤ 2147483647) {w0 : Int} (ew0 : h.2.2 1 0 = w0) (lw0 : 0 ≤ w0) (uw0 : w0 ≤ 4) {w1 : Int} (ew1 : h.2.2 0 3 = w1) (lw1 : 0 ≤ w1) (uw1 : w1 ≤ 6) : jOk 4 0 0 166 [(2, 0), (0, a1)] h (fun v h' => ∃ r : Int, v = some (0, r) ∧ Gd G h' ∧ Kp [(1, 1), (1, 3), (2, 0), (3, 0), (4, 0)] h h' ∧ (-5) ≤ r ∧ r ≤ 3 ∧ r = thA a1 w0 w1 ∧ h'.2.2 1 0 = thN a1 w0 w1 ∧ ThE h h' 2 a1 w0 w1 ∧ OnE h h' a1 w0 w1) := by
  refine ⟨by decide, by rw [ml166]; exact Nat.le_of_ble_eq_true rfl, ?_⟩
  rw [ml166, pp166]
  show jEv _ none _ c166_0 0 0 _ (c166_0, [(2, 0), (0, a1)], [], h, 0, 0)
  have k0 := Kp.rf [(1, 1), (1, 3), (2, 0), (3, 0), (4, 0)] h
  refine ev_iload_n rfl ?_
  refine ev_iconst ?_
  refine ev_icmplt f166_10 (fun c84833 => ?_) (fun c84833 => ?_)
  · refine ev_iconst ?_
    exact ev_ret rfl (by decide) (by decide) ⟨_, rfl, g, k0, by omega, by omega, by unfold thA; (repeat' split) <;> omega, ((ew0)).trans (by unfold thN; (repeat' split) <;> omega), Or.inr ⟨by unfold TV; omega, fun _ => rfl⟩, Or.inr ⟨by unfold TV; omega, fun _ => rfl⟩⟩
  · refine ev_iload_n rfl ?_
    refine ev_iconst ?_
    refine ev_icmple f166_12 (fun c84834 => ?_) (fun c84834 => ?_)
    · refine ev_aload_n rfl ?_
      refine g_getv (r := 0) (v := w1) g ad0 (by decide) ft11_3 (ew1) ?_
      refine ev_ifle f166_22 (fun c84835 => ?_) (fun c84835 => ?_)
      · refine ev_aload_n rfl ?_
        refine g_getp (r := 0) (c := 1) g ad0 (by decide) (by decide) rf0_0 ft11_0 ?_
        refine g_getv (r := 1) (v := w0) g ad1 (by decide) ft10_0 (ew0) ?_
        refine ev_iconst ?_
        refine ev_icmplt f166_38 (fun c84836 => ?_) (fun c84836 => ?_)
        · refine ev_aload_n rfl ?_
          refine g_getp (r := 0) (c := 1) g ad0 (by decide) (by decide) rf0_0 ft11_0 ?_
          refine ev_iload_n rfl ?_
          refine ev_in (d := 2) (a := 0) (b := 0) (cd' := c139_0) (m := 2) (L0 := [(2, 1), (0, a1)]) (jcall_v (A := [(0, a1)]) (S' := []) (r := 1) rfl (g.lt ad1) (g.tg ad1) (Nat.le_of_ble_eq_true rfl)) (by decide) ml139 pp139 (Nat.le_of_ble_eq_true rfl) rfl (by decide) (by decide) ?_
          refine ev_aload_n rfl ?_
          refine g_getv (r := 1) (v := w0) g ad1 (by decide) ft10_0 (ew0) ?_
          refine ev_iconst ?_
          refine ev_icmplt f139_11 (fun c84837 => ?_) (fun c84837 => absurd c84837 (by omega))
          refine ev_aload_n rfl ?_
          refine g_getp (r := 1) (c := 2) g ad1 (by decide) (by decide) rf1_3 ft10_3 ?_
          refine ev_aload_n rfl ?_
          refine g_getv (r := 1) (v := w0) g ad1 (by decide) ft10_0 (ew0) ?_
          refine ev_iload_n rfl ?_
          refine ev_iastG (r := 2) (j := (w0).toNat) (g.lt ad2) (g.tg ad2) (by omega) (by rw [g.ln ad2]; omega) (fun h84838 e84838 => ?_)
          have g84838 := g.ways e84838 (by rw [(ew0)]; omega) (by omega) (by omega)
          have k84838 := k0.wr e84838 rfl
          refine ev_aload_n rfl ?_
          refine g_getp (r := 1) (c := 3) g84838 ad1 (by decide) (by decide) rf1_4 ft10_4 ?_
          refine ev_aload_n rfl ?_
          refine g_getv (r := 1) (v := w0) g84838 ad1 (by decide) ft10_0 (((jw_ne e84838 (Or.inl (by decide))).trans ew0)) ?_
          refine ev_iconst ?_
          refine g_iast g84838 ad3 rt3 (fun _ => rfl) (by omega) (by omega) (by omega) (by omega) (fun h84839 e84839 g84839 => ?_)
          have k84839 := k84838.wr e84839 rfl
          refine ev_aload_n rfl ?_
          refine ev_aload_n rfl ?_
          refine g_getv (r := 1) (v := w0) g84839 ad1 (by decide) ft10_0 (((jw_ne e84839 (Or.inl (by decide))).trans ((jw_ne e84838 (Or.inl (by decide))).trans ew0))) ?_
          refine ev_call (jcall_v (A := [(0, w0)]) (S' := []) (r := 1) rfl (g84839.lt ad1) (g84839.tg ad1) (Nat.le_of_ble_eq_true rfl)) (jOk_le (by decide) (s144 g84839 (by omega) (by omega))) (by decide) (by decide) (fun w84840 h84840 q84840 => ?_)
          obtain ⟨rfl, g84840, kk84840⟩ := q84840
          have k84840 := k84839.tr kk84840 (by decide)
          show jEv _ _ _ _ _ _ _ (_, [(2, 1), (0, a1)], [], _, _, _)
          refine ev_aload_n rfl ?_
          refine ev_dup (by decide) ?_
          refine g_getv (r := 1) (v := w0) g84840 ad1 (by decide) ft10_0 (((kk84840.v (by decide)).trans ((jw_ne e84839 (Or.inl (by decide))).trans ((jw_ne e84838 (Or.inl (by decide))).trans ew0)))) ?_
          refine ev_iconst ?_
          refine ev_iadd (r := (w0 + 1)) (by unfold w32; omega) ?_
          refine ev_putfG (r := 1) (g84840.lt ad1) (g84840.fam ad1 (by decide)) ft10_0 (fun e => absurd e nz10_0) (fun e => absurd e (by decide)) (fun h84841 e84841 => ?_)
          have g84841 := g84840.size e84841 (((kk84840.v (by decide)).trans ((jw_ne e84839 (Or.inl (by decide))).trans ((jw_ne e84838 (Or.inl (by decide))).trans ew0)))) (by rw [(((kk84840.v rfl).trans ((jw_ne e84839 (Or.inl (by decide))).trans (jw_eq e84838))))]; omega) (by omega) (by omega)
          have k84841 := k84840.wr e84841 rfl
          refine ev_aload_n rfl ?_
          refine ev_iconst ?_
          refine g_putf (r := 1) g84841 ad1 (by decide) ft10_2 (by decide) (fun _ => by omega) rf1_2 (by decide) (by omega) (by omega) (fun h84842 e84842 g84842 => ?_)
          have k84842 := k84841.wr e84842 rfl
          refine ev_aload_n rfl ?_
          refine g_getv (r := 1) (v := (w0 + 1)) g84842 ad1 (by decide) ft10_0 (((jw_ne e84842 (Or.inr (by decide))).trans (jw_eq e84841))) ?_
          refine ev_iconst ?_
          refine ev_isub (r := w0) (by unfold w32; omega) ?_
          refine ev_ret rfl (by decide) (by decide) ?_
          show jEv _ _ _ _ _ _ _ (_, [(2, 0), (0, a1)], [(0, w0)], _, _, _)
          exact ev_ret rfl (by decide) (by decide) ⟨_, rfl, g84842, k84842, by omega, by omega, by unfold thA; (repeat' split) <;> omega, ((((jw_ne e84842 (Or.inr (by decide))).trans (jw_eq e84841)))).trans (by unfold thN; (repeat' split) <;> omega), Or.inl ⟨by unfold TV; omega, (Up.kp (Up.kp (Up.kp (Up.kp (Up.mk2 (i := w0) (i' := w0) (v' := a1) e84838 (by omega) (by omega)) ((Kp.rf [(3, 0)] _).wr e84839 rfl) (fun _ => rfl)) kk84840 (fun _ => rfl)) ((Kp.rf [(1, 0)] _).wr e84841 rfl) (fun _ => rfl)) ((Kp.rf [(1, 0)] _).wr e84842 rfl) (fun _ => rfl))⟩, Or.inl ⟨by unfold TV; omega, (Up.kp (Up.kp (Up.kp (Up.pk ((Kp.rf [(2, 0)] _).wr e84838 rfl) (fun _ => rfl) (Up.mk2 (i := w0) (i' := w0) (v' := (-1)) e84839 (by omega) (by omega))) kk84840 (fun _ => rfl)) ((Kp.rf [(1, 0)] _).wr e84841 rfl) (fun _ => rfl)) ((Kp.rf [(1, 0)] _).wr e84842 rfl) (fun _ => rfl))⟩⟩
        · refine ev_bipush ?_
          refine ev_goto f166_46 ?_
          exact ev_ret rfl (by decide) (by decide) ⟨_, rfl, g, k0, by omega, by omega, by unfold thA; (repeat' split) <;> omega, ((ew0)).trans (by unfold thN; (repeat' split) <;> omega), Or.inr ⟨by unfold TV; omega, fun _ => rfl⟩, Or.inr ⟨by unfold TV; omega, fun _ => rfl⟩⟩
      · refine ev_bipush ?_
        exact ev_ret rfl (by decide) (by decide) ⟨_, rfl, g, k0, by omega, by omega, by unfold thA; (repeat' split) <;> omega, ((ew0)).trans (by unfold thN; (repeat' split) <;> omega), Or.inr ⟨by unfold TV; omega, fun _ => rfl⟩, Or.inr ⟨by unfold TV; omega, fun _ => rfl⟩⟩
    · refine ev_iconst ?_
      exact ev_ret rfl (by decide) (by decide) ⟨_, rfl, g, k0, by omega, by omega, by unfold thA; (repeat' split) <;> omega, ((ew0)).trans (by unfold thN; (repeat' split) <;> omega), Or.inr ⟨by unfold TV; omega, fun _ => rfl⟩, Or.inr ⟨by unfold TV; omega, fun _ => rfl⟩⟩
set_option maxHeartbeats 4000000 in
theorem t247 {G : GH} {h : JH} (g : Gd G h) {a1 : Int} (la1 : (-2147483648) ≤ a1) (ua1 : a1 ≤ 2147483647) {w0 : Int} (ew0 : h.2.2 42 1 = w0) (lw0 : 0 ≤ w0) (uw0 : w0 ≤ 4) {w1 : Int} (ew1 : h.2.2 42 9 = w1) (lw1 : 0 ≤ w1) (uw1 : w1 ≤ 6) : jOk 2 0 0 247 [(2, 42), (0, a1)] h (fun v h' => ∃ r : Int, v = some (0, r) ∧ Gd G h' ∧ Kp [(42, 2), (43, 0), (45, 0)] h h' ∧ (-5) ≤ r ∧ r ≤ 3 ∧ r = thA a1 w0 w1 ∧ h'.2.2 42 1 = thN a1 w0 w1 ∧ ThE h h' 43 a1 w0 w1) := by
  refine ⟨by decide, by rw [ml247]; exact Nat.le_of_ble_eq_true rfl, ?_⟩
  rw [ml247, pp247]
  show jEv _ none _ c247_0 0 0 _ (c247_0, [(2, 42), (0, a1), (9, 0)], [], h, 0, 0)
  have k0 := Kp.rf [(42, 2), (43, 0), (45, 0)] h
  refine ev_iload_n rfl ?_
  refine ev_iconst ?_
  refine ev_iconst ?_
  refine ev_in (d := 0) (a := 0) (b := 0) (cd' := c242_0) (m := 3) (L0 := [(0, a1), (0, 2), (0, 3)]) (jcall_s (A := [(0, 3), (0, 2), (0, a1)]) (S' := []) (by decide) rfl (Nat.le_of_ble_eq_true rfl)) (by decide) ml242 pp242 (Nat.le_of_ble_eq_true rfl) rfl (by decide) (by decide) ?_
  refine ev_iload_n rfl ?_
  refine ev_iload_n rfl ?_
  refine ev_icmplt f242_14 (fun c84899 => ?_) (fun c84899 => ?_)
  · refine ev_iconst ?_
    refine ev_ret rfl (by decide) (by decide) ?_
    show jEv _ _ _ _ _ _ _ (_, [(2, 42), (0, a1), (9, 0)], [(0, 0)], _, _, _)
    refine ev_ifne f247_11 (fun c84900 => absurd c84900 (by omega)) (fun c84900 => ?_)
    refine ev_iconst ?_
    exact ev_ret rfl (by decide) (by decide) ⟨_, rfl, g, k0, by omega, by omega, by unfold thA; (repeat' split) <;> omega, ((ew0)).trans (by unfold thN; (repeat' split) <;> omega), Or.inr ⟨by unfold TV; omega, fun _ => rfl⟩⟩
  · refine ev_iload_n rfl ?_
    refine ev_iload_n rfl ?_
    refine ev_icmpgt f242_14 (fun c84901 => ?_) (fun c84901 => ?_)
    · refine ev_iconst ?_
      refine ev_ret rfl (by decide) (by decide) ?_
      show jEv _ _ _ _ _ _ _ (_, [(2, 42), (0, a1), (9, 0)], [(0, 0)], _, _, _)
      refine ev_ifne f247_11 (fun c84902 => absurd c84902 (by omega)) (fun c84902 => ?_)
      refine ev_iconst ?_
      exact ev_ret rfl (by decide) (by decide) ⟨_, rfl, g, k0, by omega, by omega, by unfold thA; (repeat' split) <;> omega, ((ew0)).trans (by unfold thN; (repeat' split) <;> omega), Or.inr ⟨by unfold TV; omega, fun _ => rfl⟩⟩
    · refine ev_iconst ?_
      refine ev_goto f242_15 ?_
      refine ev_ret rfl (by decide) (by decide) ?_
      show jEv _ _ _ _ _ _ _ (_, [(2, 42), (0, a1), (9, 0)], [(0, 1)], _, _, _)
      refine ev_ifne f247_11 (fun c84903 => ?_) (fun c84903 => absurd c84903 (by omega))
      refine ev_aload_n rfl ?_
      refine g_getv (r := 42) (v := w1) g ad42 (by decide) ft12_9 (ew1) ?_
      refine ev_ifle f247_21 (fun c84904 => ?_) (fun c84904 => ?_)
      · refine ev_aload_n rfl ?_
        refine g_getv (r := 42) (v := w0) g ad42 (by decide) ft12_1 (ew0) ?_
        refine ev_iconst ?_
        refine ev_icmpne f247_32 (fun c84905 => ?_) (fun c84905 => ?_)
        · refine ev_aload_n rfl ?_
          refine g_getp (r := 42) (c := 43) g ad42 (by decide) (by decide) rf42_2 ft12_2 ?_
          refine ev_aload_n rfl ?_
          refine g_getv (r := 42) (v := w0) g ad42 (by decide) ft12_1 (ew0) ?_
          refine ev_iload_n rfl ?_
          refine ev_iastG (r := 43) (j := (w0).toNat) (g.lt ad43) (g.tg ad43) (by omega) (by rw [g.ln ad43]; omega) (fun h84906 e84906 => ?_)
          have g84906 := g.s43 e84906 (by rw [(ew0)]; omega) (by omega) (by omega)
          have k84906 := k0.wr e84906 rfl
          refine ev_bipush ?_
          refine ev_aload_n rfl ?_
          refine g_getv (r := 42) (v := w0) g84906 ad42 (by decide) ft12_1 (((jw_ne e84906 (Or.inl (by decide))).trans ew0)) ?_
          refine ev_imul (r := (9 * w0)) (by unfold w32; omega) ?_
          refine ev_istore_n (L' := [(2, 42), (0, a1), (0, (9 * w0))]) (Nat.le_of_ble_eq_true rfl) rfl ?_
          refine ev_iload_n rfl ?_
          refine ev_bipush ?_
          refine ev_aload_n rfl ?_
          refine g_getv (r := 42) (v := w0) g84906 ad42 (by decide) ft12_1 (((jw_ne e84906 (Or.inl (by decide))).trans ew0)) ?_
          refine ev_imul (r := (9 * w0)) (by unfold w32; omega) ?_
          refine ev_bipush ?_
          refine ev_iadd (r := (9 * w0 + 9)) (by unfold w32; omega) ?_
          refine ev_icmpge f247_77 (fun c84907 => absurd c84907 (by omega)) (fun c84907 => ?_)
          refine ev_aload_n rfl ?_
          refine g_getp (r := 42) (c := 45) g84906 ad42 (by decide) (by decide) rf42_4 ft12_4 ?_
          refine ev_iload_n rfl ?_
          refine ev_iconst ?_
          refine ev_iastG (r := 45) (j := ((9 * w0)).toNat) (g84906.lt ad45) (g84906.tg ad45) (by omega) (by rw [g84906.ln ad45]; omega) (fun h84908 e84908 => ?_)
          have g84908 := g84906.s45 e84908 (by omega) (by omega)
          have k84908 := k84906.wr e84908 rfl
          refine ev_iinc (w := (9 * w0 + 1)) (L' := [(2, 42), (0, a1), (0, (9 * w0 + 1))]) rfl (by unfold w32; omega) rfl ?_
          refine ev_goto f247_50 ?_
          refine ev_iload_n rfl ?_
          refine ev_bipush ?_
          refine ev_aload_n rfl ?_
          refine g_getv (r := 42) (v := w0) g84908 ad42 (by decide) ft12_1 (((jw_ne e84908 (Or.inl (by decide))).trans ((jw_ne e84906 (Or.inl (by decide))).trans ew0))) ?_
          refine ev_imul (r := (9 * w0)) (by unfold w32; omega) ?_
          refine ev_bipush ?_
          refine ev_iadd (r := (9 * w0 + 9)) (by unfold w32; omega) ?_
          refine ev_icmpge f247_77 (fun c84909 => absurd c84909 (by omega)) (fun c84909 => ?_)
          refine ev_aload_n rfl ?_
          refine g_getp (r := 42) (c := 45) g84908 ad42 (by decide) (by decide) rf42_4 ft12_4 ?_
          refine ev_iload_n rfl ?_
          refine ev_iconst ?_
          refine ev_iastG (r := 45) (j := ((9 * w0 + 1)).toNat) (g84908.lt ad45) (g84908.tg ad45) (by omega) (by rw [g84908.ln ad45]; omega) (fun h84910 e84910 => ?_)
          have g84910 := g84908.s45 e84910 (by omega) (by omega)
          have k84910 := k84908.wr e84910 rfl
          refine ev_iinc (w := (9 * w0 + 2)) (L' := [(2, 42), (0, a1), (0, (9 * w0 + 2))]) rfl (by unfold w32; omega) rfl ?_
          refine ev_goto f247_50 ?_
          refine ev_iload_n rfl ?_
          refine ev_bipush ?_
          refine ev_aload_n rfl ?_
          refine g_getv (r := 42) (v := w0) g84910 ad42 (by decide) ft12_1 (((jw_ne e84910 (Or.inl (by decide))).trans ((jw_ne e84908 (Or.inl (by decide))).trans ((jw_ne e84906 (Or.inl (by decide))).trans ew0)))) ?_
          refine ev_imul (r := (9 * w0)) (by unfold w32; omega) ?_
          refine ev_bipush ?_
          refine ev_iadd (r := (9 * w0 + 9)) (by unfold w32; omega) ?_
          refine ev_icmpge f247_77 (fun c84911 => absurd c84911 (by omega)) (fun c84911 => ?_)
          refine ev_aload_n rfl ?_
          refine g_getp (r := 42) (c := 45) g84910 ad42 (by decide) (by decide) rf42_4 ft12_4 ?_
          refine ev_iload_n rfl ?_
          refine ev_iconst ?_
          refine ev_iastG (r := 45) (j := ((9 * w0 + 2)).toNat) (g84910.lt ad45) (g84910.tg ad45) (by omega) (by rw [g84910.ln ad45]; omega) (fun h84912 e84912 => ?_)
          have g84912 := g84910.s45 e84912 (by omega) (by omega)
          have k84912 := k84910.wr e84912 rfl
          refine ev_iinc (w := (9 * w0 + 3)) (L' := [(2, 42), (0, a1), (0, (9 * w0 + 3))]) rfl (by unfold w32; omega) rfl ?_
          refine ev_goto f247_50 ?_
          refine ev_iload_n rfl ?_
          refine ev_bipush ?_
          refine ev_aload_n rfl ?_
          refine g_getv (r := 42) (v := w0) g84912 ad42 (by decide) ft12_1 (((jw_ne e84912 (Or.inl (by decide))).trans ((jw_ne e84910 (Or.inl (by decide))).trans ((jw_ne e84908 (Or.inl (by decide))).trans ((jw_ne e84906 (Or.inl (by decide))).trans ew0))))) ?_
          refine ev_imul (r := (9 * w0)) (by unfold w32; omega) ?_
          refine ev_bipush ?_
          refine ev_iadd (r := (9 * w0 + 9)) (by unfold w32; omega) ?_
          refine ev_icmpge f247_77 (fun c84913 => absurd c84913 (by omega)) (fun c84913 => ?_)
          refine ev_aload_n rfl ?_
          refine g_getp (r := 42) (c := 45) g84912 ad42 (by decide) (by decide) rf42_4 ft12_4 ?_
          refine ev_iload_n rfl ?_
          refine ev_iconst ?_
          refine ev_iastG (r := 45) (j := ((9 * w0 + 3)).toNat) (g84912.lt ad45) (g84912.tg ad45) (by omega) (by rw [g84912.ln ad45]; omega) (fun h84914 e84914 => ?_)
          have g84914 := g84912.s45 e84914 (by omega) (by omega)
          have k84914 := k84912.wr e84914 rfl
          refine ev_iinc (w := (9 * w0 + 4)) (L' := [(2, 42), (0, a1), (0, (9 * w0 + 4))]) rfl (by unfold w32; omega) rfl ?_
          refine ev_goto f247_50 ?_
          refine ev_iload_n rfl ?_
          refine ev_bipush ?_
          refine ev_aload_n rfl ?_
          refine g_getv (r := 42) (v := w0) g84914 ad42 (by decide) ft12_1 (((jw_ne e84914 (Or.inl (by decide))).trans ((jw_ne e84912 (Or.inl (by decide))).trans ((jw_ne e84910 (Or.inl (by decide))).trans ((jw_ne e84908 (Or.inl (by decide))).trans ((jw_ne e84906 (Or.inl (by decide))).trans ew0)))))) ?_
          refine ev_imul (r := (9 * w0)) (by unfold w32; omega) ?_
          refine ev_bipush ?_
          refine ev_iadd (r := (9 * w0 + 9)) (by unfold w32; omega) ?_
          refine ev_icmpge f247_77 (fun c84915 => absurd c84915 (by omega)) (fun c84915 => ?_)
          refine ev_aload_n rfl ?_
          refine g_getp (r := 42) (c := 45) g84914 ad42 (by decide) (by decide) rf42_4 ft12_4 ?_
          refine ev_iload_n rfl ?_
          refine ev_iconst ?_
          refine ev_iastG (r := 45) (j := ((9 * w0 + 4)).toNat) (g84914.lt ad45) (g84914.tg ad45) (by omega) (by rw [g84914.ln ad45]; omega) (fun h84916 e84916 => ?_)
          have g84916 := g84914.s45 e84916 (by omega) (by omega)
          have k84916 := k84914.wr e84916 rfl
          refine ev_iinc (w := (9 * w0 + 5)) (L' := [(2, 42), (0, a1), (0, (9 * w0 + 5))]) rfl (by unfold w32; omega) rfl ?_
          refine ev_goto f247_50 ?_
          refine ev_iload_n rfl ?_
          refine ev_bipush ?_
          refine ev_aload_n rfl ?_
          refine g_getv (r := 42) (v := w0) g84916 ad42 (by decide) ft12_1 (((jw_ne e84916 (Or.inl (by decide))).trans ((jw_ne e84914 (Or.inl (by decide))).trans ((jw_ne e84912 (Or.inl (by decide))).trans ((jw_ne e84910 (Or.inl (by decide))).trans ((jw_ne e84908 (Or.inl (by decide))).trans ((jw_ne e84906 (Or.inl (by decide))).trans ew0))))))) ?_
          refine ev_imul (r := (9 * w0)) (by unfold w32; omega) ?_
          refine ev_bipush ?_
          refine ev_iadd (r := (9 * w0 + 9)) (by unfold w32; omega) ?_
          refine ev_icmpge f247_77 (fun c84917 => absurd c84917 (by omega)) (fun c84917 => ?_)
          refine ev_aload_n rfl ?_
          refine g_getp (r := 42) (c := 45) g84916 ad42 (by decide) (by decide) rf42_4 ft12_4 ?_
          refine ev_iload_n rfl ?_
          refine ev_iconst ?_
          refine ev_iastG (r := 45) (j := ((9 * w0 + 5)).toNat) (g84916.lt ad45) (g84916.tg ad45) (by omega) (by rw [g84916.ln ad45]; omega) (fun h84918 e84918 => ?_)
          have g84918 := g84916.s45 e84918 (by omega) (by omega)
          have k84918 := k84916.wr e84918 rfl
          refine ev_iinc (w := (9 * w0 + 6)) (L' := [(2, 42), (0, a1), (0, (9 * w0 + 6))]) rfl (by unfold w32; omega) rfl ?_
          refine ev_goto f247_50 ?_
          refine ev_iload_n rfl ?_
          refine ev_bipush ?_
          refine ev_aload_n rfl ?_
          refine g_getv (r := 42) (v := w0) g84918 ad42 (by decide) ft12_1 (((jw_ne e84918 (Or.inl (by decide))).trans ((jw_ne e84916 (Or.inl (by decide))).trans ((jw_ne e84914 (Or.inl (by decide))).trans ((jw_ne e84912 (Or.inl (by decide))).trans ((jw_ne e84910 (Or.inl (by decide))).trans ((jw_ne e84908 (Or.inl (by decide))).trans ((jw_ne e84906 (Or.inl (by decide))).trans ew0)))))))) ?_
          refine ev_imul (r := (9 * w0)) (by unfold w32; omega) ?_
          refine ev_bipush ?_
          refine ev_iadd (r := (9 * w0 + 9)) (by unfold w32; omega) ?_
          refine ev_icmpge f247_77 (fun c84919 => absurd c84919 (by omega)) (fun c84919 => ?_)
          refine ev_aload_n rfl ?_
          refine g_getp (r := 42) (c := 45) g84918 ad42 (by decide) (by decide) rf42_4 ft12_4 ?_
          refine ev_iload_n rfl ?_
          refine ev_iconst ?_
          refine ev_iastG (r := 45) (j := ((9 * w0 + 6)).toNat) (g84918.lt ad45) (g84918.tg ad45) (by omega) (by rw [g84918.ln ad45]; omega) (fun h84920 e84920 => ?_)
          have g84920 := g84918.s45 e84920 (by omega) (by omega)
          have k84920 := k84918.wr e84920 rfl
          refine ev_iinc (w := (9 * w0 + 7)) (L' := [(2, 42), (0, a1), (0, (9 * w0 + 7))]) rfl (by unfold w32; omega) rfl ?_
          refine ev_goto f247_50 ?_
          refine ev_iload_n rfl ?_
          refine ev_bipush ?_
          refine ev_aload_n rfl ?_
          refine g_getv (r := 42) (v := w0) g84920 ad42 (by decide) ft12_1 (((jw_ne e84920 (Or.inl (by decide))).trans ((jw_ne e84918 (Or.inl (by decide))).trans ((jw_ne e84916 (Or.inl (by decide))).trans ((jw_ne e84914 (Or.inl (by decide))).trans ((jw_ne e84912 (Or.inl (by decide))).trans ((jw_ne e84910 (Or.inl (by decide))).trans ((jw_ne e84908 (Or.inl (by decide))).trans ((jw_ne e84906 (Or.inl (by decide))).trans ew0))))))))) ?_
          refine ev_imul (r := (9 * w0)) (by unfold w32; omega) ?_
          refine ev_bipush ?_
          refine ev_iadd (r := (9 * w0 + 9)) (by unfold w32; omega) ?_
          refine ev_icmpge f247_77 (fun c84921 => absurd c84921 (by omega)) (fun c84921 => ?_)
          refine ev_aload_n rfl ?_
          refine g_getp (r := 42) (c := 45) g84920 ad42 (by decide) (by decide) rf42_4 ft12_4 ?_
          refine ev_iload_n rfl ?_
          refine ev_iconst ?_
          refine ev_iastG (r := 45) (j := ((9 * w0 + 7)).toNat) (g84920.lt ad45) (g84920.tg ad45) (by omega) (by rw [g84920.ln ad45]; omega) (fun h84922 e84922 => ?_)
          have g84922 := g84920.s45 e84922 (by omega) (by omega)
          have k84922 := k84920.wr e84922 rfl
          refine ev_iinc (w := (9 * w0 + 8)) (L' := [(2, 42), (0, a1), (0, (9 * w0 + 8))]) rfl (by unfold w32; omega) rfl ?_
          refine ev_goto f247_50 ?_
          refine ev_iload_n rfl ?_
          refine ev_bipush ?_
          refine ev_aload_n rfl ?_
          refine g_getv (r := 42) (v := w0) g84922 ad42 (by decide) ft12_1 (((jw_ne e84922 (Or.inl (by decide))).trans ((jw_ne e84920 (Or.inl (by decide))).trans ((jw_ne e84918 (Or.inl (by decide))).trans ((jw_ne e84916 (Or.inl (by decide))).trans ((jw_ne e84914 (Or.inl (by decide))).trans ((jw_ne e84912 (Or.inl (by decide))).trans ((jw_ne e84910 (Or.inl (by decide))).trans ((jw_ne e84908 (Or.inl (by decide))).trans ((jw_ne e84906 (Or.inl (by decide))).trans ew0)))))))))) ?_
          refine ev_imul (r := (9 * w0)) (by unfold w32; omega) ?_
          refine ev_bipush ?_
          refine ev_iadd (r := (9 * w0 + 9)) (by unfold w32; omega) ?_
          refine ev_icmpge f247_77 (fun c84923 => absurd c84923 (by omega)) (fun c84923 => ?_)
          refine ev_aload_n rfl ?_
          refine g_getp (r := 42) (c := 45) g84922 ad42 (by decide) (by decide) rf42_4 ft12_4 ?_
          refine ev_iload_n rfl ?_
          refine ev_iconst ?_
          refine ev_iastG (r := 45) (j := ((9 * w0 + 8)).toNat) (g84922.lt ad45) (g84922.tg ad45) (by omega) (by rw [g84922.ln ad45]; omega) (fun h84924 e84924 => ?_)
          have g84924 := g84922.s45 e84924 (by omega) (by omega)
          have k84924 := k84922.wr e84924 rfl
          refine ev_iinc (w := (9 * w0 + 9)) (L' := [(2, 42), (0, a1), (0, (9 * w0 + 9))]) rfl (by unfold w32; omega) rfl ?_
          refine ev_goto f247_50 ?_
          refine ev_iload_n rfl ?_
          refine ev_bipush ?_
          refine ev_aload_n rfl ?_
          refine g_getv (r := 42) (v := w0) g84924 ad42 (by decide) ft12_1 (((jw_ne e84924 (Or.inl (by decide))).trans ((jw_ne e84922 (Or.inl (by decide))).trans ((jw_ne e84920 (Or.inl (by decide))).trans ((jw_ne e84918 (Or.inl (by decide))).trans ((jw_ne e84916 (Or.inl (by decide))).trans ((jw_ne e84914 (Or.inl (by decide))).trans ((jw_ne e84912 (Or.inl (by decide))).trans ((jw_ne e84910 (Or.inl (by decide))).trans ((jw_ne e84908 (Or.inl (by decide))).trans ((jw_ne e84906 (Or.inl (by decide))).trans ew0))))))))))) ?_
          refine ev_imul (r := (9 * w0)) (by unfold w32; omega) ?_
          refine ev_bipush ?_
          refine ev_iadd (r := (9 * w0 + 9)) (by unfold w32; omega) ?_
          refine ev_icmpge f247_77 (fun c84925 => ?_) (fun c84925 => absurd c84925 (by omega))
          refine ev_aload_n rfl ?_
          refine ev_dup (by decide) ?_
          refine g_getv (r := 42) (v := w0) g84924 ad42 (by decide) ft12_1 (((jw_ne e84924 (Or.inl (by decide))).trans ((jw_ne e84922 (Or.inl (by decide))).trans ((jw_ne e84920 (Or.inl (by decide))).trans ((jw_ne e84918 (Or.inl (by decide))).trans ((jw_ne e84916 (Or.inl (by decide))).trans ((jw_ne e84914 (Or.inl (by decide))).trans ((jw_ne e84912 (Or.inl (by decide))).trans ((jw_ne e84910 (Or.inl (by decide))).trans ((jw_ne e84908 (Or.inl (by decide))).trans ((jw_ne e84906 (Or.inl (by decide))).trans ew0))))))))))) ?_
          refine ev_iconst ?_
          refine ev_iadd (r := (w0 + 1)) (by unfold w32; omega) ?_
          refine ev_putfG (r := 42) (g84924.lt ad42) (g84924.fam ad42 (by decide)) ft12_1 (fun e => absurd e nz12_1) (fun e => absurd e (by decide)) (fun h84926 e84926 => ?_)
          have g84926 := g84924.things e84926 (((jw_ne e84924 (Or.inl (by decide))).trans ((jw_ne e84922 (Or.inl (by decide))).trans ((jw_ne e84920 (Or.inl (by decide))).trans ((jw_ne e84918 (Or.inl (by decide))).trans ((jw_ne e84916 (Or.inl (by decide))).trans ((jw_ne e84914 (Or.inl (by decide))).trans ((jw_ne e84912 (Or.inl (by decide))).trans ((jw_ne e84910 (Or.inl (by decide))).trans ((jw_ne e84908 (Or.inl (by decide))).trans ((jw_ne e84906 (Or.inl (by decide))).trans ew0))))))))))) (by omega) (by omega) (by rw [(((jw_ne e84924 (Or.inl (by decide))).trans ((jw_ne e84922 (Or.inl (by decide))).trans ((jw_ne e84920 (Or.inl (by decide))).trans ((jw_ne e84918 (Or.inl (by decide))).trans ((jw_ne e84916 (Or.inl (by decide))).trans ((jw_ne e84914 (Or.inl (by decide))).trans ((jw_ne e84912 (Or.inl (by decide))).trans ((jw_ne e84910 (Or.inl (by decide))).trans ((jw_ne e84908 (Or.inl (by decide))).trans (jw_eq e84906)))))))))))]; omega) (h9_of (by omega) (((jw_ne e84924 (Or.inr (by omega))).trans ((jw_ne e84922 (Or.inr (by omega))).trans ((jw_ne e84920 (Or.inr (by omega))).trans ((jw_ne e84918 (Or.inr (by omega))).trans ((jw_ne e84916 (Or.inr (by omega))).trans ((jw_ne e84914 (Or.inr (by omega))).trans ((jw_ne e84912 (Or.inr (by omega))).trans ((jw_ne e84910 (Or.inr (by omega))).trans (jw_eq e84908)))))))))) (((jw_ne e84924 (Or.inr (by omega))).trans ((jw_ne e84922 (Or.inr (by omega))).trans ((jw_ne e84920 (Or.inr (by omega))).trans ((jw_ne e84918 (Or.inr (by omega))).trans ((jw_ne e84916 (Or.inr (by omega))).trans ((jw_ne e84914 (Or.inr (by omega))).trans ((jw_ne e84912 (Or.inr (by omega))).trans (jw_eq e84910))))))))) (((jw_ne e84924 (Or.inr (by omega))).trans ((jw_ne e84922 (Or.inr (by omega))).trans ((jw_ne e84920 (Or.inr (by omega))).trans ((jw_ne e84918 (Or.inr (by omega))).trans ((jw_ne e84916 (Or.inr (by omega))).trans ((jw_ne e84914 (Or.inr (by omega))).trans (jw_eq e84912)))))))) (((jw_ne e84924 (Or.inr (by omega))).trans ((jw_ne e84922 (Or.inr (by omega))).trans ((jw_ne e84920 (Or.inr (by omega))).trans ((jw_ne e84918 (Or.inr (by omega))).trans ((jw_ne e84916 (Or.inr (by omega))).trans (jw_eq e84914))))))) (((jw_ne e84924 (Or.inr (by omega))).trans ((jw_ne e84922 (Or.inr (by omega))).trans ((jw_ne e84920 (Or.inr (by omega))).trans ((jw_ne e84918 (Or.inr (by omega))).trans (jw_eq e84916)))))) (((jw_ne e84924 (Or.inr (by omega))).trans ((jw_ne e84922 (Or.inr (by omega))).trans ((jw_ne e84920 (Or.inr (by omega))).trans (jw_eq e84918))))) (((jw_ne e84924 (Or.inr (by omega))).trans ((jw_ne e84922 (Or.inr (by omega))).trans (jw_eq e84920)))) (((jw_ne e84924 (Or.inr (by omega))).trans (jw_eq e84922))) ((jw_eq e84924)))
          have k84926 := k84924.wr e84926 rfl
          refine ev_aload_n rfl ?_
          refine g_getv (r := 42) (v := (w0 + 1)) g84926 ad42 (by decide) ft12_1 ((jw_eq e84926)) ?_
          refine ev_iconst ?_
          refine ev_isub (r := w0) (by unfold w32; omega) ?_
          exact ev_ret rfl (by decide) (by decide) ⟨_, rfl, g84926, k84926, by omega, by omega, by unfold thA; (repeat' split) <;> omega, (((jw_eq e84926))).trans (by unfold thN; (repeat' split) <;> omega), Or.inl ⟨by unfold TV; omega, (Up.kp (Up.kp (Up.kp (Up.kp (Up.kp (Up.kp (Up.kp (Up.kp (Up.kp (Up.kp (Up.mk2 (i := w0) (i' := w0) (v' := a1) e84906 (by omega) (by omega)) ((Kp.rf [(45, 0)] _).wr e84908 rfl) (fun _ => rfl)) ((Kp.rf [(45, 0)] _).wr e84910 rfl) (fun _ => rfl)) ((Kp.rf [(45, 0)] _).wr e84912 rfl) (fun _ => rfl)) ((Kp.rf [(45, 0)] _).wr e84914 rfl) (fun _ => rfl)) ((Kp.rf [(45, 0)] _).wr e84916 rfl) (fun _ => rfl)) ((Kp.rf [(45, 0)] _).wr e84918 rfl) (fun _ => rfl)) ((Kp.rf [(45, 0)] _).wr e84920 rfl) (fun _ => rfl)) ((Kp.rf [(45, 0)] _).wr e84922 rfl) (fun _ => rfl)) ((Kp.rf [(45, 0)] _).wr e84924 rfl) (fun _ => rfl)) ((Kp.rf [(42, 0)] _).wr e84926 rfl) (fun _ => rfl))⟩⟩
        · refine ev_bipush ?_
          exact ev_ret rfl (by decide) (by decide) ⟨_, rfl, g, k0, by omega, by omega, by unfold thA; (repeat' split) <;> omega, ((ew0)).trans (by unfold thN; (repeat' split) <;> omega), Or.inr ⟨by unfold TV; omega, fun _ => rfl⟩⟩
      · refine ev_bipush ?_
        exact ev_ret rfl (by decide) (by decide) ⟨_, rfl, g, k0, by omega, by omega, by unfold thA; (repeat' split) <;> omega, ((ew0)).trans (by unfold thN; (repeat' split) <;> omega), Or.inr ⟨by unfold TV; omega, fun _ => rfl⟩⟩
set_option maxHeartbeats 4000000 in
theorem t167 {G : GH} {h : JH} (g : Gd G h) {a1 : Int} (la1 : (-2147483648) ≤ a1) (ua1 : a1 ≤ 2147483647) {a2 : Int} (la2 : (-2147483648) ≤ a2) (ua2 : a2 ≤ 2147483647) {w0 : Int} (ew0 : h.2.2 1 0 = w0) (lw0 : 0 ≤ w0) (uw0 : w0 ≤ 4) {w1 : Int} (ew1 : h.2.2 0 3 = w1) (lw1 : 0 ≤ w1) (uw1 : w1 ≤ 6) : jOk 4 0 0 167 [(2, 0), (0, a1), (0, a2)] h (fun v h' => ∃ r : Int, v = some (0, r) ∧ Gd G h' ∧ Kp [(1, 3), (3, 0), (4, 0), (0, 10), (0, 11)] h h' ∧ (-5) ≤ r ∧ r ≤ 1 ∧ HaE h h' 3 a1 a2 w0 w1 r) := by
  refine ⟨by decide, by rw [ml167]; exact Nat.le_of_ble_eq_true rfl, ?_⟩
  rw [ml167, pp167]
  show jEv _ none _ c167_0 0 0 _ (c167_0, [(2, 0), (0, a1), (0, a2)], [], h, 0, 0)
  have k0 := Kp.rf [(1, 3), (3, 0), (4, 0), (0, 10), (0, 11)] h
  refine ev_aload_n rfl ?_
  refine g_getp (r := 0) (c := 1) g ad0 (by decide) (by decide) rf0_0 ft11_0 ?_
  refine ev_iload_n rfl ?_
  refine ev_in (d := 2) (a := 0) (b := 0) (cd' := c140_0) (m := 2) (L0 := [(2, 1), (0, a1)]) (jcall_v (A := [(0, a1)]) (S' := []) (r := 1) rfl (g.lt ad1) (g.tg ad1) (Nat.le_of_ble_eq_true rfl)) (by decide) ml140 pp140 (Nat.le_of_ble_eq_true rfl) rfl (by decide) (by decide) ?_
  refine ev_iload_n rfl ?_
  refine ev_iflt f140_16 (fun c84979 => ?_) (fun c84979 => ?_)
  · refine ev_iconst ?_
    refine ev_ret rfl (by decide) (by decide) ?_
    show jEv _ _ _ _ _ _ _ (_, [(2, 0), (0, a1), (0, a2)], [(0, 0)], _, _, _)
    refine ev_ifeq f167_20 (fun c84980 => ?_) (fun c84980 => absurd c84980 (by omega))
    refine ev_iconst ?_
    exact ev_ret rfl (by decide) (by decide) ⟨_, rfl, g, k0, by omega, by omega, by unfold hgA; (repeat' split) <;> omega, Or.inr ⟨by unfold HV; omega, fun _ => rfl⟩⟩
  · refine ev_iload_n rfl ?_
    refine ev_aload_n rfl ?_
    refine g_getv (r := 1) (v := w0) g ad1 (by decide) ft10_0 (ew0) ?_
    refine ev_icmpge f140_16 (fun c84981 => ?_) (fun c84981 => ?_)
    · refine ev_iconst ?_
      refine ev_ret rfl (by decide) (by decide) ?_
      show jEv _ _ _ _ _ _ _ (_, [(2, 0), (0, a1), (0, a2)], [(0, 0)], _, _, _)
      refine ev_ifeq f167_20 (fun c84982 => ?_) (fun c84982 => absurd c84982 (by omega))
      refine ev_iconst ?_
      exact ev_ret rfl (by decide) (by decide) ⟨_, rfl, g, k0, by omega, by omega, by unfold hgA; (repeat' split) <;> omega, Or.inr ⟨by unfold HV; omega, fun _ => rfl⟩⟩
    · refine ev_iconst ?_
      refine ev_goto f140_17 ?_
      refine ev_ret rfl (by decide) (by decide) ?_
      show jEv _ _ _ _ _ _ _ (_, [(2, 0), (0, a1), (0, a2)], [(0, 1)], _, _, _)
      refine ev_ifeq f167_20 (fun c84983 => absurd c84983 (by omega)) (fun c84983 => ?_)
      refine ev_iload_n rfl ?_
      refine ev_iflt f167_20 (fun c84984 => ?_) (fun c84984 => ?_)
      · refine ev_iconst ?_
        exact ev_ret rfl (by decide) (by decide) ⟨_, rfl, g, k0, by omega, by omega, by unfold hgA; (repeat' split) <;> omega, Or.inr ⟨by unfold HV; omega, fun _ => rfl⟩⟩
      · refine ev_iload_n rfl ?_
        refine ev_iload_n rfl ?_
        refine ev_icmplt f167_22 (fun c84985 => ?_) (fun c84985 => ?_)
        · refine ev_aload_n rfl ?_
          refine g_getp (r := 0) (c := 1) g ad0 (by decide) (by decide) rf0_0 ft11_0 ?_
          refine ev_iload_n rfl ?_
          refine ev_in (d := 2) (a := 0) (b := 0) (cd' := c142_0) (m := 2) (L0 := [(2, 1), (0, a1)]) (jcall_v (A := [(0, a1)]) (S' := []) (r := 1) rfl (g.lt ad1) (g.tg ad1) (Nat.le_of_ble_eq_true rfl)) (by decide) ml142 pp142 (Nat.le_of_ble_eq_true rfl) rfl (by decide) (by decide) ?_
          refine ev_aload_n rfl ?_
          refine ev_iload_n rfl ?_
          refine ev_in (d := 1) (a := 0) (b := 0) (cd' := c140_0) (m := 2) (L0 := [(2, 1), (0, a1)]) (jcall_v (A := [(0, a1)]) (S' := []) (r := 1) rfl (g.lt ad1) (g.tg ad1) (Nat.le_of_ble_eq_true rfl)) (by decide) ml140 pp140 (Nat.le_of_ble_eq_true rfl) rfl (by decide) (by decide) ?_
          refine ev_iload_n rfl ?_
          refine ev_iflt f140_16 (fun c84986 => absurd c84986 (by omega)) (fun c84986 => ?_)
          refine ev_iload_n rfl ?_
          refine ev_aload_n rfl ?_
          refine g_getv (r := 1) (v := w0) g ad1 (by decide) ft10_0 (ew0) ?_
          refine ev_icmpge f140_16 (fun c84987 => absurd c84987 (by omega)) (fun c84987 => ?_)
          refine ev_iconst ?_
          refine ev_goto f140_17 ?_
          refine ev_ret rfl (by decide) (by decide) ?_
          show jEv _ _ _ _ _ _ _ (_, [(2, 1), (0, a1)], [(0, 1)], _, _, _)
          refine ev_ifeq f142_21 (fun c84988 => absurd c84988 (by omega)) (fun c84988 => ?_)
          refine ev_aload_n rfl ?_
          refine g_getp (r := 1) (c := 3) g ad1 (by decide) (by decide) rf1_4 ft10_4 ?_
          refine ev_iload_n rfl ?_
          refine g_iald g ad3 rt3 (by omega) (by omega) (fun v84989 ev84989 lv84989 uv84989 => ?_)
          refine ev_iflt f142_21 (fun c84990 => ?_) (fun c84990 => ?_)
          · refine ev_iconst ?_
            refine ev_ret rfl (by decide) (by decide) ?_
            show jEv _ _ _ _ _ _ _ (_, [(2, 0), (0, a1), (0, a2)], [(0, 0)], _, _, _)
            refine ev_ifne f167_40 (fun c84991 => absurd c84991 (by omega)) (fun c84991 => ?_)
            refine ev_aload_n rfl ?_
            refine g_getv (r := 0) (v := w1) g ad0 (by decide) ft11_3 (ew1) ?_
            refine ev_ifle f167_43 (fun c84992 => ?_) (fun c84992 => ?_)
            · refine ev_aload_n rfl ?_
              refine g_getp (r := 0) (c := 1) g ad0 (by decide) (by decide) rf0_0 ft11_0 ?_
              refine ev_iload_n rfl ?_
              refine ev_iload_n rfl ?_
              refine ev_in (d := 2) (a := 0) (b := 0) (cd' := c143_0) (m := 3) (L0 := [(2, 1), (0, a1), (0, a2)]) (jcall_v (A := [(0, a2), (0, a1)]) (S' := []) (r := 1) rfl (g.lt ad1) (g.tg ad1) (Nat.le_of_ble_eq_true rfl)) (by decide) ml143 pp143 (Nat.le_of_ble_eq_true rfl) rfl (by decide) (by decide) ?_
              refine ev_aload_n rfl ?_
              refine ev_iload_n rfl ?_
              refine ev_in (d := 1) (a := 0) (b := 0) (cd' := c140_0) (m := 2) (L0 := [(2, 1), (0, a1)]) (jcall_v (A := [(0, a1)]) (S' := []) (r := 1) rfl (g.lt ad1) (g.tg ad1) (Nat.le_of_ble_eq_true rfl)) (by decide) ml140 pp140 (Nat.le_of_ble_eq_true rfl) rfl (by decide) (by decide) ?_
              refine ev_iload_n rfl ?_
              refine ev_iflt f140_16 (fun c84993 => absurd c84993 (by omega)) (fun c84993 => ?_)
              refine ev_iload_n rfl ?_
              refine ev_aload_n rfl ?_
              refine g_getv (r := 1) (v := w0) g ad1 (by decide) ft10_0 (ew0) ?_
              refine ev_icmpge f140_16 (fun c84994 => absurd c84994 (by omega)) (fun c84994 => ?_)
              refine ev_iconst ?_
              refine ev_goto f140_17 ?_
              refine ev_ret rfl (by decide) (by decide) ?_
              show jEv _ _ _ _ _ _ _ (_, [(2, 1), (0, a1), (0, a2)], [(0, 1)], _, _, _)
              refine ev_ifeq f143_33 (fun c84995 => absurd c84995 (by omega)) (fun c84995 => ?_)
              refine ev_aload_n rfl ?_
              refine ev_iload_n rfl ?_
              refine ev_in (d := 1) (a := 0) (b := 0) (cd' := c140_0) (m := 2) (L0 := [(2, 1), (0, a2)]) (jcall_v (A := [(0, a2)]) (S' := []) (r := 1) rfl (g.lt ad1) (g.tg ad1) (Nat.le_of_ble_eq_true rfl)) (by decide) ml140 pp140 (Nat.le_of_ble_eq_true rfl) rfl (by decide) (by decide) ?_
              refine ev_iload_n rfl ?_
              refine ev_iflt f140_16 (fun c84996 => absurd c84996 (by omega)) (fun c84996 => ?_)
              refine ev_iload_n rfl ?_
              refine ev_aload_n rfl ?_
              refine g_getv (r := 1) (v := w0) g ad1 (by decide) ft10_0 (ew0) ?_
              refine ev_icmpge f140_16 (fun c84997 => absurd c84997 (by omega)) (fun c84997 => ?_)
              refine ev_iconst ?_
              refine ev_goto f140_17 ?_
              refine ev_ret rfl (by decide) (by decide) ?_
              show jEv _ _ _ _ _ _ _ (_, [(2, 1), (0, a1), (0, a2)], [(0, 1)], _, _, _)
              refine ev_ifeq f143_33 (fun c84998 => absurd c84998 (by omega)) (fun c84998 => ?_)
              refine ev_aload_n rfl ?_
              refine g_getp (r := 1) (c := 3) g ad1 (by decide) (by decide) rf1_4 ft10_4 ?_
              refine ev_iload_n rfl ?_
              refine ev_iload_n rfl ?_
              refine g_iast g ad3 rt3 (fun _ => rfl) (by omega) (by omega) (by omega) (by omega) (fun h84999 e84999 g84999 => ?_)
              have k84999 := k0.wr e84999 rfl
              refine ev_aload_n rfl ?_
              refine ev_iload_n rfl ?_
              refine ev_call (jcall_v (A := [(0, a1)]) (S' := []) (r := 1) rfl (g84999.lt ad1) (g84999.tg ad1) (Nat.le_of_ble_eq_true rfl)) (jOk_le (by decide) (s144 g84999 (by omega) (by omega))) (by decide) (by decide) (fun w85000 h85000 q85000 => ?_)
              obtain ⟨rfl, g85000, kk85000⟩ := q85000
              have k85000 := k84999.tr kk85000 (by decide)
              show jEv _ _ _ _ _ _ _ (_, [(2, 1), (0, a1), (0, a2)], [], _, _, _)
              refine ev_aload_n rfl ?_
              refine ev_iconst ?_
              refine g_putf (r := 1) g85000 ad1 (by decide) ft10_2 (by decide) (fun _ => by omega) rf1_2 (by decide) (by omega) (by omega) (fun h85001 e85001 g85001 => ?_)
              have k85001 := k85000.wr e85001 rfl
              refine ev_ret rfl (by decide) (by decide) ?_
              show jEv _ _ _ _ _ _ _ (_, [(2, 0), (0, a1), (0, a2)], [], _, _, _)
              refine ev_aload_n rfl ?_
              refine ev_iconst ?_
              refine g_putf (r := 0) g85001 ad0 (by decide) ft11_9 (by decide) (fun e => absurd e nz11_9) rf0_9 (by decide) (by omega) (by omega) (fun h85002 e85002 g85002 => ?_)
              have k85002 := k85001.wr e85002 rfl
              refine ev_aload_n rfl ?_
              refine ev_iconst ?_
              refine g_putf (r := 0) g85002 ad0 (by decide) ft11_10 (by decide) (fun e => absurd e nz11_10) rf0_10 (by decide) (by omega) (by omega) (fun h85003 e85003 g85003 => ?_)
              have k85003 := k85002.wr e85003 rfl
              refine ev_iconst ?_
              exact ev_ret rfl (by decide) (by decide) ⟨_, rfl, g85003, k85003, by omega, by omega, by rw [show h.2.2 3 (a1).toNat = v84989 from ev84989]; unfold hgA; (repeat' split) <;> omega, Or.inl ⟨by rw [show h.2.2 3 (a1).toNat = v84989 from ev84989]; unfold HV; omega, (Up.kp (Up.kp (Up.kp (Up.kp (Up.mk2 (i := a1) (i' := a1) (v' := a2) e84999 (by omega) (by omega)) kk85000 (fun _ => rfl)) ((Kp.rf [(1, 0)] _).wr e85001 rfl) (fun _ => rfl)) ((Kp.rf [(0, 0)] _).wr e85002 rfl) (fun _ => rfl)) ((Kp.rf [(0, 0)] _).wr e85003 rfl) (fun _ => rfl))⟩⟩
            · refine ev_bipush ?_
              exact ev_ret rfl (by decide) (by decide) ⟨_, rfl, g, k0, by omega, by omega, by rw [show h.2.2 3 (a1).toNat = v84989 from ev84989]; unfold hgA; (repeat' split) <;> omega, Or.inr ⟨by rw [show h.2.2 3 (a1).toNat = v84989 from ev84989]; unfold HV; omega, fun _ => rfl⟩⟩
          · refine ev_iconst ?_
            refine ev_goto f142_22 ?_
            refine ev_ret rfl (by decide) (by decide) ?_
            show jEv _ _ _ _ _ _ _ (_, [(2, 0), (0, a1), (0, a2)], [(0, 1)], _, _, _)
            refine ev_ifne f167_40 (fun c85004 => ?_) (fun c85004 => absurd c85004 (by omega))
            refine ev_bipush ?_
            exact ev_ret rfl (by decide) (by decide) ⟨_, rfl, g, k0, by omega, by omega, by rw [show h.2.2 3 (a1).toNat = v84989 from ev84989]; unfold hgA; (repeat' split) <;> omega, Or.inr ⟨by rw [show h.2.2 3 (a1).toNat = v84989 from ev84989]; unfold HV; omega, fun _ => rfl⟩⟩
        · refine ev_iconst ?_
          exact ev_ret rfl (by decide) (by decide) ⟨_, rfl, g, k0, by omega, by omega, by unfold hgA; (repeat' split) <;> omega, Or.inr ⟨by unfold HV; omega, fun _ => rfl⟩⟩
set_option maxHeartbeats 4000000 in
theorem t248 {G : GH} {h : JH} (g : Gd G h) {a1 : Int} (la1 : (-2147483648) ≤ a1) (ua1 : a1 ≤ 2147483647) {a2 : Int} (la2 : (-2147483648) ≤ a2) (ua2 : a2 ≤ 2147483647) {w0 : Int} (ew0 : h.2.2 42 1 = w0) (lw0 : 0 ≤ w0) (uw0 : w0 ≤ 4) {w1 : Int} (ew1 : h.2.2 42 9 = w1) (lw1 : 0 ≤ w1) (uw1 : w1 ≤ 6) : jOk 3 0 0 248 [(2, 42), (0, a1), (0, a2)] h (fun v h' => ∃ r : Int, v = some (0, r) ∧ Gd G h' ∧ Kp [(44, 0), (45, 0), (42, 23), (42, 24)] h h' ∧ (-5) ≤ r ∧ r ≤ 1 ∧ HaE h h' 44 a1 a2 w0 w1 r) := by
  refine ⟨by decide, by rw [ml248]; exact Nat.le_of_ble_eq_true rfl, ?_⟩
  rw [ml248, pp248]
  show jEv _ none _ c248_0 0 0 _ (c248_0, [(2, 42), (0, a1), (0, a2), (9, 0)], [], h, 0, 0)
  have k0 := Kp.rf [(44, 0), (45, 0), (42, 23), (42, 24)] h
  refine ev_aload_n rfl ?_
  refine ev_iload_n rfl ?_
  refine ev_in (d := 1) (a := 0) (b := 0) (cd' := c245_0) (m := 2) (L0 := [(2, 42), (0, a1)]) (jcall_v (A := [(0, a1)]) (S' := []) (r := 42) rfl (g.lt ad42) (g.tg ad42) (Nat.le_of_ble_eq_true rfl)) (by decide) ml245 pp245 (Nat.le_of_ble_eq_true rfl) rfl (by decide) (by decide) ?_
  refine ev_iload_n rfl ?_
  refine ev_iconst ?_
  refine ev_aload_n rfl ?_
  refine g_getv (r := 42) (v := w0) g ad42 (by decide) ft12_1 (ew0) ?_
  refine ev_iconst ?_
  refine ev_isub (r := (w0 - 1)) (by unfold w32; omega) ?_
  refine ev_in (d := 0) (a := 0) (b := 0) (cd' := c242_0) (m := 3) (L0 := [(0, a1), (0, 0), (0, (w0 - 1))]) (jcall_s (A := [(0, (w0 - 1)), (0, 0), (0, a1)]) (S' := []) (by decide) rfl (Nat.le_of_ble_eq_true rfl)) (by decide) ml242 pp242 (Nat.le_of_ble_eq_true rfl) rfl (by decide) (by decide) ?_
  refine ev_iload_n rfl ?_
  refine ev_iload_n rfl ?_
  refine ev_icmplt f242_14 (fun c85079 => ?_) (fun c85079 => ?_)
  · refine ev_iconst ?_
    refine ev_ret rfl (by decide) (by decide) ?_
    show jEv _ _ _ _ _ _ _ (_, [(2, 42), (0, a1)], [(0, 0)], _, _, _)
    refine ev_ret rfl (by decide) (by decide) ?_
    show jEv _ _ _ _ _ _ _ (_, [(2, 42), (0, a1), (0, a2), (9, 0)], [(0, 0)], _, _, _)
    refine ev_ifeq f248_19 (fun c85080 => ?_) (fun c85080 => absurd c85080 (by omega))
    refine ev_iconst ?_
    exact ev_ret rfl (by decide) (by decide) ⟨_, rfl, g, k0, by omega, by omega, by unfold hgA; (repeat' split) <;> omega, Or.inr ⟨by unfold HV; omega, fun _ => rfl⟩⟩
  · refine ev_iload_n rfl ?_
    refine ev_iload_n rfl ?_
    refine ev_icmpgt f242_14 (fun c85081 => ?_) (fun c85081 => ?_)
    · refine ev_iconst ?_
      refine ev_ret rfl (by decide) (by decide) ?_
      show jEv _ _ _ _ _ _ _ (_, [(2, 42), (0, a1)], [(0, 0)], _, _, _)
      refine ev_ret rfl (by decide) (by decide) ?_
      show jEv _ _ _ _ _ _ _ (_, [(2, 42), (0, a1), (0, a2), (9, 0)], [(0, 0)], _, _, _)
      refine ev_ifeq f248_19 (fun c85082 => ?_) (fun c85082 => absurd c85082 (by omega))
      refine ev_iconst ?_
      exact ev_ret rfl (by decide) (by decide) ⟨_, rfl, g, k0, by omega, by omega, by unfold hgA; (repeat' split) <;> omega, Or.inr ⟨by unfold HV; omega, fun _ => rfl⟩⟩
    · refine ev_iconst ?_
      refine ev_goto f242_15 ?_
      refine ev_ret rfl (by decide) (by decide) ?_
      show jEv _ _ _ _ _ _ _ (_, [(2, 42), (0, a1)], [(0, 1)], _, _, _)
      refine ev_ret rfl (by decide) (by decide) ?_
      show jEv _ _ _ _ _ _ _ (_, [(2, 42), (0, a1), (0, a2), (9, 0)], [(0, 1)], _, _, _)
      refine ev_ifeq f248_19 (fun c85083 => absurd c85083 (by omega)) (fun c85083 => ?_)
      refine ev_iload_n rfl ?_
      refine ev_iconst ?_
      refine ev_iload_n rfl ?_
      refine ev_iconst ?_
      refine ev_isub (r := (a1 - 1)) (by unfold w32; omega) ?_
      refine ev_in (d := 1) (a := 0) (b := 0) (cd' := c242_0) (m := 3) (L0 := [(0, a2), (0, 0), (0, (a1 - 1))]) (jcall_s (A := [(0, (a1 - 1)), (0, 0), (0, a2)]) (S' := []) (by decide) rfl (Nat.le_of_ble_eq_true rfl)) (by decide) ml242 pp242 (Nat.le_of_ble_eq_true rfl) rfl (by decide) (by decide) ?_
      refine ev_iload_n rfl ?_
      refine ev_iload_n rfl ?_
      refine ev_icmplt f242_14 (fun c85084 => ?_) (fun c85084 => ?_)
      · refine ev_iconst ?_
        refine ev_ret rfl (by decide) (by decide) ?_
        show jEv _ _ _ _ _ _ _ (_, [(2, 42), (0, a1), (0, a2), (9, 0)], [(0, 0)], _, _, _)
        refine ev_ifne f248_21 (fun c85085 => absurd c85085 (by omega)) (fun c85085 => ?_)
        refine ev_iconst ?_
        exact ev_ret rfl (by decide) (by decide) ⟨_, rfl, g, k0, by omega, by omega, by unfold hgA; (repeat' split) <;> omega, Or.inr ⟨by unfold HV; omega, fun _ => rfl⟩⟩
      · refine ev_iload_n rfl ?_
        refine ev_iload_n rfl ?_
        refine ev_icmpgt f242_14 (fun c85086 => ?_) (fun c85086 => ?_)
        · refine ev_iconst ?_
          refine ev_ret rfl (by decide) (by decide) ?_
          show jEv _ _ _ _ _ _ _ (_, [(2, 42), (0, a1), (0, a2), (9, 0)], [(0, 0)], _, _, _)
          refine ev_ifne f248_21 (fun c85087 => absurd c85087 (by omega)) (fun c85087 => ?_)
          refine ev_iconst ?_
          exact ev_ret rfl (by decide) (by decide) ⟨_, rfl, g, k0, by omega, by omega, by unfold hgA; (repeat' split) <;> omega, Or.inr ⟨by unfold HV; omega, fun _ => rfl⟩⟩
        · refine ev_iconst ?_
          refine ev_goto f242_15 ?_
          refine ev_ret rfl (by decide) (by decide) ?_
          show jEv _ _ _ _ _ _ _ (_, [(2, 42), (0, a1), (0, a2), (9, 0)], [(0, 1)], _, _, _)
          refine ev_ifne f248_21 (fun c85088 => ?_) (fun c85088 => absurd c85088 (by omega))
          refine ev_aload_n rfl ?_
          refine g_getp (r := 42) (c := 44) g ad42 (by decide) (by decide) rf42_3 ft12_3 ?_
          refine ev_iload_n rfl ?_
          refine g_iald g ad44 rt44 (by omega) (by omega) (fun v85089 ev85089 lv85089 uv85089 => ?_)
          refine ev_ifge f248_37 (fun c85090 => ?_) (fun c85090 => ?_)
          · refine ev_bipush ?_
            exact ev_ret rfl (by decide) (by decide) ⟨_, rfl, g, k0, by omega, by omega, by rw [show h.2.2 44 (a1).toNat = v85089 from ev85089]; unfold hgA; (repeat' split) <;> omega, Or.inr ⟨by rw [show h.2.2 44 (a1).toNat = v85089 from ev85089]; unfold HV; omega, fun _ => rfl⟩⟩
          · refine ev_aload_n rfl ?_
            refine g_getv (r := 42) (v := w1) g ad42 (by decide) ft12_9 (ew1) ?_
            refine ev_ifle f248_40 (fun c85091 => ?_) (fun c85091 => ?_)
            · refine ev_aload_n rfl ?_
              refine g_getp (r := 42) (c := 44) g ad42 (by decide) (by decide) rf42_3 ft12_3 ?_
              refine ev_iload_n rfl ?_
              refine ev_iload_n rfl ?_
              refine g_iast g ad44 rt44 (fun _ => rfl) (by omega) (by omega) (by omega) (by omega) (fun h85092 e85092 g85092 => ?_)
              have k85092 := k0.wr e85092 rfl
              refine ev_bipush ?_
              refine ev_iload_n rfl ?_
              refine ev_imul (r := (9 * a1)) (by unfold w32; omega) ?_
              refine ev_istore_n (L' := [(2, 42), (0, a1), (0, a2), (0, (9 * a1))]) (Nat.le_of_ble_eq_true rfl) rfl ?_
              refine ev_iload_n rfl ?_
              refine ev_bipush ?_
              refine ev_iload_n rfl ?_
              refine ev_imul (r := (9 * a1)) (by unfold w32; omega) ?_
              refine ev_bipush ?_
              refine ev_iadd (r := (9 * a1 + 9)) (by unfold w32; omega) ?_
              refine ev_icmpge f248_76 (fun c85093 => absurd c85093 (by omega)) (fun c85093 => ?_)
              refine ev_aload_n rfl ?_
              refine g_getp (r := 42) (c := 45) g85092 ad42 (by decide) (by decide) rf42_4 ft12_4 ?_
              refine ev_iload_n rfl ?_
              refine ev_iconst ?_
              refine ev_iastG (r := 45) (j := ((9 * a1)).toNat) (g85092.lt ad45) (g85092.tg ad45) (by omega) (by rw [g85092.ln ad45]; omega) (fun h85094 e85094 => ?_)
              have g85094 := g85092.s45 e85094 (by omega) (by omega)
              have k85094 := k85092.wr e85094 rfl
              refine ev_iinc (w := (9 * a1 + 1)) (L' := [(2, 42), (0, a1), (0, a2), (0, (9 * a1 + 1))]) rfl (by unfold w32; omega) rfl ?_
              refine ev_goto f248_52 ?_
              refine ev_iload_n rfl ?_
              refine ev_bipush ?_
              refine ev_iload_n rfl ?_
              refine ev_imul (r := (9 * a1)) (by unfold w32; omega) ?_
              refine ev_bipush ?_
              refine ev_iadd (r := (9 * a1 + 9)) (by unfold w32; omega) ?_
              refine ev_icmpge f248_76 (fun c85095 => absurd c85095 (by omega)) (fun c85095 => ?_)
              refine ev_aload_n rfl ?_
              refine g_getp (r := 42) (c := 45) g85094 ad42 (by decide) (by decide) rf42_4 ft12_4 ?_
              refine ev_iload_n rfl ?_
              refine ev_iconst ?_
              refine ev_iastG (r := 45) (j := ((9 * a1 + 1)).toNat) (g85094.lt ad45) (g85094.tg ad45) (by omega) (by rw [g85094.ln ad45]; omega) (fun h85096 e85096 => ?_)
              have g85096 := g85094.s45 e85096 (by omega) (by omega)
              have k85096 := k85094.wr e85096 rfl
              refine ev_iinc (w := (9 * a1 + 2)) (L' := [(2, 42), (0, a1), (0, a2), (0, (9 * a1 + 2))]) rfl (by unfold w32; omega) rfl ?_
              refine ev_goto f248_52 ?_
              refine ev_iload_n rfl ?_
              refine ev_bipush ?_
              refine ev_iload_n rfl ?_
              refine ev_imul (r := (9 * a1)) (by unfold w32; omega) ?_
              refine ev_bipush ?_
              refine ev_iadd (r := (9 * a1 + 9)) (by unfold w32; omega) ?_
              refine ev_icmpge f248_76 (fun c85097 => absurd c85097 (by omega)) (fun c85097 => ?_)
              refine ev_aload_n rfl ?_
              refine g_getp (r := 42) (c := 45) g85096 ad42 (by decide) (by decide) rf42_4 ft12_4 ?_
              refine ev_iload_n rfl ?_
              refine ev_iconst ?_
              refine ev_iastG (r := 45) (j := ((9 * a1 + 2)).toNat) (g85096.lt ad45) (g85096.tg ad45) (by omega) (by rw [g85096.ln ad45]; omega) (fun h85098 e85098 => ?_)
              have g85098 := g85096.s45 e85098 (by omega) (by omega)
              have k85098 := k85096.wr e85098 rfl
              refine ev_iinc (w := (9 * a1 + 3)) (L' := [(2, 42), (0, a1), (0, a2), (0, (9 * a1 + 3))]) rfl (by unfold w32; omega) rfl ?_
              refine ev_goto f248_52 ?_
              refine ev_iload_n rfl ?_
              refine ev_bipush ?_
              refine ev_iload_n rfl ?_
              refine ev_imul (r := (9 * a1)) (by unfold w32; omega) ?_
              refine ev_bipush ?_
              refine ev_iadd (r := (9 * a1 + 9)) (by unfold w32; omega) ?_
              refine ev_icmpge f248_76 (fun c85099 => absurd c85099 (by omega)) (fun c85099 => ?_)
              refine ev_aload_n rfl ?_
              refine g_getp (r := 42) (c := 45) g85098 ad42 (by decide) (by decide) rf42_4 ft12_4 ?_
              refine ev_iload_n rfl ?_
              refine ev_iconst ?_
              refine ev_iastG (r := 45) (j := ((9 * a1 + 3)).toNat) (g85098.lt ad45) (g85098.tg ad45) (by omega) (by rw [g85098.ln ad45]; omega) (fun h85100 e85100 => ?_)
              have g85100 := g85098.s45 e85100 (by omega) (by omega)
              have k85100 := k85098.wr e85100 rfl
              refine ev_iinc (w := (9 * a1 + 4)) (L' := [(2, 42), (0, a1), (0, a2), (0, (9 * a1 + 4))]) rfl (by unfold w32; omega) rfl ?_
              refine ev_goto f248_52 ?_
              refine ev_iload_n rfl ?_
              refine ev_bipush ?_
              refine ev_iload_n rfl ?_
              refine ev_imul (r := (9 * a1)) (by unfold w32; omega) ?_
              refine ev_bipush ?_
              refine ev_iadd (r := (9 * a1 + 9)) (by unfold w32; omega) ?_
              refine ev_icmpge f248_76 (fun c85101 => absurd c85101 (by omega)) (fun c85101 => ?_)
              refine ev_aload_n rfl ?_
              refine g_getp (r := 42) (c := 45) g85100 ad42 (by decide) (by decide) rf42_4 ft12_4 ?_
              refine ev_iload_n rfl ?_
              refine ev_iconst ?_
              refine ev_iastG (r := 45) (j := ((9 * a1 + 4)).toNat) (g85100.lt ad45) (g85100.tg ad45) (by omega) (by rw [g85100.ln ad45]; omega) (fun h85102 e85102 => ?_)
              have g85102 := g85100.s45 e85102 (by omega) (by omega)
              have k85102 := k85100.wr e85102 rfl
              refine ev_iinc (w := (9 * a1 + 5)) (L' := [(2, 42), (0, a1), (0, a2), (0, (9 * a1 + 5))]) rfl (by unfold w32; omega) rfl ?_
              refine ev_goto f248_52 ?_
              refine ev_iload_n rfl ?_
              refine ev_bipush ?_
              refine ev_iload_n rfl ?_
              refine ev_imul (r := (9 * a1)) (by unfold w32; omega) ?_
              refine ev_bipush ?_
              refine ev_iadd (r := (9 * a1 + 9)) (by unfold w32; omega) ?_
              refine ev_icmpge f248_76 (fun c85103 => absurd c85103 (by omega)) (fun c85103 => ?_)
              refine ev_aload_n rfl ?_
              refine g_getp (r := 42) (c := 45) g85102 ad42 (by decide) (by decide) rf42_4 ft12_4 ?_
              refine ev_iload_n rfl ?_
              refine ev_iconst ?_
              refine ev_iastG (r := 45) (j := ((9 * a1 + 5)).toNat) (g85102.lt ad45) (g85102.tg ad45) (by omega) (by rw [g85102.ln ad45]; omega) (fun h85104 e85104 => ?_)
              have g85104 := g85102.s45 e85104 (by omega) (by omega)
              have k85104 := k85102.wr e85104 rfl
              refine ev_iinc (w := (9 * a1 + 6)) (L' := [(2, 42), (0, a1), (0, a2), (0, (9 * a1 + 6))]) rfl (by unfold w32; omega) rfl ?_
              refine ev_goto f248_52 ?_
              refine ev_iload_n rfl ?_
              refine ev_bipush ?_
              refine ev_iload_n rfl ?_
              refine ev_imul (r := (9 * a1)) (by unfold w32; omega) ?_
              refine ev_bipush ?_
              refine ev_iadd (r := (9 * a1 + 9)) (by unfold w32; omega) ?_
              refine ev_icmpge f248_76 (fun c85105 => absurd c85105 (by omega)) (fun c85105 => ?_)
              refine ev_aload_n rfl ?_
              refine g_getp (r := 42) (c := 45) g85104 ad42 (by decide) (by decide) rf42_4 ft12_4 ?_
              refine ev_iload_n rfl ?_
              refine ev_iconst ?_
              refine ev_iastG (r := 45) (j := ((9 * a1 + 6)).toNat) (g85104.lt ad45) (g85104.tg ad45) (by omega) (by rw [g85104.ln ad45]; omega) (fun h85106 e85106 => ?_)
              have g85106 := g85104.s45 e85106 (by omega) (by omega)
              have k85106 := k85104.wr e85106 rfl
              refine ev_iinc (w := (9 * a1 + 7)) (L' := [(2, 42), (0, a1), (0, a2), (0, (9 * a1 + 7))]) rfl (by unfold w32; omega) rfl ?_
              refine ev_goto f248_52 ?_
              refine ev_iload_n rfl ?_
              refine ev_bipush ?_
              refine ev_iload_n rfl ?_
              refine ev_imul (r := (9 * a1)) (by unfold w32; omega) ?_
              refine ev_bipush ?_
              refine ev_iadd (r := (9 * a1 + 9)) (by unfold w32; omega) ?_
              refine ev_icmpge f248_76 (fun c85107 => absurd c85107 (by omega)) (fun c85107 => ?_)
              refine ev_aload_n rfl ?_
              refine g_getp (r := 42) (c := 45) g85106 ad42 (by decide) (by decide) rf42_4 ft12_4 ?_
              refine ev_iload_n rfl ?_
              refine ev_iconst ?_
              refine ev_iastG (r := 45) (j := ((9 * a1 + 7)).toNat) (g85106.lt ad45) (g85106.tg ad45) (by omega) (by rw [g85106.ln ad45]; omega) (fun h85108 e85108 => ?_)
              have g85108 := g85106.s45 e85108 (by omega) (by omega)
              have k85108 := k85106.wr e85108 rfl
              refine ev_iinc (w := (9 * a1 + 8)) (L' := [(2, 42), (0, a1), (0, a2), (0, (9 * a1 + 8))]) rfl (by unfold w32; omega) rfl ?_
              refine ev_goto f248_52 ?_
              refine ev_iload_n rfl ?_
              refine ev_bipush ?_
              refine ev_iload_n rfl ?_
              refine ev_imul (r := (9 * a1)) (by unfold w32; omega) ?_
              refine ev_bipush ?_
              refine ev_iadd (r := (9 * a1 + 9)) (by unfold w32; omega) ?_
              refine ev_icmpge f248_76 (fun c85109 => absurd c85109 (by omega)) (fun c85109 => ?_)
              refine ev_aload_n rfl ?_
              refine g_getp (r := 42) (c := 45) g85108 ad42 (by decide) (by decide) rf42_4 ft12_4 ?_
              refine ev_iload_n rfl ?_
              refine ev_iconst ?_
              refine ev_iastG (r := 45) (j := ((9 * a1 + 8)).toNat) (g85108.lt ad45) (g85108.tg ad45) (by omega) (by rw [g85108.ln ad45]; omega) (fun h85110 e85110 => ?_)
              have g85110 := g85108.s45 e85110 (by omega) (by omega)
              have k85110 := k85108.wr e85110 rfl
              refine ev_iinc (w := (9 * a1 + 9)) (L' := [(2, 42), (0, a1), (0, a2), (0, (9 * a1 + 9))]) rfl (by unfold w32; omega) rfl ?_
              refine ev_goto f248_52 ?_
              refine ev_iload_n rfl ?_
              refine ev_bipush ?_
              refine ev_iload_n rfl ?_
              refine ev_imul (r := (9 * a1)) (by unfold w32; omega) ?_
              refine ev_bipush ?_
              refine ev_iadd (r := (9 * a1 + 9)) (by unfold w32; omega) ?_
              refine ev_icmpge f248_76 (fun c85111 => ?_) (fun c85111 => absurd c85111 (by omega))
              refine ev_aload_n rfl ?_
              refine ev_iconst ?_
              obtain ⟨v85113, ev85113, lv85113, uv85113⟩ := g85110.rd ad42 (show 22 < 66 by decide) rf42_22
              refine ev_putfG (r := 42) (g85110.lt ad42) (g85110.fam ad42 (by decide)) ft12_22 (fun e => absurd e nz12_22) (fun e => absurd e (by decide)) (fun h85112 e85112 => ?_)
              have g85112 := g85110.less22 e85112 (by omega) (by rw [ev85113]; omega)
              have k85112 := k85110.wr e85112 rfl
              refine ev_aload_n rfl ?_
              refine ev_iconst ?_
              obtain ⟨v85115, ev85115, lv85115, uv85115⟩ := g85112.rd ad42 (show 23 < 66 by decide) rf42_23
              refine ev_putfG (r := 42) (g85112.lt ad42) (g85112.fam ad42 (by decide)) ft12_23 (fun e => absurd e nz12_23) (fun e => absurd e (by decide)) (fun h85114 e85114 => ?_)
              have g85114 := g85112.less23 e85114 (by omega) (by rw [ev85115]; omega)
              have k85114 := k85112.wr e85114 rfl
              refine ev_iconst ?_
              exact ev_ret rfl (by decide) (by decide) ⟨_, rfl, g85114, k85114, by omega, by omega, by rw [show h.2.2 44 (a1).toNat = v85089 from ev85089]; unfold hgA; (repeat' split) <;> omega, Or.inl ⟨by rw [show h.2.2 44 (a1).toNat = v85089 from ev85089]; unfold HV; omega, (Up.kp (Up.kp (Up.kp (Up.kp (Up.kp (Up.kp (Up.kp (Up.kp (Up.kp (Up.kp (Up.kp (Up.mk2 (i := a1) (i' := a1) (v' := a2) e85092 (by omega) (by omega)) ((Kp.rf [(45, 0)] _).wr e85094 rfl) (fun _ => rfl)) ((Kp.rf [(45, 0)] _).wr e85096 rfl) (fun _ => rfl)) ((Kp.rf [(45, 0)] _).wr e85098 rfl) (fun _ => rfl)) ((Kp.rf [(45, 0)] _).wr e85100 rfl) (fun _ => rfl)) ((Kp.rf [(45, 0)] _).wr e85102 rfl) (fun _ => rfl)) ((Kp.rf [(45, 0)] _).wr e85104 rfl) (fun _ => rfl)) ((Kp.rf [(45, 0)] _).wr e85106 rfl) (fun _ => rfl)) ((Kp.rf [(45, 0)] _).wr e85108 rfl) (fun _ => rfl)) ((Kp.rf [(45, 0)] _).wr e85110 rfl) (fun _ => rfl)) ((Kp.rf [(42, 0)] _).wr e85112 rfl) (fun _ => rfl)) ((Kp.rf [(42, 0)] _).wr e85114 rfl) (fun _ => rfl))⟩⟩
            · refine ev_bipush ?_
              exact ev_ret rfl (by decide) (by decide) ⟨_, rfl, g, k0, by omega, by omega, by rw [show h.2.2 44 (a1).toNat = v85089 from ev85089]; unfold hgA; (repeat' split) <;> omega, Or.inr ⟨by rw [show h.2.2 44 (a1).toNat = v85089 from ev85089]; unfold HV; omega, fun _ => rfl⟩⟩
set_option maxHeartbeats 4000000 in
theorem t64_l {G : GH} {h : JH} {a1 : Int} (la1 : 1 ≤ a1) (ua1 : a1 ≤ 4) {a2 : Int} (la2 : (-2147483648) ≤ a2) (ua2 : a2 ≤ 2147483647) {w0 : Int} (ew0 : h.2.2 7 0 = w0) (lw0 : 0 ≤ w0) (uw0 : w0 ≤ 200) (F0 : (a1 + w0) ≤ 200) : ∀ N : Nat, (∀ (h1 : JH) (x3 y0 : Int), Gd G h1 → Kp [(7, 1), (8, 0)] h h1 → 1 ≤ a1 → a1 ≤ 4 → (-2147483648) ≤ a2 → a2 ≤ 2147483647 → 0 ≤ x3 → x3 ≤ 4 → ((-w0) + (-x3) + y0) ≤ 0 → (w0 + x3 + (-y0)) ≤ 0 → ((-a1) + x3) ≤ 0 → h1.2.2 7 0 = y0 → 0 ≤ y0 → y0 ≤ 200 → Fb h h1 8 w0 x3 a2 → ((-x3) + 4) < N → jEv (jOk 0) none (fun _ => 0) c64_0 0 0 (fun v h' => ∃ r : Int, v = some (0, r) ∧ Gd G h' ∧ Kp [(7, 1), (8, 0)] h h' ∧ 0 ≤ r ∧ r ≤ 200 ∧ r = w0 + a1 ∧ h'.2.2 7 0 = w0 + a1 ∧ Fb h h' 8 w0 a1 a2) (c64_2, [(2, 7), (0, a1), (0, a2), (0, x3)], [], h1, 0, 0)) := by
  intro N
  induction N with
  | zero => exact fun h1 x3 y0 g1 k1 b0 b1 b2 b3 b4 b5 b6 b7 b8 b9 b10 b11 b12 hm => absurd hm (by omega)
  | succ N ih =>
    show _
    intro h1 x3 y0 g1 k1 b0 b1 b2 b3 b4 b5 b6 b7 b8 ey0 ly0 uy0 H0 hm
    refine ev_iload_n rfl ?_
    refine ev_iload_n rfl ?_
    refine ev_icmpge f64_49 (fun c85151 => ?_) (fun c85151 => ?_)
    · refine ev_aload_n rfl ?_
      refine g_getv (r := 7) (v := y0) g1 ad7 (by decide) ft5_0 (ey0) ?_
      exact ev_ret rfl (by decide) (by decide) ⟨_, rfl, g1, k1, by omega, by omega, by omega, ((ey0)).trans (by omega), (show x3 = a1 by omega) ▸ H0⟩
    · refine ev_aload_n rfl ?_
      refine g_getv (r := 7) (v := y0) g1 ad7 (by decide) ft5_0 (ey0) ?_
      refine ev_sipush ?_
      refine ev_icmpge f64_49 (fun c85152 => absurd c85152 (by omega)) (fun c85152 => ?_)
      refine ev_aload_n rfl ?_
      refine g_getp (r := 7) (c := 8) g1 ad7 (by decide) (by decide) rf7_5 ft5_5 ?_
      refine ev_aload_n rfl ?_
      refine g_getv (r := 7) (v := y0) g1 ad7 (by decide) ft5_0 (ey0) ?_
      refine ev_iload_n rfl ?_
      refine ev_bipush ?_
      refine ev_iload_n rfl ?_
      refine ev_imul (r := (8 * x3)) (by unfold w32; omega) ?_
      refine g_ishrG (fun v85153 ev85153 lv85153 uv85153 => ?_)
      refine g_i2bG (fun v85154 ev85154 lv85154 uv85154 => ?_)
      refine g_bast (w := v85154) g1 ad8 rt8 (fun _ => rfl) (by omega) (by omega) (by unfold w8; omega) (by omega) (by omega) (fun h85155 e85155 g85155 => ?_)
      have k85155 := k1.wr e85155 rfl
      refine ev_aload_n rfl ?_
      refine ev_dup (by decide) ?_
      refine g_getv (r := 7) (v := y0) g85155 ad7 (by decide) ft5_0 (((jw_ne e85155 (Or.inl (by decide))).trans ey0)) ?_
      refine ev_iconst ?_
      refine ev_iadd (r := (y0 + 1)) (by unfold w32; omega) ?_
      refine g_putf (r := 7) g85155 ad7 (by decide) ft5_0 (by decide) (fun e => absurd e nz5_0) rf7_0 (by decide) (by omega) (by omega) (fun h85156 e85156 g85156 => ?_)
      have k85156 := k85155.wr e85156 rfl
      refine ev_iinc (w := (x3 + 1)) (L' := [(2, 7), (0, a1), (0, a2), (0, (x3 + 1))]) rfl (by unfold w32; omega) rfl ?_
      refine ev_goto f64_2 ?_
      exact ih _ _ _ g85156 k85156 (by omega) (by omega) (by omega) (by omega) (by omega) (by omega) (by omega) (by omega) (by omega) ((jw_eq e85156)) (by omega) (by omega) (Fb.wn (Fb.add (i := y0) (k := x3) H0 (by omega) (by omega) (by omega) e85155 (by8_of (i := x3) ev85153 ev85154 (by omega) (by omega)) (by omega)) e85156 (by decide)) (by omega)
set_option maxHeartbeats 4000000 in
theorem t64 {G : GH} {h : JH} (g : Gd G h) {a1 : Int} (la1 : 1 ≤ a1) (ua1 : a1 ≤ 4) {a2 : Int} (la2 : (-2147483648) ≤ a2) (ua2 : a2 ≤ 2147483647) {w0 : Int} (ew0 : h.2.2 7 0 = w0) (lw0 : 0 ≤ w0) (uw0 : w0 ≤ 200) (F0 : (a1 + w0) ≤ 200) : jOk 1 0 0 64 [(2, 7), (0, a1), (0, a2)] h (fun v h' => ∃ r : Int, v = some (0, r) ∧ Gd G h' ∧ Kp [(7, 1), (8, 0)] h h' ∧ 0 ≤ r ∧ r ≤ 200 ∧ r = w0 + a1 ∧ h'.2.2 7 0 = w0 + a1 ∧ Fb h h' 8 w0 a1 a2) := by
  refine ⟨by decide, by rw [ml64]; exact Nat.le_of_ble_eq_true rfl, ?_⟩
  rw [ml64, pp64]
  show jEv _ none _ c64_0 0 0 _ (c64_0, [(2, 7), (0, a1), (0, a2), (9, 0)], [], h, 0, 0)
  have k0 := Kp.rf [(7, 1), (8, 0)] h
  refine ev_iconst ?_
  refine ev_istore_n (L' := [(2, 7), (0, a1), (0, a2), (0, 0)]) (Nat.le_of_ble_eq_true rfl) rfl ?_
  exact (t64_l la1 ua1 la2 ua2 ew0 lw0 uw0 F0 10) _ _ _ g k0 (by omega) (by omega) (by omega) (by omega) (by omega) (by omega) (by omega) (by omega) (by omega) (ew0) (by omega) (by omega) (Fb.start rfl) (by omega)
set_option maxHeartbeats 4000000 in
theorem t172 {G : GH} {h : JH} (g : Gd G h) {a1 : Int} (la1 : (-2147483648) ≤ a1) (ua1 : a1 ≤ 2147483647) {a2 : Int} (la2 : (-2147483648) ≤ a2) (ua2 : a2 ≤ 2147483647) {w0 : Int} (ew0 : h.2.2 7 0 = w0) (lw0 : 0 ≤ w0) (uw0 : w0 ≤ 200) : jOk 2 0 0 172 [(2, 0), (0, a1), (0, a2)] h (fun v h' => ∃ r : Int, v = some (0, r) ∧ Gd G h' ∧ Kp [(7, 1), (8, 0)] h h' ∧ (-3) ≤ r ∧ r ≤ 200 ∧ r = feA a1 w0 ∧ h'.2.2 7 0 = w0 + feK a1 w0 ∧ Fb h h' 8 w0 (feK a1 w0) a2) := by
  refine ⟨by decide, by rw [ml172]; exact Nat.le_of_ble_eq_true rfl, ?_⟩
  rw [ml172, pp172]
  show jEv _ none _ c172_0 0 0 _ (c172_0, [(2, 0), (0, a1), (0, a2)], [], h, 0, 0)
  have k0 := Kp.rf [(7, 1), (8, 0)] h
  refine ev_iload_n rfl ?_
  refine ev_iconst ?_
  refine ev_icmplt f172_10 (fun c85171 => ?_) (fun c85171 => ?_)
  · refine ev_iconst ?_
    exact ev_ret rfl (by decide) (by decide) ⟨_, rfl, g, k0, by omega, by omega, by unfold feA; (repeat' split) <;> omega, ew0.trans (by unfold feK; rw [if_neg (by omega)]; omega), Fb.start (by unfold feK; rw [if_neg (by omega)])⟩
  · refine ev_iload_n rfl ?_
    refine ev_iconst ?_
    refine ev_icmple f172_12 (fun c85172 => ?_) (fun c85172 => ?_)
    · refine ev_aload_n rfl ?_
      refine g_getp (r := 0) (c := 7) g ad0 (by decide) (by decide) rf0_1 ft11_1 ?_
      refine ev_iload_n rfl ?_
      refine ev_in (d := 0) (a := 0) (b := 0) (cd' := c63_0) (m := 2) (L0 := [(2, 7), (0, a1)]) (jcall_v (A := [(0, a1)]) (S' := []) (r := 7) rfl (g.lt ad7) (g.tg ad7) (Nat.le_of_ble_eq_true rfl)) (by decide) ml63 pp63 (Nat.le_of_ble_eq_true rfl) rfl (by decide) (by decide) ?_
      refine ev_iload_n rfl ?_
      refine ev_sipush ?_
      refine ev_aload_n rfl ?_
      refine g_getv (r := 7) (v := w0) g ad7 (by decide) ft5_0 (ew0) ?_
      refine ev_isub (r := ((-w0) + 200)) (by unfold w32; omega) ?_
      refine ev_icmpgt f63_16 (fun c85173 => ?_) (fun c85173 => ?_)
      · refine ev_iconst ?_
        refine ev_ret rfl (by decide) (by decide) ?_
        show jEv _ _ _ _ _ _ _ (_, [(2, 0), (0, a1), (0, a2)], [(0, 0)], _, _, _)
        refine ev_ifeq f172_35 (fun c85174 => ?_) (fun c85174 => absurd c85174 (by omega))
        refine ev_bipush ?_
        exact ev_ret rfl (by decide) (by decide) ⟨_, rfl, g, k0, by omega, by omega, by unfold feA; (repeat' split) <;> omega, ew0.trans (by unfold feK; rw [if_neg (by omega)]; omega), Fb.start (by unfold feK; rw [if_neg (by omega)])⟩
      · refine ev_iconst ?_
        refine ev_goto f63_17 ?_
        refine ev_ret rfl (by decide) (by decide) ?_
        show jEv _ _ _ _ _ _ _ (_, [(2, 0), (0, a1), (0, a2)], [(0, 1)], _, _, _)
        refine ev_ifeq f172_35 (fun c85175 => absurd c85175 (by omega)) (fun c85175 => ?_)
        refine ev_aload_n rfl ?_
        refine g_getp (r := 0) (c := 7) g ad0 (by decide) (by decide) rf0_1 ft11_1 ?_
        refine ev_iload_n rfl ?_
        refine ev_iload_n rfl ?_
        refine ev_call (jcall_v (A := [(0, a2), (0, a1)]) (S' := []) (r := 7) rfl (g.lt ad7) (g.tg ad7) (Nat.le_of_ble_eq_true rfl)) (jOk_le (by decide) (t64 g (by omega) (by omega) (by omega) (by omega) (ew0) (by omega) (by omega) (by omega))) (by decide) (by decide) (fun w85176 h85176 q85176 => ?_)
        obtain ⟨v85177, rfl, g85176, kk85176, lv85177, uv85177, X85176⟩ := q85176
        have k85176 := k0.tr kk85176 (by decide)
        show jEv _ _ _ _ _ _ _ (_, [(2, 0), (0, a1), (0, a2)], [(0, v85177)], _, _, _)
        refine ev_goto f172_37 ?_
        exact ev_ret rfl (by decide) (by decide) ⟨_, rfl, g85176, k85176, by omega, by omega, by unfold feA; (repeat' split) <;> omega, X85176.2.1.trans (by unfold feK; rw [if_pos (by omega)]), (by unfold feK; rw [if_pos (by omega)]; exact X85176.2.2)⟩
    · refine ev_iconst ?_
      exact ev_ret rfl (by decide) (by decide) ⟨_, rfl, g, k0, by omega, by omega, by unfold feA; (repeat' split) <;> omega, ew0.trans (by unfold feK; rw [if_neg (by omega)]; omega), Fb.start (by unfold feK; rw [if_neg (by omega)])⟩
set_option maxHeartbeats 4000000 in
theorem t263_l {G : GH} {h : JH} {a1 : Int} (la1 : (-2147483648) ≤ a1) (ua1 : a1 ≤ 2147483647) {a2 : Int} (la2 : (-2147483648) ≤ a2) (ua2 : a2 ≤ 2147483647) {w0 : Int} (ew0 : h.2.2 42 17 = w0) (lw0 : 0 ≤ w0) (uw0 : w0 ≤ 200) : ∀ N : Nat, (∀ (h1 : JH) (x3 y0 : Int), Gd G h1 → Kp [(42, 18), (54, 0)] h h1 → 1 ≤ a1 → a1 ≤ 4 → (-2147483648) ≤ a2 → a2 ≤ 2147483647 → 0 ≤ x3 → x3 ≤ 4 → ((-w0) + (-x3) + y0) ≤ 0 → (w0 + x3 + (-y0)) ≤ 0 → ((-a1) + x3) ≤ 0 → (a1 + w0) ≤ 200 → h1.2.2 42 17 = y0 → 0 ≤ y0 → y0 ≤ 200 → Fb h h1 54 w0 x3 a2 → ((-x3) + 4) < N → jEv (jOk 1) none (fun _ => 0) c263_0 0 0 (fun v h' => ∃ r : Int, v = some (0, r) ∧ Gd G h' ∧ Kp [(42, 18), (54, 0)] h h' ∧ (-3) ≤ r ∧ r ≤ 200 ∧ r = feA a1 w0 ∧ h'.2.2 42 17 = w0 + feK a1 w0 ∧ Fb h h' 54 w0 (feK a1 w0) a2) (c263_28, [(2, 42), (0, a1), (0, a2), (0, x3)], [], h1, 0, 0)) := by
  intro N
  induction N with
  | zero => exact fun h1 x3 y0 g1 k1 b0 b1 b2 b3 b4 b5 b6 b7 b8 b9 b10 b11 b12 b13 hm => absurd hm (by omega)
  | succ N ih =>
    show _
    intro h1 x3 y0 g1 k1 b0 b1 b2 b3 b4 b5 b6 b7 b8 b9 ey0 ly0 uy0 H0 hm
    refine ev_iload_n rfl ?_
    refine ev_iload_n rfl ?_
    refine ev_icmpge f263_65 (fun c85219 => ?_) (fun c85219 => ?_)
    · refine ev_aload_n rfl ?_
      refine g_getv (r := 42) (v := y0) g1 ad42 (by decide) ft12_17 (ey0) ?_
      exact ev_ret rfl (by decide) (by decide) ⟨_, rfl, g1, k1, by omega, by omega, by unfold feA; (repeat' split) <;> omega, ((ey0)).trans (by unfold feK; rw [if_pos (by omega)]; omega), (by unfold feK; rw [if_pos (by omega), show a1 = x3 by omega]; exact H0)⟩
    · refine ev_aload_n rfl ?_
      refine g_getp (r := 42) (c := 54) g1 ad42 (by decide) (by decide) rf42_16 ft12_16 ?_
      refine ev_aload_n rfl ?_
      refine g_getv (r := 42) (v := y0) g1 ad42 (by decide) ft12_17 (ey0) ?_
      refine ev_iload_n rfl ?_
      refine ev_bipush ?_
      refine ev_iload_n rfl ?_
      refine ev_imul (r := (8 * x3)) (by unfold w32; omega) ?_
      refine g_ishrG (fun v85220 ev85220 lv85220 uv85220 => ?_)
      refine g_i2bG (fun v85221 ev85221 lv85221 uv85221 => ?_)
      refine g_bast (w := v85221) g1 ad54 rt54 (fun _ => rfl) (by omega) (by omega) (by unfold w8; omega) (by omega) (by omega) (fun h85222 e85222 g85222 => ?_)
      have k85222 := k1.wr e85222 rfl
      refine ev_aload_n rfl ?_
      refine ev_dup (by decide) ?_
      refine g_getv (r := 42) (v := y0) g85222 ad42 (by decide) ft12_17 (((jw_ne e85222 (Or.inl (by decide))).trans ey0)) ?_
      refine ev_iconst ?_
      refine ev_iadd (r := (y0 + 1)) (by unfold w32; omega) ?_
      refine g_putf (r := 42) g85222 ad42 (by decide) ft12_17 (by decide) (fun e => absurd e nz12_17) rf42_17 (by decide) (by omega) (by omega) (fun h85223 e85223 g85223 => ?_)
      have k85223 := k85222.wr e85223 rfl
      refine ev_iinc (w := (x3 + 1)) (L' := [(2, 42), (0, a1), (0, a2), (0, (x3 + 1))]) rfl (by unfold w32; omega) rfl ?_
      refine ev_goto f263_28 ?_
      exact ih _ _ _ g85223 k85223 (by omega) (by omega) (by omega) (by omega) (by omega) (by omega) (by omega) (by omega) (by omega) (by omega) ((jw_eq e85223)) (by omega) (by omega) (Fb.wn (Fb.add (i := y0) (k := x3) H0 (by omega) (by omega) (by omega) e85222 (by8_of (i := x3) ev85220 ev85221 (by omega) (by omega)) (by omega)) e85223 (by decide)) (by omega)
set_option maxHeartbeats 4000000 in
theorem t263 {G : GH} {h : JH} (g : Gd G h) {a1 : Int} (la1 : (-2147483648) ≤ a1) (ua1 : a1 ≤ 2147483647) {a2 : Int} (la2 : (-2147483648) ≤ a2) (ua2 : a2 ≤ 2147483647) {w0 : Int} (ew0 : h.2.2 42 17 = w0) (lw0 : 0 ≤ w0) (uw0 : w0 ≤ 200) : jOk 2 0 0 263 [(2, 42), (0, a1), (0, a2)] h (fun v h' => ∃ r : Int, v = some (0, r) ∧ Gd G h' ∧ Kp [(42, 18), (54, 0)] h h' ∧ (-3) ≤ r ∧ r ≤ 200 ∧ r = feA a1 w0 ∧ h'.2.2 42 17 = w0 + feK a1 w0 ∧ Fb h h' 54 w0 (feK a1 w0) a2) := by
  refine ⟨by decide, by rw [ml263]; exact Nat.le_of_ble_eq_true rfl, ?_⟩
  rw [ml263, pp263]
  show jEv _ none _ c263_0 0 0 _ (c263_0, [(2, 42), (0, a1), (0, a2), (9, 0)], [], h, 0, 0)
  have k0 := Kp.rf [(42, 18), (54, 0)] h
  refine ev_iload_n rfl ?_
  refine ev_iconst ?_
  refine ev_iconst ?_
  refine ev_in (d := 0) (a := 0) (b := 0) (cd' := c242_0) (m := 3) (L0 := [(0, a1), (0, 1), (0, 4)]) (jcall_s (A := [(0, 4), (0, 1), (0, a1)]) (S' := []) (by decide) rfl (Nat.le_of_ble_eq_true rfl)) (by decide) ml242 pp242 (Nat.le_of_ble_eq_true rfl) rfl (by decide) (by decide) ?_
  refine ev_iload_n rfl ?_
  refine ev_iload_n rfl ?_
  refine ev_icmplt f242_14 (fun c85224 => ?_) (fun c85224 => ?_)
  · refine ev_iconst ?_
    refine ev_ret rfl (by decide) (by decide) ?_
    show jEv _ _ _ _ _ _ _ (_, [(2, 42), (0, a1), (0, a2), (9, 0)], [(0, 0)], _, _, _)
    refine ev_ifne f263_11 (fun c85225 => absurd c85225 (by omega)) (fun c85225 => ?_)
    refine ev_iconst ?_
    exact ev_ret rfl (by decide) (by decide) ⟨_, rfl, g, k0, by omega, by omega, by unfold feA; (repeat' split) <;> omega, ew0.trans (by unfold feK; rw [if_neg (by omega)]; omega), Fb.start (by unfold feK; rw [if_neg (by omega)])⟩
  · refine ev_iload_n rfl ?_
    refine ev_iload_n rfl ?_
    refine ev_icmpgt f242_14 (fun c85226 => ?_) (fun c85226 => ?_)
    · refine ev_iconst ?_
      refine ev_ret rfl (by decide) (by decide) ?_
      show jEv _ _ _ _ _ _ _ (_, [(2, 42), (0, a1), (0, a2), (9, 0)], [(0, 0)], _, _, _)
      refine ev_ifne f263_11 (fun c85227 => absurd c85227 (by omega)) (fun c85227 => ?_)
      refine ev_iconst ?_
      exact ev_ret rfl (by decide) (by decide) ⟨_, rfl, g, k0, by omega, by omega, by unfold feA; (repeat' split) <;> omega, ew0.trans (by unfold feK; rw [if_neg (by omega)]; omega), Fb.start (by unfold feK; rw [if_neg (by omega)])⟩
    · refine ev_iconst ?_
      refine ev_goto f242_15 ?_
      refine ev_ret rfl (by decide) (by decide) ?_
      show jEv _ _ _ _ _ _ _ (_, [(2, 42), (0, a1), (0, a2), (9, 0)], [(0, 1)], _, _, _)
      refine ev_ifne f263_11 (fun c85228 => ?_) (fun c85228 => absurd c85228 (by omega))
      refine ev_aload_n rfl ?_
      refine g_getv (r := 42) (v := w0) g ad42 (by decide) ft12_17 (ew0) ?_
      refine ev_iload_n rfl ?_
      refine ev_iadd (r := (a1 + w0)) (by unfold w32; omega) ?_
      refine ev_sipush ?_
      refine ev_icmple f263_26 (fun c85229 => ?_) (fun c85229 => ?_)
      · refine ev_iconst ?_
        refine ev_istore_n (L' := [(2, 42), (0, a1), (0, a2), (0, 0)]) (Nat.le_of_ble_eq_true rfl) rfl ?_
        exact (t263_l la1 ua1 la2 ua2 ew0 lw0 uw0 10) _ _ _ g k0 (by omega) (by omega) (by omega) (by omega) (by omega) (by omega) (by omega) (by omega) (by omega) (by omega) (ew0) (by omega) (by omega) (Fb.start rfl) (by omega)
      · refine ev_bipush ?_
        exact ev_ret rfl (by decide) (by decide) ⟨_, rfl, g, k0, by omega, by omega, by unfold feA; (repeat' split) <;> omega, ew0.trans (by unfold feK; rw [if_neg (by omega)]; omega), Fb.start (by unfold feK; rw [if_neg (by omega)])⟩
theorem jn11 : jN 11 = 17 := by decide +kernel
theorem jn12 : jN 12 = 66 := by decide +kernel
theorem ml384 : jML jnM = 4 := by decide +kernel
theorem pp384 : jP jnM = c384_0 := rfl
set_option maxRecDepth 100000 in
theorem jlawN : jchkN jnM = true := jchkNF_ok (by decide +kernel)
set_option maxRecDepth 100000 in
theorem f384_18 : jfind c384_0 18 = some c384_18 := rfl
set_option maxRecDepth 100000 in
theorem f384_260 : jfind c384_0 260 = some c384_260 := rfl
set_option maxRecDepth 100000 in
theorem f384_283 : jfind c384_0 283 = some c384_283 := rfl
set_option maxRecDepth 100000 in
theorem f384_316 : jfind c384_0 316 = some c384_316 := rfl
set_option maxRecDepth 100000 in
theorem f384_369 : jfind c384_0 369 = some c384_369 := rfl
set_option maxRecDepth 100000 in
theorem f384_382 : jfind c384_0 382 = some c384_382 := rfl
set_option maxRecDepth 100000 in
theorem f384_405 : jfind c384_0 405 = some c384_405 := rfl
set_option maxRecDepth 100000 in
theorem f384_448 : jfind c384_0 448 = some c384_448 := rfl
set_option maxRecDepth 100000 in
theorem f384_481 : jfind c384_0 481 = some c384_481 := rfl
set_option maxRecDepth 100000 in
theorem f384_494 : jfind c384_0 494 = some c384_494 := rfl
set_option maxRecDepth 100000 in
theorem f384_537 : jfind c384_0 537 = some c384_537 := rfl
set_option maxRecDepth 100000 in
theorem f384_590 : jfind c384_0 590 = some c384_590 := rfl
set_option maxRecDepth 100000 in
theorem f384_603 : jfind c384_0 603 = some c384_603 := rfl
set_option maxRecDepth 100000 in
theorem f384_616 : jfind c384_0 616 = some c384_616 := rfl
set_option maxRecDepth 100000 in
theorem f384_649 : jfind c384_0 649 = some c384_649 := rfl
set_option maxRecDepth 100000 in
theorem f384_682 : jfind c384_0 682 = some c384_682 := rfl
set_option maxRecDepth 100000 in
theorem f384_715 : jfind c384_0 715 = some c384_715 := rfl
set_option maxRecDepth 100000 in
theorem f384_758 : jfind c384_0 758 = some c384_758 := rfl
set_option maxRecDepth 100000 in
theorem f384_801 : jfind c384_0 801 = some c384_801 := rfl
set_option maxRecDepth 100000 in
theorem f384_844 : jfind c384_0 844 = some c384_844 := rfl
set_option maxRecDepth 100000 in
theorem f384_877 : jfind c384_0 877 = some c384_877 := rfl
set_option maxRecDepth 100000 in
theorem f384_930 : jfind c384_0 930 = some c384_930 := rfl
set_option maxRecDepth 100000 in
theorem f384_963 : jfind c384_0 963 = some c384_963 := rfl
set_option maxRecDepth 100000 in
theorem f384_1006 : jfind c384_0 1006 = some c384_1006 := rfl
set_option maxRecDepth 100000 in
theorem f384_1059 : jfind c384_0 1059 = some c384_1059 := rfl
set_option maxRecDepth 100000 in
theorem f384_1082 : jfind c384_0 1082 = some c384_1082 := rfl
set_option maxRecDepth 100000 in
theorem f384_1125 : jfind c384_0 1125 = some c384_1125 := rfl
set_option maxRecDepth 100000 in
theorem f384_1178 : jfind c384_0 1178 = some c384_1178 := rfl
set_option maxRecDepth 100000 in
theorem f384_1201 : jfind c384_0 1201 = some c384_1201 := rfl
set_option maxRecDepth 100000 in
theorem f384_1254 : jfind c384_0 1254 = some c384_1254 := rfl
set_option maxRecDepth 100000 in
theorem f384_1307 : jfind c384_0 1307 = some c384_1307 := rfl
set_option maxRecDepth 100000 in
theorem f384_1340 : jfind c384_0 1340 = some c384_1340 := rfl
set_option maxRecDepth 100000 in
theorem f384_1383 : jfind c384_0 1383 = some c384_1383 := rfl
set_option maxRecDepth 100000 in
theorem f384_1406 : jfind c384_0 1406 = some c384_1406 := rfl
set_option maxRecDepth 100000 in
theorem f384_1429 : jfind c384_0 1429 = some c384_1429 := rfl
set_option maxRecDepth 100000 in
theorem f384_1452 : jfind c384_0 1452 = some c384_1452 := rfl
set_option maxRecDepth 100000 in
theorem f384_1495 : jfind c384_0 1495 = some c384_1495 := rfl
set_option maxRecDepth 100000 in
theorem f384_1518 : jfind c384_0 1518 = some c384_1518 := rfl
set_option maxRecDepth 100000 in
theorem f384_1551 : jfind c384_0 1551 = some c384_1551 := rfl
set_option maxRecDepth 100000 in
theorem f384_1564 : jfind c384_0 1564 = some c384_1564 := rfl
set_option maxRecDepth 100000 in
theorem f384_1597 : jfind c384_0 1597 = some c384_1597 := rfl
set_option maxRecDepth 100000 in
theorem f384_1630 : jfind c384_0 1630 = some c384_1630 := rfl
set_option maxRecDepth 100000 in
theorem f384_1683 : jfind c384_0 1683 = some c384_1683 := rfl
set_option maxRecDepth 100000 in
theorem f384_1726 : jfind c384_0 1726 = some c384_1726 := rfl
set_option maxRecDepth 100000 in
theorem f384_1769 : jfind c384_0 1769 = some c384_1769 := rfl
set_option maxRecDepth 100000 in
theorem f384_1812 : jfind c384_0 1812 = some c384_1812 := rfl
set_option maxRecDepth 100000 in
theorem f384_1855 : jfind c384_0 1855 = some c384_1855 := rfl
set_option maxRecDepth 100000 in
theorem f384_1878 : jfind c384_0 1878 = some c384_1878 := rfl
set_option maxRecDepth 100000 in
theorem f384_1911 : jfind c384_0 1911 = some c384_1911 := rfl
set_option maxRecDepth 100000 in
theorem f384_1954 : jfind c384_0 1954 = some c384_1954 := rfl
set_option maxRecDepth 100000 in
theorem f384_2027 : jfind c384_0 2027 = some c384_2027 := rfl
set_option maxRecDepth 100000 in
theorem f384_2060 : jfind c384_0 2060 = some c384_2060 := rfl
set_option maxRecDepth 100000 in
theorem f384_2123 : jfind c384_0 2123 = some c384_2123 := rfl
set_option maxRecDepth 100000 in
theorem f384_2156 : jfind c384_0 2156 = some c384_2156 := rfl
set_option maxRecDepth 100000 in
theorem f384_2179 : jfind c384_0 2179 = some c384_2179 := rfl
set_option maxRecDepth 100000 in
theorem f384_2185 : jfind c384_0 2185 = some c384_2185 := rfl

