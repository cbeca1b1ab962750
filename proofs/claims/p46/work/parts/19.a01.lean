set_option maxHeartbeats 4000000 in
theorem t367 {G : GH} {h : JH} (g : Gd G h) {a1 : Int} (la1 : (-2147483648) ≤ a1) (ua1 : a1 ≤ 2147483647) {a2 : Int} (la2 : (-2147483648) ≤ a2) (ua2 : a2 ≤ 2147483647) {a3 : Int} (la3 : (-2147483648) ≤ a3) (ua3 : a3 ≤ 2147483647) {w0 : Int} (ew0 : h.2.2 42 28 = w0) (lw0 : 0 ≤ w0) (uw0 : w0 ≤ 20) : jOk 9 0 0 367 [(2, 42), (0, a1), (0, a2), (0, a3)] h (fun v h' => ∃ r : Int, v = some (0, r) ∧ Gd G h' ∧ Kp [(42, 61), (78, 0)] h h' ∧ AcR h h' a1 a2 a3 r) := by
  refine ⟨by decide, by rw [ml367]; exact Nat.le_of_ble_eq_true rfl, ?_⟩
  rw [ml367, pp367]
  show jEv _ none _ c367_0 0 0 _ (c367_0, [(2, 42), (0, a1), (0, a2), (0, a3)], [], h, 0, 0)
  have k0 := Kp.rf [(42, 61), (78, 0)] h
  refine ev_aload_n rfl ?_
  refine ev_iconst ?_
  refine g_putf (r := 42) g ad42 (by decide) ft12_60 (by decide) (fun e => absurd e nz12_60) rf42_60 (by decide) (by omega) (by omega) (fun h77250 e77250 g77250 => ?_)
  have k77250 := k0.wr e77250 rfl
  refine ev_aload_n rfl ?_
  refine ev_iload_n rfl ?_
  refine ev_in (d := 7) (a := 0) (b := 0) (cd' := c284_0) (m := 2) (L0 := [(2, 42), (0, a1)]) (jcall_v (A := [(0, a1)]) (S' := []) (r := 42) rfl (g77250.lt ad42) (g77250.tg ad42) (Nat.le_of_ble_eq_true rfl)) (by decide) ml284 pp284 (Nat.le_of_ble_eq_true rfl) rfl (by decide) (by decide) ?_
  refine ev_iload_n rfl ?_
  refine ev_iconst ?_
  refine ev_aload_n rfl ?_
  refine g_getv (r := 42) (v := w0) g77250 ad42 (by decide) ft12_28 (((jw_ne e77250 (Or.inr (by decide))).trans ew0)) ?_
  refine ev_iconst ?_
  refine ev_isub (r := (w0 - 1)) (by unfold w32; omega) ?_
  refine ev_in (d := 6) (a := 0) (b := 0) (cd' := c242_0) (m := 3) (L0 := [(0, a1), (0, 0), (0, (w0 - 1))]) (jcall_s (A := [(0, (w0 - 1)), (0, 0), (0, a1)]) (S' := []) (by decide) rfl (Nat.le_of_ble_eq_true rfl)) (by decide) ml242 pp242 (Nat.le_of_ble_eq_true rfl) rfl (by decide) (by decide) ?_
  refine ev_iload_n rfl ?_
  refine ev_iload_n rfl ?_
  refine ev_icmplt f242_14 (fun c77251 => ?_) (fun c77251 => ?_)
  · refine ev_iconst ?_
    refine ev_ret rfl (by decide) (by decide) ?_
    show jEv _ _ _ _ _ _ _ (_, [(2, 42), (0, a1)], [(0, 0)], _, _, _)
    refine ev_ret rfl (by decide) (by decide) ?_
    show jEv _ _ _ _ _ _ _ (_, [(2, 42), (0, a1), (0, a2), (0, a3)], [(0, 0)], _, _, _)
    refine ev_ifeq f367_22 (fun c77252 => ?_) (fun c77252 => absurd c77252 (by omega))
    refine ev_iconst ?_
    exact ev_ret rfl (by decide) (by decide) ⟨_, rfl, g77250, k77250, Or.inl ⟨(by unfold AV0; rw [ew0]; omega), rfl, ((jw_eq e77250))⟩⟩
  · refine ev_iload_n rfl ?_
    refine ev_iload_n rfl ?_
    refine ev_icmpgt f242_14 (fun c77253 => ?_) (fun c77253 => ?_)
    · refine ev_iconst ?_
      refine ev_ret rfl (by decide) (by decide) ?_
      show jEv _ _ _ _ _ _ _ (_, [(2, 42), (0, a1)], [(0, 0)], _, _, _)
      refine ev_ret rfl (by decide) (by decide) ?_
      show jEv _ _ _ _ _ _ _ (_, [(2, 42), (0, a1), (0, a2), (0, a3)], [(0, 0)], _, _, _)
      refine ev_ifeq f367_22 (fun c77254 => ?_) (fun c77254 => absurd c77254 (by omega))
      refine ev_iconst ?_
      exact ev_ret rfl (by decide) (by decide) ⟨_, rfl, g77250, k77250, Or.inl ⟨(by unfold AV0; rw [ew0]; omega), rfl, ((jw_eq e77250))⟩⟩
    · refine ev_iconst ?_
      refine ev_goto f242_15 ?_
      refine ev_ret rfl (by decide) (by decide) ?_
      show jEv _ _ _ _ _ _ _ (_, [(2, 42), (0, a1)], [(0, 1)], _, _, _)
      refine ev_ret rfl (by decide) (by decide) ?_
      show jEv _ _ _ _ _ _ _ (_, [(2, 42), (0, a1), (0, a2), (0, a3)], [(0, 1)], _, _, _)
      refine ev_ifeq f367_22 (fun c77255 => absurd c77255 (by omega)) (fun c77255 => ?_)
      refine ev_iload_n rfl ?_
      refine ev_iconst ?_
      refine ev_iconst ?_
      refine ev_in (d := 7) (a := 0) (b := 0) (cd' := c242_0) (m := 3) (L0 := [(0, a2), (0, 0), (0, 3)]) (jcall_s (A := [(0, 3), (0, 0), (0, a2)]) (S' := []) (by decide) rfl (Nat.le_of_ble_eq_true rfl)) (by decide) ml242 pp242 (Nat.le_of_ble_eq_true rfl) rfl (by decide) (by decide) ?_
      refine ev_iload_n rfl ?_
      refine ev_iload_n rfl ?_
      refine ev_icmplt f242_14 (fun c77256 => ?_) (fun c77256 => ?_)
      · refine ev_iconst ?_
        refine ev_ret rfl (by decide) (by decide) ?_
        show jEv _ _ _ _ _ _ _ (_, [(2, 42), (0, a1), (0, a2), (0, a3)], [(0, 0)], _, _, _)
        refine ev_ifne f367_24 (fun c77257 => absurd c77257 (by omega)) (fun c77257 => ?_)
        refine ev_iconst ?_
        exact ev_ret rfl (by decide) (by decide) ⟨_, rfl, g77250, k77250, Or.inl ⟨(by unfold AV0; rw [ew0]; omega), rfl, ((jw_eq e77250))⟩⟩
      · refine ev_iload_n rfl ?_
        refine ev_iload_n rfl ?_
        refine ev_icmpgt f242_14 (fun c77258 => ?_) (fun c77258 => ?_)
        · refine ev_iconst ?_
          refine ev_ret rfl (by decide) (by decide) ?_
          show jEv _ _ _ _ _ _ _ (_, [(2, 42), (0, a1), (0, a2), (0, a3)], [(0, 0)], _, _, _)
          refine ev_ifne f367_24 (fun c77259 => absurd c77259 (by omega)) (fun c77259 => ?_)
          refine ev_iconst ?_
          exact ev_ret rfl (by decide) (by decide) ⟨_, rfl, g77250, k77250, Or.inl ⟨(by unfold AV0; rw [ew0]; omega), rfl, ((jw_eq e77250))⟩⟩
        · refine ev_iconst ?_
          refine ev_goto f242_15 ?_
          refine ev_ret rfl (by decide) (by decide) ?_
          show jEv _ _ _ _ _ _ _ (_, [(2, 42), (0, a1), (0, a2), (0, a3)], [(0, 1)], _, _, _)
          refine ev_ifne f367_24 (fun c77260 => ?_) (fun c77260 => absurd c77260 (by omega))
          obtain ⟨v77261, ev77261, lv77261, uv77261⟩ := g77250.rd ad60 (show (a1).toNat < 20 by omega) (rt60 _)
          obtain ⟨v77262, ev77262, lv77262, uv77262⟩ := g77250.rd ad61 (show (a1).toNat < 20 by omega) (rt61 _)
          rcases (show v77261 = 0 ∨ v77261 = 1 ∨ v77261 = 2 ∨ v77261 = 3 ∨ v77261 = 4 ∨ v77261 = 5 by omega) with c77263 | c77263 | c77263 | c77263 | c77263 | c77263
          · refine ev_iload_n rfl ?_
            refine ev_ifne f367_37 (fun c77264 => ?_) (fun c77264 => ?_)
            · refine ev_iload_n rfl ?_
              refine ev_iconst ?_
              refine ev_icmpne f367_51 (fun c77265 => ?_) (fun c77265 => ?_)
              · refine ev_iload_n rfl ?_
                refine ev_iconst ?_
                refine ev_icmpne f367_65 (fun c77266 => ?_) (fun c77266 => ?_)
                · refine ev_aload_n rfl ?_
                  refine ev_iload_n rfl ?_
                  refine ev_iload_n rfl ?_
                  refine ev_in (d := 7) (a := 0) (b := 0) (cd' := c366_0) (m := 3) (L0 := [(2, 42), (0, a1), (0, a3)]) (jcall_v (A := [(0, a3), (0, a1)]) (S' := []) (r := 42) rfl (g77250.lt ad42) (g77250.tg ad42) (Nat.le_of_ble_eq_true rfl)) (by decide) ml366 pp366 (Nat.le_of_ble_eq_true rfl) rfl (by decide) (by decide) ?_
                  refine ev_aload_n rfl ?_
                  refine g_getp (r := 42) (c := 60) g77250 ad42 (by decide) (by decide) rf42_29 ft12_29 ?_
                  refine ev_iload_n rfl ?_
                  refine g_ialdv (v := v77261) g77250 ad60 (by omega) (by omega) (ev77261) ?_
                  refine ev_iconst ?_
                  refine ev_icmpne f366_25 (fun c77267 => ?_) (fun c77267 => absurd c77267 (by omega))
                  refine ev_aload_n rfl ?_
                  refine ev_iload_n rfl ?_
                  refine ev_iload_n rfl ?_
                  refine ev_in (d := 6) (a := 0) (b := 0) (cd' := c365_0) (m := 4) (L0 := [(2, 42), (0, a1), (0, a3), (9, 0)]) (jcall_v (A := [(0, a3), (0, a1)]) (S' := []) (r := 42) rfl (g77250.lt ad42) (g77250.tg ad42) (Nat.le_of_ble_eq_true rfl)) (by decide) ml365 pp365 (Nat.le_of_ble_eq_true rfl) rfl (by decide) (by decide) ?_
                  refine ev_aload_n rfl ?_
                  refine ev_iconst ?_
                  refine ev_in (d := 5) (a := 0) (b := 0) (cd' := c356_0) (m := 2) (L0 := [(2, 42), (0, 2)]) (jcall_v (A := [(0, 2)]) (S' := []) (r := 42) rfl (g77250.lt ad42) (g77250.tg ad42) (Nat.le_of_ble_eq_true rfl)) (by decide) ml356 pp356 (Nat.le_of_ble_eq_true rfl) rfl (by decide) (by decide) ?_
                  refine ev_aload_n rfl ?_
                  refine g_getv (r := 42) (v := 0) g77250 ad42 (by decide) ft12_60 ((jw_eq e77250)) ?_
                  refine ev_bipush ?_
                  refine ev_icmpge f356_19 (fun c77268 => absurd c77268 (by omega)) (fun c77268 => ?_)
                  refine ev_aload_n rfl ?_
                  refine g_getp (r := 42) (c := 78) g77250 ad42 (by decide) (by decide) rf42_61 ft12_61 ?_
                  refine ev_aload_n rfl ?_
                  refine g_getv (r := 42) (v := 0) g77250 ad42 (by decide) ft12_60 ((jw_eq e77250)) ?_
                  refine ev_iload_n rfl ?_
                  refine g_iast g77250 ad78 rt78 (fun _ => rfl) (by omega) (by omega) (by omega) (by omega) (fun h77269 e77269 g77269 => ?_)
                  have k77269 := k77250.wr e77269 rfl
                  refine ev_aload_n rfl ?_
                  refine ev_dup (by decide) ?_
                  refine g_getv (r := 42) (v := 0) g77269 ad42 (by decide) ft12_60 (((jw_ne e77269 (Or.inl (by decide))).trans (jw_eq e77250))) ?_
                  refine ev_iconst ?_
                  refine ev_iadd (r := 1) (by decide) ?_
                  refine g_putf (r := 42) g77269 ad42 (by decide) ft12_60 (by decide) (fun e => absurd e nz12_60) rf42_60 (by decide) (by omega) (by omega) (fun h77270 e77270 g77270 => ?_)
                  have k77270 := k77269.wr e77270 rfl
                  refine ev_ret rfl (by decide) (by decide) ?_
                  show jEv _ _ _ _ _ _ _ (_, [(2, 42), (0, a1), (0, a3), (9, 0)], [], _, _, _)
                  refine ev_aload_n rfl ?_
                  refine ev_iload_n rfl ?_
                  refine ev_iload_n rfl ?_
                  refine ev_in (d := 5) (a := 0) (b := 0) (cd' := c362_0) (m := 4) (L0 := [(2, 42), (0, a1), (0, a3), (9, 0)]) (jcall_v (A := [(0, a3), (0, a1)]) (S' := []) (r := 42) rfl (g77270.lt ad42) (g77270.tg ad42) (Nat.le_of_ble_eq_true rfl)) (by decide) ml362 pp362 (Nat.le_of_ble_eq_true rfl) rfl (by decide) (by decide) ?_
                  refine ev_aload_n rfl ?_
                  refine g_getp (r := 42) (c := 60) g77270 ad42 (by decide) (by decide) rf42_29 ft12_29 ?_
                  refine ev_iload_n rfl ?_
                  refine g_ialdv (v := v77261) g77270 ad60 (by omega) (by omega) (((jw_ne e77270 (Or.inl (by decide))).trans ((jw_ne e77269 (Or.inl (by decide))).trans ev77261))) ?_
                  refine ev_iconst ?_
                  refine ev_icmpne f362_32 (fun c77271 => ?_) (fun c77271 => absurd c77271 (by omega))
                  refine ev_aload_n rfl ?_
                  refine g_getp (r := 42) (c := 60) g77270 ad42 (by decide) (by decide) rf42_29 ft12_29 ?_
                  refine ev_iload_n rfl ?_
                  refine g_ialdv (v := v77261) g77270 ad60 (by omega) (by omega) (((jw_ne e77270 (Or.inl (by decide))).trans ((jw_ne e77269 (Or.inl (by decide))).trans ev77261))) ?_
                  refine ev_iconst ?_
                  refine ev_icmpne f362_51 (fun c77272 => ?_) (fun c77272 => absurd c77272 (by omega))
                  refine ev_aload_n rfl ?_
                  refine ev_iload_n rfl ?_
                  refine ev_iload_n rfl ?_
                  refine ev_in (d := 4) (a := 0) (b := 0) (cd' := c360_0) (m := 3) (L0 := [(2, 42), (0, a1), (0, a3)]) (jcall_v (A := [(0, a3), (0, a1)]) (S' := []) (r := 42) rfl (g77270.lt ad42) (g77270.tg ad42) (Nat.le_of_ble_eq_true rfl)) (by decide) ml360 pp360 (Nat.le_of_ble_eq_true rfl) rfl (by decide) (by decide) ?_
                  refine ev_aload_n rfl ?_
                  refine ev_bipush ?_
                  refine ev_in (d := 3) (a := 0) (b := 0) (cd' := c356_0) (m := 2) (L0 := [(2, 42), (0, 10)]) (jcall_v (A := [(0, 10)]) (S' := []) (r := 42) rfl (g77270.lt ad42) (g77270.tg ad42) (Nat.le_of_ble_eq_true rfl)) (by decide) ml356 pp356 (Nat.le_of_ble_eq_true rfl) rfl (by decide) (by decide) ?_
                  refine ev_aload_n rfl ?_
                  refine g_getv (r := 42) (v := 1) g77270 ad42 (by decide) ft12_60 ((jw_eq e77270)) ?_
                  refine ev_bipush ?_
                  refine ev_icmpge f356_19 (fun c77273 => absurd c77273 (by omega)) (fun c77273 => ?_)
                  refine ev_aload_n rfl ?_
                  refine g_getp (r := 42) (c := 78) g77270 ad42 (by decide) (by decide) rf42_61 ft12_61 ?_
                  refine ev_aload_n rfl ?_
                  refine g_getv (r := 42) (v := 1) g77270 ad42 (by decide) ft12_60 ((jw_eq e77270)) ?_
                  refine ev_iload_n rfl ?_
                  refine g_iast g77270 ad78 rt78 (fun _ => rfl) (by omega) (by omega) (by omega) (by omega) (fun h77274 e77274 g77274 => ?_)
                  have k77274 := k77270.wr e77274 rfl
                  refine ev_aload_n rfl ?_
                  refine ev_dup (by decide) ?_
                  refine g_getv (r := 42) (v := 1) g77274 ad42 (by decide) ft12_60 (((jw_ne e77274 (Or.inl (by decide))).trans (jw_eq e77270))) ?_
                  refine ev_iconst ?_
                  refine ev_iadd (r := 2) (by decide) ?_
                  refine g_putf (r := 42) g77274 ad42 (by decide) ft12_60 (by decide) (fun e => absurd e nz12_60) rf42_60 (by decide) (by omega) (by omega) (fun h77275 e77275 g77275 => ?_)
                  have k77275 := k77274.wr e77275 rfl
                  refine ev_ret rfl (by decide) (by decide) ?_
                  show jEv _ _ _ _ _ _ _ (_, [(2, 42), (0, a1), (0, a3)], [], _, _, _)
                  refine ev_aload_n rfl ?_
                  refine ev_iload_n rfl ?_
                  refine ev_iload_n rfl ?_
                  refine ev_in (d := 3) (a := 0) (b := 0) (cd' := c359_0) (m := 3) (L0 := [(2, 42), (0, a1), (0, a3)]) (jcall_v (A := [(0, a3), (0, a1)]) (S' := []) (r := 42) rfl (g77275.lt ad42) (g77275.tg ad42) (Nat.le_of_ble_eq_true rfl)) (by decide) ml359 pp359 (Nat.le_of_ble_eq_true rfl) rfl (by decide) (by decide) ?_
                  refine ev_aload_n rfl ?_
                  refine g_getp (r := 42) (c := 60) g77275 ad42 (by decide) (by decide) rf42_29 ft12_29 ?_
                  refine ev_iload_n rfl ?_
                  refine g_ialdv (v := v77261) g77275 ad60 (by omega) (by omega) (((jw_ne e77275 (Or.inl (by decide))).trans ((jw_ne e77274 (Or.inl (by decide))).trans ((jw_ne e77270 (Or.inl (by decide))).trans ((jw_ne e77269 (Or.inl (by decide))).trans ev77261))))) ?_
                  refine ev_iconst ?_
                  refine ev_icmpne f359_24 (fun c77276 => ?_) (fun c77276 => absurd c77276 (by omega))
                  refine ev_aload_n rfl ?_
                  refine g_getp (r := 42) (c := 60) g77275 ad42 (by decide) (by decide) rf42_29 ft12_29 ?_
                  refine ev_iload_n rfl ?_
                  refine g_ialdv (v := v77261) g77275 ad60 (by omega) (by omega) (((jw_ne e77275 (Or.inl (by decide))).trans ((jw_ne e77274 (Or.inl (by decide))).trans ((jw_ne e77270 (Or.inl (by decide))).trans ((jw_ne e77269 (Or.inl (by decide))).trans ev77261))))) ?_
                  refine ev_iconst ?_
                  refine ev_icmpne f359_43 (fun c77277 => ?_) (fun c77277 => absurd c77277 (by omega))
                  refine ev_aload_n rfl ?_
                  refine ev_iload_n rfl ?_
                  refine ev_iload_n rfl ?_
                  refine ev_in (d := 2) (a := 0) (b := 0) (cd' := c357_0) (m := 3) (L0 := [(2, 42), (0, a1), (0, a3)]) (jcall_v (A := [(0, a3), (0, a1)]) (S' := []) (r := 42) rfl (g77275.lt ad42) (g77275.tg ad42) (Nat.le_of_ble_eq_true rfl)) (by decide) ml357 pp357 (Nat.le_of_ble_eq_true rfl) rfl (by decide) (by decide) ?_
                  refine ev_aload_n rfl ?_
                  refine ev_iconst ?_
                  refine ev_in (d := 1) (a := 0) (b := 0) (cd' := c356_0) (m := 2) (L0 := [(2, 42), (0, 1)]) (jcall_v (A := [(0, 1)]) (S' := []) (r := 42) rfl (g77275.lt ad42) (g77275.tg ad42) (Nat.le_of_ble_eq_true rfl)) (by decide) ml356 pp356 (Nat.le_of_ble_eq_true rfl) rfl (by decide) (by decide) ?_
                  refine ev_aload_n rfl ?_
                  refine g_getv (r := 42) (v := 2) g77275 ad42 (by decide) ft12_60 ((jw_eq e77275)) ?_
                  refine ev_bipush ?_
                  refine ev_icmpge f356_19 (fun c77278 => absurd c77278 (by omega)) (fun c77278 => ?_)
                  refine ev_aload_n rfl ?_
                  refine g_getp (r := 42) (c := 78) g77275 ad42 (by decide) (by decide) rf42_61 ft12_61 ?_
                  refine ev_aload_n rfl ?_
                  refine g_getv (r := 42) (v := 2) g77275 ad42 (by decide) ft12_60 ((jw_eq e77275)) ?_
                  refine ev_iload_n rfl ?_
                  refine g_iast g77275 ad78 rt78 (fun _ => rfl) (by omega) (by omega) (by omega) (by omega) (fun h77279 e77279 g77279 => ?_)
                  have k77279 := k77275.wr e77279 rfl
                  refine ev_aload_n rfl ?_
                  refine ev_dup (by decide) ?_
                  refine g_getv (r := 42) (v := 2) g77279 ad42 (by decide) ft12_60 (((jw_ne e77279 (Or.inl (by decide))).trans (jw_eq e77275))) ?_
                  refine ev_iconst ?_
                  refine ev_iadd (r := 3) (by decide) ?_
                  refine g_putf (r := 42) g77279 ad42 (by decide) ft12_60 (by decide) (fun e => absurd e nz12_60) rf42_60 (by decide) (by omega) (by omega) (fun h77280 e77280 g77280 => ?_)
                  have k77280 := k77279.wr e77280 rfl
                  refine ev_ret rfl (by decide) (by decide) ?_
                  show jEv _ _ _ _ _ _ _ (_, [(2, 42), (0, a1), (0, a3)], [], _, _, _)
                  refine ev_iload_n rfl ?_
                  refine ev_iload_n rfl ?_
                  refine g_iaddG (fun v77281 ev77281 lv77281 uv77281 => ?_)
                  refine ev_ret rfl (by decide) (by decide) ?_
                  show jEv _ _ _ _ _ _ _ (_, [(2, 42), (0, a1), (0, a3)], [(0, v77281)], _, _, _)
                  refine ev_ret rfl (by decide) (by decide) ?_
                  show jEv _ _ _ _ _ _ _ (_, [(2, 42), (0, a1), (0, a3)], [(0, v77281)], _, _, _)
                  refine ev_iconst ?_
                  refine g_imulG (fun v77282 ev77282 lv77282 uv77282 => ?_)
                  refine ev_ret rfl (by decide) (by decide) ?_
                  show jEv _ _ _ _ _ _ _ (_, [(2, 42), (0, a1), (0, a3), (9, 0)], [(0, v77282)], _, _, _)
                  refine ev_ret rfl (by decide) (by decide) ?_
                  show jEv _ _ _ _ _ _ _ (_, [(2, 42), (0, a1), (0, a3), (9, 0)], [(0, v77282)], _, _, _)
                  refine ev_istore_n (L' := [(2, 42), (0, a1), (0, a3), (0, v77282)]) (Nat.le_of_ble_eq_true rfl) rfl ?_
                  refine ev_iload_n rfl ?_
                  refine ev_aload_n rfl ?_
                  refine ev_iload_n rfl ?_
                  refine ev_iconst ?_
                  refine ev_in (d := 5) (a := 0) (b := 0) (cd' := c364_0) (m := 4) (L0 := [(2, 42), (0, a1), (0, 1), (9, 0)]) (jcall_v (A := [(0, 1), (0, a1)]) (S' := [(0, v77282)]) (r := 42) rfl (g77280.lt ad42) (g77280.tg ad42) (Nat.le_of_ble_eq_true rfl)) (by decide) ml364 pp364 (Nat.le_of_ble_eq_true rfl) rfl (by decide) (by decide) ?_
                  refine ev_aload_n rfl ?_
                  refine g_getp (r := 42) (c := 60) g77280 ad42 (by decide) (by decide) rf42_29 ft12_29 ?_
                  refine ev_iload_n rfl ?_
                  refine g_ialdv (v := v77261) g77280 ad60 (by omega) (by omega) (((jw_ne e77280 (Or.inl (by decide))).trans ((jw_ne e77279 (Or.inl (by decide))).trans ((jw_ne e77275 (Or.inl (by decide))).trans ((jw_ne e77274 (Or.inl (by decide))).trans ((jw_ne e77270 (Or.inl (by decide))).trans ((jw_ne e77269 (Or.inl (by decide))).trans ev77261))))))) ?_
                  refine ev_iconst ?_
                  refine ev_icmpne f364_25 (fun c77283 => ?_) (fun c77283 => absurd c77283 (by omega))
                  refine ev_aload_n rfl ?_
                  refine g_getp (r := 42) (c := 60) g77280 ad42 (by decide) (by decide) rf42_29 ft12_29 ?_
                  refine ev_iload_n rfl ?_
                  refine g_ialdv (v := v77261) g77280 ad60 (by omega) (by omega) (((jw_ne e77280 (Or.inl (by decide))).trans ((jw_ne e77279 (Or.inl (by decide))).trans ((jw_ne e77275 (Or.inl (by decide))).trans ((jw_ne e77274 (Or.inl (by decide))).trans ((jw_ne e77270 (Or.inl (by decide))).trans ((jw_ne e77269 (Or.inl (by decide))).trans ev77261))))))) ?_
                  refine ev_iconst ?_
                  refine ev_icmpne f364_57 (fun c77284 => ?_) (fun c77284 => absurd c77284 (by omega))
                  refine ev_aload_n rfl ?_
                  refine ev_iload_n rfl ?_
                  refine ev_iload_n rfl ?_
                  refine ev_in (d := 4) (a := 0) (b := 0) (cd' := c363_0) (m := 3) (L0 := [(2, 42), (0, a1), (0, 1)]) (jcall_v (A := [(0, 1), (0, a1)]) (S' := []) (r := 42) rfl (g77280.lt ad42) (g77280.tg ad42) (Nat.le_of_ble_eq_true rfl)) (by decide) ml363 pp363 (Nat.le_of_ble_eq_true rfl) rfl (by decide) (by decide) ?_
                  refine ev_aload_n rfl ?_
                  refine ev_bipush ?_
                  refine ev_in (d := 3) (a := 0) (b := 0) (cd' := c356_0) (m := 2) (L0 := [(2, 42), (0, 11)]) (jcall_v (A := [(0, 11)]) (S' := []) (r := 42) rfl (g77280.lt ad42) (g77280.tg ad42) (Nat.le_of_ble_eq_true rfl)) (by decide) ml356 pp356 (Nat.le_of_ble_eq_true rfl) rfl (by decide) (by decide) ?_
                  refine ev_aload_n rfl ?_
                  refine g_getv (r := 42) (v := 3) g77280 ad42 (by decide) ft12_60 ((jw_eq e77280)) ?_
                  refine ev_bipush ?_
                  refine ev_icmpge f356_19 (fun c77285 => absurd c77285 (by omega)) (fun c77285 => ?_)
                  refine ev_aload_n rfl ?_
                  refine g_getp (r := 42) (c := 78) g77280 ad42 (by decide) (by decide) rf42_61 ft12_61 ?_
                  refine ev_aload_n rfl ?_
                  refine g_getv (r := 42) (v := 3) g77280 ad42 (by decide) ft12_60 ((jw_eq e77280)) ?_
                  refine ev_iload_n rfl ?_
                  refine g_iast g77280 ad78 rt78 (fun _ => rfl) (by omega) (by omega) (by omega) (by omega) (fun h77286 e77286 g77286 => ?_)
                  have k77286 := k77280.wr e77286 rfl
                  refine ev_aload_n rfl ?_
                  refine ev_dup (by decide) ?_
                  refine g_getv (r := 42) (v := 3) g77286 ad42 (by decide) ft12_60 (((jw_ne e77286 (Or.inl (by decide))).trans (jw_eq e77280))) ?_
                  refine ev_iconst ?_
                  refine ev_iadd (r := 4) (by decide) ?_
                  refine g_putf (r := 42) g77286 ad42 (by decide) ft12_60 (by decide) (fun e => absurd e nz12_60) rf42_60 (by decide) (by omega) (by omega) (fun h77287 e77287 g77287 => ?_)
                  have k77287 := k77286.wr e77287 rfl
                  refine ev_ret rfl (by decide) (by decide) ?_
                  show jEv _ _ _ _ _ _ _ (_, [(2, 42), (0, a1), (0, 1)], [], _, _, _)
                  refine ev_iload_n rfl ?_
                  refine ev_iload_n rfl ?_
                  refine g_ixorB (k := 5) (hi := 31) (by decide) (by decide) (by omega) (by omega) (by omega) (by omega) (fun v77288 ev77288 lv77288 uv77288 => ?_)
                  refine ev_ret rfl (by decide) (by decide) ?_
                  show jEv _ _ _ _ _ _ _ (_, [(2, 42), (0, a1), (0, 1), (9, 0)], [(0, v77288)], _, _, _)
                  refine ev_ret rfl (by decide) (by decide) ?_
                  show jEv _ _ _ _ _ _ _ (_, [(2, 42), (0, a1), (0, a3), (0, v77282)], [(0, v77288), (0, v77282)], _, _, _)
                  refine g_isubG (fun v77289 ev77289 lv77289 uv77289 => ?_)
                  refine ev_ret rfl (by decide) (by decide) ?_
                  show jEv _ _ _ _ _ _ _ (_, [(2, 42), (0, a1), (0, a3)], [(0, v77289)], _, _, _)
                  refine ev_ret rfl (by decide) (by decide) ?_
                  show jEv _ _ _ _ _ _ _ (_, [(2, 42), (0, a1), (0, a2), (0, a3)], [(0, v77289)], _, _, _)
                  exact ev_ret rfl (by decide) (by decide) ⟨_, rfl, g77287, k77287, Or.inr ⟨(by unfold AV0; rw [ew0]; omega), by rw [show h.2.2 60 (a1).toNat = 0 from (k77250.v rfl).symm.trans ((ev77261).trans (by omega)), show h.2.2 61 (a1).toNat = v77262 from (k77250.v rfl).symm.trans ev77262, show a2 = 3 by omega, ac_0_3]; (try rw [ev77281]); (try rw [ev77282]); (try rw [ev77288]); (try rw [ev77289]); all_goals (first | rfl | omega | (unfold w32 at *; omega)), by rw [show h.2.2 60 (a1).toNat = 0 from (k77250.v rfl).symm.trans ((ev77261).trans (by omega)), show a2 = 3 by omega, tr_0_3]; exact ⟨(((jw_eq e77287))), (((jw_ne e77287 (Or.inl (by decide))).trans ((jw_ne e77286 (Or.inr (by decide))).trans ((jw_ne e77280 (Or.inl (by decide))).trans ((jw_ne e77279 (Or.inr (by decide))).trans ((jw_ne e77275 (Or.inl (by decide))).trans ((jw_ne e77274 (Or.inr (by decide))).trans ((jw_ne e77270 (Or.inl (by decide))).trans (jw_eq e77269))))))))), (((jw_ne e77287 (Or.inl (by decide))).trans ((jw_ne e77286 (Or.inr (by decide))).trans ((jw_ne e77280 (Or.inl (by decide))).trans ((jw_ne e77279 (Or.inr (by decide))).trans ((jw_ne e77275 (Or.inl (by decide))).trans (jw_eq e77274))))))), (((jw_ne e77287 (Or.inl (by decide))).trans ((jw_ne e77286 (Or.inr (by decide))).trans ((jw_ne e77280 (Or.inl (by decide))).trans (jw_eq e77279))))), (((jw_ne e77287 (Or.inl (by decide))).trans (jw_eq e77286))), trivial⟩⟩⟩
                · refine ev_aload_n rfl ?_
                  refine ev_iload_n rfl ?_
                  refine ev_iload_n rfl ?_
                  refine ev_in (d := 7) (a := 0) (b := 0) (cd' := c364_0) (m := 4) (L0 := [(2, 42), (0, a1), (0, a3), (9, 0)]) (jcall_v (A := [(0, a3), (0, a1)]) (S' := []) (r := 42) rfl (g77250.lt ad42) (g77250.tg ad42) (Nat.le_of_ble_eq_true rfl)) (by decide) ml364 pp364 (Nat.le_of_ble_eq_true rfl) rfl (by decide) (by decide) ?_
                  refine ev_aload_n rfl ?_
                  refine g_getp (r := 42) (c := 60) g77250 ad42 (by decide) (by decide) rf42_29 ft12_29 ?_
                  refine ev_iload_n rfl ?_
                  refine g_ialdv (v := v77261) g77250 ad60 (by omega) (by omega) (ev77261) ?_
                  refine ev_iconst ?_
                  refine ev_icmpne f364_25 (fun c77290 => ?_) (fun c77290 => absurd c77290 (by omega))
                  refine ev_aload_n rfl ?_
                  refine g_getp (r := 42) (c := 60) g77250 ad42 (by decide) (by decide) rf42_29 ft12_29 ?_
                  refine ev_iload_n rfl ?_
                  refine g_ialdv (v := v77261) g77250 ad60 (by omega) (by omega) (ev77261) ?_
                  refine ev_iconst ?_
                  refine ev_icmpne f364_57 (fun c77291 => ?_) (fun c77291 => absurd c77291 (by omega))
                  refine ev_aload_n rfl ?_
                  refine ev_iload_n rfl ?_
                  refine ev_iload_n rfl ?_
                  refine ev_in (d := 6) (a := 0) (b := 0) (cd' := c363_0) (m := 3) (L0 := [(2, 42), (0, a1), (0, a3)]) (jcall_v (A := [(0, a3), (0, a1)]) (S' := []) (r := 42) rfl (g77250.lt ad42) (g77250.tg ad42) (Nat.le_of_ble_eq_true rfl)) (by decide) ml363 pp363 (Nat.le_of_ble_eq_true rfl) rfl (by decide) (by decide) ?_
                  refine ev_aload_n rfl ?_
                  refine ev_bipush ?_
                  refine ev_in (d := 5) (a := 0) (b := 0) (cd' := c356_0) (m := 2) (L0 := [(2, 42), (0, 11)]) (jcall_v (A := [(0, 11)]) (S' := []) (r := 42) rfl (g77250.lt ad42) (g77250.tg ad42) (Nat.le_of_ble_eq_true rfl)) (by decide) ml356 pp356 (Nat.le_of_ble_eq_true rfl) rfl (by decide) (by decide) ?_
                  refine ev_aload_n rfl ?_
                  refine g_getv (r := 42) (v := 0) g77250 ad42 (by decide) ft12_60 ((jw_eq e77250)) ?_
                  refine ev_bipush ?_
                  refine ev_icmpge f356_19 (fun c77292 => absurd c77292 (by omega)) (fun c77292 => ?_)
                  refine ev_aload_n rfl ?_
                  refine g_getp (r := 42) (c := 78) g77250 ad42 (by decide) (by decide) rf42_61 ft12_61 ?_
                  refine ev_aload_n rfl ?_
                  refine g_getv (r := 42) (v := 0) g77250 ad42 (by decide) ft12_60 ((jw_eq e77250)) ?_
                  refine ev_iload_n rfl ?_
                  refine g_iast g77250 ad78 rt78 (fun _ => rfl) (by omega) (by omega) (by omega) (by omega) (fun h77293 e77293 g77293 => ?_)
                  have k77293 := k77250.wr e77293 rfl
                  refine ev_aload_n rfl ?_
                  refine ev_dup (by decide) ?_
                  refine g_getv (r := 42) (v := 0) g77293 ad42 (by decide) ft12_60 (((jw_ne e77293 (Or.inl (by decide))).trans (jw_eq e77250))) ?_
                  refine ev_iconst ?_
                  refine ev_iadd (r := 1) (by decide) ?_
                  refine g_putf (r := 42) g77293 ad42 (by decide) ft12_60 (by decide) (fun e => absurd e nz12_60) rf42_60 (by decide) (by omega) (by omega) (fun h77294 e77294 g77294 => ?_)
                  have k77294 := k77293.wr e77294 rfl
                  refine ev_ret rfl (by decide) (by decide) ?_
                  show jEv _ _ _ _ _ _ _ (_, [(2, 42), (0, a1), (0, a3)], [], _, _, _)
                  refine ev_iload_n rfl ?_
                  refine ev_iload_n rfl ?_
                  refine g_ixorG (fun v77295 ev77295 lv77295 uv77295 => ?_)
                  refine ev_ret rfl (by decide) (by decide) ?_
                  show jEv _ _ _ _ _ _ _ (_, [(2, 42), (0, a1), (0, a3), (9, 0)], [(0, v77295)], _, _, _)
                  refine ev_ret rfl (by decide) (by decide) ?_
                  show jEv _ _ _ _ _ _ _ (_, [(2, 42), (0, a1), (0, a2), (0, a3)], [(0, v77295)], _, _, _)
                  refine ev_goto f367_71 ?_
                  exact ev_ret rfl (by decide) (by decide) ⟨_, rfl, g77294, k77294, Or.inr ⟨(by unfold AV0; rw [ew0]; omega), by rw [show h.2.2 60 (a1).toNat = 0 from (k77250.v rfl).symm.trans ((ev77261).trans (by omega)), show h.2.2 61 (a1).toNat = v77262 from (k77250.v rfl).symm.trans ev77262, show a2 = 2 by omega, ac_0_2]; (try rw [ev77295]); all_goals (first | rfl | omega | (unfold w32 at *; omega)), by rw [show h.2.2 60 (a1).toNat = 0 from (k77250.v rfl).symm.trans ((ev77261).trans (by omega)), show a2 = 2 by omega, tr_0_2]; exact ⟨(((jw_eq e77294))), (((jw_ne e77294 (Or.inl (by decide))).trans (jw_eq e77293))), trivial⟩⟩⟩
              · refine ev_aload_n rfl ?_
                refine ev_iload_n rfl ?_
                refine ev_iload_n rfl ?_
                refine ev_in (d := 7) (a := 0) (b := 0) (cd' := c362_0) (m := 4) (L0 := [(2, 42), (0, a1), (0, a3), (9, 0)]) (jcall_v (A := [(0, a3), (0, a1)]) (S' := []) (r := 42) rfl (g77250.lt ad42) (g77250.tg ad42) (Nat.le_of_ble_eq_true rfl)) (by decide) ml362 pp362 (Nat.le_of_ble_eq_true rfl) rfl (by decide) (by decide) ?_
                refine ev_aload_n rfl ?_
                refine g_getp (r := 42) (c := 60) g77250 ad42 (by decide) (by decide) rf42_29 ft12_29 ?_
                refine ev_iload_n rfl ?_
                refine g_ialdv (v := v77261) g77250 ad60 (by omega) (by omega) (ev77261) ?_
                refine ev_iconst ?_
                refine ev_icmpne f362_32 (fun c77296 => ?_) (fun c77296 => absurd c77296 (by omega))
                refine ev_aload_n rfl ?_
                refine g_getp (r := 42) (c := 60) g77250 ad42 (by decide) (by decide) rf42_29 ft12_29 ?_
                refine ev_iload_n rfl ?_
                refine g_ialdv (v := v77261) g77250 ad60 (by omega) (by omega) (ev77261) ?_
                refine ev_iconst ?_
                refine ev_icmpne f362_51 (fun c77297 => ?_) (fun c77297 => absurd c77297 (by omega))
                refine ev_aload_n rfl ?_
                refine ev_iload_n rfl ?_
                refine ev_iload_n rfl ?_
                refine ev_in (d := 6) (a := 0) (b := 0) (cd' := c360_0) (m := 3) (L0 := [(2, 42), (0, a1), (0, a3)]) (jcall_v (A := [(0, a3), (0, a1)]) (S' := []) (r := 42) rfl (g77250.lt ad42) (g77250.tg ad42) (Nat.le_of_ble_eq_true rfl)) (by decide) ml360 pp360 (Nat.le_of_ble_eq_true rfl) rfl (by decide) (by decide) ?_
                refine ev_aload_n rfl ?_
                refine ev_bipush ?_
                refine ev_in (d := 5) (a := 0) (b := 0) (cd' := c356_0) (m := 2) (L0 := [(2, 42), (0, 10)]) (jcall_v (A := [(0, 10)]) (S' := []) (r := 42) rfl (g77250.lt ad42) (g77250.tg ad42) (Nat.le_of_ble_eq_true rfl)) (by decide) ml356 pp356 (Nat.le_of_ble_eq_true rfl) rfl (by decide) (by decide) ?_
                refine ev_aload_n rfl ?_
                refine g_getv (r := 42) (v := 0) g77250 ad42 (by decide) ft12_60 ((jw_eq e77250)) ?_
                refine ev_bipush ?_
                refine ev_icmpge f356_19 (fun c77298 => absurd c77298 (by omega)) (fun c77298 => ?_)
                refine ev_aload_n rfl ?_
                refine g_getp (r := 42) (c := 78) g77250 ad42 (by decide) (by decide) rf42_61 ft12_61 ?_
                refine ev_aload_n rfl ?_
                refine g_getv (r := 42) (v := 0) g77250 ad42 (by decide) ft12_60 ((jw_eq e77250)) ?_
                refine ev_iload_n rfl ?_
                refine g_iast g77250 ad78 rt78 (fun _ => rfl) (by omega) (by omega) (by omega) (by omega) (fun h77299 e77299 g77299 => ?_)
                have k77299 := k77250.wr e77299 rfl
                refine ev_aload_n rfl ?_
                refine ev_dup (by decide) ?_
                refine g_getv (r := 42) (v := 0) g77299 ad42 (by decide) ft12_60 (((jw_ne e77299 (Or.inl (by decide))).trans (jw_eq e77250))) ?_
                refine ev_iconst ?_
                refine ev_iadd (r := 1) (by decide) ?_
                refine g_putf (r := 42) g77299 ad42 (by decide) ft12_60 (by decide) (fun e => absurd e nz12_60) rf42_60 (by decide) (by omega) (by omega) (fun h77300 e77300 g77300 => ?_)
                have k77300 := k77299.wr e77300 rfl
                refine ev_ret rfl (by decide) (by decide) ?_
                show jEv _ _ _ _ _ _ _ (_, [(2, 42), (0, a1), (0, a3)], [], _, _, _)
                refine ev_aload_n rfl ?_
                refine ev_iload_n rfl ?_
                refine ev_iload_n rfl ?_
                refine ev_in (d := 5) (a := 0) (b := 0) (cd' := c359_0) (m := 3) (L0 := [(2, 42), (0, a1), (0, a3)]) (jcall_v (A := [(0, a3), (0, a1)]) (S' := []) (r := 42) rfl (g77300.lt ad42) (g77300.tg ad42) (Nat.le_of_ble_eq_true rfl)) (by decide) ml359 pp359 (Nat.le_of_ble_eq_true rfl) rfl (by decide) (by decide) ?_
                refine ev_aload_n rfl ?_
                refine g_getp (r := 42) (c := 60) g77300 ad42 (by decide) (by decide) rf42_29 ft12_29 ?_
                refine ev_iload_n rfl ?_
                refine g_ialdv (v := v77261) g77300 ad60 (by omega) (by omega) (((jw_ne e77300 (Or.inl (by decide))).trans ((jw_ne e77299 (Or.inl (by decide))).trans ev77261))) ?_
                refine ev_iconst ?_
                refine ev_icmpne f359_24 (fun c77301 => ?_) (fun c77301 => absurd c77301 (by omega))
                refine ev_aload_n rfl ?_
                refine g_getp (r := 42) (c := 60) g77300 ad42 (by decide) (by decide) rf42_29 ft12_29 ?_
                refine ev_iload_n rfl ?_
                refine g_ialdv (v := v77261) g77300 ad60 (by omega) (by omega) (((jw_ne e77300 (Or.inl (by decide))).trans ((jw_ne e77299 (Or.inl (by decide))).trans ev77261))) ?_
                refine ev_iconst ?_
                refine ev_icmpne f359_43 (fun c77302 => ?_) (fun c77302 => absurd c77302 (by omega))
                refine ev_aload_n rfl ?_
                refine ev_iload_n rfl ?_
                refine ev_iload_n rfl ?_
                refine ev_in (d := 4) (a := 0) (b := 0) (cd' := c357_0) (m := 3) (L0 := [(2, 42), (0, a1), (0, a3)]) (jcall_v (A := [(0, a3), (0, a1)]) (S' := []) (r := 42) rfl (g77300.lt ad42) (g77300.tg ad42) (Nat.le_of_ble_eq_true rfl)) (by decide) ml357 pp357 (Nat.le_of_ble_eq_true rfl) rfl (by decide) (by decide) ?_
                refine ev_aload_n rfl ?_
                refine ev_iconst ?_
                refine ev_in (d := 3) (a := 0) (b := 0) (cd' := c356_0) (m := 2) (L0 := [(2, 42), (0, 1)]) (jcall_v (A := [(0, 1)]) (S' := []) (r := 42) rfl (g77300.lt ad42) (g77300.tg ad42) (Nat.le_of_ble_eq_true rfl)) (by decide) ml356 pp356 (Nat.le_of_ble_eq_true rfl) rfl (by decide) (by decide) ?_
                refine ev_aload_n rfl ?_
                refine g_getv (r := 42) (v := 1) g77300 ad42 (by decide) ft12_60 ((jw_eq e77300)) ?_
                refine ev_bipush ?_
                refine ev_icmpge f356_19 (fun c77303 => absurd c77303 (by omega)) (fun c77303 => ?_)
                refine ev_aload_n rfl ?_
                refine g_getp (r := 42) (c := 78) g77300 ad42 (by decide) (by decide) rf42_61 ft12_61 ?_
                refine ev_aload_n rfl ?_
                refine g_getv (r := 42) (v := 1) g77300 ad42 (by decide) ft12_60 ((jw_eq e77300)) ?_
                refine ev_iload_n rfl ?_
                refine g_iast g77300 ad78 rt78 (fun _ => rfl) (by omega) (by omega) (by omega) (by omega) (fun h77304 e77304 g77304 => ?_)
                have k77304 := k77300.wr e77304 rfl
                refine ev_aload_n rfl ?_
                refine ev_dup (by decide) ?_
                refine g_getv (r := 42) (v := 1) g77304 ad42 (by decide) ft12_60 (((jw_ne e77304 (Or.inl (by decide))).trans (jw_eq e77300))) ?_
                refine ev_iconst ?_
                refine ev_iadd (r := 2) (by decide) ?_
                refine g_putf (r := 42) g77304 ad42 (by decide) ft12_60 (by decide) (fun e => absurd e nz12_60) rf42_60 (by decide) (by omega) (by omega) (fun h77305 e77305 g77305 => ?_)
                have k77305 := k77304.wr e77305 rfl
                refine ev_ret rfl (by decide) (by decide) ?_
                show jEv _ _ _ _ _ _ _ (_, [(2, 42), (0, a1), (0, a3)], [], _, _, _)
                refine ev_iload_n rfl ?_
                refine ev_iload_n rfl ?_
                refine g_iaddG (fun v77306 ev77306 lv77306 uv77306 => ?_)
                refine ev_ret rfl (by decide) (by decide) ?_
                show jEv _ _ _ _ _ _ _ (_, [(2, 42), (0, a1), (0, a3)], [(0, v77306)], _, _, _)
                refine ev_ret rfl (by decide) (by decide) ?_
                show jEv _ _ _ _ _ _ _ (_, [(2, 42), (0, a1), (0, a3)], [(0, v77306)], _, _, _)
                refine ev_iconst ?_
                refine g_imulG (fun v77307 ev77307 lv77307 uv77307 => ?_)
                refine ev_ret rfl (by decide) (by decide) ?_
                show jEv _ _ _ _ _ _ _ (_, [(2, 42), (0, a1), (0, a3), (9, 0)], [(0, v77307)], _, _, _)
                refine ev_ret rfl (by decide) (by decide) ?_
                show jEv _ _ _ _ _ _ _ (_, [(2, 42), (0, a1), (0, a2), (0, a3)], [(0, v77307)], _, _, _)
                refine ev_goto f367_71 ?_
                exact ev_ret rfl (by decide) (by decide) ⟨_, rfl, g77305, k77305, Or.inr ⟨(by unfold AV0; rw [ew0]; omega), by rw [show h.2.2 60 (a1).toNat = 0 from (k77250.v rfl).symm.trans ((ev77261).trans (by omega)), show h.2.2 61 (a1).toNat = v77262 from (k77250.v rfl).symm.trans ev77262, show a2 = 1 by omega, ac_0_1]; (try rw [ev77306]); (try rw [ev77307]); all_goals (first | rfl | omega | (unfold w32 at *; omega)), by rw [show h.2.2 60 (a1).toNat = 0 from (k77250.v rfl).symm.trans ((ev77261).trans (by omega)), show a2 = 1 by omega, tr_0_1]; exact ⟨(((jw_eq e77305))), (((jw_ne e77305 (Or.inl (by decide))).trans ((jw_ne e77304 (Or.inr (by decide))).trans ((jw_ne e77300 (Or.inl (by decide))).trans (jw_eq e77299))))), (((jw_ne e77305 (Or.inl (by decide))).trans (jw_eq e77304))), trivial⟩⟩⟩
            · refine ev_aload_n rfl ?_
              refine ev_iload_n rfl ?_
              refine ev_iload_n rfl ?_
              refine ev_in (d := 7) (a := 0) (b := 0) (cd' := c359_0) (m := 3) (L0 := [(2, 42), (0, a1), (0, a3)]) (jcall_v (A := [(0, a3), (0, a1)]) (S' := []) (r := 42) rfl (g77250.lt ad42) (g77250.tg ad42) (Nat.le_of_ble_eq_true rfl)) (by decide) ml359 pp359 (Nat.le_of_ble_eq_true rfl) rfl (by decide) (by decide) ?_
              refine ev_aload_n rfl ?_
              refine g_getp (r := 42) (c := 60) g77250 ad42 (by decide) (by decide) rf42_29 ft12_29 ?_
              refine ev_iload_n rfl ?_
              refine g_ialdv (v := v77261) g77250 ad60 (by omega) (by omega) (ev77261) ?_
              refine ev_iconst ?_
              refine ev_icmpne f359_24 (fun c77308 => ?_) (fun c77308 => absurd c77308 (by omega))
              refine ev_aload_n rfl ?_
              refine g_getp (r := 42) (c := 60) g77250 ad42 (by decide) (by decide) rf42_29 ft12_29 ?_
              refine ev_iload_n rfl ?_
              refine g_ialdv (v := v77261) g77250 ad60 (by omega) (by omega) (ev77261) ?_
              refine ev_iconst ?_
              refine ev_icmpne f359_43 (fun c77309 => ?_) (fun c77309 => absurd c77309 (by omega))
              refine ev_aload_n rfl ?_
              refine ev_iload_n rfl ?_
              refine ev_iload_n rfl ?_
              refine ev_in (d := 6) (a := 0) (b := 0) (cd' := c357_0) (m := 3) (L0 := [(2, 42), (0, a1), (0, a3)]) (jcall_v (A := [(0, a3), (0, a1)]) (S' := []) (r := 42) rfl (g77250.lt ad42) (g77250.tg ad42) (Nat.le_of_ble_eq_true rfl)) (by decide) ml357 pp357 (Nat.le_of_ble_eq_true rfl) rfl (by decide) (by decide) ?_
              refine ev_aload_n rfl ?_
              refine ev_iconst ?_
              refine ev_in (d := 5) (a := 0) (b := 0) (cd' := c356_0) (m := 2) (L0 := [(2, 42), (0, 1)]) (jcall_v (A := [(0, 1)]) (S' := []) (r := 42) rfl (g77250.lt ad42) (g77250.tg ad42) (Nat.le_of_ble_eq_true rfl)) (by decide) ml356 pp356 (Nat.le_of_ble_eq_true rfl) rfl (by decide) (by decide) ?_
              refine ev_aload_n rfl ?_
              refine g_getv (r := 42) (v := 0) g77250 ad42 (by decide) ft12_60 ((jw_eq e77250)) ?_
              refine ev_bipush ?_
              refine ev_icmpge f356_19 (fun c77310 => absurd c77310 (by omega)) (fun c77310 => ?_)
              refine ev_aload_n rfl ?_
              refine g_getp (r := 42) (c := 78) g77250 ad42 (by decide) (by decide) rf42_61 ft12_61 ?_
              refine ev_aload_n rfl ?_
              refine g_getv (r := 42) (v := 0) g77250 ad42 (by decide) ft12_60 ((jw_eq e77250)) ?_
              refine ev_iload_n rfl ?_
              refine g_iast g77250 ad78 rt78 (fun _ => rfl) (by omega) (by omega) (by omega) (by omega) (fun h77311 e77311 g77311 => ?_)
              have k77311 := k77250.wr e77311 rfl
              refine ev_aload_n rfl ?_
              refine ev_dup (by decide) ?_
              refine g_getv (r := 42) (v := 0) g77311 ad42 (by decide) ft12_60 (((jw_ne e77311 (Or.inl (by decide))).trans (jw_eq e77250))) ?_
              refine ev_iconst ?_
              refine ev_iadd (r := 1) (by decide) ?_
              refine g_putf (r := 42) g77311 ad42 (by decide) ft12_60 (by decide) (fun e => absurd e nz12_60) rf42_60 (by decide) (by omega) (by omega) (fun h77312 e77312 g77312 => ?_)
              have k77312 := k77311.wr e77312 rfl
              refine ev_ret rfl (by decide) (by decide) ?_
              show jEv _ _ _ _ _ _ _ (_, [(2, 42), (0, a1), (0, a3)], [], _, _, _)
              refine ev_iload_n rfl ?_
              refine ev_iload_n rfl ?_
              refine g_iaddG (fun v77313 ev77313 lv77313 uv77313 => ?_)
              refine ev_ret rfl (by decide) (by decide) ?_
              show jEv _ _ _ _ _ _ _ (_, [(2, 42), (0, a1), (0, a3)], [(0, v77313)], _, _, _)
              refine ev_ret rfl (by decide) (by decide) ?_
              show jEv _ _ _ _ _ _ _ (_, [(2, 42), (0, a1), (0, a2), (0, a3)], [(0, v77313)], _, _, _)
              refine ev_goto f367_71 ?_
              exact ev_ret rfl (by decide) (by decide) ⟨_, rfl, g77312, k77312, Or.inr ⟨(by unfold AV0; rw [ew0]; omega), by rw [show h.2.2 60 (a1).toNat = 0 from (k77250.v rfl).symm.trans ((ev77261).trans (by omega)), show h.2.2 61 (a1).toNat = v77262 from (k77250.v rfl).symm.trans ev77262, show a2 = 0 by omega, ac_0_0]; (try rw [ev77313]); all_goals (first | rfl | omega | (unfold w32 at *; omega)), by rw [show h.2.2 60 (a1).toNat = 0 from (k77250.v rfl).symm.trans ((ev77261).trans (by omega)), show a2 = 0 by omega, tr_0_0]; exact ⟨(((jw_eq e77312))), (((jw_ne e77312 (Or.inl (by decide))).trans (jw_eq e77311))), trivial⟩⟩⟩
          · refine ev_iload_n rfl ?_
            refine ev_ifne f367_37 (fun c77314 => ?_) (fun c77314 => ?_)
            · refine ev_iload_n rfl ?_
              refine ev_iconst ?_
              refine ev_icmpne f367_51 (fun c77315 => ?_) (fun c77315 => ?_)
              · refine ev_iload_n rfl ?_
                refine ev_iconst ?_
                refine ev_icmpne f367_65 (fun c77316 => ?_) (fun c77316 => ?_)
                · refine ev_aload_n rfl ?_
                  refine ev_iload_n rfl ?_
                  refine ev_iload_n rfl ?_
                  refine ev_in (d := 7) (a := 0) (b := 0) (cd' := c366_0) (m := 3) (L0 := [(2, 42), (0, a1), (0, a3)]) (jcall_v (A := [(0, a3), (0, a1)]) (S' := []) (r := 42) rfl (g77250.lt ad42) (g77250.tg ad42) (Nat.le_of_ble_eq_true rfl)) (by decide) ml366 pp366 (Nat.le_of_ble_eq_true rfl) rfl (by decide) (by decide) ?_
                  refine ev_aload_n rfl ?_
                  refine g_getp (r := 42) (c := 60) g77250 ad42 (by decide) (by decide) rf42_29 ft12_29 ?_
                  refine ev_iload_n rfl ?_
                  refine g_ialdv (v := v77261) g77250 ad60 (by omega) (by omega) (ev77261) ?_
                  refine ev_iconst ?_
                  refine ev_icmpne f366_25 (fun c77317 => ?_) (fun c77317 => absurd c77317 (by omega))
                  refine ev_aload_n rfl ?_
                  refine ev_iload_n rfl ?_
                  refine ev_iload_n rfl ?_
                  refine ev_in (d := 6) (a := 0) (b := 0) (cd' := c365_0) (m := 4) (L0 := [(2, 42), (0, a1), (0, a3), (9, 0)]) (jcall_v (A := [(0, a3), (0, a1)]) (S' := []) (r := 42) rfl (g77250.lt ad42) (g77250.tg ad42) (Nat.le_of_ble_eq_true rfl)) (by decide) ml365 pp365 (Nat.le_of_ble_eq_true rfl) rfl (by decide) (by decide) ?_
                  refine ev_aload_n rfl ?_
                  refine ev_iconst ?_
                  refine ev_in (d := 5) (a := 0) (b := 0) (cd' := c356_0) (m := 2) (L0 := [(2, 42), (0, 2)]) (jcall_v (A := [(0, 2)]) (S' := []) (r := 42) rfl (g77250.lt ad42) (g77250.tg ad42) (Nat.le_of_ble_eq_true rfl)) (by decide) ml356 pp356 (Nat.le_of_ble_eq_true rfl) rfl (by decide) (by decide) ?_
                  refine ev_aload_n rfl ?_
                  refine g_getv (r := 42) (v := 0) g77250 ad42 (by decide) ft12_60 ((jw_eq e77250)) ?_
                  refine ev_bipush ?_
                  refine ev_icmpge f356_19 (fun c77318 => absurd c77318 (by omega)) (fun c77318 => ?_)
                  refine ev_aload_n rfl ?_
                  refine g_getp (r := 42) (c := 78) g77250 ad42 (by decide) (by decide) rf42_61 ft12_61 ?_
                  refine ev_aload_n rfl ?_
                  refine g_getv (r := 42) (v := 0) g77250 ad42 (by decide) ft12_60 ((jw_eq e77250)) ?_
                  refine ev_iload_n rfl ?_
                  refine g_iast g77250 ad78 rt78 (fun _ => rfl) (by omega) (by omega) (by omega) (by omega) (fun h77319 e77319 g77319 => ?_)
                  have k77319 := k77250.wr e77319 rfl
                  refine ev_aload_n rfl ?_
                  refine ev_dup (by decide) ?_
                  refine g_getv (r := 42) (v := 0) g77319 ad42 (by decide) ft12_60 (((jw_ne e77319 (Or.inl (by decide))).trans (jw_eq e77250))) ?_
                  refine ev_iconst ?_
                  refine ev_iadd (r := 1) (by decide) ?_
                  refine g_putf (r := 42) g77319 ad42 (by decide) ft12_60 (by decide) (fun e => absurd e nz12_60) rf42_60 (by decide) (by omega) (by omega) (fun h77320 e77320 g77320 => ?_)
                  have k77320 := k77319.wr e77320 rfl
                  refine ev_ret rfl (by decide) (by decide) ?_
                  show jEv _ _ _ _ _ _ _ (_, [(2, 42), (0, a1), (0, a3), (9, 0)], [], _, _, _)
                  refine ev_aload_n rfl ?_
                  refine ev_iload_n rfl ?_
                  refine ev_iload_n rfl ?_
                  refine ev_in (d := 5) (a := 0) (b := 0) (cd' := c362_0) (m := 4) (L0 := [(2, 42), (0, a1), (0, a3), (9, 0)]) (jcall_v (A := [(0, a3), (0, a1)]) (S' := []) (r := 42) rfl (g77320.lt ad42) (g77320.tg ad42) (Nat.le_of_ble_eq_true rfl)) (by decide) ml362 pp362 (Nat.le_of_ble_eq_true rfl) rfl (by decide) (by decide) ?_
                  refine ev_aload_n rfl ?_
                  refine g_getp (r := 42) (c := 60) g77320 ad42 (by decide) (by decide) rf42_29 ft12_29 ?_
                  refine ev_iload_n rfl ?_
                  refine g_ialdv (v := v77261) g77320 ad60 (by omega) (by omega) (((jw_ne e77320 (Or.inl (by decide))).trans ((jw_ne e77319 (Or.inl (by decide))).trans ev77261))) ?_
                  refine ev_iconst ?_
                  refine ev_icmpne f362_32 (fun c77321 => ?_) (fun c77321 => absurd c77321 (by omega))
                  refine ev_aload_n rfl ?_
                  refine g_getp (r := 42) (c := 60) g77320 ad42 (by decide) (by decide) rf42_29 ft12_29 ?_
                  refine ev_iload_n rfl ?_
                  refine g_ialdv (v := v77261) g77320 ad60 (by omega) (by omega) (((jw_ne e77320 (Or.inl (by decide))).trans ((jw_ne e77319 (Or.inl (by decide))).trans ev77261))) ?_
                  refine ev_iconst ?_
                  refine ev_icmpne f362_51 (fun c77322 => absurd c77322 (by omega)) (fun c77322 => ?_)
                  refine ev_aload_n rfl ?_
                  refine ev_iload_n rfl ?_
                  refine ev_iload_n rfl ?_
                  refine ev_in (d := 4) (a := 0) (b := 0) (cd' := c361_0) (m := 3) (L0 := [(2, 42), (0, a1), (0, a3)]) (jcall_v (A := [(0, a3), (0, a1)]) (S' := []) (r := 42) rfl (g77320.lt ad42) (g77320.tg ad42) (Nat.le_of_ble_eq_true rfl)) (by decide) ml361 pp361 (Nat.le_of_ble_eq_true rfl) rfl (by decide) (by decide) ?_
                  refine ev_aload_n rfl ?_
                  refine ev_bipush ?_
                  refine ev_in (d := 3) (a := 0) (b := 0) (cd' := c356_0) (m := 2) (L0 := [(2, 42), (0, 20)]) (jcall_v (A := [(0, 20)]) (S' := []) (r := 42) rfl (g77320.lt ad42) (g77320.tg ad42) (Nat.le_of_ble_eq_true rfl)) (by decide) ml356 pp356 (Nat.le_of_ble_eq_true rfl) rfl (by decide) (by decide) ?_
                  refine ev_aload_n rfl ?_
                  refine g_getv (r := 42) (v := 1) g77320 ad42 (by decide) ft12_60 ((jw_eq e77320)) ?_
                  refine ev_bipush ?_
                  refine ev_icmpge f356_19 (fun c77323 => absurd c77323 (by omega)) (fun c77323 => ?_)
                  refine ev_aload_n rfl ?_
                  refine g_getp (r := 42) (c := 78) g77320 ad42 (by decide) (by decide) rf42_61 ft12_61 ?_
                  refine ev_aload_n rfl ?_
                  refine g_getv (r := 42) (v := 1) g77320 ad42 (by decide) ft12_60 ((jw_eq e77320)) ?_
                  refine ev_iload_n rfl ?_
                  refine g_iast g77320 ad78 rt78 (fun _ => rfl) (by omega) (by omega) (by omega) (by omega) (fun h77324 e77324 g77324 => ?_)
                  have k77324 := k77320.wr e77324 rfl
                  refine ev_aload_n rfl ?_
                  refine ev_dup (by decide) ?_
                  refine g_getv (r := 42) (v := 1) g77324 ad42 (by decide) ft12_60 (((jw_ne e77324 (Or.inl (by decide))).trans (jw_eq e77320))) ?_
                  refine ev_iconst ?_
                  refine ev_iadd (r := 2) (by decide) ?_
                  refine g_putf (r := 42) g77324 ad42 (by decide) ft12_60 (by decide) (fun e => absurd e nz12_60) rf42_60 (by decide) (by omega) (by omega) (fun h77325 e77325 g77325 => ?_)
                  have k77325 := k77324.wr e77325 rfl
                  refine ev_ret rfl (by decide) (by decide) ?_
                  show jEv _ _ _ _ _ _ _ (_, [(2, 42), (0, a1), (0, a3)], [], _, _, _)
                  refine ev_aload_n rfl ?_
                  refine ev_iload_n rfl ?_
                  refine ev_iload_n rfl ?_
                  refine ev_in (d := 3) (a := 0) (b := 0) (cd' := c360_0) (m := 3) (L0 := [(2, 42), (0, a1), (0, a3)]) (jcall_v (A := [(0, a3), (0, a1)]) (S' := []) (r := 42) rfl (g77325.lt ad42) (g77325.tg ad42) (Nat.le_of_ble_eq_true rfl)) (by decide) ml360 pp360 (Nat.le_of_ble_eq_true rfl) rfl (by decide) (by decide) ?_
                  refine ev_aload_n rfl ?_
                  refine ev_bipush ?_
                  refine ev_in (d := 2) (a := 0) (b := 0) (cd' := c356_0) (m := 2) (L0 := [(2, 42), (0, 10)]) (jcall_v (A := [(0, 10)]) (S' := []) (r := 42) rfl (g77325.lt ad42) (g77325.tg ad42) (Nat.le_of_ble_eq_true rfl)) (by decide) ml356 pp356 (Nat.le_of_ble_eq_true rfl) rfl (by decide) (by decide) ?_
                  refine ev_aload_n rfl ?_
                  refine g_getv (r := 42) (v := 2) g77325 ad42 (by decide) ft12_60 ((jw_eq e77325)) ?_
                  refine ev_bipush ?_
                  refine ev_icmpge f356_19 (fun c77326 => absurd c77326 (by omega)) (fun c77326 => ?_)
                  refine ev_aload_n rfl ?_
                  refine g_getp (r := 42) (c := 78) g77325 ad42 (by decide) (by decide) rf42_61 ft12_61 ?_
                  refine ev_aload_n rfl ?_
                  refine g_getv (r := 42) (v := 2) g77325 ad42 (by decide) ft12_60 ((jw_eq e77325)) ?_
                  refine ev_iload_n rfl ?_
                  refine g_iast g77325 ad78 rt78 (fun _ => rfl) (by omega) (by omega) (by omega) (by omega) (fun h77327 e77327 g77327 => ?_)
                  have k77327 := k77325.wr e77327 rfl
                  refine ev_aload_n rfl ?_
                  refine ev_dup (by decide) ?_
                  refine g_getv (r := 42) (v := 2) g77327 ad42 (by decide) ft12_60 (((jw_ne e77327 (Or.inl (by decide))).trans (jw_eq e77325))) ?_
                  refine ev_iconst ?_
                  refine ev_iadd (r := 3) (by decide) ?_
                  refine g_putf (r := 42) g77327 ad42 (by decide) ft12_60 (by decide) (fun e => absurd e nz12_60) rf42_60 (by decide) (by omega) (by omega) (fun h77328 e77328 g77328 => ?_)
                  have k77328 := k77327.wr e77328 rfl
                  refine ev_ret rfl (by decide) (by decide) ?_
                  show jEv _ _ _ _ _ _ _ (_, [(2, 42), (0, a1), (0, a3)], [], _, _, _)
                  refine ev_aload_n rfl ?_
                  refine ev_iload_n rfl ?_
                  refine ev_iload_n rfl ?_
                  refine ev_in (d := 2) (a := 0) (b := 0) (cd' := c359_0) (m := 3) (L0 := [(2, 42), (0, a1), (0, a3)]) (jcall_v (A := [(0, a3), (0, a1)]) (S' := []) (r := 42) rfl (g77328.lt ad42) (g77328.tg ad42) (Nat.le_of_ble_eq_true rfl)) (by decide) ml359 pp359 (Nat.le_of_ble_eq_true rfl) rfl (by decide) (by decide) ?_
                  refine ev_aload_n rfl ?_
                  refine g_getp (r := 42) (c := 60) g77328 ad42 (by decide) (by decide) rf42_29 ft12_29 ?_
                  refine ev_iload_n rfl ?_
                  refine g_ialdv (v := v77261) g77328 ad60 (by omega) (by omega) (((jw_ne e77328 (Or.inl (by decide))).trans ((jw_ne e77327 (Or.inl (by decide))).trans ((jw_ne e77325 (Or.inl (by decide))).trans ((jw_ne e77324 (Or.inl (by decide))).trans ((jw_ne e77320 (Or.inl (by decide))).trans ((jw_ne e77319 (Or.inl (by decide))).trans ev77261))))))) ?_
                  refine ev_iconst ?_
                  refine ev_icmpne f359_24 (fun c77329 => ?_) (fun c77329 => absurd c77329 (by omega))
                  refine ev_aload_n rfl ?_
                  refine g_getp (r := 42) (c := 60) g77328 ad42 (by decide) (by decide) rf42_29 ft12_29 ?_
                  refine ev_iload_n rfl ?_
                  refine g_ialdv (v := v77261) g77328 ad60 (by omega) (by omega) (((jw_ne e77328 (Or.inl (by decide))).trans ((jw_ne e77327 (Or.inl (by decide))).trans ((jw_ne e77325 (Or.inl (by decide))).trans ((jw_ne e77324 (Or.inl (by decide))).trans ((jw_ne e77320 (Or.inl (by decide))).trans ((jw_ne e77319 (Or.inl (by decide))).trans ev77261))))))) ?_
                  refine ev_iconst ?_
                  refine ev_icmpne f359_43 (fun c77330 => ?_) (fun c77330 => absurd c77330 (by omega))
                  refine ev_aload_n rfl ?_
                  refine ev_iload_n rfl ?_
                  refine ev_iload_n rfl ?_
                  refine ev_in (d := 1) (a := 0) (b := 0) (cd' := c357_0) (m := 3) (L0 := [(2, 42), (0, a1), (0, a3)]) (jcall_v (A := [(0, a3), (0, a1)]) (S' := []) (r := 42) rfl (g77328.lt ad42) (g77328.tg ad42) (Nat.le_of_ble_eq_true rfl)) (by decide) ml357 pp357 (Nat.le_of_ble_eq_true rfl) rfl (by decide) (by decide) ?_
                  refine ev_aload_n rfl ?_
                  refine ev_iconst ?_
                  refine ev_in (d := 0) (a := 0) (b := 0) (cd' := c356_0) (m := 2) (L0 := [(2, 42), (0, 1)]) (jcall_v (A := [(0, 1)]) (S' := []) (r := 42) rfl (g77328.lt ad42) (g77328.tg ad42) (Nat.le_of_ble_eq_true rfl)) (by decide) ml356 pp356 (Nat.le_of_ble_eq_true rfl) rfl (by decide) (by decide) ?_
                  refine ev_aload_n rfl ?_
                  refine g_getv (r := 42) (v := 3) g77328 ad42 (by decide) ft12_60 ((jw_eq e77328)) ?_
                  refine ev_bipush ?_
                  refine ev_icmpge f356_19 (fun c77331 => absurd c77331 (by omega)) (fun c77331 => ?_)
                  refine ev_aload_n rfl ?_
                  refine g_getp (r := 42) (c := 78) g77328 ad42 (by decide) (by decide) rf42_61 ft12_61 ?_
                  refine ev_aload_n rfl ?_
                  refine g_getv (r := 42) (v := 3) g77328 ad42 (by decide) ft12_60 ((jw_eq e77328)) ?_
                  refine ev_iload_n rfl ?_
                  refine g_iast g77328 ad78 rt78 (fun _ => rfl) (by omega) (by omega) (by omega) (by omega) (fun h77332 e77332 g77332 => ?_)
                  have k77332 := k77328.wr e77332 rfl
                  refine ev_aload_n rfl ?_
                  refine ev_dup (by decide) ?_
                  refine g_getv (r := 42) (v := 3) g77332 ad42 (by decide) ft12_60 (((jw_ne e77332 (Or.inl (by decide))).trans (jw_eq e77328))) ?_
                  refine ev_iconst ?_
                  refine ev_iadd (r := 4) (by decide) ?_
                  refine g_putf (r := 42) g77332 ad42 (by decide) ft12_60 (by decide) (fun e => absurd e nz12_60) rf42_60 (by decide) (by omega) (by omega) (fun h77333 e77333 g77333 => ?_)
                  have k77333 := k77332.wr e77333 rfl
                  refine ev_ret rfl (by decide) (by decide) ?_
                  show jEv _ _ _ _ _ _ _ (_, [(2, 42), (0, a1), (0, a3)], [], _, _, _)
                  refine ev_iload_n rfl ?_
                  refine ev_iload_n rfl ?_
                  refine g_iaddG (fun v77334 ev77334 lv77334 uv77334 => ?_)
                  refine ev_ret rfl (by decide) (by decide) ?_
                  show jEv _ _ _ _ _ _ _ (_, [(2, 42), (0, a1), (0, a3)], [(0, v77334)], _, _, _)
                  refine ev_ret rfl (by decide) (by decide) ?_
                  show jEv _ _ _ _ _ _ _ (_, [(2, 42), (0, a1), (0, a3)], [(0, v77334)], _, _, _)
                  refine ev_iconst ?_
                  refine g_imulG (fun v77335 ev77335 lv77335 uv77335 => ?_)
                  refine ev_ret rfl (by decide) (by decide) ?_
                  show jEv _ _ _ _ _ _ _ (_, [(2, 42), (0, a1), (0, a3)], [(0, v77335)], _, _, _)
                  refine ev_iconst ?_
                  refine g_isubG (fun v77336 ev77336 lv77336 uv77336 => ?_)
                  refine ev_ret rfl (by decide) (by decide) ?_
                  show jEv _ _ _ _ _ _ _ (_, [(2, 42), (0, a1), (0, a3), (9, 0)], [(0, v77336)], _, _, _)
                  refine ev_goto f362_57 ?_
                  refine ev_ret rfl (by decide) (by decide) ?_
                  show jEv _ _ _ _ _ _ _ (_, [(2, 42), (0, a1), (0, a3), (9, 0)], [(0, v77336)], _, _, _)
                  refine ev_istore_n (L' := [(2, 42), (0, a1), (0, a3), (0, v77336)]) (Nat.le_of_ble_eq_true rfl) rfl ?_
                  refine ev_iload_n rfl ?_
                  refine ev_aload_n rfl ?_
                  refine ev_iload_n rfl ?_
                  refine ev_iconst ?_
                  refine ev_in (d := 5) (a := 0) (b := 0) (cd' := c364_0) (m := 4) (L0 := [(2, 42), (0, a1), (0, 1), (9, 0)]) (jcall_v (A := [(0, 1), (0, a1)]) (S' := [(0, v77336)]) (r := 42) rfl (g77333.lt ad42) (g77333.tg ad42) (Nat.le_of_ble_eq_true rfl)) (by decide) ml364 pp364 (Nat.le_of_ble_eq_true rfl) rfl (by decide) (by decide) ?_
                  refine ev_aload_n rfl ?_
                  refine g_getp (r := 42) (c := 60) g77333 ad42 (by decide) (by decide) rf42_29 ft12_29 ?_
                  refine ev_iload_n rfl ?_
                  refine g_ialdv (v := v77261) g77333 ad60 (by omega) (by omega) (((jw_ne e77333 (Or.inl (by decide))).trans ((jw_ne e77332 (Or.inl (by decide))).trans ((jw_ne e77328 (Or.inl (by decide))).trans ((jw_ne e77327 (Or.inl (by decide))).trans ((jw_ne e77325 (Or.inl (by decide))).trans ((jw_ne e77324 (Or.inl (by decide))).trans ((jw_ne e77320 (Or.inl (by decide))).trans ((jw_ne e77319 (Or.inl (by decide))).trans ev77261))))))))) ?_
                  refine ev_iconst ?_
                  refine ev_icmpne f364_25 (fun c77337 => ?_) (fun c77337 => absurd c77337 (by omega))
                  refine ev_aload_n rfl ?_
                  refine g_getp (r := 42) (c := 60) g77333 ad42 (by decide) (by decide) rf42_29 ft12_29 ?_
                  refine ev_iload_n rfl ?_
                  refine g_ialdv (v := v77261) g77333 ad60 (by omega) (by omega) (((jw_ne e77333 (Or.inl (by decide))).trans ((jw_ne e77332 (Or.inl (by decide))).trans ((jw_ne e77328 (Or.inl (by decide))).trans ((jw_ne e77327 (Or.inl (by decide))).trans ((jw_ne e77325 (Or.inl (by decide))).trans ((jw_ne e77324 (Or.inl (by decide))).trans ((jw_ne e77320 (Or.inl (by decide))).trans ((jw_ne e77319 (Or.inl (by decide))).trans ev77261))))))))) ?_
                  refine ev_iconst ?_
                  refine ev_icmpne f364_57 (fun c77338 => ?_) (fun c77338 => absurd c77338 (by omega))
                  refine ev_aload_n rfl ?_
                  refine ev_iload_n rfl ?_
                  refine ev_iload_n rfl ?_
                  refine ev_in (d := 4) (a := 0) (b := 0) (cd' := c363_0) (m := 3) (L0 := [(2, 42), (0, a1), (0, 1)]) (jcall_v (A := [(0, 1), (0, a1)]) (S' := []) (r := 42) rfl (g77333.lt ad42) (g77333.tg ad42) (Nat.le_of_ble_eq_true rfl)) (by decide) ml363 pp363 (Nat.le_of_ble_eq_true rfl) rfl (by decide) (by decide) ?_
                  refine ev_aload_n rfl ?_
                  refine ev_bipush ?_
                  refine ev_in (d := 3) (a := 0) (b := 0) (cd' := c356_0) (m := 2) (L0 := [(2, 42), (0, 11)]) (jcall_v (A := [(0, 11)]) (S' := []) (r := 42) rfl (g77333.lt ad42) (g77333.tg ad42) (Nat.le_of_ble_eq_true rfl)) (by decide) ml356 pp356 (Nat.le_of_ble_eq_true rfl) rfl (by decide) (by decide) ?_
                  refine ev_aload_n rfl ?_
                  refine g_getv (r := 42) (v := 4) g77333 ad42 (by decide) ft12_60 ((jw_eq e77333)) ?_
                  refine ev_bipush ?_
                  refine ev_icmpge f356_19 (fun c77339 => absurd c77339 (by omega)) (fun c77339 => ?_)
                  refine ev_aload_n rfl ?_
                  refine g_getp (r := 42) (c := 78) g77333 ad42 (by decide) (by decide) rf42_61 ft12_61 ?_
                  refine ev_aload_n rfl ?_
                  refine g_getv (r := 42) (v := 4) g77333 ad42 (by decide) ft12_60 ((jw_eq e77333)) ?_
                  refine ev_iload_n rfl ?_
                  refine g_iast g77333 ad78 rt78 (fun _ => rfl) (by omega) (by omega) (by omega) (by omega) (fun h77340 e77340 g77340 => ?_)
                  have k77340 := k77333.wr e77340 rfl
                  refine ev_aload_n rfl ?_
                  refine ev_dup (by decide) ?_
                  refine g_getv (r := 42) (v := 4) g77340 ad42 (by decide) ft12_60 (((jw_ne e77340 (Or.inl (by decide))).trans (jw_eq e77333))) ?_
                  refine ev_iconst ?_
                  refine ev_iadd (r := 5) (by decide) ?_
                  refine g_putf (r := 42) g77340 ad42 (by decide) ft12_60 (by decide) (fun e => absurd e nz12_60) rf42_60 (by decide) (by omega) (by omega) (fun h77341 e77341 g77341 => ?_)
                  have k77341 := k77340.wr e77341 rfl
                  refine ev_ret rfl (by decide) (by decide) ?_
                  show jEv _ _ _ _ _ _ _ (_, [(2, 42), (0, a1), (0, 1)], [], _, _, _)
                  refine ev_iload_n rfl ?_
                  refine ev_iload_n rfl ?_
                  refine g_ixorB (k := 5) (hi := 31) (by decide) (by decide) (by omega) (by omega) (by omega) (by omega) (fun v77342 ev77342 lv77342 uv77342 => ?_)
                  refine ev_ret rfl (by decide) (by decide) ?_
                  show jEv _ _ _ _ _ _ _ (_, [(2, 42), (0, a1), (0, 1), (9, 0)], [(0, v77342)], _, _, _)
                  refine ev_ret rfl (by decide) (by decide) ?_
                  show jEv _ _ _ _ _ _ _ (_, [(2, 42), (0, a1), (0, a3), (0, v77336)], [(0, v77342), (0, v77336)], _, _, _)
                  refine g_isubG (fun v77343 ev77343 lv77343 uv77343 => ?_)
                  refine ev_ret rfl (by decide) (by decide) ?_
                  show jEv _ _ _ _ _ _ _ (_, [(2, 42), (0, a1), (0, a3)], [(0, v77343)], _, _, _)
                  refine ev_ret rfl (by decide) (by decide) ?_
                  show jEv _ _ _ _ _ _ _ (_, [(2, 42), (0, a1), (0, a2), (0, a3)], [(0, v77343)], _, _, _)
                  exact ev_ret rfl (by decide) (by decide) ⟨_, rfl, g77341, k77341, Or.inr ⟨(by unfold AV0; rw [ew0]; omega), by rw [show h.2.2 60 (a1).toNat = 1 from (k77250.v rfl).symm.trans ((ev77261).trans (by omega)), show h.2.2 61 (a1).toNat = v77262 from (k77250.v rfl).symm.trans ev77262, show a2 = 3 by omega, ac_1_3]; (try rw [ev77334]); (try rw [ev77335]); (try rw [ev77336]); (try rw [ev77342]); (try rw [ev77343]); all_goals (first | rfl | omega | (unfold w32 at *; omega)), by rw [show h.2.2 60 (a1).toNat = 1 from (k77250.v rfl).symm.trans ((ev77261).trans (by omega)), show a2 = 3 by omega, tr_1_3]; exact ⟨(((jw_eq e77341))), (((jw_ne e77341 (Or.inl (by decide))).trans ((jw_ne e77340 (Or.inr (by decide))).trans ((jw_ne e77333 (Or.inl (by decide))).trans ((jw_ne e77332 (Or.inr (by decide))).trans ((jw_ne e77328 (Or.inl (by decide))).trans ((jw_ne e77327 (Or.inr (by decide))).trans ((jw_ne e77325 (Or.inl (by decide))).trans ((jw_ne e77324 (Or.inr (by decide))).trans ((jw_ne e77320 (Or.inl (by decide))).trans (jw_eq e77319))))))))))), (((jw_ne e77341 (Or.inl (by decide))).trans ((jw_ne e77340 (Or.inr (by decide))).trans ((jw_ne e77333 (Or.inl (by decide))).trans ((jw_ne e77332 (Or.inr (by decide))).trans ((jw_ne e77328 (Or.inl (by decide))).trans ((jw_ne e77327 (Or.inr (by decide))).trans ((jw_ne e77325 (Or.inl (by decide))).trans (jw_eq e77324))))))))), (((jw_ne e77341 (Or.inl (by decide))).trans ((jw_ne e77340 (Or.inr (by decide))).trans ((jw_ne e77333 (Or.inl (by decide))).trans ((jw_ne e77332 (Or.inr (by decide))).trans ((jw_ne e77328 (Or.inl (by decide))).trans (jw_eq e77327))))))), (((jw_ne e77341 (Or.inl (by decide))).trans ((jw_ne e77340 (Or.inr (by decide))).trans ((jw_ne e77333 (Or.inl (by decide))).trans (jw_eq e77332))))), (((jw_ne e77341 (Or.inl (by decide))).trans (jw_eq e77340))), trivial⟩⟩⟩
                · refine ev_aload_n rfl ?_
                  refine ev_iload_n rfl ?_
                  refine ev_iload_n rfl ?_
                  refine ev_in (d := 7) (a := 0) (b := 0) (cd' := c364_0) (m := 4) (L0 := [(2, 42), (0, a1), (0, a3), (9, 0)]) (jcall_v (A := [(0, a3), (0, a1)]) (S' := []) (r := 42) rfl (g77250.lt ad42) (g77250.tg ad42) (Nat.le_of_ble_eq_true rfl)) (by decide) ml364 pp364 (Nat.le_of_ble_eq_true rfl) rfl (by decide) (by decide) ?_
                  refine ev_aload_n rfl ?_
                  refine g_getp (r := 42) (c := 60) g77250 ad42 (by decide) (by decide) rf42_29 ft12_29 ?_
                  refine ev_iload_n rfl ?_
                  refine g_ialdv (v := v77261) g77250 ad60 (by omega) (by omega) (ev77261) ?_
                  refine ev_iconst ?_
                  refine ev_icmpne f364_25 (fun c77344 => ?_) (fun c77344 => absurd c77344 (by omega))
                  refine ev_aload_n rfl ?_
                  refine g_getp (r := 42) (c := 60) g77250 ad42 (by decide) (by decide) rf42_29 ft12_29 ?_
                  refine ev_iload_n rfl ?_
                  refine g_ialdv (v := v77261) g77250 ad60 (by omega) (by omega) (ev77261) ?_
                  refine ev_iconst ?_
                  refine ev_icmpne f364_57 (fun c77345 => ?_) (fun c77345 => absurd c77345 (by omega))
                  refine ev_aload_n rfl ?_
                  refine ev_iload_n rfl ?_
                  refine ev_iload_n rfl ?_
                  refine ev_in (d := 6) (a := 0) (b := 0) (cd' := c363_0) (m := 3) (L0 := [(2, 42), (0, a1), (0, a3)]) (jcall_v (A := [(0, a3), (0, a1)]) (S' := []) (r := 42) rfl (g77250.lt ad42) (g77250.tg ad42) (Nat.le_of_ble_eq_true rfl)) (by decide) ml363 pp363 (Nat.le_of_ble_eq_true rfl) rfl (by decide) (by decide) ?_
                  refine ev_aload_n rfl ?_
                  refine ev_bipush ?_
                  refine ev_in (d := 5) (a := 0) (b := 0) (cd' := c356_0) (m := 2) (L0 := [(2, 42), (0, 11)]) (jcall_v (A := [(0, 11)]) (S' := []) (r := 42) rfl (g77250.lt ad42) (g77250.tg ad42) (Nat.le_of_ble_eq_true rfl)) (by decide) ml356 pp356 (Nat.le_of_ble_eq_true rfl) rfl (by decide) (by decide) ?_
                  refine ev_aload_n rfl ?_
                  refine g_getv (r := 42) (v := 0) g77250 ad42 (by decide) ft12_60 ((jw_eq e77250)) ?_
                  refine ev_bipush ?_
                  refine ev_icmpge f356_19 (fun c77346 => absurd c77346 (by omega)) (fun c77346 => ?_)
                  refine ev_aload_n rfl ?_
                  refine g_getp (r := 42) (c := 78) g77250 ad42 (by decide) (by decide) rf42_61 ft12_61 ?_
                  refine ev_aload_n rfl ?_
                  refine g_getv (r := 42) (v := 0) g77250 ad42 (by decide) ft12_60 ((jw_eq e77250)) ?_
                  refine ev_iload_n rfl ?_
                  refine g_iast g77250 ad78 rt78 (fun _ => rfl) (by omega) (by omega) (by omega) (by omega) (fun h77347 e77347 g77347 => ?_)
                  have k77347 := k77250.wr e77347 rfl
                  refine ev_aload_n rfl ?_
                  refine ev_dup (by decide) ?_
                  refine g_getv (r := 42) (v := 0) g77347 ad42 (by decide) ft12_60 (((jw_ne e77347 (Or.inl (by decide))).trans (jw_eq e77250))) ?_
                  refine ev_iconst ?_
                  refine ev_iadd (r := 1) (by decide) ?_
                  refine g_putf (r := 42) g77347 ad42 (by decide) ft12_60 (by decide) (fun e => absurd e nz12_60) rf42_60 (by decide) (by omega) (by omega) (fun h77348 e77348 g77348 => ?_)
                  have k77348 := k77347.wr e77348 rfl
                  refine ev_ret rfl (by decide) (by decide) ?_
                  show jEv _ _ _ _ _ _ _ (_, [(2, 42), (0, a1), (0, a3)], [], _, _, _)
                  refine ev_iload_n rfl ?_
                  refine ev_iload_n rfl ?_
                  refine g_ixorG (fun v77349 ev77349 lv77349 uv77349 => ?_)
                  refine ev_ret rfl (by decide) (by decide) ?_
                  show jEv _ _ _ _ _ _ _ (_, [(2, 42), (0, a1), (0, a3), (9, 0)], [(0, v77349)], _, _, _)
                  refine ev_ret rfl (by decide) (by decide) ?_
                  show jEv _ _ _ _ _ _ _ (_, [(2, 42), (0, a1), (0, a2), (0, a3)], [(0, v77349)], _, _, _)
                  refine ev_goto f367_71 ?_
                  exact ev_ret rfl (by decide) (by decide) ⟨_, rfl, g77348, k77348, Or.inr ⟨(by unfold AV0; rw [ew0]; omega), by rw [show h.2.2 60 (a1).toNat = 1 from (k77250.v rfl).symm.trans ((ev77261).trans (by omega)), show h.2.2 61 (a1).toNat = v77262 from (k77250.v rfl).symm.trans ev77262, show a2 = 2 by omega, ac_1_2]; (try rw [ev77349]); all_goals (first | rfl | omega | (unfold w32 at *; omega)), by rw [show h.2.2 60 (a1).toNat = 1 from (k77250.v rfl).symm.trans ((ev77261).trans (by omega)), show a2 = 2 by omega, tr_1_2]; exact ⟨(((jw_eq e77348))), (((jw_ne e77348 (Or.inl (by decide))).trans (jw_eq e77347))), trivial⟩⟩⟩
              · refine ev_aload_n rfl ?_
                refine ev_iload_n rfl ?_
                refine ev_iload_n rfl ?_
                refine ev_in (d := 7) (a := 0) (b := 0) (cd' := c362_0) (m := 4) (L0 := [(2, 42), (0, a1), (0, a3), (9, 0)]) (jcall_v (A := [(0, a3), (0, a1)]) (S' := []) (r := 42) rfl (g77250.lt ad42) (g77250.tg ad42) (Nat.le_of_ble_eq_true rfl)) (by decide) ml362 pp362 (Nat.le_of_ble_eq_true rfl) rfl (by decide) (by decide) ?_
                refine ev_aload_n rfl ?_
                refine g_getp (r := 42) (c := 60) g77250 ad42 (by decide) (by decide) rf42_29 ft12_29 ?_
                refine ev_iload_n rfl ?_
                refine g_ialdv (v := v77261) g77250 ad60 (by omega) (by omega) (ev77261) ?_
                refine ev_iconst ?_
                refine ev_icmpne f362_32 (fun c77350 => ?_) (fun c77350 => absurd c77350 (by omega))
                refine ev_aload_n rfl ?_
                refine g_getp (r := 42) (c := 60) g77250 ad42 (by decide) (by decide) rf42_29 ft12_29 ?_
                refine ev_iload_n rfl ?_
                refine g_ialdv (v := v77261) g77250 ad60 (by omega) (by omega) (ev77261) ?_
                refine ev_iconst ?_
                refine ev_icmpne f362_51 (fun c77351 => absurd c77351 (by omega)) (fun c77351 => ?_)
                refine ev_aload_n rfl ?_
                refine ev_iload_n rfl ?_
                refine ev_iload_n rfl ?_
                refine ev_in (d := 6) (a := 0) (b := 0) (cd' := c361_0) (m := 3) (L0 := [(2, 42), (0, a1), (0, a3)]) (jcall_v (A := [(0, a3), (0, a1)]) (S' := []) (r := 42) rfl (g77250.lt ad42) (g77250.tg ad42) (Nat.le_of_ble_eq_true rfl)) (by decide) ml361 pp361 (Nat.le_of_ble_eq_true rfl) rfl (by decide) (by decide) ?_
                refine ev_aload_n rfl ?_
                refine ev_bipush ?_
                refine ev_in (d := 5) (a := 0) (b := 0) (cd' := c356_0) (m := 2) (L0 := [(2, 42), (0, 20)]) (jcall_v (A := [(0, 20)]) (S' := []) (r := 42) rfl (g77250.lt ad42) (g77250.tg ad42) (Nat.le_of_ble_eq_true rfl)) (by decide) ml356 pp356 (Nat.le_of_ble_eq_true rfl) rfl (by decide) (by decide) ?_
                refine ev_aload_n rfl ?_
                refine g_getv (r := 42) (v := 0) g77250 ad42 (by decide) ft12_60 ((jw_eq e77250)) ?_
                refine ev_bipush ?_
                refine ev_icmpge f356_19 (fun c77352 => absurd c77352 (by omega)) (fun c77352 => ?_)
                refine ev_aload_n rfl ?_
                refine g_getp (r := 42) (c := 78) g77250 ad42 (by decide) (by decide) rf42_61 ft12_61 ?_
                refine ev_aload_n rfl ?_
                refine g_getv (r := 42) (v := 0) g77250 ad42 (by decide) ft12_60 ((jw_eq e77250)) ?_
                refine ev_iload_n rfl ?_
                refine g_iast g77250 ad78 rt78 (fun _ => rfl) (by omega) (by omega) (by omega) (by omega) (fun h77353 e77353 g77353 => ?_)
                have k77353 := k77250.wr e77353 rfl
                refine ev_aload_n rfl ?_
                refine ev_dup (by decide) ?_
                refine g_getv (r := 42) (v := 0) g77353 ad42 (by decide) ft12_60 (((jw_ne e77353 (Or.inl (by decide))).trans (jw_eq e77250))) ?_
                refine ev_iconst ?_
                refine ev_iadd (r := 1) (by decide) ?_
                refine g_putf (r := 42) g77353 ad42 (by decide) ft12_60 (by decide) (fun e => absurd e nz12_60) rf42_60 (by decide) (by omega) (by omega) (fun h77354 e77354 g77354 => ?_)
                have k77354 := k77353.wr e77354 rfl
                refine ev_ret rfl (by decide) (by decide) ?_
                show jEv _ _ _ _ _ _ _ (_, [(2, 42), (0, a1), (0, a3)], [], _, _, _)
                refine ev_aload_n rfl ?_
                refine ev_iload_n rfl ?_
                refine ev_iload_n rfl ?_
                refine ev_in (d := 5) (a := 0) (b := 0) (cd' := c360_0) (m := 3) (L0 := [(2, 42), (0, a1), (0, a3)]) (jcall_v (A := [(0, a3), (0, a1)]) (S' := []) (r := 42) rfl (g77354.lt ad42) (g77354.tg ad42) (Nat.le_of_ble_eq_true rfl)) (by decide) ml360 pp360 (Nat.le_of_ble_eq_true rfl) rfl (by decide) (by decide) ?_
                refine ev_aload_n rfl ?_
                refine ev_bipush ?_
                refine ev_in (d := 4) (a := 0) (b := 0) (cd' := c356_0) (m := 2) (L0 := [(2, 42), (0, 10)]) (jcall_v (A := [(0, 10)]) (S' := []) (r := 42) rfl (g77354.lt ad42) (g77354.tg ad42) (Nat.le_of_ble_eq_true rfl)) (by decide) ml356 pp356 (Nat.le_of_ble_eq_true rfl) rfl (by decide) (by decide) ?_
                refine ev_aload_n rfl ?_
                refine g_getv (r := 42) (v := 1) g77354 ad42 (by decide) ft12_60 ((jw_eq e77354)) ?_
                refine ev_bipush ?_
                refine ev_icmpge f356_19 (fun c77355 => absurd c77355 (by omega)) (fun c77355 => ?_)
                refine ev_aload_n rfl ?_
                refine g_getp (r := 42) (c := 78) g77354 ad42 (by decide) (by decide) rf42_61 ft12_61 ?_
                refine ev_aload_n rfl ?_
                refine g_getv (r := 42) (v := 1) g77354 ad42 (by decide) ft12_60 ((jw_eq e77354)) ?_
                refine ev_iload_n rfl ?_
                refine g_iast g77354 ad78 rt78 (fun _ => rfl) (by omega) (by omega) (by omega) (by omega) (fun h77356 e77356 g77356 => ?_)
                have k77356 := k77354.wr e77356 rfl
                refine ev_aload_n rfl ?_
                refine ev_dup (by decide) ?_
                refine g_getv (r := 42) (v := 1) g77356 ad42 (by decide) ft12_60 (((jw_ne e77356 (Or.inl (by decide))).trans (jw_eq e77354))) ?_
                refine ev_iconst ?_
                refine ev_iadd (r := 2) (by decide) ?_
                refine g_putf (r := 42) g77356 ad42 (by decide) ft12_60 (by decide) (fun e => absurd e nz12_60) rf42_60 (by decide) (by omega) (by omega) (fun h77357 e77357 g77357 => ?_)
                have k77357 := k77356.wr e77357 rfl
                refine ev_ret rfl (by decide) (by decide) ?_
                show jEv _ _ _ _ _ _ _ (_, [(2, 42), (0, a1), (0, a3)], [], _, _, _)
                refine ev_aload_n rfl ?_
                refine ev_iload_n rfl ?_
                refine ev_iload_n rfl ?_
                refine ev_in (d := 4) (a := 0) (b := 0) (cd' := c359_0) (m := 3) (L0 := [(2, 42), (0, a1), (0, a3)]) (jcall_v (A := [(0, a3), (0, a1)]) (S' := []) (r := 42) rfl (g77357.lt ad42) (g77357.tg ad42) (Nat.le_of_ble_eq_true rfl)) (by decide) ml359 pp359 (Nat.le_of_ble_eq_true rfl) rfl (by decide) (by decide) ?_
                refine ev_aload_n rfl ?_
                refine g_getp (r := 42) (c := 60) g77357 ad42 (by decide) (by decide) rf42_29 ft12_29 ?_
                refine ev_iload_n rfl ?_
                refine g_ialdv (v := v77261) g77357 ad60 (by omega) (by omega) (((jw_ne e77357 (Or.inl (by decide))).trans ((jw_ne e77356 (Or.inl (by decide))).trans ((jw_ne e77354 (Or.inl (by decide))).trans ((jw_ne e77353 (Or.inl (by decide))).trans ev77261))))) ?_
                refine ev_iconst ?_
                refine ev_icmpne f359_24 (fun c77358 => ?_) (fun c77358 => absurd c77358 (by omega))
                refine ev_aload_n rfl ?_
                refine g_getp (r := 42) (c := 60) g77357 ad42 (by decide) (by decide) rf42_29 ft12_29 ?_
                refine ev_iload_n rfl ?_
                refine g_ialdv (v := v77261) g77357 ad60 (by omega) (by omega) (((jw_ne e77357 (Or.inl (by decide))).trans ((jw_ne e77356 (Or.inl (by decide))).trans ((jw_ne e77354 (Or.inl (by decide))).trans ((jw_ne e77353 (Or.inl (by decide))).trans ev77261))))) ?_
                refine ev_iconst ?_
                refine ev_icmpne f359_43 (fun c77359 => ?_) (fun c77359 => absurd c77359 (by omega))
                refine ev_aload_n rfl ?_
                refine ev_iload_n rfl ?_
                refine ev_iload_n rfl ?_
                refine ev_in (d := 3) (a := 0) (b := 0) (cd' := c357_0) (m := 3) (L0 := [(2, 42), (0, a1), (0, a3)]) (jcall_v (A := [(0, a3), (0, a1)]) (S' := []) (r := 42) rfl (g77357.lt ad42) (g77357.tg ad42) (Nat.le_of_ble_eq_true rfl)) (by decide) ml357 pp357 (Nat.le_of_ble_eq_true rfl) rfl (by decide) (by decide) ?_
                refine ev_aload_n rfl ?_
                refine ev_iconst ?_
                refine ev_in (d := 2) (a := 0) (b := 0) (cd' := c356_0) (m := 2) (L0 := [(2, 42), (0, 1)]) (jcall_v (A := [(0, 1)]) (S' := []) (r := 42) rfl (g77357.lt ad42) (g77357.tg ad42) (Nat.le_of_ble_eq_true rfl)) (by decide) ml356 pp356 (Nat.le_of_ble_eq_true rfl) rfl (by decide) (by decide) ?_
                refine ev_aload_n rfl ?_
                refine g_getv (r := 42) (v := 2) g77357 ad42 (by decide) ft12_60 ((jw_eq e77357)) ?_
                refine ev_bipush ?_
                refine ev_icmpge f356_19 (fun c77360 => absurd c77360 (by omega)) (fun c77360 => ?_)
                refine ev_aload_n rfl ?_
                refine g_getp (r := 42) (c := 78) g77357 ad42 (by decide) (by decide) rf42_61 ft12_61 ?_
                refine ev_aload_n rfl ?_
                refine g_getv (r := 42) (v := 2) g77357 ad42 (by decide) ft12_60 ((jw_eq e77357)) ?_
                refine ev_iload_n rfl ?_
                refine g_iast g77357 ad78 rt78 (fun _ => rfl) (by omega) (by omega) (by omega) (by omega) (fun h77361 e77361 g77361 => ?_)
                have k77361 := k77357.wr e77361 rfl
                refine ev_aload_n rfl ?_
                refine ev_dup (by decide) ?_
                refine g_getv (r := 42) (v := 2) g77361 ad42 (by decide) ft12_60 (((jw_ne e77361 (Or.inl (by decide))).trans (jw_eq e77357))) ?_
                refine ev_iconst ?_
                refine ev_iadd (r := 3) (by decide) ?_
                refine g_putf (r := 42) g77361 ad42 (by decide) ft12_60 (by decide) (fun e => absurd e nz12_60) rf42_60 (by decide) (by omega) (by omega) (fun h77362 e77362 g77362 => ?_)
                have k77362 := k77361.wr e77362 rfl
                refine ev_ret rfl (by decide) (by decide) ?_
                show jEv _ _ _ _ _ _ _ (_, [(2, 42), (0, a1), (0, a3)], [], _, _, _)
                refine ev_iload_n rfl ?_
                refine ev_iload_n rfl ?_
                refine g_iaddG (fun v77363 ev77363 lv77363 uv77363 => ?_)
                refine ev_ret rfl (by decide) (by decide) ?_
                show jEv _ _ _ _ _ _ _ (_, [(2, 42), (0, a1), (0, a3)], [(0, v77363)], _, _, _)
                refine ev_ret rfl (by decide) (by decide) ?_
                show jEv _ _ _ _ _ _ _ (_, [(2, 42), (0, a1), (0, a3)], [(0, v77363)], _, _, _)
                refine ev_iconst ?_
                refine g_imulG (fun v77364 ev77364 lv77364 uv77364 => ?_)
                refine ev_ret rfl (by decide) (by decide) ?_
                show jEv _ _ _ _ _ _ _ (_, [(2, 42), (0, a1), (0, a3)], [(0, v77364)], _, _, _)
                refine ev_iconst ?_
                refine g_isubG (fun v77365 ev77365 lv77365 uv77365 => ?_)
                refine ev_ret rfl (by decide) (by decide) ?_
                show jEv _ _ _ _ _ _ _ (_, [(2, 42), (0, a1), (0, a3), (9, 0)], [(0, v77365)], _, _, _)
                refine ev_goto f362_57 ?_
                refine ev_ret rfl (by decide) (by decide) ?_
                show jEv _ _ _ _ _ _ _ (_, [(2, 42), (0, a1), (0, a2), (0, a3)], [(0, v77365)], _, _, _)
                refine ev_goto f367_71 ?_
                exact ev_ret rfl (by decide) (by decide) ⟨_, rfl, g77362, k77362, Or.inr ⟨(by unfold AV0; rw [ew0]; omega), by rw [show h.2.2 60 (a1).toNat = 1 from (k77250.v rfl).symm.trans ((ev77261).trans (by omega)), show h.2.2 61 (a1).toNat = v77262 from (k77250.v rfl).symm.trans ev77262, show a2 = 1 by omega, ac_1_1]; (try rw [ev77363]); (try rw [ev77364]); (try rw [ev77365]); all_goals (first | rfl | omega | (unfold w32 at *; omega)), by rw [show h.2.2 60 (a1).toNat = 1 from (k77250.v rfl).symm.trans ((ev77261).trans (by omega)), show a2 = 1 by omega, tr_1_1]; exact ⟨(((jw_eq e77362))), (((jw_ne e77362 (Or.inl (by decide))).trans ((jw_ne e77361 (Or.inr (by decide))).trans ((jw_ne e77357 (Or.inl (by decide))).trans ((jw_ne e77356 (Or.inr (by decide))).trans ((jw_ne e77354 (Or.inl (by decide))).trans (jw_eq e77353))))))), (((jw_ne e77362 (Or.inl (by decide))).trans ((jw_ne e77361 (Or.inr (by decide))).trans ((jw_ne e77357 (Or.inl (by decide))).trans (jw_eq e77356))))), (((jw_ne e77362 (Or.inl (by decide))).trans (jw_eq e77361))), trivial⟩⟩⟩
            · refine ev_aload_n rfl ?_
              refine ev_iload_n rfl ?_
              refine ev_iload_n rfl ?_
              refine ev_in (d := 7) (a := 0) (b := 0) (cd' := c359_0) (m := 3) (L0 := [(2, 42), (0, a1), (0, a3)]) (jcall_v (A := [(0, a3), (0, a1)]) (S' := []) (r := 42) rfl (g77250.lt ad42) (g77250.tg ad42) (Nat.le_of_ble_eq_true rfl)) (by decide) ml359 pp359 (Nat.le_of_ble_eq_true rfl) rfl (by decide) (by decide) ?_
              refine ev_aload_n rfl ?_
              refine g_getp (r := 42) (c := 60) g77250 ad42 (by decide) (by decide) rf42_29 ft12_29 ?_
              refine ev_iload_n rfl ?_
              refine g_ialdv (v := v77261) g77250 ad60 (by omega) (by omega) (ev77261) ?_
              refine ev_iconst ?_
              refine ev_icmpne f359_24 (fun c77366 => ?_) (fun c77366 => absurd c77366 (by omega))
              refine ev_aload_n rfl ?_
              refine g_getp (r := 42) (c := 60) g77250 ad42 (by decide) (by decide) rf42_29 ft12_29 ?_
              refine ev_iload_n rfl ?_
              refine g_ialdv (v := v77261) g77250 ad60 (by omega) (by omega) (ev77261) ?_
              refine ev_iconst ?_
              refine ev_icmpne f359_43 (fun c77367 => ?_) (fun c77367 => absurd c77367 (by omega))
              refine ev_aload_n rfl ?_
              refine ev_iload_n rfl ?_
              refine ev_iload_n rfl ?_
              refine ev_in (d := 6) (a := 0) (b := 0) (cd' := c357_0) (m := 3) (L0 := [(2, 42), (0, a1), (0, a3)]) (jcall_v (A := [(0, a3), (0, a1)]) (S' := []) (r := 42) rfl (g77250.lt ad42) (g77250.tg ad42) (Nat.le_of_ble_eq_true rfl)) (by decide) ml357 pp357 (Nat.le_of_ble_eq_true rfl) rfl (by decide) (by decide) ?_
              refine ev_aload_n rfl ?_
              refine ev_iconst ?_
              refine ev_in (d := 5) (a := 0) (b := 0) (cd' := c356_0) (m := 2) (L0 := [(2, 42), (0, 1)]) (jcall_v (A := [(0, 1)]) (S' := []) (r := 42) rfl (g77250.lt ad42) (g77250.tg ad42) (Nat.le_of_ble_eq_true rfl)) (by decide) ml356 pp356 (Nat.le_of_ble_eq_true rfl) rfl (by decide) (by decide) ?_
              refine ev_aload_n rfl ?_
              refine g_getv (r := 42) (v := 0) g77250 ad42 (by decide) ft12_60 ((jw_eq e77250)) ?_
              refine ev_bipush ?_
              refine ev_icmpge f356_19 (fun c77368 => absurd c77368 (by omega)) (fun c77368 => ?_)
              refine ev_aload_n rfl ?_
              refine g_getp (r := 42) (c := 78) g77250 ad42 (by decide) (by decide) rf42_61 ft12_61 ?_
              refine ev_aload_n rfl ?_
              refine g_getv (r := 42) (v := 0) g77250 ad42 (by decide) ft12_60 ((jw_eq e77250)) ?_
              refine ev_iload_n rfl ?_
              refine g_iast g77250 ad78 rt78 (fun _ => rfl) (by omega) (by omega) (by omega) (by omega) (fun h77369 e77369 g77369 => ?_)
              have k77369 := k77250.wr e77369 rfl
              refine ev_aload_n rfl ?_
              refine ev_dup (by decide) ?_
              refine g_getv (r := 42) (v := 0) g77369 ad42 (by decide) ft12_60 (((jw_ne e77369 (Or.inl (by decide))).trans (jw_eq e77250))) ?_
              refine ev_iconst ?_
              refine ev_iadd (r := 1) (by decide) ?_
              refine g_putf (r := 42) g77369 ad42 (by decide) ft12_60 (by decide) (fun e => absurd e nz12_60) rf42_60 (by decide) (by omega) (by omega) (fun h77370 e77370 g77370 => ?_)
              have k77370 := k77369.wr e77370 rfl
              refine ev_ret rfl (by decide) (by decide) ?_
              show jEv _ _ _ _ _ _ _ (_, [(2, 42), (0, a1), (0, a3)], [], _, _, _)
              refine ev_iload_n rfl ?_
              refine ev_iload_n rfl ?_
              refine g_iaddG (fun v77371 ev77371 lv77371 uv77371 => ?_)
              refine ev_ret rfl (by decide) (by decide) ?_
              show jEv _ _ _ _ _ _ _ (_, [(2, 42), (0, a1), (0, a3)], [(0, v77371)], _, _, _)
              refine ev_ret rfl (by decide) (by decide) ?_
              show jEv _ _ _ _ _ _ _ (_, [(2, 42), (0, a1), (0, a2), (0, a3)], [(0, v77371)], _, _, _)
              refine ev_goto f367_71 ?_
              exact ev_ret rfl (by decide) (by decide) ⟨_, rfl, g77370, k77370, Or.inr ⟨(by unfold AV0; rw [ew0]; omega), by rw [show h.2.2 60 (a1).toNat = 1 from (k77250.v rfl).symm.trans ((ev77261).trans (by omega)), show h.2.2 61 (a1).toNat = v77262 from (k77250.v rfl).symm.trans ev77262, show a2 = 0 by omega, ac_1_0]; (try rw [ev77371]); all_goals (first | rfl | omega | (unfold w32 at *; omega)), by rw [show h.2.2 60 (a1).toNat = 1 from (k77250.v rfl).symm.trans ((ev77261).trans (by omega)), show a2 = 0 by omega, tr_1_0]; exact ⟨(((jw_eq e77370))), (((jw_ne e77370 (Or.inl (by decide))).trans (jw_eq e77369))), trivial⟩⟩⟩
          · refine ev_iload_n rfl ?_
            refine ev_ifne f367_37 (fun c77372 => ?_) (fun c77372 => ?_)
            · refine ev_iload_n rfl ?_
              refine ev_iconst ?_
              refine ev_icmpne f367_51 (fun c77373 => ?_) (fun c77373 => ?_)
              · refine ev_iload_n rfl ?_
                refine ev_iconst ?_
                refine ev_icmpne f367_65 (fun c77374 => ?_) (fun c77374 => ?_)
                · refine ev_aload_n rfl ?_
                  refine ev_iload_n rfl ?_
                  refine ev_iload_n rfl ?_
                  refine ev_in (d := 7) (a := 0) (b := 0) (cd' := c366_0) (m := 3) (L0 := [(2, 42), (0, a1), (0, a3)]) (jcall_v (A := [(0, a3), (0, a1)]) (S' := []) (r := 42) rfl (g77250.lt ad42) (g77250.tg ad42) (Nat.le_of_ble_eq_true rfl)) (by decide) ml366 pp366 (Nat.le_of_ble_eq_true rfl) rfl (by decide) (by decide) ?_
                  refine ev_aload_n rfl ?_
                  refine g_getp (r := 42) (c := 60) g77250 ad42 (by decide) (by decide) rf42_29 ft12_29 ?_
                  refine ev_iload_n rfl ?_
                  refine g_ialdv (v := v77261) g77250 ad60 (by omega) (by omega) (ev77261) ?_
                  refine ev_iconst ?_
                  refine ev_icmpne f366_25 (fun c77375 => ?_) (fun c77375 => absurd c77375 (by omega))
                  refine ev_aload_n rfl ?_
                  refine ev_iload_n rfl ?_
                  refine ev_iload_n rfl ?_
                  refine ev_in (d := 6) (a := 0) (b := 0) (cd' := c365_0) (m := 4) (L0 := [(2, 42), (0, a1), (0, a3), (9, 0)]) (jcall_v (A := [(0, a3), (0, a1)]) (S' := []) (r := 42) rfl (g77250.lt ad42) (g77250.tg ad42) (Nat.le_of_ble_eq_true rfl)) (by decide) ml365 pp365 (Nat.le_of_ble_eq_true rfl) rfl (by decide) (by decide) ?_
                  refine ev_aload_n rfl ?_
                  refine ev_iconst ?_
                  refine ev_in (d := 5) (a := 0) (b := 0) (cd' := c356_0) (m := 2) (L0 := [(2, 42), (0, 2)]) (jcall_v (A := [(0, 2)]) (S' := []) (r := 42) rfl (g77250.lt ad42) (g77250.tg ad42) (Nat.le_of_ble_eq_true rfl)) (by decide) ml356 pp356 (Nat.le_of_ble_eq_true rfl) rfl (by decide) (by decide) ?_
                  refine ev_aload_n rfl ?_
                  refine g_getv (r := 42) (v := 0) g77250 ad42 (by decide) ft12_60 ((jw_eq e77250)) ?_
                  refine ev_bipush ?_
                  refine ev_icmpge f356_19 (fun c77376 => absurd c77376 (by omega)) (fun c77376 => ?_)
                  refine ev_aload_n rfl ?_
                  refine g_getp (r := 42) (c := 78) g77250 ad42 (by decide) (by decide) rf42_61 ft12_61 ?_
                  refine ev_aload_n rfl ?_
                  refine g_getv (r := 42) (v := 0) g77250 ad42 (by decide) ft12_60 ((jw_eq e77250)) ?_
                  refine ev_iload_n rfl ?_
                  refine g_iast g77250 ad78 rt78 (fun _ => rfl) (by omega) (by omega) (by omega) (by omega) (fun h77377 e77377 g77377 => ?_)
                  have k77377 := k77250.wr e77377 rfl
                  refine ev_aload_n rfl ?_
                  refine ev_dup (by decide) ?_
                  refine g_getv (r := 42) (v := 0) g77377 ad42 (by decide) ft12_60 (((jw_ne e77377 (Or.inl (by decide))).trans (jw_eq e77250))) ?_
                  refine ev_iconst ?_
                  refine ev_iadd (r := 1) (by decide) ?_
                  refine g_putf (r := 42) g77377 ad42 (by decide) ft12_60 (by decide) (fun e => absurd e nz12_60) rf42_60 (by decide) (by omega) (by omega) (fun h77378 e77378 g77378 => ?_)
                  have k77378 := k77377.wr e77378 rfl
                  refine ev_ret rfl (by decide) (by decide) ?_
                  show jEv _ _ _ _ _ _ _ (_, [(2, 42), (0, a1), (0, a3), (9, 0)], [], _, _, _)
                  refine ev_aload_n rfl ?_
                  refine ev_iload_n rfl ?_
                  refine ev_iload_n rfl ?_
                  refine ev_in (d := 5) (a := 0) (b := 0) (cd' := c362_0) (m := 4) (L0 := [(2, 42), (0, a1), (0, a3), (9, 0)]) (jcall_v (A := [(0, a3), (0, a1)]) (S' := []) (r := 42) rfl (g77378.lt ad42) (g77378.tg ad42) (Nat.le_of_ble_eq_true rfl)) (by decide) ml362 pp362 (Nat.le_of_ble_eq_true rfl) rfl (by decide) (by decide) ?_
                  refine ev_aload_n rfl ?_
                  refine g_getp (r := 42) (c := 60) g77378 ad42 (by decide) (by decide) rf42_29 ft12_29 ?_
                  refine ev_iload_n rfl ?_
                  refine g_ialdv (v := v77261) g77378 ad60 (by omega) (by omega) (((jw_ne e77378 (Or.inl (by decide))).trans ((jw_ne e77377 (Or.inl (by decide))).trans ev77261))) ?_
                  refine ev_iconst ?_
                  refine ev_icmpne f362_32 (fun c77379 => ?_) (fun c77379 => absurd c77379 (by omega))
                  refine ev_aload_n rfl ?_
                  refine g_getp (r := 42) (c := 60) g77378 ad42 (by decide) (by decide) rf42_29 ft12_29 ?_
                  refine ev_iload_n rfl ?_
                  refine g_ialdv (v := v77261) g77378 ad60 (by omega) (by omega) (((jw_ne e77378 (Or.inl (by decide))).trans ((jw_ne e77377 (Or.inl (by decide))).trans ev77261))) ?_
                  refine ev_iconst ?_
                  refine ev_icmpne f362_51 (fun c77380 => ?_) (fun c77380 => absurd c77380 (by omega))
                  refine ev_aload_n rfl ?_
                  refine ev_iload_n rfl ?_
                  refine ev_iload_n rfl ?_
                  refine ev_in (d := 4) (a := 0) (b := 0) (cd' := c360_0) (m := 3) (L0 := [(2, 42), (0, a1), (0, a3)]) (jcall_v (A := [(0, a3), (0, a1)]) (S' := []) (r := 42) rfl (g77378.lt ad42) (g77378.tg ad42) (Nat.le_of_ble_eq_true rfl)) (by decide) ml360 pp360 (Nat.le_of_ble_eq_true rfl) rfl (by decide) (by decide) ?_
                  refine ev_aload_n rfl ?_
                  refine ev_bipush ?_
                  refine ev_in (d := 3) (a := 0) (b := 0) (cd' := c356_0) (m := 2) (L0 := [(2, 42), (0, 10)]) (jcall_v (A := [(0, 10)]) (S' := []) (r := 42) rfl (g77378.lt ad42) (g77378.tg ad42) (Nat.le_of_ble_eq_true rfl)) (by decide) ml356 pp356 (Nat.le_of_ble_eq_true rfl) rfl (by decide) (by decide) ?_
                  refine ev_aload_n rfl ?_
                  refine g_getv (r := 42) (v := 1) g77378 ad42 (by decide) ft12_60 ((jw_eq e77378)) ?_
                  refine ev_bipush ?_
                  refine ev_icmpge f356_19 (fun c77381 => absurd c77381 (by omega)) (fun c77381 => ?_)
                  refine ev_aload_n rfl ?_
                  refine g_getp (r := 42) (c := 78) g77378 ad42 (by decide) (by decide) rf42_61 ft12_61 ?_
                  refine ev_aload_n rfl ?_
                  refine g_getv (r := 42) (v := 1) g77378 ad42 (by decide) ft12_60 ((jw_eq e77378)) ?_
                  refine ev_iload_n rfl ?_
                  refine g_iast g77378 ad78 rt78 (fun _ => rfl) (by omega) (by omega) (by omega) (by omega) (fun h77382 e77382 g77382 => ?_)
                  have k77382 := k77378.wr e77382 rfl
                  refine ev_aload_n rfl ?_
                  refine ev_dup (by decide) ?_
                  refine g_getv (r := 42) (v := 1) g77382 ad42 (by decide) ft12_60 (((jw_ne e77382 (Or.inl (by decide))).trans (jw_eq e77378))) ?_
                  refine ev_iconst ?_
                  refine ev_iadd (r := 2) (by decide) ?_
                  refine g_putf (r := 42) g77382 ad42 (by decide) ft12_60 (by decide) (fun e => absurd e nz12_60) rf42_60 (by decide) (by omega) (by omega) (fun h77383 e77383 g77383 => ?_)
                  have k77383 := k77382.wr e77383 rfl
                  refine ev_ret rfl (by decide) (by decide) ?_
                  show jEv _ _ _ _ _ _ _ (_, [(2, 42), (0, a1), (0, a3)], [], _, _, _)
                  refine ev_aload_n rfl ?_
                  refine ev_iload_n rfl ?_
                  refine ev_iload_n rfl ?_
                  refine ev_in (d := 3) (a := 0) (b := 0) (cd' := c359_0) (m := 3) (L0 := [(2, 42), (0, a1), (0, a3)]) (jcall_v (A := [(0, a3), (0, a1)]) (S' := []) (r := 42) rfl (g77383.lt ad42) (g77383.tg ad42) (Nat.le_of_ble_eq_true rfl)) (by decide) ml359 pp359 (Nat.le_of_ble_eq_true rfl) rfl (by decide) (by decide) ?_
                  refine ev_aload_n rfl ?_
                  refine g_getp (r := 42) (c := 60) g77383 ad42 (by decide) (by decide) rf42_29 ft12_29 ?_
                  refine ev_iload_n rfl ?_
                  refine g_ialdv (v := v77261) g77383 ad60 (by omega) (by omega) (((jw_ne e77383 (Or.inl (by decide))).trans ((jw_ne e77382 (Or.inl (by decide))).trans ((jw_ne e77378 (Or.inl (by decide))).trans ((jw_ne e77377 (Or.inl (by decide))).trans ev77261))))) ?_
                  refine ev_iconst ?_
                  refine ev_icmpne f359_24 (fun c77384 => ?_) (fun c77384 => absurd c77384 (by omega))
                  refine ev_aload_n rfl ?_
                  refine g_getp (r := 42) (c := 60) g77383 ad42 (by decide) (by decide) rf42_29 ft12_29 ?_
                  refine ev_iload_n rfl ?_
                  refine g_ialdv (v := v77261) g77383 ad60 (by omega) (by omega) (((jw_ne e77383 (Or.inl (by decide))).trans ((jw_ne e77382 (Or.inl (by decide))).trans ((jw_ne e77378 (Or.inl (by decide))).trans ((jw_ne e77377 (Or.inl (by decide))).trans ev77261))))) ?_
                  refine ev_iconst ?_
                  refine ev_icmpne f359_43 (fun c77385 => ?_) (fun c77385 => absurd c77385 (by omega))
                  refine ev_aload_n rfl ?_
                  refine ev_iload_n rfl ?_
                  refine ev_iload_n rfl ?_
                  refine ev_in (d := 2) (a := 0) (b := 0) (cd' := c357_0) (m := 3) (L0 := [(2, 42), (0, a1), (0, a3)]) (jcall_v (A := [(0, a3), (0, a1)]) (S' := []) (r := 42) rfl (g77383.lt ad42) (g77383.tg ad42) (Nat.le_of_ble_eq_true rfl)) (by decide) ml357 pp357 (Nat.le_of_ble_eq_true rfl) rfl (by decide) (by decide) ?_
                  refine ev_aload_n rfl ?_
                  refine ev_iconst ?_
                  refine ev_in (d := 1) (a := 0) (b := 0) (cd' := c356_0) (m := 2) (L0 := [(2, 42), (0, 1)]) (jcall_v (A := [(0, 1)]) (S' := []) (r := 42) rfl (g77383.lt ad42) (g77383.tg ad42) (Nat.le_of_ble_eq_true rfl)) (by decide) ml356 pp356 (Nat.le_of_ble_eq_true rfl) rfl (by decide) (by decide) ?_
                  refine ev_aload_n rfl ?_
                  refine g_getv (r := 42) (v := 2) g77383 ad42 (by decide) ft12_60 ((jw_eq e77383)) ?_
                  refine ev_bipush ?_
                  refine ev_icmpge f356_19 (fun c77386 => absurd c77386 (by omega)) (fun c77386 => ?_)
                  refine ev_aload_n rfl ?_
                  refine g_getp (r := 42) (c := 78) g77383 ad42 (by decide) (by decide) rf42_61 ft12_61 ?_
                  refine ev_aload_n rfl ?_
                  refine g_getv (r := 42) (v := 2) g77383 ad42 (by decide) ft12_60 ((jw_eq e77383)) ?_
                  refine ev_iload_n rfl ?_
                  refine g_iast g77383 ad78 rt78 (fun _ => rfl) (by omega) (by omega) (by omega) (by omega) (fun h77387 e77387 g77387 => ?_)
                  have k77387 := k77383.wr e77387 rfl
                  refine ev_aload_n rfl ?_
                  refine ev_dup (by decide) ?_
                  refine g_getv (r := 42) (v := 2) g77387 ad42 (by decide) ft12_60 (((jw_ne e77387 (Or.inl (by decide))).trans (jw_eq e77383))) ?_
                  refine ev_iconst ?_
                  refine ev_iadd (r := 3) (by decide) ?_
                  refine g_putf (r := 42) g77387 ad42 (by decide) ft12_60 (by decide) (fun e => absurd e nz12_60) rf42_60 (by decide) (by omega) (by omega) (fun h77388 e77388 g77388 => ?_)
                  have k77388 := k77387.wr e77388 rfl
                  refine ev_ret rfl (by decide) (by decide) ?_
                  show jEv _ _ _ _ _ _ _ (_, [(2, 42), (0, a1), (0, a3)], [], _, _, _)
                  refine ev_iload_n rfl ?_
                  refine ev_iload_n rfl ?_
                  refine g_iaddG (fun v77389 ev77389 lv77389 uv77389 => ?_)
                  refine ev_ret rfl (by decide) (by decide) ?_
                  show jEv _ _ _ _ _ _ _ (_, [(2, 42), (0, a1), (0, a3)], [(0, v77389)], _, _, _)
                  refine ev_ret rfl (by decide) (by decide) ?_
                  show jEv _ _ _ _ _ _ _ (_, [(2, 42), (0, a1), (0, a3)], [(0, v77389)], _, _, _)
                  refine ev_iconst ?_
                  refine g_imulG (fun v77390 ev77390 lv77390 uv77390 => ?_)
                  refine ev_ret rfl (by decide) (by decide) ?_
                  show jEv _ _ _ _ _ _ _ (_, [(2, 42), (0, a1), (0, a3), (9, 0)], [(0, v77390)], _, _, _)
                  refine ev_ret rfl (by decide) (by decide) ?_
                  show jEv _ _ _ _ _ _ _ (_, [(2, 42), (0, a1), (0, a3), (9, 0)], [(0, v77390)], _, _, _)
                  refine ev_istore_n (L' := [(2, 42), (0, a1), (0, a3), (0, v77390)]) (Nat.le_of_ble_eq_true rfl) rfl ?_
                  refine ev_iload_n rfl ?_
                  refine ev_aload_n rfl ?_
                  refine ev_iload_n rfl ?_
                  refine ev_iconst ?_
                  refine ev_in (d := 5) (a := 0) (b := 0) (cd' := c364_0) (m := 4) (L0 := [(2, 42), (0, a1), (0, 1), (9, 0)]) (jcall_v (A := [(0, 1), (0, a1)]) (S' := [(0, v77390)]) (r := 42) rfl (g77388.lt ad42) (g77388.tg ad42) (Nat.le_of_ble_eq_true rfl)) (by decide) ml364 pp364 (Nat.le_of_ble_eq_true rfl) rfl (by decide) (by decide) ?_
                  refine ev_aload_n rfl ?_
                  refine g_getp (r := 42) (c := 60) g77388 ad42 (by decide) (by decide) rf42_29 ft12_29 ?_
                  refine ev_iload_n rfl ?_
                  refine g_ialdv (v := v77261) g77388 ad60 (by omega) (by omega) (((jw_ne e77388 (Or.inl (by decide))).trans ((jw_ne e77387 (Or.inl (by decide))).trans ((jw_ne e77383 (Or.inl (by decide))).trans ((jw_ne e77382 (Or.inl (by decide))).trans ((jw_ne e77378 (Or.inl (by decide))).trans ((jw_ne e77377 (Or.inl (by decide))).trans ev77261))))))) ?_
                  refine ev_iconst ?_
                  refine ev_icmpne f364_25 (fun c77391 => absurd c77391 (by omega)) (fun c77391 => ?_)
                  refine ev_aload_n rfl ?_
                  refine ev_bipush ?_
                  refine ev_in (d := 4) (a := 0) (b := 0) (cd' := c356_0) (m := 2) (L0 := [(2, 42), (0, 30)]) (jcall_v (A := [(0, 30)]) (S' := []) (r := 42) rfl (g77388.lt ad42) (g77388.tg ad42) (Nat.le_of_ble_eq_true rfl)) (by decide) ml356 pp356 (Nat.le_of_ble_eq_true rfl) rfl (by decide) (by decide) ?_
                  refine ev_aload_n rfl ?_
                  refine g_getv (r := 42) (v := 3) g77388 ad42 (by decide) ft12_60 ((jw_eq e77388)) ?_
                  refine ev_bipush ?_
                  refine ev_icmpge f356_19 (fun c77392 => absurd c77392 (by omega)) (fun c77392 => ?_)
                  refine ev_aload_n rfl ?_
                  refine g_getp (r := 42) (c := 78) g77388 ad42 (by decide) (by decide) rf42_61 ft12_61 ?_
                  refine ev_aload_n rfl ?_
                  refine g_getv (r := 42) (v := 3) g77388 ad42 (by decide) ft12_60 ((jw_eq e77388)) ?_
                  refine ev_iload_n rfl ?_
                  refine g_iast g77388 ad78 rt78 (fun _ => rfl) (by omega) (by omega) (by omega) (by omega) (fun h77393 e77393 g77393 => ?_)
                  have k77393 := k77388.wr e77393 rfl
                  refine ev_aload_n rfl ?_
                  refine ev_dup (by decide) ?_
                  refine g_getv (r := 42) (v := 3) g77393 ad42 (by decide) ft12_60 (((jw_ne e77393 (Or.inl (by decide))).trans (jw_eq e77388))) ?_
                  refine ev_iconst ?_
                  refine ev_iadd (r := 4) (by decide) ?_
                  refine g_putf (r := 42) g77393 ad42 (by decide) ft12_60 (by decide) (fun e => absurd e nz12_60) rf42_60 (by decide) (by omega) (by omega) (fun h77394 e77394 g77394 => ?_)
                  have k77394 := k77393.wr e77394 rfl
                  refine ev_ret rfl (by decide) (by decide) ?_
                  show jEv _ _ _ _ _ _ _ (_, [(2, 42), (0, a1), (0, 1), (9, 0)], [], _, _, _)
                  refine ev_aload_n rfl ?_
                  refine ev_iload_n rfl ?_
                  refine ev_iload_n rfl ?_
                  refine ev_in (d := 4) (a := 0) (b := 0) (cd' := c363_0) (m := 3) (L0 := [(2, 42), (0, a1), (0, 1)]) (jcall_v (A := [(0, 1), (0, a1)]) (S' := []) (r := 42) rfl (g77394.lt ad42) (g77394.tg ad42) (Nat.le_of_ble_eq_true rfl)) (by decide) ml363 pp363 (Nat.le_of_ble_eq_true rfl) rfl (by decide) (by decide) ?_
                  refine ev_aload_n rfl ?_
                  refine ev_bipush ?_
                  refine ev_in (d := 3) (a := 0) (b := 0) (cd' := c356_0) (m := 2) (L0 := [(2, 42), (0, 11)]) (jcall_v (A := [(0, 11)]) (S' := []) (r := 42) rfl (g77394.lt ad42) (g77394.tg ad42) (Nat.le_of_ble_eq_true rfl)) (by decide) ml356 pp356 (Nat.le_of_ble_eq_true rfl) rfl (by decide) (by decide) ?_
                  refine ev_aload_n rfl ?_
                  refine g_getv (r := 42) (v := 4) g77394 ad42 (by decide) ft12_60 ((jw_eq e77394)) ?_
                  refine ev_bipush ?_
                  refine ev_icmpge f356_19 (fun c77395 => absurd c77395 (by omega)) (fun c77395 => ?_)
                  refine ev_aload_n rfl ?_
                  refine g_getp (r := 42) (c := 78) g77394 ad42 (by decide) (by decide) rf42_61 ft12_61 ?_
                  refine ev_aload_n rfl ?_
                  refine g_getv (r := 42) (v := 4) g77394 ad42 (by decide) ft12_60 ((jw_eq e77394)) ?_
                  refine ev_iload_n rfl ?_
                  refine g_iast g77394 ad78 rt78 (fun _ => rfl) (by omega) (by omega) (by omega) (by omega) (fun h77396 e77396 g77396 => ?_)
                  have k77396 := k77394.wr e77396 rfl
                  refine ev_aload_n rfl ?_
                  refine ev_dup (by decide) ?_
                  refine g_getv (r := 42) (v := 4) g77396 ad42 (by decide) ft12_60 (((jw_ne e77396 (Or.inl (by decide))).trans (jw_eq e77394))) ?_
                  refine ev_iconst ?_
                  refine ev_iadd (r := 5) (by decide) ?_
                  refine g_putf (r := 42) g77396 ad42 (by decide) ft12_60 (by decide) (fun e => absurd e nz12_60) rf42_60 (by decide) (by omega) (by omega) (fun h77397 e77397 g77397 => ?_)
                  have k77397 := k77396.wr e77397 rfl
                  refine ev_ret rfl (by decide) (by decide) ?_
                  show jEv _ _ _ _ _ _ _ (_, [(2, 42), (0, a1), (0, 1)], [], _, _, _)
                  refine ev_iload_n rfl ?_
                  refine ev_iload_n rfl ?_
                  refine g_ixorB (k := 5) (hi := 31) (by decide) (by decide) (by omega) (by omega) (by omega) (by omega) (fun v77398 ev77398 lv77398 uv77398 => ?_)
                  refine ev_ret rfl (by decide) (by decide) ?_
                  show jEv _ _ _ _ _ _ _ (_, [(2, 42), (0, a1), (0, 1), (9, 0)], [(0, v77398)], _, _, _)
                  refine ev_iconst ?_
                  refine ev_imul (r := (3 * v77398)) (by unfold w32; omega) ?_
                  refine ev_ret rfl (by decide) (by decide) ?_
                  show jEv _ _ _ _ _ _ _ (_, [(2, 42), (0, a1), (0, a3), (0, v77390)], [(0, (3 * v77398)), (0, v77390)], _, _, _)
                  refine g_isubG (fun v77399 ev77399 lv77399 uv77399 => ?_)
                  refine ev_ret rfl (by decide) (by decide) ?_
                  show jEv _ _ _ _ _ _ _ (_, [(2, 42), (0, a1), (0, a3)], [(0, v77399)], _, _, _)
                  refine ev_ret rfl (by decide) (by decide) ?_
                  show jEv _ _ _ _ _ _ _ (_, [(2, 42), (0, a1), (0, a2), (0, a3)], [(0, v77399)], _, _, _)
                  exact ev_ret rfl (by decide) (by decide) ⟨_, rfl, g77397, k77397, Or.inr ⟨(by unfold AV0; rw [ew0]; omega), by rw [show h.2.2 60 (a1).toNat = 2 from (k77250.v rfl).symm.trans ((ev77261).trans (by omega)), show h.2.2 61 (a1).toNat = v77262 from (k77250.v rfl).symm.trans ev77262, show a2 = 3 by omega, ac_2_3]; (try rw [ev77389]); (try rw [ev77390]); (try rw [ev77398]); (try rw [ev77399]); all_goals (first | rfl | omega | (unfold w32 at *; omega)), by rw [show h.2.2 60 (a1).toNat = 2 from (k77250.v rfl).symm.trans ((ev77261).trans (by omega)), show a2 = 3 by omega, tr_2_3]; exact ⟨(((jw_eq e77397))), (((jw_ne e77397 (Or.inl (by decide))).trans ((jw_ne e77396 (Or.inr (by decide))).trans ((jw_ne e77394 (Or.inl (by decide))).trans ((jw_ne e77393 (Or.inr (by decide))).trans ((jw_ne e77388 (Or.inl (by decide))).trans ((jw_ne e77387 (Or.inr (by decide))).trans ((jw_ne e77383 (Or.inl (by decide))).trans ((jw_ne e77382 (Or.inr (by decide))).trans ((jw_ne e77378 (Or.inl (by decide))).trans (jw_eq e77377))))))))))), (((jw_ne e77397 (Or.inl (by decide))).trans ((jw_ne e77396 (Or.inr (by decide))).trans ((jw_ne e77394 (Or.inl (by decide))).trans ((jw_ne e77393 (Or.inr (by decide))).trans ((jw_ne e77388 (Or.inl (by decide))).trans ((jw_ne e77387 (Or.inr (by decide))).trans ((jw_ne e77383 (Or.inl (by decide))).trans (jw_eq e77382))))))))), (((jw_ne e77397 (Or.inl (by decide))).trans ((jw_ne e77396 (Or.inr (by decide))).trans ((jw_ne e77394 (Or.inl (by decide))).trans ((jw_ne e77393 (Or.inr (by decide))).trans ((jw_ne e77388 (Or.inl (by decide))).trans (jw_eq e77387))))))), (((jw_ne e77397 (Or.inl (by decide))).trans ((jw_ne e77396 (Or.inr (by decide))).trans ((jw_ne e77394 (Or.inl (by decide))).trans (jw_eq e77393))))), (((jw_ne e77397 (Or.inl (by decide))).trans (jw_eq e77396))), trivial⟩⟩⟩
                · refine ev_aload_n rfl ?_
                  refine ev_iload_n rfl ?_
                  refine ev_iload_n rfl ?_
                  refine ev_in (d := 7) (a := 0) (b := 0) (cd' := c364_0) (m := 4) (L0 := [(2, 42), (0, a1), (0, a3), (9, 0)]) (jcall_v (A := [(0, a3), (0, a1)]) (S' := []) (r := 42) rfl (g77250.lt ad42) (g77250.tg ad42) (Nat.le_of_ble_eq_true rfl)) (by decide) ml364 pp364 (Nat.le_of_ble_eq_true rfl) rfl (by decide) (by decide) ?_
                  refine ev_aload_n rfl ?_
                  refine g_getp (r := 42) (c := 60) g77250 ad42 (by decide) (by decide) rf42_29 ft12_29 ?_
                  refine ev_iload_n rfl ?_
                  refine g_ialdv (v := v77261) g77250 ad60 (by omega) (by omega) (ev77261) ?_
                  refine ev_iconst ?_
                  refine ev_icmpne f364_25 (fun c77400 => absurd c77400 (by omega)) (fun c77400 => ?_)
                  refine ev_aload_n rfl ?_
                  refine ev_bipush ?_
                  refine ev_in (d := 6) (a := 0) (b := 0) (cd' := c356_0) (m := 2) (L0 := [(2, 42), (0, 30)]) (jcall_v (A := [(0, 30)]) (S' := []) (r := 42) rfl (g77250.lt ad42) (g77250.tg ad42) (Nat.le_of_ble_eq_true rfl)) (by decide) ml356 pp356 (Nat.le_of_ble_eq_true rfl) rfl (by decide) (by decide) ?_
                  refine ev_aload_n rfl ?_
                  refine g_getv (r := 42) (v := 0) g77250 ad42 (by decide) ft12_60 ((jw_eq e77250)) ?_
                  refine ev_bipush ?_
                  refine ev_icmpge f356_19 (fun c77401 => absurd c77401 (by omega)) (fun c77401 => ?_)
                  refine ev_aload_n rfl ?_
                  refine g_getp (r := 42) (c := 78) g77250 ad42 (by decide) (by decide) rf42_61 ft12_61 ?_
                  refine ev_aload_n rfl ?_
                  refine g_getv (r := 42) (v := 0) g77250 ad42 (by decide) ft12_60 ((jw_eq e77250)) ?_
                  refine ev_iload_n rfl ?_
                  refine g_iast g77250 ad78 rt78 (fun _ => rfl) (by omega) (by omega) (by omega) (by omega) (fun h77402 e77402 g77402 => ?_)
                  have k77402 := k77250.wr e77402 rfl
                  refine ev_aload_n rfl ?_
                  refine ev_dup (by decide) ?_
                  refine g_getv (r := 42) (v := 0) g77402 ad42 (by decide) ft12_60 (((jw_ne e77402 (Or.inl (by decide))).trans (jw_eq e77250))) ?_
                  refine ev_iconst ?_
                  refine ev_iadd (r := 1) (by decide) ?_
                  refine g_putf (r := 42) g77402 ad42 (by decide) ft12_60 (by decide) (fun e => absurd e nz12_60) rf42_60 (by decide) (by omega) (by omega) (fun h77403 e77403 g77403 => ?_)
                  have k77403 := k77402.wr e77403 rfl
                  refine ev_ret rfl (by decide) (by decide) ?_
                  show jEv _ _ _ _ _ _ _ (_, [(2, 42), (0, a1), (0, a3), (9, 0)], [], _, _, _)
                  refine ev_aload_n rfl ?_
                  refine ev_iload_n rfl ?_
                  refine ev_iload_n rfl ?_
                  refine ev_in (d := 6) (a := 0) (b := 0) (cd' := c363_0) (m := 3) (L0 := [(2, 42), (0, a1), (0, a3)]) (jcall_v (A := [(0, a3), (0, a1)]) (S' := []) (r := 42) rfl (g77403.lt ad42) (g77403.tg ad42) (Nat.le_of_ble_eq_true rfl)) (by decide) ml363 pp363 (Nat.le_of_ble_eq_true rfl) rfl (by decide) (by decide) ?_
                  refine ev_aload_n rfl ?_
                  refine ev_bipush ?_
                  refine ev_in (d := 5) (a := 0) (b := 0) (cd' := c356_0) (m := 2) (L0 := [(2, 42), (0, 11)]) (jcall_v (A := [(0, 11)]) (S' := []) (r := 42) rfl (g77403.lt ad42) (g77403.tg ad42) (Nat.le_of_ble_eq_true rfl)) (by decide) ml356 pp356 (Nat.le_of_ble_eq_true rfl) rfl (by decide) (by decide) ?_
                  refine ev_aload_n rfl ?_
                  refine g_getv (r := 42) (v := 1) g77403 ad42 (by decide) ft12_60 ((jw_eq e77403)) ?_
                  refine ev_bipush ?_
                  refine ev_icmpge f356_19 (fun c77404 => absurd c77404 (by omega)) (fun c77404 => ?_)
                  refine ev_aload_n rfl ?_
                  refine g_getp (r := 42) (c := 78) g77403 ad42 (by decide) (by decide) rf42_61 ft12_61 ?_
                  refine ev_aload_n rfl ?_
                  refine g_getv (r := 42) (v := 1) g77403 ad42 (by decide) ft12_60 ((jw_eq e77403)) ?_
                  refine ev_iload_n rfl ?_
                  refine g_iast g77403 ad78 rt78 (fun _ => rfl) (by omega) (by omega) (by omega) (by omega) (fun h77405 e77405 g77405 => ?_)
                  have k77405 := k77403.wr e77405 rfl
                  refine ev_aload_n rfl ?_
                  refine ev_dup (by decide) ?_
                  refine g_getv (r := 42) (v := 1) g77405 ad42 (by decide) ft12_60 (((jw_ne e77405 (Or.inl (by decide))).trans (jw_eq e77403))) ?_
                  refine ev_iconst ?_
                  refine ev_iadd (r := 2) (by decide) ?_
                  refine g_putf (r := 42) g77405 ad42 (by decide) ft12_60 (by decide) (fun e => absurd e nz12_60) rf42_60 (by decide) (by omega) (by omega) (fun h77406 e77406 g77406 => ?_)
                  have k77406 := k77405.wr e77406 rfl
                  refine ev_ret rfl (by decide) (by decide) ?_
                  show jEv _ _ _ _ _ _ _ (_, [(2, 42), (0, a1), (0, a3)], [], _, _, _)
                  refine ev_iload_n rfl ?_
                  refine ev_iload_n rfl ?_
                  refine g_ixorG (fun v77407 ev77407 lv77407 uv77407 => ?_)
                  refine ev_ret rfl (by decide) (by decide) ?_
                  show jEv _ _ _ _ _ _ _ (_, [(2, 42), (0, a1), (0, a3), (9, 0)], [(0, v77407)], _, _, _)
                  refine ev_iconst ?_
                  refine g_imulG (fun v77408 ev77408 lv77408 uv77408 => ?_)
                  refine ev_ret rfl (by decide) (by decide) ?_
                  show jEv _ _ _ _ _ _ _ (_, [(2, 42), (0, a1), (0, a2), (0, a3)], [(0, v77408)], _, _, _)
                  refine ev_goto f367_71 ?_
                  exact ev_ret rfl (by decide) (by decide) ⟨_, rfl, g77406, k77406, Or.inr ⟨(by unfold AV0; rw [ew0]; omega), by rw [show h.2.2 60 (a1).toNat = 2 from (k77250.v rfl).symm.trans ((ev77261).trans (by omega)), show h.2.2 61 (a1).toNat = v77262 from (k77250.v rfl).symm.trans ev77262, show a2 = 2 by omega, ac_2_2]; (try rw [ev77407]); (try rw [ev77408]); all_goals (first | rfl | omega | (unfold w32 at *; omega)), by rw [show h.2.2 60 (a1).toNat = 2 from (k77250.v rfl).symm.trans ((ev77261).trans (by omega)), show a2 = 2 by omega, tr_2_2]; exact ⟨(((jw_eq e77406))), (((jw_ne e77406 (Or.inl (by decide))).trans ((jw_ne e77405 (Or.inr (by decide))).trans ((jw_ne e77403 (Or.inl (by decide))).trans (jw_eq e77402))))), (((jw_ne e77406 (Or.inl (by decide))).trans (jw_eq e77405))), trivial⟩⟩⟩
              · refine ev_aload_n rfl ?_
                refine ev_iload_n rfl ?_
                refine ev_iload_n rfl ?_
                refine ev_in (d := 7) (a := 0) (b := 0) (cd' := c362_0) (m := 4) (L0 := [(2, 42), (0, a1), (0, a3), (9, 0)]) (jcall_v (A := [(0, a3), (0, a1)]) (S' := []) (r := 42) rfl (g77250.lt ad42) (g77250.tg ad42) (Nat.le_of_ble_eq_true rfl)) (by decide) ml362 pp362 (Nat.le_of_ble_eq_true rfl) rfl (by decide) (by decide) ?_
                refine ev_aload_n rfl ?_
                refine g_getp (r := 42) (c := 60) g77250 ad42 (by decide) (by decide) rf42_29 ft12_29 ?_
                refine ev_iload_n rfl ?_
                refine g_ialdv (v := v77261) g77250 ad60 (by omega) (by omega) (ev77261) ?_
                refine ev_iconst ?_
                refine ev_icmpne f362_32 (fun c77409 => ?_) (fun c77409 => absurd c77409 (by omega))
                refine ev_aload_n rfl ?_
                refine g_getp (r := 42) (c := 60) g77250 ad42 (by decide) (by decide) rf42_29 ft12_29 ?_
                refine ev_iload_n rfl ?_
                refine g_ialdv (v := v77261) g77250 ad60 (by omega) (by omega) (ev77261) ?_
                refine ev_iconst ?_
                refine ev_icmpne f362_51 (fun c77410 => ?_) (fun c77410 => absurd c77410 (by omega))
                refine ev_aload_n rfl ?_
                refine ev_iload_n rfl ?_
                refine ev_iload_n rfl ?_
                refine ev_in (d := 6) (a := 0) (b := 0) (cd' := c360_0) (m := 3) (L0 := [(2, 42), (0, a1), (0, a3)]) (jcall_v (A := [(0, a3), (0, a1)]) (S' := []) (r := 42) rfl (g77250.lt ad42) (g77250.tg ad42) (Nat.le_of_ble_eq_true rfl)) (by decide) ml360 pp360 (Nat.le_of_ble_eq_true rfl) rfl (by decide) (by decide) ?_
                refine ev_aload_n rfl ?_
                refine ev_bipush ?_
                refine ev_in (d := 5) (a := 0) (b := 0) (cd' := c356_0) (m := 2) (L0 := [(2, 42), (0, 10)]) (jcall_v (A := [(0, 10)]) (S' := []) (r := 42) rfl (g77250.lt ad42) (g77250.tg ad42) (Nat.le_of_ble_eq_true rfl)) (by decide) ml356 pp356 (Nat.le_of_ble_eq_true rfl) rfl (by decide) (by decide) ?_
                refine ev_aload_n rfl ?_
                refine g_getv (r := 42) (v := 0) g77250 ad42 (by decide) ft12_60 ((jw_eq e77250)) ?_
                refine ev_bipush ?_
                refine ev_icmpge f356_19 (fun c77411 => absurd c77411 (by omega)) (fun c77411 => ?_)
                refine ev_aload_n rfl ?_
                refine g_getp (r := 42) (c := 78) g77250 ad42 (by decide) (by decide) rf42_61 ft12_61 ?_
                refine ev_aload_n rfl ?_
                refine g_getv (r := 42) (v := 0) g77250 ad42 (by decide) ft12_60 ((jw_eq e77250)) ?_
                refine ev_iload_n rfl ?_
                refine g_iast g77250 ad78 rt78 (fun _ => rfl) (by omega) (by omega) (by omega) (by omega) (fun h77412 e77412 g77412 => ?_)
                have k77412 := k77250.wr e77412 rfl
                refine ev_aload_n rfl ?_
                refine ev_dup (by decide) ?_
                refine g_getv (r := 42) (v := 0) g77412 ad42 (by decide) ft12_60 (((jw_ne e77412 (Or.inl (by decide))).trans (jw_eq e77250))) ?_
                refine ev_iconst ?_
                refine ev_iadd (r := 1) (by decide) ?_
                refine g_putf (r := 42) g77412 ad42 (by decide) ft12_60 (by decide) (fun e => absurd e nz12_60) rf42_60 (by decide) (by omega) (by omega) (fun h77413 e77413 g77413 => ?_)
                have k77413 := k77412.wr e77413 rfl
                refine ev_ret rfl (by decide) (by decide) ?_
                show jEv _ _ _ _ _ _ _ (_, [(2, 42), (0, a1), (0, a3)], [], _, _, _)
                refine ev_aload_n rfl ?_
                refine ev_iload_n rfl ?_
                refine ev_iload_n rfl ?_
                refine ev_in (d := 5) (a := 0) (b := 0) (cd' := c359_0) (m := 3) (L0 := [(2, 42), (0, a1), (0, a3)]) (jcall_v (A := [(0, a3), (0, a1)]) (S' := []) (r := 42) rfl (g77413.lt ad42) (g77413.tg ad42) (Nat.le_of_ble_eq_true rfl)) (by decide) ml359 pp359 (Nat.le_of_ble_eq_true rfl) rfl (by decide) (by decide) ?_
                refine ev_aload_n rfl ?_
                refine g_getp (r := 42) (c := 60) g77413 ad42 (by decide) (by decide) rf42_29 ft12_29 ?_
                refine ev_iload_n rfl ?_
                refine g_ialdv (v := v77261) g77413 ad60 (by omega) (by omega) (((jw_ne e77413 (Or.inl (by decide))).trans ((jw_ne e77412 (Or.inl (by decide))).trans ev77261))) ?_
                refine ev_iconst ?_
                refine ev_icmpne f359_24 (fun c77414 => ?_) (fun c77414 => absurd c77414 (by omega))
                refine ev_aload_n rfl ?_
                refine g_getp (r := 42) (c := 60) g77413 ad42 (by decide) (by decide) rf42_29 ft12_29 ?_
                refine ev_iload_n rfl ?_
                refine g_ialdv (v := v77261) g77413 ad60 (by omega) (by omega) (((jw_ne e77413 (Or.inl (by decide))).trans ((jw_ne e77412 (Or.inl (by decide))).trans ev77261))) ?_
                refine ev_iconst ?_
                refine ev_icmpne f359_43 (fun c77415 => ?_) (fun c77415 => absurd c77415 (by omega))
                refine ev_aload_n rfl ?_
                refine ev_iload_n rfl ?_
                refine ev_iload_n rfl ?_
                refine ev_in (d := 4) (a := 0) (b := 0) (cd' := c357_0) (m := 3) (L0 := [(2, 42), (0, a1), (0, a3)]) (jcall_v (A := [(0, a3), (0, a1)]) (S' := []) (r := 42) rfl (g77413.lt ad42) (g77413.tg ad42) (Nat.le_of_ble_eq_true rfl)) (by decide) ml357 pp357 (Nat.le_of_ble_eq_true rfl) rfl (by decide) (by decide) ?_
                refine ev_aload_n rfl ?_
                refine ev_iconst ?_
                refine ev_in (d := 3) (a := 0) (b := 0) (cd' := c356_0) (m := 2) (L0 := [(2, 42), (0, 1)]) (jcall_v (A := [(0, 1)]) (S' := []) (r := 42) rfl (g77413.lt ad42) (g77413.tg ad42) (Nat.le_of_ble_eq_true rfl)) (by decide) ml356 pp356 (Nat.le_of_ble_eq_true rfl) rfl (by decide) (by decide) ?_
                refine ev_aload_n rfl ?_
                refine g_getv (r := 42) (v := 1) g77413 ad42 (by decide) ft12_60 ((jw_eq e77413)) ?_
                refine ev_bipush ?_
                refine ev_icmpge f356_19 (fun c77416 => absurd c77416 (by omega)) (fun c77416 => ?_)
                refine ev_aload_n rfl ?_
                refine g_getp (r := 42) (c := 78) g77413 ad42 (by decide) (by decide) rf42_61 ft12_61 ?_
                refine ev_aload_n rfl ?_
                refine g_getv (r := 42) (v := 1) g77413 ad42 (by decide) ft12_60 ((jw_eq e77413)) ?_
                refine ev_iload_n rfl ?_
                refine g_iast g77413 ad78 rt78 (fun _ => rfl) (by omega) (by omega) (by omega) (by omega) (fun h77417 e77417 g77417 => ?_)
                have k77417 := k77413.wr e77417 rfl
                refine ev_aload_n rfl ?_
                refine ev_dup (by decide) ?_
                refine g_getv (r := 42) (v := 1) g77417 ad42 (by decide) ft12_60 (((jw_ne e77417 (Or.inl (by decide))).trans (jw_eq e77413))) ?_
                refine ev_iconst ?_
                refine ev_iadd (r := 2) (by decide) ?_
                refine g_putf (r := 42) g77417 ad42 (by decide) ft12_60 (by decide) (fun e => absurd e nz12_60) rf42_60 (by decide) (by omega) (by omega) (fun h77418 e77418 g77418 => ?_)
                have k77418 := k77417.wr e77418 rfl
                refine ev_ret rfl (by decide) (by decide) ?_
                show jEv _ _ _ _ _ _ _ (_, [(2, 42), (0, a1), (0, a3)], [], _, _, _)
                refine ev_iload_n rfl ?_
                refine ev_iload_n rfl ?_
                refine g_iaddG (fun v77419 ev77419 lv77419 uv77419 => ?_)
                refine ev_ret rfl (by decide) (by decide) ?_
                show jEv _ _ _ _ _ _ _ (_, [(2, 42), (0, a1), (0, a3)], [(0, v77419)], _, _, _)
                refine ev_ret rfl (by decide) (by decide) ?_
                show jEv _ _ _ _ _ _ _ (_, [(2, 42), (0, a1), (0, a3)], [(0, v77419)], _, _, _)
                refine ev_iconst ?_
                refine g_imulG (fun v77420 ev77420 lv77420 uv77420 => ?_)
                refine ev_ret rfl (by decide) (by decide) ?_
                show jEv _ _ _ _ _ _ _ (_, [(2, 42), (0, a1), (0, a3), (9, 0)], [(0, v77420)], _, _, _)
                refine ev_ret rfl (by decide) (by decide) ?_
                show jEv _ _ _ _ _ _ _ (_, [(2, 42), (0, a1), (0, a2), (0, a3)], [(0, v77420)], _, _, _)
                refine ev_goto f367_71 ?_
                exact ev_ret rfl (by decide) (by decide) ⟨_, rfl, g77418, k77418, Or.inr ⟨(by unfold AV0; rw [ew0]; omega), by rw [show h.2.2 60 (a1).toNat = 2 from (k77250.v rfl).symm.trans ((ev77261).trans (by omega)), show h.2.2 61 (a1).toNat = v77262 from (k77250.v rfl).symm.trans ev77262, show a2 = 1 by omega, ac_2_1]; (try rw [ev77419]); (try rw [ev77420]); all_goals (first | rfl | omega | (unfold w32 at *; omega)), by rw [show h.2.2 60 (a1).toNat = 2 from (k77250.v rfl).symm.trans ((ev77261).trans (by omega)), show a2 = 1 by omega, tr_2_1]; exact ⟨(((jw_eq e77418))), (((jw_ne e77418 (Or.inl (by decide))).trans ((jw_ne e77417 (Or.inr (by decide))).trans ((jw_ne e77413 (Or.inl (by decide))).trans (jw_eq e77412))))), (((jw_ne e77418 (Or.inl (by decide))).trans (jw_eq e77417))), trivial⟩⟩⟩
            · refine ev_aload_n rfl ?_
              refine ev_iload_n rfl ?_
              refine ev_iload_n rfl ?_
              refine ev_in (d := 7) (a := 0) (b := 0) (cd' := c359_0) (m := 3) (L0 := [(2, 42), (0, a1), (0, a3)]) (jcall_v (A := [(0, a3), (0, a1)]) (S' := []) (r := 42) rfl (g77250.lt ad42) (g77250.tg ad42) (Nat.le_of_ble_eq_true rfl)) (by decide) ml359 pp359 (Nat.le_of_ble_eq_true rfl) rfl (by decide) (by decide) ?_
              refine ev_aload_n rfl ?_
              refine g_getp (r := 42) (c := 60) g77250 ad42 (by decide) (by decide) rf42_29 ft12_29 ?_
              refine ev_iload_n rfl ?_
              refine g_ialdv (v := v77261) g77250 ad60 (by omega) (by omega) (ev77261) ?_
              refine ev_iconst ?_
              refine ev_icmpne f359_24 (fun c77421 => ?_) (fun c77421 => absurd c77421 (by omega))
              refine ev_aload_n rfl ?_
              refine g_getp (r := 42) (c := 60) g77250 ad42 (by decide) (by decide) rf42_29 ft12_29 ?_
              refine ev_iload_n rfl ?_
              refine g_ialdv (v := v77261) g77250 ad60 (by omega) (by omega) (ev77261) ?_
              refine ev_iconst ?_
              refine ev_icmpne f359_43 (fun c77422 => ?_) (fun c77422 => absurd c77422 (by omega))
              refine ev_aload_n rfl ?_
              refine ev_iload_n rfl ?_
              refine ev_iload_n rfl ?_
              refine ev_in (d := 6) (a := 0) (b := 0) (cd' := c357_0) (m := 3) (L0 := [(2, 42), (0, a1), (0, a3)]) (jcall_v (A := [(0, a3), (0, a1)]) (S' := []) (r := 42) rfl (g77250.lt ad42) (g77250.tg ad42) (Nat.le_of_ble_eq_true rfl)) (by decide) ml357 pp357 (Nat.le_of_ble_eq_true rfl) rfl (by decide) (by decide) ?_
              refine ev_aload_n rfl ?_
              refine ev_iconst ?_
              refine ev_in (d := 5) (a := 0) (b := 0) (cd' := c356_0) (m := 2) (L0 := [(2, 42), (0, 1)]) (jcall_v (A := [(0, 1)]) (S' := []) (r := 42) rfl (g77250.lt ad42) (g77250.tg ad42) (Nat.le_of_ble_eq_true rfl)) (by decide) ml356 pp356 (Nat.le_of_ble_eq_true rfl) rfl (by decide) (by decide) ?_
              refine ev_aload_n rfl ?_
              refine g_getv (r := 42) (v := 0) g77250 ad42 (by decide) ft12_60 ((jw_eq e77250)) ?_
              refine ev_bipush ?_
              refine ev_icmpge f356_19 (fun c77423 => absurd c77423 (by omega)) (fun c77423 => ?_)
              refine ev_aload_n rfl ?_
              refine g_getp (r := 42) (c := 78) g77250 ad42 (by decide) (by decide) rf42_61 ft12_61 ?_
              refine ev_aload_n rfl ?_
              refine g_getv (r := 42) (v := 0) g77250 ad42 (by decide) ft12_60 ((jw_eq e77250)) ?_
              refine ev_iload_n rfl ?_
              refine g_iast g77250 ad78 rt78 (fun _ => rfl) (by omega) (by omega) (by omega) (by omega) (fun h77424 e77424 g77424 => ?_)
              have k77424 := k77250.wr e77424 rfl
              refine ev_aload_n rfl ?_
              refine ev_dup (by decide) ?_
              refine g_getv (r := 42) (v := 0) g77424 ad42 (by decide) ft12_60 (((jw_ne e77424 (Or.inl (by decide))).trans (jw_eq e77250))) ?_
              refine ev_iconst ?_
              refine ev_iadd (r := 1) (by decide) ?_
              refine g_putf (r := 42) g77424 ad42 (by decide) ft12_60 (by decide) (fun e => absurd e nz12_60) rf42_60 (by decide) (by omega) (by omega) (fun h77425 e77425 g77425 => ?_)
              have k77425 := k77424.wr e77425 rfl
              refine ev_ret rfl (by decide) (by decide) ?_
              show jEv _ _ _ _ _ _ _ (_, [(2, 42), (0, a1), (0, a3)], [], _, _, _)
              refine ev_iload_n rfl ?_
              refine ev_iload_n rfl ?_
              refine g_iaddG (fun v77426 ev77426 lv77426 uv77426 => ?_)
              refine ev_ret rfl (by decide) (by decide) ?_
              show jEv _ _ _ _ _ _ _ (_, [(2, 42), (0, a1), (0, a3)], [(0, v77426)], _, _, _)
              refine ev_ret rfl (by decide) (by decide) ?_
              show jEv _ _ _ _ _ _ _ (_, [(2, 42), (0, a1), (0, a2), (0, a3)], [(0, v77426)], _, _, _)
              refine ev_goto f367_71 ?_
              exact ev_ret rfl (by decide) (by decide) ⟨_, rfl, g77425, k77425, Or.inr ⟨(by unfold AV0; rw [ew0]; omega), by rw [show h.2.2 60 (a1).toNat = 2 from (k77250.v rfl).symm.trans ((ev77261).trans (by omega)), show h.2.2 61 (a1).toNat = v77262 from (k77250.v rfl).symm.trans ev77262, show a2 = 0 by omega, ac_2_0]; (try rw [ev77426]); all_goals (first | rfl | omega | (unfold w32 at *; omega)), by rw [show h.2.2 60 (a1).toNat = 2 from (k77250.v rfl).symm.trans ((ev77261).trans (by omega)), show a2 = 0 by omega, tr_2_0]; exact ⟨(((jw_eq e77425))), (((jw_ne e77425 (Or.inl (by decide))).trans (jw_eq e77424))), trivial⟩⟩⟩
          · refine ev_iload_n rfl ?_
            refine ev_ifne f367_37 (fun c77427 => ?_) (fun c77427 => ?_)
            · refine ev_iload_n rfl ?_
              refine ev_iconst ?_
              refine ev_icmpne f367_51 (fun c77428 => ?_) (fun c77428 => ?_)
              · refine ev_iload_n rfl ?_
                refine ev_iconst ?_
                refine ev_icmpne f367_65 (fun c77429 => ?_) (fun c77429 => ?_)
                · refine ev_aload_n rfl ?_
                  refine ev_iload_n rfl ?_
                  refine ev_iload_n rfl ?_
                  refine ev_in (d := 7) (a := 0) (b := 0) (cd' := c366_0) (m := 3) (L0 := [(2, 42), (0, a1), (0, a3)]) (jcall_v (A := [(0, a3), (0, a1)]) (S' := []) (r := 42) rfl (g77250.lt ad42) (g77250.tg ad42) (Nat.le_of_ble_eq_true rfl)) (by decide) ml366 pp366 (Nat.le_of_ble_eq_true rfl) rfl (by decide) (by decide) ?_
                  refine ev_aload_n rfl ?_
                  refine g_getp (r := 42) (c := 60) g77250 ad42 (by decide) (by decide) rf42_29 ft12_29 ?_
                  refine ev_iload_n rfl ?_
                  refine g_ialdv (v := v77261) g77250 ad60 (by omega) (by omega) (ev77261) ?_
                  refine ev_iconst ?_
                  refine ev_icmpne f366_25 (fun c77430 => absurd c77430 (by omega)) (fun c77430 => ?_)
                  refine ev_aload_n rfl ?_
                  refine ev_bipush ?_
                  refine ev_in (d := 6) (a := 0) (b := 0) (cd' := c356_0) (m := 2) (L0 := [(2, 42), (0, 41)]) (jcall_v (A := [(0, 41)]) (S' := []) (r := 42) rfl (g77250.lt ad42) (g77250.tg ad42) (Nat.le_of_ble_eq_true rfl)) (by decide) ml356 pp356 (Nat.le_of_ble_eq_true rfl) rfl (by decide) (by decide) ?_
                  refine ev_aload_n rfl ?_
                  refine g_getv (r := 42) (v := 0) g77250 ad42 (by decide) ft12_60 ((jw_eq e77250)) ?_
                  refine ev_bipush ?_
                  refine ev_icmpge f356_19 (fun c77431 => absurd c77431 (by omega)) (fun c77431 => ?_)
                  refine ev_aload_n rfl ?_
                  refine g_getp (r := 42) (c := 78) g77250 ad42 (by decide) (by decide) rf42_61 ft12_61 ?_
                  refine ev_aload_n rfl ?_
                  refine g_getv (r := 42) (v := 0) g77250 ad42 (by decide) ft12_60 ((jw_eq e77250)) ?_
                  refine ev_iload_n rfl ?_
                  refine g_iast g77250 ad78 rt78 (fun _ => rfl) (by omega) (by omega) (by omega) (by omega) (fun h77432 e77432 g77432 => ?_)
                  have k77432 := k77250.wr e77432 rfl
                  refine ev_aload_n rfl ?_
                  refine ev_dup (by decide) ?_
                  refine g_getv (r := 42) (v := 0) g77432 ad42 (by decide) ft12_60 (((jw_ne e77432 (Or.inl (by decide))).trans (jw_eq e77250))) ?_
                  refine ev_iconst ?_
                  refine ev_iadd (r := 1) (by decide) ?_
                  refine g_putf (r := 42) g77432 ad42 (by decide) ft12_60 (by decide) (fun e => absurd e nz12_60) rf42_60 (by decide) (by omega) (by omega) (fun h77433 e77433 g77433 => ?_)
                  have k77433 := k77432.wr e77433 rfl
                  refine ev_ret rfl (by decide) (by decide) ?_
                  show jEv _ _ _ _ _ _ _ (_, [(2, 42), (0, a1), (0, a3)], [], _, _, _)
                  refine ev_aload_n rfl ?_
                  refine ev_iload_n rfl ?_
                  refine ev_iload_n rfl ?_
                  refine ev_iconst ?_
                  refine g_iaddG (fun v77434 ev77434 lv77434 uv77434 => ?_)
                  refine ev_in (d := 6) (a := 0) (b := 0) (cd' := c365_0) (m := 4) (L0 := [(2, 42), (0, a1), (0, v77434), (9, 0)]) (jcall_v (A := [(0, v77434), (0, a1)]) (S' := []) (r := 42) rfl (g77433.lt ad42) (g77433.tg ad42) (Nat.le_of_ble_eq_true rfl)) (by decide) ml365 pp365 (Nat.le_of_ble_eq_true rfl) rfl (by decide) (by decide) ?_
                  refine ev_aload_n rfl ?_
                  refine ev_iconst ?_
                  refine ev_in (d := 5) (a := 0) (b := 0) (cd' := c356_0) (m := 2) (L0 := [(2, 42), (0, 2)]) (jcall_v (A := [(0, 2)]) (S' := []) (r := 42) rfl (g77433.lt ad42) (g77433.tg ad42) (Nat.le_of_ble_eq_true rfl)) (by decide) ml356 pp356 (Nat.le_of_ble_eq_true rfl) rfl (by decide) (by decide) ?_
                  refine ev_aload_n rfl ?_
                  refine g_getv (r := 42) (v := 1) g77433 ad42 (by decide) ft12_60 ((jw_eq e77433)) ?_
                  refine ev_bipush ?_
                  refine ev_icmpge f356_19 (fun c77435 => absurd c77435 (by omega)) (fun c77435 => ?_)
                  refine ev_aload_n rfl ?_
                  refine g_getp (r := 42) (c := 78) g77433 ad42 (by decide) (by decide) rf42_61 ft12_61 ?_
                  refine ev_aload_n rfl ?_
                  refine g_getv (r := 42) (v := 1) g77433 ad42 (by decide) ft12_60 ((jw_eq e77433)) ?_
                  refine ev_iload_n rfl ?_
                  refine g_iast g77433 ad78 rt78 (fun _ => rfl) (by omega) (by omega) (by omega) (by omega) (fun h77436 e77436 g77436 => ?_)
                  have k77436 := k77433.wr e77436 rfl
                  refine ev_aload_n rfl ?_
                  refine ev_dup (by decide) ?_
                  refine g_getv (r := 42) (v := 1) g77436 ad42 (by decide) ft12_60 (((jw_ne e77436 (Or.inl (by decide))).trans (jw_eq e77433))) ?_
                  refine ev_iconst ?_
                  refine ev_iadd (r := 2) (by decide) ?_
                  refine g_putf (r := 42) g77436 ad42 (by decide) ft12_60 (by decide) (fun e => absurd e nz12_60) rf42_60 (by decide) (by omega) (by omega) (fun h77437 e77437 g77437 => ?_)
                  have k77437 := k77436.wr e77437 rfl
                  refine ev_ret rfl (by decide) (by decide) ?_
                  show jEv _ _ _ _ _ _ _ (_, [(2, 42), (0, a1), (0, v77434), (9, 0)], [], _, _, _)
                  refine ev_aload_n rfl ?_
                  refine ev_iload_n rfl ?_
                  refine ev_iload_n rfl ?_
                  refine ev_in (d := 5) (a := 0) (b := 0) (cd' := c362_0) (m := 4) (L0 := [(2, 42), (0, a1), (0, v77434), (9, 0)]) (jcall_v (A := [(0, v77434), (0, a1)]) (S' := []) (r := 42) rfl (g77437.lt ad42) (g77437.tg ad42) (Nat.le_of_ble_eq_true rfl)) (by decide) ml362 pp362 (Nat.le_of_ble_eq_true rfl) rfl (by decide) (by decide) ?_
                  refine ev_aload_n rfl ?_
                  refine g_getp (r := 42) (c := 60) g77437 ad42 (by decide) (by decide) rf42_29 ft12_29 ?_
                  refine ev_iload_n rfl ?_
                  refine g_ialdv (v := v77261) g77437 ad60 (by omega) (by omega) (((jw_ne e77437 (Or.inl (by decide))).trans ((jw_ne e77436 (Or.inl (by decide))).trans ((jw_ne e77433 (Or.inl (by decide))).trans ((jw_ne e77432 (Or.inl (by decide))).trans ev77261))))) ?_
                  refine ev_iconst ?_
                  refine ev_icmpne f362_32 (fun c77438 => absurd c77438 (by omega)) (fun c77438 => ?_)
                  refine ev_aload_n rfl ?_
                  refine ev_bipush ?_
                  refine ev_in (d := 4) (a := 0) (b := 0) (cd' := c356_0) (m := 2) (L0 := [(2, 42), (0, 40)]) (jcall_v (A := [(0, 40)]) (S' := []) (r := 42) rfl (g77437.lt ad42) (g77437.tg ad42) (Nat.le_of_ble_eq_true rfl)) (by decide) ml356 pp356 (Nat.le_of_ble_eq_true rfl) rfl (by decide) (by decide) ?_
                  refine ev_aload_n rfl ?_
                  refine g_getv (r := 42) (v := 2) g77437 ad42 (by decide) ft12_60 ((jw_eq e77437)) ?_
                  refine ev_bipush ?_
                  refine ev_icmpge f356_19 (fun c77439 => absurd c77439 (by omega)) (fun c77439 => ?_)
                  refine ev_aload_n rfl ?_
                  refine g_getp (r := 42) (c := 78) g77437 ad42 (by decide) (by decide) rf42_61 ft12_61 ?_
                  refine ev_aload_n rfl ?_
                  refine g_getv (r := 42) (v := 2) g77437 ad42 (by decide) ft12_60 ((jw_eq e77437)) ?_
                  refine ev_iload_n rfl ?_
                  refine g_iast g77437 ad78 rt78 (fun _ => rfl) (by omega) (by omega) (by omega) (by omega) (fun h77440 e77440 g77440 => ?_)
                  have k77440 := k77437.wr e77440 rfl
                  refine ev_aload_n rfl ?_
                  refine ev_dup (by decide) ?_
                  refine g_getv (r := 42) (v := 2) g77440 ad42 (by decide) ft12_60 (((jw_ne e77440 (Or.inl (by decide))).trans (jw_eq e77437))) ?_
                  refine ev_iconst ?_
                  refine ev_iadd (r := 3) (by decide) ?_
                  refine g_putf (r := 42) g77440 ad42 (by decide) ft12_60 (by decide) (fun e => absurd e nz12_60) rf42_60 (by decide) (by omega) (by omega) (fun h77441 e77441 g77441 => ?_)
                  have k77441 := k77440.wr e77441 rfl
                  refine ev_ret rfl (by decide) (by decide) ?_
                  show jEv _ _ _ _ _ _ _ (_, [(2, 42), (0, a1), (0, v77434), (9, 0)], [], _, _, _)
                  refine ev_aload_n rfl ?_
                  refine ev_iload_n rfl ?_
                  refine ev_iload_n rfl ?_
                  refine ev_in (d := 4) (a := 0) (b := 0) (cd' := c361_0) (m := 3) (L0 := [(2, 42), (0, a1), (0, v77434)]) (jcall_v (A := [(0, v77434), (0, a1)]) (S' := []) (r := 42) rfl (g77441.lt ad42) (g77441.tg ad42) (Nat.le_of_ble_eq_true rfl)) (by decide) ml361 pp361 (Nat.le_of_ble_eq_true rfl) rfl (by decide) (by decide) ?_
                  refine ev_aload_n rfl ?_
                  refine ev_bipush ?_
                  refine ev_in (d := 3) (a := 0) (b := 0) (cd' := c356_0) (m := 2) (L0 := [(2, 42), (0, 20)]) (jcall_v (A := [(0, 20)]) (S' := []) (r := 42) rfl (g77441.lt ad42) (g77441.tg ad42) (Nat.le_of_ble_eq_true rfl)) (by decide) ml356 pp356 (Nat.le_of_ble_eq_true rfl) rfl (by decide) (by decide) ?_
                  refine ev_aload_n rfl ?_
                  refine g_getv (r := 42) (v := 3) g77441 ad42 (by decide) ft12_60 ((jw_eq e77441)) ?_
                  refine ev_bipush ?_
                  refine ev_icmpge f356_19 (fun c77442 => absurd c77442 (by omega)) (fun c77442 => ?_)
                  refine ev_aload_n rfl ?_
                  refine g_getp (r := 42) (c := 78) g77441 ad42 (by decide) (by decide) rf42_61 ft12_61 ?_
                  refine ev_aload_n rfl ?_
                  refine g_getv (r := 42) (v := 3) g77441 ad42 (by decide) ft12_60 ((jw_eq e77441)) ?_
                  refine ev_iload_n rfl ?_
                  refine g_iast g77441 ad78 rt78 (fun _ => rfl) (by omega) (by omega) (by omega) (by omega) (fun h77443 e77443 g77443 => ?_)
                  have k77443 := k77441.wr e77443 rfl
                  refine ev_aload_n rfl ?_
                  refine ev_dup (by decide) ?_
                  refine g_getv (r := 42) (v := 3) g77443 ad42 (by decide) ft12_60 (((jw_ne e77443 (Or.inl (by decide))).trans (jw_eq e77441))) ?_
                  refine ev_iconst ?_
                  refine ev_iadd (r := 4) (by decide) ?_
                  refine g_putf (r := 42) g77443 ad42 (by decide) ft12_60 (by decide) (fun e => absurd e nz12_60) rf42_60 (by decide) (by omega) (by omega) (fun h77444 e77444 g77444 => ?_)
                  have k77444 := k77443.wr e77444 rfl
                  refine ev_ret rfl (by decide) (by decide) ?_
                  show jEv _ _ _ _ _ _ _ (_, [(2, 42), (0, a1), (0, v77434)], [], _, _, _)
                  refine ev_aload_n rfl ?_
                  refine ev_iload_n rfl ?_
                  refine ev_iload_n rfl ?_
                  refine ev_in (d := 3) (a := 0) (b := 0) (cd' := c360_0) (m := 3) (L0 := [(2, 42), (0, a1), (0, v77434)]) (jcall_v (A := [(0, v77434), (0, a1)]) (S' := []) (r := 42) rfl (g77444.lt ad42) (g77444.tg ad42) (Nat.le_of_ble_eq_true rfl)) (by decide) ml360 pp360 (Nat.le_of_ble_eq_true rfl) rfl (by decide) (by decide) ?_
                  refine ev_aload_n rfl ?_
                  refine ev_bipush ?_
                  refine ev_in (d := 2) (a := 0) (b := 0) (cd' := c356_0) (m := 2) (L0 := [(2, 42), (0, 10)]) (jcall_v (A := [(0, 10)]) (S' := []) (r := 42) rfl (g77444.lt ad42) (g77444.tg ad42) (Nat.le_of_ble_eq_true rfl)) (by decide) ml356 pp356 (Nat.le_of_ble_eq_true rfl) rfl (by decide) (by decide) ?_
                  refine ev_aload_n rfl ?_
                  refine g_getv (r := 42) (v := 4) g77444 ad42 (by decide) ft12_60 ((jw_eq e77444)) ?_
                  refine ev_bipush ?_
                  refine ev_icmpge f356_19 (fun c77445 => absurd c77445 (by omega)) (fun c77445 => ?_)
                  refine ev_aload_n rfl ?_
                  refine g_getp (r := 42) (c := 78) g77444 ad42 (by decide) (by decide) rf42_61 ft12_61 ?_
                  refine ev_aload_n rfl ?_
                  refine g_getv (r := 42) (v := 4) g77444 ad42 (by decide) ft12_60 ((jw_eq e77444)) ?_
                  refine ev_iload_n rfl ?_
                  refine g_iast g77444 ad78 rt78 (fun _ => rfl) (by omega) (by omega) (by omega) (by omega) (fun h77446 e77446 g77446 => ?_)
                  have k77446 := k77444.wr e77446 rfl
                  refine ev_aload_n rfl ?_
                  refine ev_dup (by decide) ?_
                  refine g_getv (r := 42) (v := 4) g77446 ad42 (by decide) ft12_60 (((jw_ne e77446 (Or.inl (by decide))).trans (jw_eq e77444))) ?_
                  refine ev_iconst ?_
                  refine ev_iadd (r := 5) (by decide) ?_
                  refine g_putf (r := 42) g77446 ad42 (by decide) ft12_60 (by decide) (fun e => absurd e nz12_60) rf42_60 (by decide) (by omega) (by omega) (fun h77447 e77447 g77447 => ?_)
                  have k77447 := k77446.wr e77447 rfl
                  refine ev_ret rfl (by decide) (by decide) ?_
                  show jEv _ _ _ _ _ _ _ (_, [(2, 42), (0, a1), (0, v77434)], [], _, _, _)
                  refine ev_aload_n rfl ?_
                  refine ev_iload_n rfl ?_
                  refine ev_iload_n rfl ?_
                  refine ev_in (d := 2) (a := 0) (b := 0) (cd' := c359_0) (m := 3) (L0 := [(2, 42), (0, a1), (0, v77434)]) (jcall_v (A := [(0, v77434), (0, a1)]) (S' := []) (r := 42) rfl (g77447.lt ad42) (g77447.tg ad42) (Nat.le_of_ble_eq_true rfl)) (by decide) ml359 pp359 (Nat.le_of_ble_eq_true rfl) rfl (by decide) (by decide) ?_
                  refine ev_aload_n rfl ?_
                  refine g_getp (r := 42) (c := 60) g77447 ad42 (by decide) (by decide) rf42_29 ft12_29 ?_
                  refine ev_iload_n rfl ?_
                  refine g_ialdv (v := v77261) g77447 ad60 (by omega) (by omega) (((jw_ne e77447 (Or.inl (by decide))).trans ((jw_ne e77446 (Or.inl (by decide))).trans ((jw_ne e77444 (Or.inl (by decide))).trans ((jw_ne e77443 (Or.inl (by decide))).trans ((jw_ne e77441 (Or.inl (by decide))).trans ((jw_ne e77440 (Or.inl (by decide))).trans ((jw_ne e77437 (Or.inl (by decide))).trans ((jw_ne e77436 (Or.inl (by decide))).trans ((jw_ne e77433 (Or.inl (by decide))).trans ((jw_ne e77432 (Or.inl (by decide))).trans ev77261))))))))))) ?_
                  refine ev_iconst ?_
                  refine ev_icmpne f359_24 (fun c77448 => ?_) (fun c77448 => absurd c77448 (by omega))
                  refine ev_aload_n rfl ?_
                  refine g_getp (r := 42) (c := 60) g77447 ad42 (by decide) (by decide) rf42_29 ft12_29 ?_
                  refine ev_iload_n rfl ?_
                  refine g_ialdv (v := v77261) g77447 ad60 (by omega) (by omega) (((jw_ne e77447 (Or.inl (by decide))).trans ((jw_ne e77446 (Or.inl (by decide))).trans ((jw_ne e77444 (Or.inl (by decide))).trans ((jw_ne e77443 (Or.inl (by decide))).trans ((jw_ne e77441 (Or.inl (by decide))).trans ((jw_ne e77440 (Or.inl (by decide))).trans ((jw_ne e77437 (Or.inl (by decide))).trans ((jw_ne e77436 (Or.inl (by decide))).trans ((jw_ne e77433 (Or.inl (by decide))).trans ((jw_ne e77432 (Or.inl (by decide))).trans ev77261))))))))))) ?_
                  refine ev_iconst ?_
                  refine ev_icmpne f359_43 (fun c77449 => ?_) (fun c77449 => absurd c77449 (by omega))
                  refine ev_aload_n rfl ?_
                  refine ev_iload_n rfl ?_
                  refine ev_iload_n rfl ?_
                  refine ev_in (d := 1) (a := 0) (b := 0) (cd' := c357_0) (m := 3) (L0 := [(2, 42), (0, a1), (0, v77434)]) (jcall_v (A := [(0, v77434), (0, a1)]) (S' := []) (r := 42) rfl (g77447.lt ad42) (g77447.tg ad42) (Nat.le_of_ble_eq_true rfl)) (by decide) ml357 pp357 (Nat.le_of_ble_eq_true rfl) rfl (by decide) (by decide) ?_
                  refine ev_aload_n rfl ?_
                  refine ev_iconst ?_
                  refine ev_in (d := 0) (a := 0) (b := 0) (cd' := c356_0) (m := 2) (L0 := [(2, 42), (0, 1)]) (jcall_v (A := [(0, 1)]) (S' := []) (r := 42) rfl (g77447.lt ad42) (g77447.tg ad42) (Nat.le_of_ble_eq_true rfl)) (by decide) ml356 pp356 (Nat.le_of_ble_eq_true rfl) rfl (by decide) (by decide) ?_
                  refine ev_aload_n rfl ?_
                  refine g_getv (r := 42) (v := 5) g77447 ad42 (by decide) ft12_60 ((jw_eq e77447)) ?_
                  refine ev_bipush ?_
                  refine ev_icmpge f356_19 (fun c77450 => absurd c77450 (by omega)) (fun c77450 => ?_)
                  refine ev_aload_n rfl ?_
                  refine g_getp (r := 42) (c := 78) g77447 ad42 (by decide) (by decide) rf42_61 ft12_61 ?_
                  refine ev_aload_n rfl ?_
                  refine g_getv (r := 42) (v := 5) g77447 ad42 (by decide) ft12_60 ((jw_eq e77447)) ?_
                  refine ev_iload_n rfl ?_
                  refine g_iast g77447 ad78 rt78 (fun _ => rfl) (by omega) (by omega) (by omega) (by omega) (fun h77451 e77451 g77451 => ?_)
                  have k77451 := k77447.wr e77451 rfl
                  refine ev_aload_n rfl ?_
                  refine ev_dup (by decide) ?_
                  refine g_getv (r := 42) (v := 5) g77451 ad42 (by decide) ft12_60 (((jw_ne e77451 (Or.inl (by decide))).trans (jw_eq e77447))) ?_
                  refine ev_iconst ?_
                  refine ev_iadd (r := 6) (by decide) ?_
                  refine g_putf (r := 42) g77451 ad42 (by decide) ft12_60 (by decide) (fun e => absurd e nz12_60) rf42_60 (by decide) (by omega) (by omega) (fun h77452 e77452 g77452 => ?_)
                  have k77452 := k77451.wr e77452 rfl
                  refine ev_ret rfl (by decide) (by decide) ?_
                  show jEv _ _ _ _ _ _ _ (_, [(2, 42), (0, a1), (0, v77434)], [], _, _, _)
                  refine ev_iload_n rfl ?_
                  refine ev_iload_n rfl ?_
                  refine g_iaddG (fun v77453 ev77453 lv77453 uv77453 => ?_)
                  refine ev_ret rfl (by decide) (by decide) ?_
                  show jEv _ _ _ _ _ _ _ (_, [(2, 42), (0, a1), (0, v77434)], [(0, v77453)], _, _, _)
                  refine ev_ret rfl (by decide) (by decide) ?_
                  show jEv _ _ _ _ _ _ _ (_, [(2, 42), (0, a1), (0, v77434)], [(0, v77453)], _, _, _)
                  refine ev_iconst ?_
                  refine g_imulG (fun v77454 ev77454 lv77454 uv77454 => ?_)
                  refine ev_ret rfl (by decide) (by decide) ?_
                  show jEv _ _ _ _ _ _ _ (_, [(2, 42), (0, a1), (0, v77434)], [(0, v77454)], _, _, _)
                  refine ev_iconst ?_
                  refine g_isubG (fun v77455 ev77455 lv77455 uv77455 => ?_)
                  refine ev_ret rfl (by decide) (by decide) ?_
                  show jEv _ _ _ _ _ _ _ (_, [(2, 42), (0, a1), (0, v77434), (9, 0)], [(0, v77455)], _, _, _)
                  refine ev_istore_n (L' := [(2, 42), (0, a1), (0, v77434), (0, v77455)]) (Nat.le_of_ble_eq_true rfl) rfl ?_
                  refine ev_iload_n rfl ?_
                  refine ev_aload_n rfl ?_
                  refine ev_iload_n rfl ?_
                  refine ev_iconst ?_
                  refine ev_in (d := 4) (a := 0) (b := 0) (cd' := c364_0) (m := 4) (L0 := [(2, 42), (0, a1), (0, 2), (9, 0)]) (jcall_v (A := [(0, 2), (0, a1)]) (S' := [(0, v77455)]) (r := 42) rfl (g77452.lt ad42) (g77452.tg ad42) (Nat.le_of_ble_eq_true rfl)) (by decide) ml364 pp364 (Nat.le_of_ble_eq_true rfl) rfl (by decide) (by decide) ?_
                  refine ev_aload_n rfl ?_
                  refine g_getp (r := 42) (c := 60) g77452 ad42 (by decide) (by decide) rf42_29 ft12_29 ?_
                  refine ev_iload_n rfl ?_
                  refine g_ialdv (v := v77261) g77452 ad60 (by omega) (by omega) (((jw_ne e77452 (Or.inl (by decide))).trans ((jw_ne e77451 (Or.inl (by decide))).trans ((jw_ne e77447 (Or.inl (by decide))).trans ((jw_ne e77446 (Or.inl (by decide))).trans ((jw_ne e77444 (Or.inl (by decide))).trans ((jw_ne e77443 (Or.inl (by decide))).trans ((jw_ne e77441 (Or.inl (by decide))).trans ((jw_ne e77440 (Or.inl (by decide))).trans ((jw_ne e77437 (Or.inl (by decide))).trans ((jw_ne e77436 (Or.inl (by decide))).trans ((jw_ne e77433 (Or.inl (by decide))).trans ((jw_ne e77432 (Or.inl (by decide))).trans ev77261))))))))))))) ?_
                  refine ev_iconst ?_
                  refine ev_icmpne f364_25 (fun c77456 => ?_) (fun c77456 => absurd c77456 (by omega))
                  refine ev_aload_n rfl ?_
                  refine g_getp (r := 42) (c := 60) g77452 ad42 (by decide) (by decide) rf42_29 ft12_29 ?_
                  refine ev_iload_n rfl ?_
                  refine g_ialdv (v := v77261) g77452 ad60 (by omega) (by omega) (((jw_ne e77452 (Or.inl (by decide))).trans ((jw_ne e77451 (Or.inl (by decide))).trans ((jw_ne e77447 (Or.inl (by decide))).trans ((jw_ne e77446 (Or.inl (by decide))).trans ((jw_ne e77444 (Or.inl (by decide))).trans ((jw_ne e77443 (Or.inl (by decide))).trans ((jw_ne e77441 (Or.inl (by decide))).trans ((jw_ne e77440 (Or.inl (by decide))).trans ((jw_ne e77437 (Or.inl (by decide))).trans ((jw_ne e77436 (Or.inl (by decide))).trans ((jw_ne e77433 (Or.inl (by decide))).trans ((jw_ne e77432 (Or.inl (by decide))).trans ev77261))))))))))))) ?_
                  refine ev_iconst ?_
                  refine ev_icmpne f364_57 (fun c77457 => ?_) (fun c77457 => absurd c77457 (by omega))
                  refine ev_aload_n rfl ?_
                  refine ev_iload_n rfl ?_
                  refine ev_iload_n rfl ?_
                  refine ev_in (d := 3) (a := 0) (b := 0) (cd' := c363_0) (m := 3) (L0 := [(2, 42), (0, a1), (0, 2)]) (jcall_v (A := [(0, 2), (0, a1)]) (S' := []) (r := 42) rfl (g77452.lt ad42) (g77452.tg ad42) (Nat.le_of_ble_eq_true rfl)) (by decide) ml363 pp363 (Nat.le_of_ble_eq_true rfl) rfl (by decide) (by decide) ?_
                  refine ev_aload_n rfl ?_
                  refine ev_bipush ?_
                  refine ev_in (d := 2) (a := 0) (b := 0) (cd' := c356_0) (m := 2) (L0 := [(2, 42), (0, 11)]) (jcall_v (A := [(0, 11)]) (S' := []) (r := 42) rfl (g77452.lt ad42) (g77452.tg ad42) (Nat.le_of_ble_eq_true rfl)) (by decide) ml356 pp356 (Nat.le_of_ble_eq_true rfl) rfl (by decide) (by decide) ?_
                  refine ev_aload_n rfl ?_
                  refine g_getv (r := 42) (v := 6) g77452 ad42 (by decide) ft12_60 ((jw_eq e77452)) ?_
                  refine ev_bipush ?_
                  refine ev_icmpge f356_19 (fun c77458 => absurd c77458 (by omega)) (fun c77458 => ?_)
                  refine ev_aload_n rfl ?_
                  refine g_getp (r := 42) (c := 78) g77452 ad42 (by decide) (by decide) rf42_61 ft12_61 ?_
                  refine ev_aload_n rfl ?_
                  refine g_getv (r := 42) (v := 6) g77452 ad42 (by decide) ft12_60 ((jw_eq e77452)) ?_
                  refine ev_iload_n rfl ?_
                  refine g_iast g77452 ad78 rt78 (fun _ => rfl) (by omega) (by omega) (by omega) (by omega) (fun h77459 e77459 g77459 => ?_)
                  have k77459 := k77452.wr e77459 rfl
                  refine ev_aload_n rfl ?_
                  refine ev_dup (by decide) ?_
                  refine g_getv (r := 42) (v := 6) g77459 ad42 (by decide) ft12_60 (((jw_ne e77459 (Or.inl (by decide))).trans (jw_eq e77452))) ?_
                  refine ev_iconst ?_
                  refine ev_iadd (r := 7) (by decide) ?_
                  refine g_putf (r := 42) g77459 ad42 (by decide) ft12_60 (by decide) (fun e => absurd e nz12_60) rf42_60 (by decide) (by omega) (by omega) (fun h77460 e77460 g77460 => ?_)
                  have k77460 := k77459.wr e77460 rfl
                  refine ev_ret rfl (by decide) (by decide) ?_
                  show jEv _ _ _ _ _ _ _ (_, [(2, 42), (0, a1), (0, 2)], [], _, _, _)
                  refine ev_iload_n rfl ?_
                  refine ev_iload_n rfl ?_
                  refine g_ixorB (k := 5) (hi := 31) (by decide) (by decide) (by omega) (by omega) (by omega) (by omega) (fun v77461 ev77461 lv77461 uv77461 => ?_)
                  refine ev_ret rfl (by decide) (by decide) ?_
                  show jEv _ _ _ _ _ _ _ (_, [(2, 42), (0, a1), (0, 2), (9, 0)], [(0, v77461)], _, _, _)
                  refine ev_ret rfl (by decide) (by decide) ?_
                  show jEv _ _ _ _ _ _ _ (_, [(2, 42), (0, a1), (0, v77434), (0, v77455)], [(0, v77461), (0, v77455)], _, _, _)
                  refine g_iaddG (fun v77462 ev77462 lv77462 uv77462 => ?_)
                  refine ev_ret rfl (by decide) (by decide) ?_
                  show jEv _ _ _ _ _ _ _ (_, [(2, 42), (0, a1), (0, v77434), (9, 0)], [(0, v77462)], _, _, _)
                  refine ev_istore_n (L' := [(2, 42), (0, a1), (0, v77434), (0, v77462)]) (Nat.le_of_ble_eq_true rfl) rfl ?_
                  refine ev_iload_n rfl ?_
                  refine ev_aload_n rfl ?_
                  refine ev_iload_n rfl ?_
                  refine ev_iconst ?_
                  refine ev_in (d := 5) (a := 0) (b := 0) (cd' := c364_0) (m := 4) (L0 := [(2, 42), (0, a1), (0, 1), (9, 0)]) (jcall_v (A := [(0, 1), (0, a1)]) (S' := [(0, v77462)]) (r := 42) rfl (g77460.lt ad42) (g77460.tg ad42) (Nat.le_of_ble_eq_true rfl)) (by decide) ml364 pp364 (Nat.le_of_ble_eq_true rfl) rfl (by decide) (by decide) ?_
                  refine ev_aload_n rfl ?_
                  refine g_getp (r := 42) (c := 60) g77460 ad42 (by decide) (by decide) rf42_29 ft12_29 ?_
                  refine ev_iload_n rfl ?_
                  refine g_ialdv (v := v77261) g77460 ad60 (by omega) (by omega) (((jw_ne e77460 (Or.inl (by decide))).trans ((jw_ne e77459 (Or.inl (by decide))).trans ((jw_ne e77452 (Or.inl (by decide))).trans ((jw_ne e77451 (Or.inl (by decide))).trans ((jw_ne e77447 (Or.inl (by decide))).trans ((jw_ne e77446 (Or.inl (by decide))).trans ((jw_ne e77444 (Or.inl (by decide))).trans ((jw_ne e77443 (Or.inl (by decide))).trans ((jw_ne e77441 (Or.inl (by decide))).trans ((jw_ne e77440 (Or.inl (by decide))).trans ((jw_ne e77437 (Or.inl (by decide))).trans ((jw_ne e77436 (Or.inl (by decide))).trans ((jw_ne e77433 (Or.inl (by decide))).trans ((jw_ne e77432 (Or.inl (by decide))).trans ev77261))))))))))))))) ?_
                  refine ev_iconst ?_
                  refine ev_icmpne f364_25 (fun c77463 => ?_) (fun c77463 => absurd c77463 (by omega))
                  refine ev_aload_n rfl ?_
                  refine g_getp (r := 42) (c := 60) g77460 ad42 (by decide) (by decide) rf42_29 ft12_29 ?_
                  refine ev_iload_n rfl ?_
                  refine g_ialdv (v := v77261) g77460 ad60 (by omega) (by omega) (((jw_ne e77460 (Or.inl (by decide))).trans ((jw_ne e77459 (Or.inl (by decide))).trans ((jw_ne e77452 (Or.inl (by decide))).trans ((jw_ne e77451 (Or.inl (by decide))).trans ((jw_ne e77447 (Or.inl (by decide))).trans ((jw_ne e77446 (Or.inl (by decide))).trans ((jw_ne e77444 (Or.inl (by decide))).trans ((jw_ne e77443 (Or.inl (by decide))).trans ((jw_ne e77441 (Or.inl (by decide))).trans ((jw_ne e77440 (Or.inl (by decide))).trans ((jw_ne e77437 (Or.inl (by decide))).trans ((jw_ne e77436 (Or.inl (by decide))).trans ((jw_ne e77433 (Or.inl (by decide))).trans ((jw_ne e77432 (Or.inl (by decide))).trans ev77261))))))))))))))) ?_
                  refine ev_iconst ?_
                  refine ev_icmpne f364_57 (fun c77464 => ?_) (fun c77464 => absurd c77464 (by omega))
                  refine ev_aload_n rfl ?_
                  refine ev_iload_n rfl ?_
                  refine ev_iload_n rfl ?_
                  refine ev_in (d := 4) (a := 0) (b := 0) (cd' := c363_0) (m := 3) (L0 := [(2, 42), (0, a1), (0, 1)]) (jcall_v (A := [(0, 1), (0, a1)]) (S' := []) (r := 42) rfl (g77460.lt ad42) (g77460.tg ad42) (Nat.le_of_ble_eq_true rfl)) (by decide) ml363 pp363 (Nat.le_of_ble_eq_true rfl) rfl (by decide) (by decide) ?_
                  refine ev_aload_n rfl ?_
                  refine ev_bipush ?_
                  refine ev_in (d := 3) (a := 0) (b := 0) (cd' := c356_0) (m := 2) (L0 := [(2, 42), (0, 11)]) (jcall_v (A := [(0, 11)]) (S' := []) (r := 42) rfl (g77460.lt ad42) (g77460.tg ad42) (Nat.le_of_ble_eq_true rfl)) (by decide) ml356 pp356 (Nat.le_of_ble_eq_true rfl) rfl (by decide) (by decide) ?_
                  refine ev_aload_n rfl ?_
                  refine g_getv (r := 42) (v := 7) g77460 ad42 (by decide) ft12_60 ((jw_eq e77460)) ?_
                  refine ev_bipush ?_
                  refine ev_icmpge f356_19 (fun c77465 => absurd c77465 (by omega)) (fun c77465 => ?_)
                  refine ev_aload_n rfl ?_
                  refine g_getp (r := 42) (c := 78) g77460 ad42 (by decide) (by decide) rf42_61 ft12_61 ?_
                  refine ev_aload_n rfl ?_
                  refine g_getv (r := 42) (v := 7) g77460 ad42 (by decide) ft12_60 ((jw_eq e77460)) ?_
                  refine ev_iload_n rfl ?_
                  refine g_iast g77460 ad78 rt78 (fun _ => rfl) (by omega) (by omega) (by omega) (by omega) (fun h77466 e77466 g77466 => ?_)
                  have k77466 := k77460.wr e77466 rfl
                  refine ev_aload_n rfl ?_
                  refine ev_dup (by decide) ?_
                  refine g_getv (r := 42) (v := 7) g77466 ad42 (by decide) ft12_60 (((jw_ne e77466 (Or.inl (by decide))).trans (jw_eq e77460))) ?_
                  refine ev_iconst ?_
                  refine ev_iadd (r := 8) (by decide) ?_
                  refine g_putf (r := 42) g77466 ad42 (by decide) ft12_60 (by decide) (fun e => absurd e nz12_60) rf42_60 (by decide) (by omega) (by omega) (fun h77467 e77467 g77467 => ?_)
                  have k77467 := k77466.wr e77467 rfl
                  refine ev_ret rfl (by decide) (by decide) ?_
                  show jEv _ _ _ _ _ _ _ (_, [(2, 42), (0, a1), (0, 1)], [], _, _, _)
                  refine ev_iload_n rfl ?_
                  refine ev_iload_n rfl ?_
                  refine g_ixorB (k := 5) (hi := 31) (by decide) (by decide) (by omega) (by omega) (by omega) (by omega) (fun v77468 ev77468 lv77468 uv77468 => ?_)
                  refine ev_ret rfl (by decide) (by decide) ?_
                  show jEv _ _ _ _ _ _ _ (_, [(2, 42), (0, a1), (0, 1), (9, 0)], [(0, v77468)], _, _, _)
                  refine ev_ret rfl (by decide) (by decide) ?_
                  show jEv _ _ _ _ _ _ _ (_, [(2, 42), (0, a1), (0, v77434), (0, v77462)], [(0, v77468), (0, v77462)], _, _, _)
                  refine g_isubG (fun v77469 ev77469 lv77469 uv77469 => ?_)
                  refine ev_ret rfl (by decide) (by decide) ?_
                  show jEv _ _ _ _ _ _ _ (_, [(2, 42), (0, a1), (0, a3)], [(0, v77469)], _, _, _)
                  refine ev_ret rfl (by decide) (by decide) ?_
                  show jEv _ _ _ _ _ _ _ (_, [(2, 42), (0, a1), (0, a2), (0, a3)], [(0, v77469)], _, _, _)
                  exact ev_ret rfl (by decide) (by decide) ⟨_, rfl, g77467, k77467, Or.inr ⟨(by unfold AV0; rw [ew0]; omega), by rw [show h.2.2 60 (a1).toNat = 3 from (k77250.v rfl).symm.trans ((ev77261).trans (by omega)), show h.2.2 61 (a1).toNat = v77262 from (k77250.v rfl).symm.trans ev77262, show a2 = 3 by omega, ac_3_3]; (try rw [ev77434]); (try rw [ev77453]); (try rw [ev77454]); (try rw [ev77455]); (try rw [ev77461]); (try rw [ev77462]); (try rw [ev77468]); (try rw [ev77469]); all_goals (first | rfl | omega | (unfold w32 at *; omega)), by rw [show h.2.2 60 (a1).toNat = 3 from (k77250.v rfl).symm.trans ((ev77261).trans (by omega)), show a2 = 3 by omega, tr_3_3]; exact ⟨(((jw_eq e77467))), (((jw_ne e77467 (Or.inl (by decide))).trans ((jw_ne e77466 (Or.inr (by decide))).trans ((jw_ne e77460 (Or.inl (by decide))).trans ((jw_ne e77459 (Or.inr (by decide))).trans ((jw_ne e77452 (Or.inl (by decide))).trans ((jw_ne e77451 (Or.inr (by decide))).trans ((jw_ne e77447 (Or.inl (by decide))).trans ((jw_ne e77446 (Or.inr (by decide))).trans ((jw_ne e77444 (Or.inl (by decide))).trans ((jw_ne e77443 (Or.inr (by decide))).trans ((jw_ne e77441 (Or.inl (by decide))).trans ((jw_ne e77440 (Or.inr (by decide))).trans ((jw_ne e77437 (Or.inl (by decide))).trans ((jw_ne e77436 (Or.inr (by decide))).trans ((jw_ne e77433 (Or.inl (by decide))).trans (jw_eq e77432))))))))))))))))), (((jw_ne e77467 (Or.inl (by decide))).trans ((jw_ne e77466 (Or.inr (by decide))).trans ((jw_ne e77460 (Or.inl (by decide))).trans ((jw_ne e77459 (Or.inr (by decide))).trans ((jw_ne e77452 (Or.inl (by decide))).trans ((jw_ne e77451 (Or.inr (by decide))).trans ((jw_ne e77447 (Or.inl (by decide))).trans ((jw_ne e77446 (Or.inr (by decide))).trans ((jw_ne e77444 (Or.inl (by decide))).trans ((jw_ne e77443 (Or.inr (by decide))).trans ((jw_ne e77441 (Or.inl (by decide))).trans ((jw_ne e77440 (Or.inr (by decide))).trans ((jw_ne e77437 (Or.inl (by decide))).trans (jw_eq e77436))))))))))))))), (((jw_ne e77467 (Or.inl (by decide))).trans ((jw_ne e77466 (Or.inr (by decide))).trans ((jw_ne e77460 (Or.inl (by decide))).trans ((jw_ne e77459 (Or.inr (by decide))).trans ((jw_ne e77452 (Or.inl (by decide))).trans ((jw_ne e77451 (Or.inr (by decide))).trans ((jw_ne e77447 (Or.inl (by decide))).trans ((jw_ne e77446 (Or.inr (by decide))).trans ((jw_ne e77444 (Or.inl (by decide))).trans ((jw_ne e77443 (Or.inr (by decide))).trans ((jw_ne e77441 (Or.inl (by decide))).trans (jw_eq e77440))))))))))))), (((jw_ne e77467 (Or.inl (by decide))).trans ((jw_ne e77466 (Or.inr (by decide))).trans ((jw_ne e77460 (Or.inl (by decide))).trans ((jw_ne e77459 (Or.inr (by decide))).trans ((jw_ne e77452 (Or.inl (by decide))).trans ((jw_ne e77451 (Or.inr (by decide))).trans ((jw_ne e77447 (Or.inl (by decide))).trans ((jw_ne e77446 (Or.inr (by decide))).trans ((jw_ne e77444 (Or.inl (by decide))).trans (jw_eq e77443))))))))))), (((jw_ne e77467 (Or.inl (by decide))).trans ((jw_ne e77466 (Or.inr (by decide))).trans ((jw_ne e77460 (Or.inl (by decide))).trans ((jw_ne e77459 (Or.inr (by decide))).trans ((jw_ne e77452 (Or.inl (by decide))).trans ((jw_ne e77451 (Or.inr (by decide))).trans ((jw_ne e77447 (Or.inl (by decide))).trans (jw_eq e77446))))))))), (((jw_ne e77467 (Or.inl (by decide))).trans ((jw_ne e77466 (Or.inr (by decide))).trans ((jw_ne e77460 (Or.inl (by decide))).trans ((jw_ne e77459 (Or.inr (by decide))).trans ((jw_ne e77452 (Or.inl (by decide))).trans (jw_eq e77451))))))), (((jw_ne e77467 (Or.inl (by decide))).trans ((jw_ne e77466 (Or.inr (by decide))).trans ((jw_ne e77460 (Or.inl (by decide))).trans (jw_eq e77459))))), (((jw_ne e77467 (Or.inl (by decide))).trans (jw_eq e77466))), trivial⟩⟩⟩
                · refine ev_aload_n rfl ?_
                  refine ev_iload_n rfl ?_
                  refine ev_iload_n rfl ?_
                  refine ev_in (d := 7) (a := 0) (b := 0) (cd' := c364_0) (m := 4) (L0 := [(2, 42), (0, a1), (0, a3), (9, 0)]) (jcall_v (A := [(0, a3), (0, a1)]) (S' := []) (r := 42) rfl (g77250.lt ad42) (g77250.tg ad42) (Nat.le_of_ble_eq_true rfl)) (by decide) ml364 pp364 (Nat.le_of_ble_eq_true rfl) rfl (by decide) (by decide) ?_
                  refine ev_aload_n rfl ?_
                  refine g_getp (r := 42) (c := 60) g77250 ad42 (by decide) (by decide) rf42_29 ft12_29 ?_
                  refine ev_iload_n rfl ?_
                  refine g_ialdv (v := v77261) g77250 ad60 (by omega) (by omega) (ev77261) ?_
                  refine ev_iconst ?_
                  refine ev_icmpne f364_25 (fun c77470 => ?_) (fun c77470 => absurd c77470 (by omega))
                  refine ev_aload_n rfl ?_
                  refine g_getp (r := 42) (c := 60) g77250 ad42 (by decide) (by decide) rf42_29 ft12_29 ?_
                  refine ev_iload_n rfl ?_
                  refine g_ialdv (v := v77261) g77250 ad60 (by omega) (by omega) (ev77261) ?_
                  refine ev_iconst ?_
                  refine ev_icmpne f364_57 (fun c77471 => ?_) (fun c77471 => absurd c77471 (by omega))
                  refine ev_aload_n rfl ?_
                  refine ev_iload_n rfl ?_
                  refine ev_iload_n rfl ?_
                  refine ev_in (d := 6) (a := 0) (b := 0) (cd' := c363_0) (m := 3) (L0 := [(2, 42), (0, a1), (0, a3)]) (jcall_v (A := [(0, a3), (0, a1)]) (S' := []) (r := 42) rfl (g77250.lt ad42) (g77250.tg ad42) (Nat.le_of_ble_eq_true rfl)) (by decide) ml363 pp363 (Nat.le_of_ble_eq_true rfl) rfl (by decide) (by decide) ?_
                  refine ev_aload_n rfl ?_
                  refine ev_bipush ?_
                  refine ev_in (d := 5) (a := 0) (b := 0) (cd' := c356_0) (m := 2) (L0 := [(2, 42), (0, 11)]) (jcall_v (A := [(0, 11)]) (S' := []) (r := 42) rfl (g77250.lt ad42) (g77250.tg ad42) (Nat.le_of_ble_eq_true rfl)) (by decide) ml356 pp356 (Nat.le_of_ble_eq_true rfl) rfl (by decide) (by decide) ?_
                  refine ev_aload_n rfl ?_
                  refine g_getv (r := 42) (v := 0) g77250 ad42 (by decide) ft12_60 ((jw_eq e77250)) ?_
                  refine ev_bipush ?_
                  refine ev_icmpge f356_19 (fun c77472 => absurd c77472 (by omega)) (fun c77472 => ?_)
                  refine ev_aload_n rfl ?_
                  refine g_getp (r := 42) (c := 78) g77250 ad42 (by decide) (by decide) rf42_61 ft12_61 ?_
                  refine ev_aload_n rfl ?_
                  refine g_getv (r := 42) (v := 0) g77250 ad42 (by decide) ft12_60 ((jw_eq e77250)) ?_
                  refine ev_iload_n rfl ?_
                  refine g_iast g77250 ad78 rt78 (fun _ => rfl) (by omega) (by omega) (by omega) (by omega) (fun h77473 e77473 g77473 => ?_)
                  have k77473 := k77250.wr e77473 rfl
                  refine ev_aload_n rfl ?_
                  refine ev_dup (by decide) ?_
                  refine g_getv (r := 42) (v := 0) g77473 ad42 (by decide) ft12_60 (((jw_ne e77473 (Or.inl (by decide))).trans (jw_eq e77250))) ?_
                  refine ev_iconst ?_
                  refine ev_iadd (r := 1) (by decide) ?_
                  refine g_putf (r := 42) g77473 ad42 (by decide) ft12_60 (by decide) (fun e => absurd e nz12_60) rf42_60 (by decide) (by omega) (by omega) (fun h77474 e77474 g77474 => ?_)
                  have k77474 := k77473.wr e77474 rfl
                  refine ev_ret rfl (by decide) (by decide) ?_
                  show jEv _ _ _ _ _ _ _ (_, [(2, 42), (0, a1), (0, a3)], [], _, _, _)
                  refine ev_iload_n rfl ?_
                  refine ev_iload_n rfl ?_
                  refine g_ixorG (fun v77475 ev77475 lv77475 uv77475 => ?_)
                  refine ev_ret rfl (by decide) (by decide) ?_
                  show jEv _ _ _ _ _ _ _ (_, [(2, 42), (0, a1), (0, a3), (9, 0)], [(0, v77475)], _, _, _)
                  refine ev_ret rfl (by decide) (by decide) ?_
                  show jEv _ _ _ _ _ _ _ (_, [(2, 42), (0, a1), (0, a2), (0, a3)], [(0, v77475)], _, _, _)
                  refine ev_goto f367_71 ?_
                  exact ev_ret rfl (by decide) (by decide) ⟨_, rfl, g77474, k77474, Or.inr ⟨(by unfold AV0; rw [ew0]; omega), by rw [show h.2.2 60 (a1).toNat = 3 from (k77250.v rfl).symm.trans ((ev77261).trans (by omega)), show h.2.2 61 (a1).toNat = v77262 from (k77250.v rfl).symm.trans ev77262, show a2 = 2 by omega, ac_3_2]; (try rw [ev77475]); all_goals (first | rfl | omega | (unfold w32 at *; omega)), by rw [show h.2.2 60 (a1).toNat = 3 from (k77250.v rfl).symm.trans ((ev77261).trans (by omega)), show a2 = 2 by omega, tr_3_2]; exact ⟨(((jw_eq e77474))), (((jw_ne e77474 (Or.inl (by decide))).trans (jw_eq e77473))), trivial⟩⟩⟩
              · refine ev_aload_n rfl ?_
                refine ev_iload_n rfl ?_
                refine ev_iload_n rfl ?_
                refine ev_in (d := 7) (a := 0) (b := 0) (cd' := c362_0) (m := 4) (L0 := [(2, 42), (0, a1), (0, a3), (9, 0)]) (jcall_v (A := [(0, a3), (0, a1)]) (S' := []) (r := 42) rfl (g77250.lt ad42) (g77250.tg ad42) (Nat.le_of_ble_eq_true rfl)) (by decide) ml362 pp362 (Nat.le_of_ble_eq_true rfl) rfl (by decide) (by decide) ?_
                refine ev_aload_n rfl ?_
                refine g_getp (r := 42) (c := 60) g77250 ad42 (by decide) (by decide) rf42_29 ft12_29 ?_
                refine ev_iload_n rfl ?_
                refine g_ialdv (v := v77261) g77250 ad60 (by omega) (by omega) (ev77261) ?_
                refine ev_iconst ?_
                refine ev_icmpne f362_32 (fun c77476 => absurd c77476 (by omega)) (fun c77476 => ?_)
                refine ev_aload_n rfl ?_
                refine ev_bipush ?_
                refine ev_in (d := 6) (a := 0) (b := 0) (cd' := c356_0) (m := 2) (L0 := [(2, 42), (0, 40)]) (jcall_v (A := [(0, 40)]) (S' := []) (r := 42) rfl (g77250.lt ad42) (g77250.tg ad42) (Nat.le_of_ble_eq_true rfl)) (by decide) ml356 pp356 (Nat.le_of_ble_eq_true rfl) rfl (by decide) (by decide) ?_
                refine ev_aload_n rfl ?_
                refine g_getv (r := 42) (v := 0) g77250 ad42 (by decide) ft12_60 ((jw_eq e77250)) ?_
                refine ev_bipush ?_
                refine ev_icmpge f356_19 (fun c77477 => absurd c77477 (by omega)) (fun c77477 => ?_)
                refine ev_aload_n rfl ?_
                refine g_getp (r := 42) (c := 78) g77250 ad42 (by decide) (by decide) rf42_61 ft12_61 ?_
                refine ev_aload_n rfl ?_
                refine g_getv (r := 42) (v := 0) g77250 ad42 (by decide) ft12_60 ((jw_eq e77250)) ?_
                refine ev_iload_n rfl ?_
                refine g_iast g77250 ad78 rt78 (fun _ => rfl) (by omega) (by omega) (by omega) (by omega) (fun h77478 e77478 g77478 => ?_)
                have k77478 := k77250.wr e77478 rfl
                refine ev_aload_n rfl ?_
                refine ev_dup (by decide) ?_
                refine g_getv (r := 42) (v := 0) g77478 ad42 (by decide) ft12_60 (((jw_ne e77478 (Or.inl (by decide))).trans (jw_eq e77250))) ?_
                refine ev_iconst ?_
                refine ev_iadd (r := 1) (by decide) ?_
                refine g_putf (r := 42) g77478 ad42 (by decide) ft12_60 (by decide) (fun e => absurd e nz12_60) rf42_60 (by decide) (by omega) (by omega) (fun h77479 e77479 g77479 => ?_)
                have k77479 := k77478.wr e77479 rfl
                refine ev_ret rfl (by decide) (by decide) ?_
                show jEv _ _ _ _ _ _ _ (_, [(2, 42), (0, a1), (0, a3), (9, 0)], [], _, _, _)
                refine ev_aload_n rfl ?_
                refine ev_iload_n rfl ?_
                refine ev_iload_n rfl ?_
                refine ev_in (d := 6) (a := 0) (b := 0) (cd' := c361_0) (m := 3) (L0 := [(2, 42), (0, a1), (0, a3)]) (jcall_v (A := [(0, a3), (0, a1)]) (S' := []) (r := 42) rfl (g77479.lt ad42) (g77479.tg ad42) (Nat.le_of_ble_eq_true rfl)) (by decide) ml361 pp361 (Nat.le_of_ble_eq_true rfl) rfl (by decide) (by decide) ?_
                refine ev_aload_n rfl ?_
                refine ev_bipush ?_
                refine ev_in (d := 5) (a := 0) (b := 0) (cd' := c356_0) (m := 2) (L0 := [(2, 42), (0, 20)]) (jcall_v (A := [(0, 20)]) (S' := []) (r := 42) rfl (g77479.lt ad42) (g77479.tg ad42) (Nat.le_of_ble_eq_true rfl)) (by decide) ml356 pp356 (Nat.le_of_ble_eq_true rfl) rfl (by decide) (by decide) ?_
                refine ev_aload_n rfl ?_
                refine g_getv (r := 42) (v := 1) g77479 ad42 (by decide) ft12_60 ((jw_eq e77479)) ?_
                refine ev_bipush ?_
                refine ev_icmpge f356_19 (fun c77480 => absurd c77480 (by omega)) (fun c77480 => ?_)
                refine ev_aload_n rfl ?_
                refine g_getp (r := 42) (c := 78) g77479 ad42 (by decide) (by decide) rf42_61 ft12_61 ?_
                refine ev_aload_n rfl ?_
                refine g_getv (r := 42) (v := 1) g77479 ad42 (by decide) ft12_60 ((jw_eq e77479)) ?_
                refine ev_iload_n rfl ?_
                refine g_iast g77479 ad78 rt78 (fun _ => rfl) (by omega) (by omega) (by omega) (by omega) (fun h77481 e77481 g77481 => ?_)
                have k77481 := k77479.wr e77481 rfl
                refine ev_aload_n rfl ?_
                refine ev_dup (by decide) ?_
                refine g_getv (r := 42) (v := 1) g77481 ad42 (by decide) ft12_60 (((jw_ne e77481 (Or.inl (by decide))).trans (jw_eq e77479))) ?_
                refine ev_iconst ?_
                refine ev_iadd (r := 2) (by decide) ?_
                refine g_putf (r := 42) g77481 ad42 (by decide) ft12_60 (by decide) (fun e => absurd e nz12_60) rf42_60 (by decide) (by omega) (by omega) (fun h77482 e77482 g77482 => ?_)
                have k77482 := k77481.wr e77482 rfl
                refine ev_ret rfl (by decide) (by decide) ?_
                show jEv _ _ _ _ _ _ _ (_, [(2, 42), (0, a1), (0, a3)], [], _, _, _)
                refine ev_aload_n rfl ?_
                refine ev_iload_n rfl ?_
                refine ev_iload_n rfl ?_
                refine ev_in (d := 5) (a := 0) (b := 0) (cd' := c360_0) (m := 3) (L0 := [(2, 42), (0, a1), (0, a3)]) (jcall_v (A := [(0, a3), (0, a1)]) (S' := []) (r := 42) rfl (g77482.lt ad42) (g77482.tg ad42) (Nat.le_of_ble_eq_true rfl)) (by decide) ml360 pp360 (Nat.le_of_ble_eq_true rfl) rfl (by decide) (by decide) ?_
                refine ev_aload_n rfl ?_
                refine ev_bipush ?_
                refine ev_in (d := 4) (a := 0) (b := 0) (cd' := c356_0) (m := 2) (L0 := [(2, 42), (0, 10)]) (jcall_v (A := [(0, 10)]) (S' := []) (r := 42) rfl (g77482.lt ad42) (g77482.tg ad42) (Nat.le_of_ble_eq_true rfl)) (by decide) ml356 pp356 (Nat.le_of_ble_eq_true rfl) rfl (by decide) (by decide) ?_
                refine ev_aload_n rfl ?_
                refine g_getv (r := 42) (v := 2) g77482 ad42 (by decide) ft12_60 ((jw_eq e77482)) ?_
                refine ev_bipush ?_
                refine ev_icmpge f356_19 (fun c77483 => absurd c77483 (by omega)) (fun c77483 => ?_)
                refine ev_aload_n rfl ?_
                refine g_getp (r := 42) (c := 78) g77482 ad42 (by decide) (by decide) rf42_61 ft12_61 ?_
                refine ev_aload_n rfl ?_
                refine g_getv (r := 42) (v := 2) g77482 ad42 (by decide) ft12_60 ((jw_eq e77482)) ?_
                refine ev_iload_n rfl ?_
                refine g_iast g77482 ad78 rt78 (fun _ => rfl) (by omega) (by omega) (by omega) (by omega) (fun h77484 e77484 g77484 => ?_)
                have k77484 := k77482.wr e77484 rfl
                refine ev_aload_n rfl ?_
                refine ev_dup (by decide) ?_
                refine g_getv (r := 42) (v := 2) g77484 ad42 (by decide) ft12_60 (((jw_ne e77484 (Or.inl (by decide))).trans (jw_eq e77482))) ?_
                refine ev_iconst ?_
                refine ev_iadd (r := 3) (by decide) ?_
                refine g_putf (r := 42) g77484 ad42 (by decide) ft12_60 (by decide) (fun e => absurd e nz12_60) rf42_60 (by decide) (by omega) (by omega) (fun h77485 e77485 g77485 => ?_)
                have k77485 := k77484.wr e77485 rfl
                refine ev_ret rfl (by decide) (by decide) ?_
                show jEv _ _ _ _ _ _ _ (_, [(2, 42), (0, a1), (0, a3)], [], _, _, _)
                refine ev_aload_n rfl ?_
                refine ev_iload_n rfl ?_
                refine ev_iload_n rfl ?_
                refine ev_in (d := 4) (a := 0) (b := 0) (cd' := c359_0) (m := 3) (L0 := [(2, 42), (0, a1), (0, a3)]) (jcall_v (A := [(0, a3), (0, a1)]) (S' := []) (r := 42) rfl (g77485.lt ad42) (g77485.tg ad42) (Nat.le_of_ble_eq_true rfl)) (by decide) ml359 pp359 (Nat.le_of_ble_eq_true rfl) rfl (by decide) (by decide) ?_
                refine ev_aload_n rfl ?_
                refine g_getp (r := 42) (c := 60) g77485 ad42 (by decide) (by decide) rf42_29 ft12_29 ?_
                refine ev_iload_n rfl ?_
                refine g_ialdv (v := v77261) g77485 ad60 (by omega) (by omega) (((jw_ne e77485 (Or.inl (by decide))).trans ((jw_ne e77484 (Or.inl (by decide))).trans ((jw_ne e77482 (Or.inl (by decide))).trans ((jw_ne e77481 (Or.inl (by decide))).trans ((jw_ne e77479 (Or.inl (by decide))).trans ((jw_ne e77478 (Or.inl (by decide))).trans ev77261))))))) ?_
                refine ev_iconst ?_
                refine ev_icmpne f359_24 (fun c77486 => ?_) (fun c77486 => absurd c77486 (by omega))
                refine ev_aload_n rfl ?_
                refine g_getp (r := 42) (c := 60) g77485 ad42 (by decide) (by decide) rf42_29 ft12_29 ?_
                refine ev_iload_n rfl ?_
                refine g_ialdv (v := v77261) g77485 ad60 (by omega) (by omega) (((jw_ne e77485 (Or.inl (by decide))).trans ((jw_ne e77484 (Or.inl (by decide))).trans ((jw_ne e77482 (Or.inl (by decide))).trans ((jw_ne e77481 (Or.inl (by decide))).trans ((jw_ne e77479 (Or.inl (by decide))).trans ((jw_ne e77478 (Or.inl (by decide))).trans ev77261))))))) ?_
                refine ev_iconst ?_
                refine ev_icmpne f359_43 (fun c77487 => ?_) (fun c77487 => absurd c77487 (by omega))
                refine ev_aload_n rfl ?_
                refine ev_iload_n rfl ?_
                refine ev_iload_n rfl ?_
                refine ev_in (d := 3) (a := 0) (b := 0) (cd' := c357_0) (m := 3) (L0 := [(2, 42), (0, a1), (0, a3)]) (jcall_v (A := [(0, a3), (0, a1)]) (S' := []) (r := 42) rfl (g77485.lt ad42) (g77485.tg ad42) (Nat.le_of_ble_eq_true rfl)) (by decide) ml357 pp357 (Nat.le_of_ble_eq_true rfl) rfl (by decide) (by decide) ?_
                refine ev_aload_n rfl ?_
                refine ev_iconst ?_
                refine ev_in (d := 2) (a := 0) (b := 0) (cd' := c356_0) (m := 2) (L0 := [(2, 42), (0, 1)]) (jcall_v (A := [(0, 1)]) (S' := []) (r := 42) rfl (g77485.lt ad42) (g77485.tg ad42) (Nat.le_of_ble_eq_true rfl)) (by decide) ml356 pp356 (Nat.le_of_ble_eq_true rfl) rfl (by decide) (by decide) ?_
                refine ev_aload_n rfl ?_
                refine g_getv (r := 42) (v := 3) g77485 ad42 (by decide) ft12_60 ((jw_eq e77485)) ?_
                refine ev_bipush ?_
                refine ev_icmpge f356_19 (fun c77488 => absurd c77488 (by omega)) (fun c77488 => ?_)
                refine ev_aload_n rfl ?_
                refine g_getp (r := 42) (c := 78) g77485 ad42 (by decide) (by decide) rf42_61 ft12_61 ?_
                refine ev_aload_n rfl ?_
                refine g_getv (r := 42) (v := 3) g77485 ad42 (by decide) ft12_60 ((jw_eq e77485)) ?_
                refine ev_iload_n rfl ?_
                refine g_iast g77485 ad78 rt78 (fun _ => rfl) (by omega) (by omega) (by omega) (by omega) (fun h77489 e77489 g77489 => ?_)
                have k77489 := k77485.wr e77489 rfl
                refine ev_aload_n rfl ?_
                refine ev_dup (by decide) ?_
                refine g_getv (r := 42) (v := 3) g77489 ad42 (by decide) ft12_60 (((jw_ne e77489 (Or.inl (by decide))).trans (jw_eq e77485))) ?_
                refine ev_iconst ?_
                refine ev_iadd (r := 4) (by decide) ?_
                refine g_putf (r := 42) g77489 ad42 (by decide) ft12_60 (by decide) (fun e => absurd e nz12_60) rf42_60 (by decide) (by omega) (by omega) (fun h77490 e77490 g77490 => ?_)
                have k77490 := k77489.wr e77490 rfl
                refine ev_ret rfl (by decide) (by decide) ?_
                show jEv _ _ _ _ _ _ _ (_, [(2, 42), (0, a1), (0, a3)], [], _, _, _)
                refine ev_iload_n rfl ?_
                refine ev_iload_n rfl ?_
                refine g_iaddG (fun v77491 ev77491 lv77491 uv77491 => ?_)
                refine ev_ret rfl (by decide) (by decide) ?_
                show jEv _ _ _ _ _ _ _ (_, [(2, 42), (0, a1), (0, a3)], [(0, v77491)], _, _, _)
                refine ev_ret rfl (by decide) (by decide) ?_
                show jEv _ _ _ _ _ _ _ (_, [(2, 42), (0, a1), (0, a3)], [(0, v77491)], _, _, _)
                refine ev_iconst ?_
                refine g_imulG (fun v77492 ev77492 lv77492 uv77492 => ?_)
                refine ev_ret rfl (by decide) (by decide) ?_
                show jEv _ _ _ _ _ _ _ (_, [(2, 42), (0, a1), (0, a3)], [(0, v77492)], _, _, _)
                refine ev_iconst ?_
                refine g_isubG (fun v77493 ev77493 lv77493 uv77493 => ?_)
                refine ev_ret rfl (by decide) (by decide) ?_
                show jEv _ _ _ _ _ _ _ (_, [(2, 42), (0, a1), (0, a3), (9, 0)], [(0, v77493)], _, _, _)
                refine ev_istore_n (L' := [(2, 42), (0, a1), (0, a3), (0, v77493)]) (Nat.le_of_ble_eq_true rfl) rfl ?_
                refine ev_iload_n rfl ?_
                refine ev_aload_n rfl ?_
                refine ev_iload_n rfl ?_
                refine ev_iconst ?_
                refine ev_in (d := 6) (a := 0) (b := 0) (cd' := c364_0) (m := 4) (L0 := [(2, 42), (0, a1), (0, 2), (9, 0)]) (jcall_v (A := [(0, 2), (0, a1)]) (S' := [(0, v77493)]) (r := 42) rfl (g77490.lt ad42) (g77490.tg ad42) (Nat.le_of_ble_eq_true rfl)) (by decide) ml364 pp364 (Nat.le_of_ble_eq_true rfl) rfl (by decide) (by decide) ?_
                refine ev_aload_n rfl ?_
                refine g_getp (r := 42) (c := 60) g77490 ad42 (by decide) (by decide) rf42_29 ft12_29 ?_
                refine ev_iload_n rfl ?_
                refine g_ialdv (v := v77261) g77490 ad60 (by omega) (by omega) (((jw_ne e77490 (Or.inl (by decide))).trans ((jw_ne e77489 (Or.inl (by decide))).trans ((jw_ne e77485 (Or.inl (by decide))).trans ((jw_ne e77484 (Or.inl (by decide))).trans ((jw_ne e77482 (Or.inl (by decide))).trans ((jw_ne e77481 (Or.inl (by decide))).trans ((jw_ne e77479 (Or.inl (by decide))).trans ((jw_ne e77478 (Or.inl (by decide))).trans ev77261))))))))) ?_
                refine ev_iconst ?_
                refine ev_icmpne f364_25 (fun c77494 => ?_) (fun c77494 => absurd c77494 (by omega))
                refine ev_aload_n rfl ?_
                refine g_getp (r := 42) (c := 60) g77490 ad42 (by decide) (by decide) rf42_29 ft12_29 ?_
                refine ev_iload_n rfl ?_
                refine g_ialdv (v := v77261) g77490 ad60 (by omega) (by omega) (((jw_ne e77490 (Or.inl (by decide))).trans ((jw_ne e77489 (Or.inl (by decide))).trans ((jw_ne e77485 (Or.inl (by decide))).trans ((jw_ne e77484 (Or.inl (by decide))).trans ((jw_ne e77482 (Or.inl (by decide))).trans ((jw_ne e77481 (Or.inl (by decide))).trans ((jw_ne e77479 (Or.inl (by decide))).trans ((jw_ne e77478 (Or.inl (by decide))).trans ev77261))))))))) ?_
                refine ev_iconst ?_
                refine ev_icmpne f364_57 (fun c77495 => ?_) (fun c77495 => absurd c77495 (by omega))
                refine ev_aload_n rfl ?_
                refine ev_iload_n rfl ?_
                refine ev_iload_n rfl ?_
                refine ev_in (d := 5) (a := 0) (b := 0) (cd' := c363_0) (m := 3) (L0 := [(2, 42), (0, a1), (0, 2)]) (jcall_v (A := [(0, 2), (0, a1)]) (S' := []) (r := 42) rfl (g77490.lt ad42) (g77490.tg ad42) (Nat.le_of_ble_eq_true rfl)) (by decide) ml363 pp363 (Nat.le_of_ble_eq_true rfl) rfl (by decide) (by decide) ?_
                refine ev_aload_n rfl ?_
                refine ev_bipush ?_
                refine ev_in (d := 4) (a := 0) (b := 0) (cd' := c356_0) (m := 2) (L0 := [(2, 42), (0, 11)]) (jcall_v (A := [(0, 11)]) (S' := []) (r := 42) rfl (g77490.lt ad42) (g77490.tg ad42) (Nat.le_of_ble_eq_true rfl)) (by decide) ml356 pp356 (Nat.le_of_ble_eq_true rfl) rfl (by decide) (by decide) ?_
                refine ev_aload_n rfl ?_
                refine g_getv (r := 42) (v := 4) g77490 ad42 (by decide) ft12_60 ((jw_eq e77490)) ?_
                refine ev_bipush ?_
                refine ev_icmpge f356_19 (fun c77496 => absurd c77496 (by omega)) (fun c77496 => ?_)
                refine ev_aload_n rfl ?_
                refine g_getp (r := 42) (c := 78) g77490 ad42 (by decide) (by decide) rf42_61 ft12_61 ?_
                refine ev_aload_n rfl ?_
                refine g_getv (r := 42) (v := 4) g77490 ad42 (by decide) ft12_60 ((jw_eq e77490)) ?_
                refine ev_iload_n rfl ?_
                refine g_iast g77490 ad78 rt78 (fun _ => rfl) (by omega) (by omega) (by omega) (by omega) (fun h77497 e77497 g77497 => ?_)
                have k77497 := k77490.wr e77497 rfl
                refine ev_aload_n rfl ?_
                refine ev_dup (by decide) ?_
                refine g_getv (r := 42) (v := 4) g77497 ad42 (by decide) ft12_60 (((jw_ne e77497 (Or.inl (by decide))).trans (jw_eq e77490))) ?_
                refine ev_iconst ?_
                refine ev_iadd (r := 5) (by decide) ?_
                refine g_putf (r := 42) g77497 ad42 (by decide) ft12_60 (by decide) (fun e => absurd e nz12_60) rf42_60 (by decide) (by omega) (by omega) (fun h77498 e77498 g77498 => ?_)
                have k77498 := k77497.wr e77498 rfl
                refine ev_ret rfl (by decide) (by decide) ?_
                show jEv _ _ _ _ _ _ _ (_, [(2, 42), (0, a1), (0, 2)], [], _, _, _)
                refine ev_iload_n rfl ?_
                refine ev_iload_n rfl ?_
                refine g_ixorB (k := 5) (hi := 31) (by decide) (by decide) (by omega) (by omega) (by omega) (by omega) (fun v77499 ev77499 lv77499 uv77499 => ?_)
                refine ev_ret rfl (by decide) (by decide) ?_
                show jEv _ _ _ _ _ _ _ (_, [(2, 42), (0, a1), (0, 2), (9, 0)], [(0, v77499)], _, _, _)
                refine ev_ret rfl (by decide) (by decide) ?_
                show jEv _ _ _ _ _ _ _ (_, [(2, 42), (0, a1), (0, a3), (0, v77493)], [(0, v77499), (0, v77493)], _, _, _)
                refine g_iaddG (fun v77500 ev77500 lv77500 uv77500 => ?_)
                refine ev_ret rfl (by decide) (by decide) ?_
                show jEv _ _ _ _ _ _ _ (_, [(2, 42), (0, a1), (0, a2), (0, a3)], [(0, v77500)], _, _, _)
                refine ev_goto f367_71 ?_
                exact ev_ret rfl (by decide) (by decide) ⟨_, rfl, g77498, k77498, Or.inr ⟨(by unfold AV0; rw [ew0]; omega), by rw [show h.2.2 60 (a1).toNat = 3 from (k77250.v rfl).symm.trans ((ev77261).trans (by omega)), show h.2.2 61 (a1).toNat = v77262 from (k77250.v rfl).symm.trans ev77262, show a2 = 1 by omega, ac_3_1]; (try rw [ev77491]); (try rw [ev77492]); (try rw [ev77493]); (try rw [ev77499]); (try rw [ev77500]); all_goals (first | rfl | omega | (unfold w32 at *; omega)), by rw [show h.2.2 60 (a1).toNat = 3 from (k77250.v rfl).symm.trans ((ev77261).trans (by omega)), show a2 = 1 by omega, tr_3_1]; exact ⟨(((jw_eq e77498))), (((jw_ne e77498 (Or.inl (by decide))).trans ((jw_ne e77497 (Or.inr (by decide))).trans ((jw_ne e77490 (Or.inl (by decide))).trans ((jw_ne e77489 (Or.inr (by decide))).trans ((jw_ne e77485 (Or.inl (by decide))).trans ((jw_ne e77484 (Or.inr (by decide))).trans ((jw_ne e77482 (Or.inl (by decide))).trans ((jw_ne e77481 (Or.inr (by decide))).trans ((jw_ne e77479 (Or.inl (by decide))).trans (jw_eq e77478))))))))))), (((jw_ne e77498 (Or.inl (by decide))).trans ((jw_ne e77497 (Or.inr (by decide))).trans ((jw_ne e77490 (Or.inl (by decide))).trans ((jw_ne e77489 (Or.inr (by decide))).trans ((jw_ne e77485 (Or.inl (by decide))).trans ((jw_ne e77484 (Or.inr (by decide))).trans ((jw_ne e77482 (Or.inl (by decide))).trans (jw_eq e77481))))))))), (((jw_ne e77498 (Or.inl (by decide))).trans ((jw_ne e77497 (Or.inr (by decide))).trans ((jw_ne e77490 (Or.inl (by decide))).trans ((jw_ne e77489 (Or.inr (by decide))).trans ((jw_ne e77485 (Or.inl (by decide))).trans (jw_eq e77484))))))), (((jw_ne e77498 (Or.inl (by decide))).trans ((jw_ne e77497 (Or.inr (by decide))).trans ((jw_ne e77490 (Or.inl (by decide))).trans (jw_eq e77489))))), (((jw_ne e77498 (Or.inl (by decide))).trans (jw_eq e77497))), trivial⟩⟩⟩
            · refine ev_aload_n rfl ?_
              refine ev_iload_n rfl ?_
              refine ev_iload_n rfl ?_
              refine ev_in (d := 7) (a := 0) (b := 0) (cd' := c359_0) (m := 3) (L0 := [(2, 42), (0, a1), (0, a3)]) (jcall_v (A := [(0, a3), (0, a1)]) (S' := []) (r := 42) rfl (g77250.lt ad42) (g77250.tg ad42) (Nat.le_of_ble_eq_true rfl)) (by decide) ml359 pp359 (Nat.le_of_ble_eq_true rfl) rfl (by decide) (by decide) ?_
              refine ev_aload_n rfl ?_
              refine g_getp (r := 42) (c := 60) g77250 ad42 (by decide) (by decide) rf42_29 ft12_29 ?_
              refine ev_iload_n rfl ?_
              refine g_ialdv (v := v77261) g77250 ad60 (by omega) (by omega) (ev77261) ?_
              refine ev_iconst ?_
              refine ev_icmpne f359_24 (fun c77501 => ?_) (fun c77501 => absurd c77501 (by omega))
              refine ev_aload_n rfl ?_
              refine g_getp (r := 42) (c := 60) g77250 ad42 (by decide) (by decide) rf42_29 ft12_29 ?_
              refine ev_iload_n rfl ?_
              refine g_ialdv (v := v77261) g77250 ad60 (by omega) (by omega) (ev77261) ?_
              refine ev_iconst ?_
              refine ev_icmpne f359_43 (fun c77502 => ?_) (fun c77502 => absurd c77502 (by omega))
              refine ev_aload_n rfl ?_
              refine ev_iload_n rfl ?_
              refine ev_iload_n rfl ?_
              refine ev_in (d := 6) (a := 0) (b := 0) (cd' := c357_0) (m := 3) (L0 := [(2, 42), (0, a1), (0, a3)]) (jcall_v (A := [(0, a3), (0, a1)]) (S' := []) (r := 42) rfl (g77250.lt ad42) (g77250.tg ad42) (Nat.le_of_ble_eq_true rfl)) (by decide) ml357 pp357 (Nat.le_of_ble_eq_true rfl) rfl (by decide) (by decide) ?_
              refine ev_aload_n rfl ?_
              refine ev_iconst ?_
              refine ev_in (d := 5) (a := 0) (b := 0) (cd' := c356_0) (m := 2) (L0 := [(2, 42), (0, 1)]) (jcall_v (A := [(0, 1)]) (S' := []) (r := 42) rfl (g77250.lt ad42) (g77250.tg ad42) (Nat.le_of_ble_eq_true rfl)) (by decide) ml356 pp356 (Nat.le_of_ble_eq_true rfl) rfl (by decide) (by decide) ?_
              refine ev_aload_n rfl ?_
              refine g_getv (r := 42) (v := 0) g77250 ad42 (by decide) ft12_60 ((jw_eq e77250)) ?_
              refine ev_bipush ?_
              refine ev_icmpge f356_19 (fun c77503 => absurd c77503 (by omega)) (fun c77503 => ?_)
              refine ev_aload_n rfl ?_
              refine g_getp (r := 42) (c := 78) g77250 ad42 (by decide) (by decide) rf42_61 ft12_61 ?_
              refine ev_aload_n rfl ?_
              refine g_getv (r := 42) (v := 0) g77250 ad42 (by decide) ft12_60 ((jw_eq e77250)) ?_
              refine ev_iload_n rfl ?_
              refine g_iast g77250 ad78 rt78 (fun _ => rfl) (by omega) (by omega) (by omega) (by omega) (fun h77504 e77504 g77504 => ?_)
              have k77504 := k77250.wr e77504 rfl
              refine ev_aload_n rfl ?_
              refine ev_dup (by decide) ?_
              refine g_getv (r := 42) (v := 0) g77504 ad42 (by decide) ft12_60 (((jw_ne e77504 (Or.inl (by decide))).trans (jw_eq e77250))) ?_
              refine ev_iconst ?_
              refine ev_iadd (r := 1) (by decide) ?_
              refine g_putf (r := 42) g77504 ad42 (by decide) ft12_60 (by decide) (fun e => absurd e nz12_60) rf42_60 (by decide) (by omega) (by omega) (fun h77505 e77505 g77505 => ?_)
              have k77505 := k77504.wr e77505 rfl
              refine ev_ret rfl (by decide) (by decide) ?_
              show jEv _ _ _ _ _ _ _ (_, [(2, 42), (0, a1), (0, a3)], [], _, _, _)
              refine ev_iload_n rfl ?_
              refine ev_iload_n rfl ?_
              refine g_iaddG (fun v77506 ev77506 lv77506 uv77506 => ?_)
              refine ev_ret rfl (by decide) (by decide) ?_
              show jEv _ _ _ _ _ _ _ (_, [(2, 42), (0, a1), (0, a3)], [(0, v77506)], _, _, _)
              refine ev_ret rfl (by decide) (by decide) ?_
              show jEv _ _ _ _ _ _ _ (_, [(2, 42), (0, a1), (0, a2), (0, a3)], [(0, v77506)], _, _, _)
              refine ev_goto f367_71 ?_
              exact ev_ret rfl (by decide) (by decide) ⟨_, rfl, g77505, k77505, Or.inr ⟨(by unfold AV0; rw [ew0]; omega), by rw [show h.2.2 60 (a1).toNat = 3 from (k77250.v rfl).symm.trans ((ev77261).trans (by omega)), show h.2.2 61 (a1).toNat = v77262 from (k77250.v rfl).symm.trans ev77262, show a2 = 0 by omega, ac_3_0]; (try rw [ev77506]); all_goals (first | rfl | omega | (unfold w32 at *; omega)), by rw [show h.2.2 60 (a1).toNat = 3 from (k77250.v rfl).symm.trans ((ev77261).trans (by omega)), show a2 = 0 by omega, tr_3_0]; exact ⟨(((jw_eq e77505))), (((jw_ne e77505 (Or.inl (by decide))).trans (jw_eq e77504))), trivial⟩⟩⟩
          · refine ev_iload_n rfl ?_
            refine ev_ifne f367_37 (fun c77507 => ?_) (fun c77507 => ?_)
            · refine ev_iload_n rfl ?_
              refine ev_iconst ?_
              refine ev_icmpne f367_51 (fun c77508 => ?_) (fun c77508 => ?_)
              · refine ev_iload_n rfl ?_
                refine ev_iconst ?_
                refine ev_icmpne f367_65 (fun c77509 => ?_) (fun c77509 => ?_)
                · refine ev_aload_n rfl ?_
                  refine ev_iload_n rfl ?_
                  refine ev_iload_n rfl ?_
                  refine ev_in (d := 7) (a := 0) (b := 0) (cd' := c366_0) (m := 3) (L0 := [(2, 42), (0, a1), (0, a3)]) (jcall_v (A := [(0, a3), (0, a1)]) (S' := []) (r := 42) rfl (g77250.lt ad42) (g77250.tg ad42) (Nat.le_of_ble_eq_true rfl)) (by decide) ml366 pp366 (Nat.le_of_ble_eq_true rfl) rfl (by decide) (by decide) ?_
                  refine ev_aload_n rfl ?_
                  refine g_getp (r := 42) (c := 60) g77250 ad42 (by decide) (by decide) rf42_29 ft12_29 ?_
                  refine ev_iload_n rfl ?_
                  refine g_ialdv (v := v77261) g77250 ad60 (by omega) (by omega) (ev77261) ?_
                  refine ev_iconst ?_
                  refine ev_icmpne f366_25 (fun c77510 => ?_) (fun c77510 => absurd c77510 (by omega))
                  refine ev_aload_n rfl ?_
                  refine ev_iload_n rfl ?_
                  refine ev_iload_n rfl ?_
                  refine ev_in (d := 6) (a := 0) (b := 0) (cd' := c365_0) (m := 4) (L0 := [(2, 42), (0, a1), (0, a3), (9, 0)]) (jcall_v (A := [(0, a3), (0, a1)]) (S' := []) (r := 42) rfl (g77250.lt ad42) (g77250.tg ad42) (Nat.le_of_ble_eq_true rfl)) (by decide) ml365 pp365 (Nat.le_of_ble_eq_true rfl) rfl (by decide) (by decide) ?_
                  refine ev_aload_n rfl ?_
                  refine ev_iconst ?_
                  refine ev_in (d := 5) (a := 0) (b := 0) (cd' := c356_0) (m := 2) (L0 := [(2, 42), (0, 2)]) (jcall_v (A := [(0, 2)]) (S' := []) (r := 42) rfl (g77250.lt ad42) (g77250.tg ad42) (Nat.le_of_ble_eq_true rfl)) (by decide) ml356 pp356 (Nat.le_of_ble_eq_true rfl) rfl (by decide) (by decide) ?_
                  refine ev_aload_n rfl ?_
                  refine g_getv (r := 42) (v := 0) g77250 ad42 (by decide) ft12_60 ((jw_eq e77250)) ?_
                  refine ev_bipush ?_
                  refine ev_icmpge f356_19 (fun c77511 => absurd c77511 (by omega)) (fun c77511 => ?_)
                  refine ev_aload_n rfl ?_
                  refine g_getp (r := 42) (c := 78) g77250 ad42 (by decide) (by decide) rf42_61 ft12_61 ?_
                  refine ev_aload_n rfl ?_
                  refine g_getv (r := 42) (v := 0) g77250 ad42 (by decide) ft12_60 ((jw_eq e77250)) ?_
                  refine ev_iload_n rfl ?_
                  refine g_iast g77250 ad78 rt78 (fun _ => rfl) (by omega) (by omega) (by omega) (by omega) (fun h77512 e77512 g77512 => ?_)
                  have k77512 := k77250.wr e77512 rfl
                  refine ev_aload_n rfl ?_
                  refine ev_dup (by decide) ?_
                  refine g_getv (r := 42) (v := 0) g77512 ad42 (by decide) ft12_60 (((jw_ne e77512 (Or.inl (by decide))).trans (jw_eq e77250))) ?_
                  refine ev_iconst ?_
                  refine ev_iadd (r := 1) (by decide) ?_
                  refine g_putf (r := 42) g77512 ad42 (by decide) ft12_60 (by decide) (fun e => absurd e nz12_60) rf42_60 (by decide) (by omega) (by omega) (fun h77513 e77513 g77513 => ?_)
                  have k77513 := k77512.wr e77513 rfl
                  refine ev_ret rfl (by decide) (by decide) ?_
                  show jEv _ _ _ _ _ _ _ (_, [(2, 42), (0, a1), (0, a3), (9, 0)], [], _, _, _)
                  refine ev_aload_n rfl ?_
                  refine ev_iload_n rfl ?_
                  refine ev_iload_n rfl ?_
                  refine ev_in (d := 5) (a := 0) (b := 0) (cd' := c362_0) (m := 4) (L0 := [(2, 42), (0, a1), (0, a3), (9, 0)]) (jcall_v (A := [(0, a3), (0, a1)]) (S' := []) (r := 42) rfl (g77513.lt ad42) (g77513.tg ad42) (Nat.le_of_ble_eq_true rfl)) (by decide) ml362 pp362 (Nat.le_of_ble_eq_true rfl) rfl (by decide) (by decide) ?_
                  refine ev_aload_n rfl ?_
                  refine g_getp (r := 42) (c := 60) g77513 ad42 (by decide) (by decide) rf42_29 ft12_29 ?_
                  refine ev_iload_n rfl ?_
                  refine g_ialdv (v := v77261) g77513 ad60 (by omega) (by omega) (((jw_ne e77513 (Or.inl (by decide))).trans ((jw_ne e77512 (Or.inl (by decide))).trans ev77261))) ?_
                  refine ev_iconst ?_
                  refine ev_icmpne f362_32 (fun c77514 => ?_) (fun c77514 => absurd c77514 (by omega))
                  refine ev_aload_n rfl ?_
                  refine g_getp (r := 42) (c := 60) g77513 ad42 (by decide) (by decide) rf42_29 ft12_29 ?_
                  refine ev_iload_n rfl ?_
                  refine g_ialdv (v := v77261) g77513 ad60 (by omega) (by omega) (((jw_ne e77513 (Or.inl (by decide))).trans ((jw_ne e77512 (Or.inl (by decide))).trans ev77261))) ?_
                  refine ev_iconst ?_
                  refine ev_icmpne f362_51 (fun c77515 => ?_) (fun c77515 => absurd c77515 (by omega))
                  refine ev_aload_n rfl ?_
                  refine ev_iload_n rfl ?_
                  refine ev_iload_n rfl ?_
                  refine ev_in (d := 4) (a := 0) (b := 0) (cd' := c360_0) (m := 3) (L0 := [(2, 42), (0, a1), (0, a3)]) (jcall_v (A := [(0, a3), (0, a1)]) (S' := []) (r := 42) rfl (g77513.lt ad42) (g77513.tg ad42) (Nat.le_of_ble_eq_true rfl)) (by decide) ml360 pp360 (Nat.le_of_ble_eq_true rfl) rfl (by decide) (by decide) ?_
                  refine ev_aload_n rfl ?_
                  refine ev_bipush ?_
                  refine ev_in (d := 3) (a := 0) (b := 0) (cd' := c356_0) (m := 2) (L0 := [(2, 42), (0, 10)]) (jcall_v (A := [(0, 10)]) (S' := []) (r := 42) rfl (g77513.lt ad42) (g77513.tg ad42) (Nat.le_of_ble_eq_true rfl)) (by decide) ml356 pp356 (Nat.le_of_ble_eq_true rfl) rfl (by decide) (by decide) ?_
                  refine ev_aload_n rfl ?_
                  refine g_getv (r := 42) (v := 1) g77513 ad42 (by decide) ft12_60 ((jw_eq e77513)) ?_
                  refine ev_bipush ?_
                  refine ev_icmpge f356_19 (fun c77516 => absurd c77516 (by omega)) (fun c77516 => ?_)
                  refine ev_aload_n rfl ?_
                  refine g_getp (r := 42) (c := 78) g77513 ad42 (by decide) (by decide) rf42_61 ft12_61 ?_
                  refine ev_aload_n rfl ?_
                  refine g_getv (r := 42) (v := 1) g77513 ad42 (by decide) ft12_60 ((jw_eq e77513)) ?_
                  refine ev_iload_n rfl ?_
                  refine g_iast g77513 ad78 rt78 (fun _ => rfl) (by omega) (by omega) (by omega) (by omega) (fun h77517 e77517 g77517 => ?_)
                  have k77517 := k77513.wr e77517 rfl
                  refine ev_aload_n rfl ?_
                  refine ev_dup (by decide) ?_
                  refine g_getv (r := 42) (v := 1) g77517 ad42 (by decide) ft12_60 (((jw_ne e77517 (Or.inl (by decide))).trans (jw_eq e77513))) ?_
                  refine ev_iconst ?_
                  refine ev_iadd (r := 2) (by decide) ?_
                  refine g_putf (r := 42) g77517 ad42 (by decide) ft12_60 (by decide) (fun e => absurd e nz12_60) rf42_60 (by decide) (by omega) (by omega) (fun h77518 e77518 g77518 => ?_)
                  have k77518 := k77517.wr e77518 rfl
                  refine ev_ret rfl (by decide) (by decide) ?_
                  show jEv _ _ _ _ _ _ _ (_, [(2, 42), (0, a1), (0, a3)], [], _, _, _)
                  refine ev_aload_n rfl ?_
                  refine ev_iload_n rfl ?_
                  refine ev_iload_n rfl ?_
                  refine ev_in (d := 3) (a := 0) (b := 0) (cd' := c359_0) (m := 3) (L0 := [(2, 42), (0, a1), (0, a3)]) (jcall_v (A := [(0, a3), (0, a1)]) (S' := []) (r := 42) rfl (g77518.lt ad42) (g77518.tg ad42) (Nat.le_of_ble_eq_true rfl)) (by decide) ml359 pp359 (Nat.le_of_ble_eq_true rfl) rfl (by decide) (by decide) ?_
                  refine ev_aload_n rfl ?_
                  refine g_getp (r := 42) (c := 60) g77518 ad42 (by decide) (by decide) rf42_29 ft12_29 ?_
                  refine ev_iload_n rfl ?_
                  refine g_ialdv (v := v77261) g77518 ad60 (by omega) (by omega) (((jw_ne e77518 (Or.inl (by decide))).trans ((jw_ne e77517 (Or.inl (by decide))).trans ((jw_ne e77513 (Or.inl (by decide))).trans ((jw_ne e77512 (Or.inl (by decide))).trans ev77261))))) ?_
                  refine ev_iconst ?_
                  refine ev_icmpne f359_24 (fun c77519 => ?_) (fun c77519 => absurd c77519 (by omega))
                  refine ev_aload_n rfl ?_
                  refine g_getp (r := 42) (c := 60) g77518 ad42 (by decide) (by decide) rf42_29 ft12_29 ?_
                  refine ev_iload_n rfl ?_
                  refine g_ialdv (v := v77261) g77518 ad60 (by omega) (by omega) (((jw_ne e77518 (Or.inl (by decide))).trans ((jw_ne e77517 (Or.inl (by decide))).trans ((jw_ne e77513 (Or.inl (by decide))).trans ((jw_ne e77512 (Or.inl (by decide))).trans ev77261))))) ?_
                  refine ev_iconst ?_
                  refine ev_icmpne f359_43 (fun c77520 => absurd c77520 (by omega)) (fun c77520 => ?_)
                  refine ev_aload_n rfl ?_
                  refine ev_iload_n rfl ?_
                  refine ev_iload_n rfl ?_
                  refine ev_in (d := 2) (a := 0) (b := 0) (cd' := c358_0) (m := 3) (L0 := [(2, 42), (0, a1), (0, a3)]) (jcall_v (A := [(0, a3), (0, a1)]) (S' := []) (r := 42) rfl (g77518.lt ad42) (g77518.tg ad42) (Nat.le_of_ble_eq_true rfl)) (by decide) ml358 pp358 (Nat.le_of_ble_eq_true rfl) rfl (by decide) (by decide) ?_
                  refine ev_aload_n rfl ?_
                  refine ev_bipush ?_
                  refine ev_in (d := 1) (a := 0) (b := 0) (cd' := c356_0) (m := 2) (L0 := [(2, 42), (0, 50)]) (jcall_v (A := [(0, 50)]) (S' := []) (r := 42) rfl (g77518.lt ad42) (g77518.tg ad42) (Nat.le_of_ble_eq_true rfl)) (by decide) ml356 pp356 (Nat.le_of_ble_eq_true rfl) rfl (by decide) (by decide) ?_
                  refine ev_aload_n rfl ?_
                  refine g_getv (r := 42) (v := 2) g77518 ad42 (by decide) ft12_60 ((jw_eq e77518)) ?_
                  refine ev_bipush ?_
                  refine ev_icmpge f356_19 (fun c77521 => absurd c77521 (by omega)) (fun c77521 => ?_)
                  refine ev_aload_n rfl ?_
                  refine g_getp (r := 42) (c := 78) g77518 ad42 (by decide) (by decide) rf42_61 ft12_61 ?_
                  refine ev_aload_n rfl ?_
                  refine g_getv (r := 42) (v := 2) g77518 ad42 (by decide) ft12_60 ((jw_eq e77518)) ?_
                  refine ev_iload_n rfl ?_
                  refine g_iast g77518 ad78 rt78 (fun _ => rfl) (by omega) (by omega) (by omega) (by omega) (fun h77522 e77522 g77522 => ?_)
                  have k77522 := k77518.wr e77522 rfl
                  refine ev_aload_n rfl ?_
                  refine ev_dup (by decide) ?_
                  refine g_getv (r := 42) (v := 2) g77522 ad42 (by decide) ft12_60 (((jw_ne e77522 (Or.inl (by decide))).trans (jw_eq e77518))) ?_
                  refine ev_iconst ?_
                  refine ev_iadd (r := 3) (by decide) ?_
                  refine g_putf (r := 42) g77522 ad42 (by decide) ft12_60 (by decide) (fun e => absurd e nz12_60) rf42_60 (by decide) (by omega) (by omega) (fun h77523 e77523 g77523 => ?_)
                  have k77523 := k77522.wr e77523 rfl
                  refine ev_ret rfl (by decide) (by decide) ?_
                  show jEv _ _ _ _ _ _ _ (_, [(2, 42), (0, a1), (0, a3)], [], _, _, _)
                  refine ev_aload_n rfl ?_
                  refine ev_iload_n rfl ?_
                  refine ev_iload_n rfl ?_
                  refine ev_in (d := 1) (a := 0) (b := 0) (cd' := c357_0) (m := 3) (L0 := [(2, 42), (0, a1), (0, a3)]) (jcall_v (A := [(0, a3), (0, a1)]) (S' := []) (r := 42) rfl (g77523.lt ad42) (g77523.tg ad42) (Nat.le_of_ble_eq_true rfl)) (by decide) ml357 pp357 (Nat.le_of_ble_eq_true rfl) rfl (by decide) (by decide) ?_
                  refine ev_aload_n rfl ?_
                  refine ev_iconst ?_
                  refine ev_in (d := 0) (a := 0) (b := 0) (cd' := c356_0) (m := 2) (L0 := [(2, 42), (0, 1)]) (jcall_v (A := [(0, 1)]) (S' := []) (r := 42) rfl (g77523.lt ad42) (g77523.tg ad42) (Nat.le_of_ble_eq_true rfl)) (by decide) ml356 pp356 (Nat.le_of_ble_eq_true rfl) rfl (by decide) (by decide) ?_
                  refine ev_aload_n rfl ?_
                  refine g_getv (r := 42) (v := 3) g77523 ad42 (by decide) ft12_60 ((jw_eq e77523)) ?_
                  refine ev_bipush ?_
                  refine ev_icmpge f356_19 (fun c77524 => absurd c77524 (by omega)) (fun c77524 => ?_)
                  refine ev_aload_n rfl ?_
                  refine g_getp (r := 42) (c := 78) g77523 ad42 (by decide) (by decide) rf42_61 ft12_61 ?_
                  refine ev_aload_n rfl ?_
                  refine g_getv (r := 42) (v := 3) g77523 ad42 (by decide) ft12_60 ((jw_eq e77523)) ?_
                  refine ev_iload_n rfl ?_
                  refine g_iast g77523 ad78 rt78 (fun _ => rfl) (by omega) (by omega) (by omega) (by omega) (fun h77525 e77525 g77525 => ?_)
                  have k77525 := k77523.wr e77525 rfl
                  refine ev_aload_n rfl ?_
                  refine ev_dup (by decide) ?_
                  refine g_getv (r := 42) (v := 3) g77525 ad42 (by decide) ft12_60 (((jw_ne e77525 (Or.inl (by decide))).trans (jw_eq e77523))) ?_
                  refine ev_iconst ?_
                  refine ev_iadd (r := 4) (by decide) ?_
                  refine g_putf (r := 42) g77525 ad42 (by decide) ft12_60 (by decide) (fun e => absurd e nz12_60) rf42_60 (by decide) (by omega) (by omega) (fun h77526 e77526 g77526 => ?_)
                  have k77526 := k77525.wr e77526 rfl
                  refine ev_ret rfl (by decide) (by decide) ?_
                  show jEv _ _ _ _ _ _ _ (_, [(2, 42), (0, a1), (0, a3)], [], _, _, _)
                  refine ev_iload_n rfl ?_
                  refine ev_iload_n rfl ?_
                  refine g_iaddG (fun v77527 ev77527 lv77527 uv77527 => ?_)
                  refine ev_ret rfl (by decide) (by decide) ?_
                  show jEv _ _ _ _ _ _ _ (_, [(2, 42), (0, a1), (0, a3)], [(0, v77527)], _, _, _)
                  refine ev_aload_n rfl ?_
                  refine g_getp (r := 42) (c := 61) g77526 ad42 (by decide) (by decide) rf42_30 ft12_30 ?_
                  refine ev_iload_n rfl ?_
                  refine g_ialdv (v := v77262) g77526 ad61 (by omega) (by omega) (((jw_ne e77526 (Or.inl (by decide))).trans ((jw_ne e77525 (Or.inl (by decide))).trans ((jw_ne e77523 (Or.inl (by decide))).trans ((jw_ne e77522 (Or.inl (by decide))).trans ((jw_ne e77518 (Or.inl (by decide))).trans ((jw_ne e77517 (Or.inl (by decide))).trans ((jw_ne e77513 (Or.inl (by decide))).trans ((jw_ne e77512 (Or.inl (by decide))).trans ev77262))))))))) ?_
                  refine g_iaddG (fun v77528 ev77528 lv77528 uv77528 => ?_)
                  refine ev_ret rfl (by decide) (by decide) ?_
                  show jEv _ _ _ _ _ _ _ (_, [(2, 42), (0, a1), (0, a3)], [(0, v77528)], _, _, _)
                  refine ev_goto f359_49 ?_
                  refine ev_ret rfl (by decide) (by decide) ?_
                  show jEv _ _ _ _ _ _ _ (_, [(2, 42), (0, a1), (0, a3)], [(0, v77528)], _, _, _)
                  refine ev_iconst ?_
                  refine g_imulG (fun v77529 ev77529 lv77529 uv77529 => ?_)
                  refine ev_ret rfl (by decide) (by decide) ?_
                  show jEv _ _ _ _ _ _ _ (_, [(2, 42), (0, a1), (0, a3), (9, 0)], [(0, v77529)], _, _, _)
                  refine ev_ret rfl (by decide) (by decide) ?_
                  show jEv _ _ _ _ _ _ _ (_, [(2, 42), (0, a1), (0, a3), (9, 0)], [(0, v77529)], _, _, _)
                  refine ev_istore_n (L' := [(2, 42), (0, a1), (0, a3), (0, v77529)]) (Nat.le_of_ble_eq_true rfl) rfl ?_
                  refine ev_iload_n rfl ?_
                  refine ev_aload_n rfl ?_
                  refine ev_iload_n rfl ?_
                  refine ev_iconst ?_
                  refine ev_in (d := 5) (a := 0) (b := 0) (cd' := c364_0) (m := 4) (L0 := [(2, 42), (0, a1), (0, 1), (9, 0)]) (jcall_v (A := [(0, 1), (0, a1)]) (S' := [(0, v77529)]) (r := 42) rfl (g77526.lt ad42) (g77526.tg ad42) (Nat.le_of_ble_eq_true rfl)) (by decide) ml364 pp364 (Nat.le_of_ble_eq_true rfl) rfl (by decide) (by decide) ?_
                  refine ev_aload_n rfl ?_
                  refine g_getp (r := 42) (c := 60) g77526 ad42 (by decide) (by decide) rf42_29 ft12_29 ?_
                  refine ev_iload_n rfl ?_
                  refine g_ialdv (v := v77261) g77526 ad60 (by omega) (by omega) (((jw_ne e77526 (Or.inl (by decide))).trans ((jw_ne e77525 (Or.inl (by decide))).trans ((jw_ne e77523 (Or.inl (by decide))).trans ((jw_ne e77522 (Or.inl (by decide))).trans ((jw_ne e77518 (Or.inl (by decide))).trans ((jw_ne e77517 (Or.inl (by decide))).trans ((jw_ne e77513 (Or.inl (by decide))).trans ((jw_ne e77512 (Or.inl (by decide))).trans ev77261))))))))) ?_
                  refine ev_iconst ?_
                  refine ev_icmpne f364_25 (fun c77530 => ?_) (fun c77530 => absurd c77530 (by omega))
                  refine ev_aload_n rfl ?_
                  refine g_getp (r := 42) (c := 60) g77526 ad42 (by decide) (by decide) rf42_29 ft12_29 ?_
                  refine ev_iload_n rfl ?_
                  refine g_ialdv (v := v77261) g77526 ad60 (by omega) (by omega) (((jw_ne e77526 (Or.inl (by decide))).trans ((jw_ne e77525 (Or.inl (by decide))).trans ((jw_ne e77523 (Or.inl (by decide))).trans ((jw_ne e77522 (Or.inl (by decide))).trans ((jw_ne e77518 (Or.inl (by decide))).trans ((jw_ne e77517 (Or.inl (by decide))).trans ((jw_ne e77513 (Or.inl (by decide))).trans ((jw_ne e77512 (Or.inl (by decide))).trans ev77261))))))))) ?_
                  refine ev_iconst ?_
                  refine ev_icmpne f364_57 (fun c77531 => ?_) (fun c77531 => absurd c77531 (by omega))
                  refine ev_aload_n rfl ?_
                  refine ev_iload_n rfl ?_
                  refine ev_iload_n rfl ?_
                  refine ev_in (d := 4) (a := 0) (b := 0) (cd' := c363_0) (m := 3) (L0 := [(2, 42), (0, a1), (0, 1)]) (jcall_v (A := [(0, 1), (0, a1)]) (S' := []) (r := 42) rfl (g77526.lt ad42) (g77526.tg ad42) (Nat.le_of_ble_eq_true rfl)) (by decide) ml363 pp363 (Nat.le_of_ble_eq_true rfl) rfl (by decide) (by decide) ?_
                  refine ev_aload_n rfl ?_
                  refine ev_bipush ?_
                  refine ev_in (d := 3) (a := 0) (b := 0) (cd' := c356_0) (m := 2) (L0 := [(2, 42), (0, 11)]) (jcall_v (A := [(0, 11)]) (S' := []) (r := 42) rfl (g77526.lt ad42) (g77526.tg ad42) (Nat.le_of_ble_eq_true rfl)) (by decide) ml356 pp356 (Nat.le_of_ble_eq_true rfl) rfl (by decide) (by decide) ?_
                  refine ev_aload_n rfl ?_
                  refine g_getv (r := 42) (v := 4) g77526 ad42 (by decide) ft12_60 ((jw_eq e77526)) ?_
                  refine ev_bipush ?_
                  refine ev_icmpge f356_19 (fun c77532 => absurd c77532 (by omega)) (fun c77532 => ?_)
                  refine ev_aload_n rfl ?_
                  refine g_getp (r := 42) (c := 78) g77526 ad42 (by decide) (by decide) rf42_61 ft12_61 ?_
                  refine ev_aload_n rfl ?_
                  refine g_getv (r := 42) (v := 4) g77526 ad42 (by decide) ft12_60 ((jw_eq e77526)) ?_
                  refine ev_iload_n rfl ?_
                  refine g_iast g77526 ad78 rt78 (fun _ => rfl) (by omega) (by omega) (by omega) (by omega) (fun h77533 e77533 g77533 => ?_)
                  have k77533 := k77526.wr e77533 rfl
                  refine ev_aload_n rfl ?_
                  refine ev_dup (by decide) ?_
                  refine g_getv (r := 42) (v := 4) g77533 ad42 (by decide) ft12_60 (((jw_ne e77533 (Or.inl (by decide))).trans (jw_eq e77526))) ?_
                  refine ev_iconst ?_
                  refine ev_iadd (r := 5) (by decide) ?_
                  refine g_putf (r := 42) g77533 ad42 (by decide) ft12_60 (by decide) (fun e => absurd e nz12_60) rf42_60 (by decide) (by omega) (by omega) (fun h77534 e77534 g77534 => ?_)
                  have k77534 := k77533.wr e77534 rfl
                  refine ev_ret rfl (by decide) (by decide) ?_
                  show jEv _ _ _ _ _ _ _ (_, [(2, 42), (0, a1), (0, 1)], [], _, _, _)
                  refine ev_iload_n rfl ?_
                  refine ev_iload_n rfl ?_
                  refine g_ixorB (k := 5) (hi := 31) (by decide) (by decide) (by omega) (by omega) (by omega) (by omega) (fun v77535 ev77535 lv77535 uv77535 => ?_)
                  refine ev_ret rfl (by decide) (by decide) ?_
                  show jEv _ _ _ _ _ _ _ (_, [(2, 42), (0, a1), (0, 1), (9, 0)], [(0, v77535)], _, _, _)
                  refine ev_ret rfl (by decide) (by decide) ?_
                  show jEv _ _ _ _ _ _ _ (_, [(2, 42), (0, a1), (0, a3), (0, v77529)], [(0, v77535), (0, v77529)], _, _, _)
                  refine g_isubG (fun v77536 ev77536 lv77536 uv77536 => ?_)
                  refine ev_ret rfl (by decide) (by decide) ?_
                  show jEv _ _ _ _ _ _ _ (_, [(2, 42), (0, a1), (0, a3)], [(0, v77536)], _, _, _)
                  refine ev_ret rfl (by decide) (by decide) ?_
                  show jEv _ _ _ _ _ _ _ (_, [(2, 42), (0, a1), (0, a2), (0, a3)], [(0, v77536)], _, _, _)
                  exact ev_ret rfl (by decide) (by decide) ⟨_, rfl, g77534, k77534, Or.inr ⟨(by unfold AV0; rw [ew0]; omega), by rw [show h.2.2 60 (a1).toNat = 4 from (k77250.v rfl).symm.trans ((ev77261).trans (by omega)), show h.2.2 61 (a1).toNat = v77262 from (k77250.v rfl).symm.trans ev77262, show a2 = 3 by omega, ac_4_3]; (try rw [ev77527]); (try rw [ev77528]); (try rw [ev77529]); (try rw [ev77535]); (try rw [ev77536]); all_goals (first | rfl | omega | (unfold w32 at *; omega)), by rw [show h.2.2 60 (a1).toNat = 4 from (k77250.v rfl).symm.trans ((ev77261).trans (by omega)), show a2 = 3 by omega, tr_4_3]; exact ⟨(((jw_eq e77534))), (((jw_ne e77534 (Or.inl (by decide))).trans ((jw_ne e77533 (Or.inr (by decide))).trans ((jw_ne e77526 (Or.inl (by decide))).trans ((jw_ne e77525 (Or.inr (by decide))).trans ((jw_ne e77523 (Or.inl (by decide))).trans ((jw_ne e77522 (Or.inr (by decide))).trans ((jw_ne e77518 (Or.inl (by decide))).trans ((jw_ne e77517 (Or.inr (by decide))).trans ((jw_ne e77513 (Or.inl (by decide))).trans (jw_eq e77512))))))))))), (((jw_ne e77534 (Or.inl (by decide))).trans ((jw_ne e77533 (Or.inr (by decide))).trans ((jw_ne e77526 (Or.inl (by decide))).trans ((jw_ne e77525 (Or.inr (by decide))).trans ((jw_ne e77523 (Or.inl (by decide))).trans ((jw_ne e77522 (Or.inr (by decide))).trans ((jw_ne e77518 (Or.inl (by decide))).trans (jw_eq e77517))))))))), (((jw_ne e77534 (Or.inl (by decide))).trans ((jw_ne e77533 (Or.inr (by decide))).trans ((jw_ne e77526 (Or.inl (by decide))).trans ((jw_ne e77525 (Or.inr (by decide))).trans ((jw_ne e77523 (Or.inl (by decide))).trans (jw_eq e77522))))))), (((jw_ne e77534 (Or.inl (by decide))).trans ((jw_ne e77533 (Or.inr (by decide))).trans ((jw_ne e77526 (Or.inl (by decide))).trans (jw_eq e77525))))), (((jw_ne e77534 (Or.inl (by decide))).trans (jw_eq e77533))), trivial⟩⟩⟩
                · refine ev_aload_n rfl ?_
                  refine ev_iload_n rfl ?_
                  refine ev_iload_n rfl ?_
                  refine ev_in (d := 7) (a := 0) (b := 0) (cd' := c364_0) (m := 4) (L0 := [(2, 42), (0, a1), (0, a3), (9, 0)]) (jcall_v (A := [(0, a3), (0, a1)]) (S' := []) (r := 42) rfl (g77250.lt ad42) (g77250.tg ad42) (Nat.le_of_ble_eq_true rfl)) (by decide) ml364 pp364 (Nat.le_of_ble_eq_true rfl) rfl (by decide) (by decide) ?_
                  refine ev_aload_n rfl ?_
                  refine g_getp (r := 42) (c := 60) g77250 ad42 (by decide) (by decide) rf42_29 ft12_29 ?_
                  refine ev_iload_n rfl ?_
                  refine g_ialdv (v := v77261) g77250 ad60 (by omega) (by omega) (ev77261) ?_
                  refine ev_iconst ?_
                  refine ev_icmpne f364_25 (fun c77537 => ?_) (fun c77537 => absurd c77537 (by omega))
                  refine ev_aload_n rfl ?_
                  refine g_getp (r := 42) (c := 60) g77250 ad42 (by decide) (by decide) rf42_29 ft12_29 ?_
                  refine ev_iload_n rfl ?_
                  refine g_ialdv (v := v77261) g77250 ad60 (by omega) (by omega) (ev77261) ?_
                  refine ev_iconst ?_
                  refine ev_icmpne f364_57 (fun c77538 => ?_) (fun c77538 => absurd c77538 (by omega))
                  refine ev_aload_n rfl ?_
                  refine ev_iload_n rfl ?_
                  refine ev_iload_n rfl ?_
                  refine ev_in (d := 6) (a := 0) (b := 0) (cd' := c363_0) (m := 3) (L0 := [(2, 42), (0, a1), (0, a3)]) (jcall_v (A := [(0, a3), (0, a1)]) (S' := []) (r := 42) rfl (g77250.lt ad42) (g77250.tg ad42) (Nat.le_of_ble_eq_true rfl)) (by decide) ml363 pp363 (Nat.le_of_ble_eq_true rfl) rfl (by decide) (by decide) ?_
                  refine ev_aload_n rfl ?_
                  refine ev_bipush ?_
                  refine ev_in (d := 5) (a := 0) (b := 0) (cd' := c356_0) (m := 2) (L0 := [(2, 42), (0, 11)]) (jcall_v (A := [(0, 11)]) (S' := []) (r := 42) rfl (g77250.lt ad42) (g77250.tg ad42) (Nat.le_of_ble_eq_true rfl)) (by decide) ml356 pp356 (Nat.le_of_ble_eq_true rfl) rfl (by decide) (by decide) ?_
                  refine ev_aload_n rfl ?_
                  refine g_getv (r := 42) (v := 0) g77250 ad42 (by decide) ft12_60 ((jw_eq e77250)) ?_
                  refine ev_bipush ?_
                  refine ev_icmpge f356_19 (fun c77539 => absurd c77539 (by omega)) (fun c77539 => ?_)
                  refine ev_aload_n rfl ?_
                  refine g_getp (r := 42) (c := 78) g77250 ad42 (by decide) (by decide) rf42_61 ft12_61 ?_
                  refine ev_aload_n rfl ?_
                  refine g_getv (r := 42) (v := 0) g77250 ad42 (by decide) ft12_60 ((jw_eq e77250)) ?_
                  refine ev_iload_n rfl ?_
                  refine g_iast g77250 ad78 rt78 (fun _ => rfl) (by omega) (by omega) (by omega) (by omega) (fun h77540 e77540 g77540 => ?_)
                  have k77540 := k77250.wr e77540 rfl
                  refine ev_aload_n rfl ?_
                  refine ev_dup (by decide) ?_
                  refine g_getv (r := 42) (v := 0) g77540 ad42 (by decide) ft12_60 (((jw_ne e77540 (Or.inl (by decide))).trans (jw_eq e77250))) ?_
                  refine ev_iconst ?_
                  refine ev_iadd (r := 1) (by decide) ?_
                  refine g_putf (r := 42) g77540 ad42 (by decide) ft12_60 (by decide) (fun e => absurd e nz12_60) rf42_60 (by decide) (by omega) (by omega) (fun h77541 e77541 g77541 => ?_)
                  have k77541 := k77540.wr e77541 rfl
                  refine ev_ret rfl (by decide) (by decide) ?_
                  show jEv _ _ _ _ _ _ _ (_, [(2, 42), (0, a1), (0, a3)], [], _, _, _)
                  refine ev_iload_n rfl ?_
                  refine ev_iload_n rfl ?_
                  refine g_ixorG (fun v77542 ev77542 lv77542 uv77542 => ?_)
                  refine ev_ret rfl (by decide) (by decide) ?_
                  show jEv _ _ _ _ _ _ _ (_, [(2, 42), (0, a1), (0, a3), (9, 0)], [(0, v77542)], _, _, _)
                  refine ev_ret rfl (by decide) (by decide) ?_
                  show jEv _ _ _ _ _ _ _ (_, [(2, 42), (0, a1), (0, a2), (0, a3)], [(0, v77542)], _, _, _)
                  refine ev_goto f367_71 ?_
                  exact ev_ret rfl (by decide) (by decide) ⟨_, rfl, g77541, k77541, Or.inr ⟨(by unfold AV0; rw [ew0]; omega), by rw [show h.2.2 60 (a1).toNat = 4 from (k77250.v rfl).symm.trans ((ev77261).trans (by omega)), show h.2.2 61 (a1).toNat = v77262 from (k77250.v rfl).symm.trans ev77262, show a2 = 2 by omega, ac_4_2]; (try rw [ev77542]); all_goals (first | rfl | omega | (unfold w32 at *; omega)), by rw [show h.2.2 60 (a1).toNat = 4 from (k77250.v rfl).symm.trans ((ev77261).trans (by omega)), show a2 = 2 by omega, tr_4_2]; exact ⟨(((jw_eq e77541))), (((jw_ne e77541 (Or.inl (by decide))).trans (jw_eq e77540))), trivial⟩⟩⟩
              · refine ev_aload_n rfl ?_
                refine ev_iload_n rfl ?_
                refine ev_iload_n rfl ?_
                refine ev_in (d := 7) (a := 0) (b := 0) (cd' := c362_0) (m := 4) (L0 := [(2, 42), (0, a1), (0, a3), (9, 0)]) (jcall_v (A := [(0, a3), (0, a1)]) (S' := []) (r := 42) rfl (g77250.lt ad42) (g77250.tg ad42) (Nat.le_of_ble_eq_true rfl)) (by decide) ml362 pp362 (Nat.le_of_ble_eq_true rfl) rfl (by decide) (by decide) ?_
                refine ev_aload_n rfl ?_
                refine g_getp (r := 42) (c := 60) g77250 ad42 (by decide) (by decide) rf42_29 ft12_29 ?_
                refine ev_iload_n rfl ?_
                refine g_ialdv (v := v77261) g77250 ad60 (by omega) (by omega) (ev77261) ?_
                refine ev_iconst ?_
                refine ev_icmpne f362_32 (fun c77543 => ?_) (fun c77543 => absurd c77543 (by omega))
                refine ev_aload_n rfl ?_
                refine g_getp (r := 42) (c := 60) g77250 ad42 (by decide) (by decide) rf42_29 ft12_29 ?_
                refine ev_iload_n rfl ?_
                refine g_ialdv (v := v77261) g77250 ad60 (by omega) (by omega) (ev77261) ?_
                refine ev_iconst ?_
                refine ev_icmpne f362_51 (fun c77544 => ?_) (fun c77544 => absurd c77544 (by omega))
                refine ev_aload_n rfl ?_
                refine ev_iload_n rfl ?_
                refine ev_iload_n rfl ?_
                refine ev_in (d := 6) (a := 0) (b := 0) (cd' := c360_0) (m := 3) (L0 := [(2, 42), (0, a1), (0, a3)]) (jcall_v (A := [(0, a3), (0, a1)]) (S' := []) (r := 42) rfl (g77250.lt ad42) (g77250.tg ad42) (Nat.le_of_ble_eq_true rfl)) (by decide) ml360 pp360 (Nat.le_of_ble_eq_true rfl) rfl (by decide) (by decide) ?_
                refine ev_aload_n rfl ?_
                refine ev_bipush ?_
                refine ev_in (d := 5) (a := 0) (b := 0) (cd' := c356_0) (m := 2) (L0 := [(2, 42), (0, 10)]) (jcall_v (A := [(0, 10)]) (S' := []) (r := 42) rfl (g77250.lt ad42) (g77250.tg ad42) (Nat.le_of_ble_eq_true rfl)) (by decide) ml356 pp356 (Nat.le_of_ble_eq_true rfl) rfl (by decide) (by decide) ?_
                refine ev_aload_n rfl ?_
                refine g_getv (r := 42) (v := 0) g77250 ad42 (by decide) ft12_60 ((jw_eq e77250)) ?_
                refine ev_bipush ?_
                refine ev_icmpge f356_19 (fun c77545 => absurd c77545 (by omega)) (fun c77545 => ?_)
                refine ev_aload_n rfl ?_
                refine g_getp (r := 42) (c := 78) g77250 ad42 (by decide) (by decide) rf42_61 ft12_61 ?_
                refine ev_aload_n rfl ?_
                refine g_getv (r := 42) (v := 0) g77250 ad42 (by decide) ft12_60 ((jw_eq e77250)) ?_
                refine ev_iload_n rfl ?_
                refine g_iast g77250 ad78 rt78 (fun _ => rfl) (by omega) (by omega) (by omega) (by omega) (fun h77546 e77546 g77546 => ?_)
                have k77546 := k77250.wr e77546 rfl
                refine ev_aload_n rfl ?_
                refine ev_dup (by decide) ?_
                refine g_getv (r := 42) (v := 0) g77546 ad42 (by decide) ft12_60 (((jw_ne e77546 (Or.inl (by decide))).trans (jw_eq e77250))) ?_
                refine ev_iconst ?_
                refine ev_iadd (r := 1) (by decide) ?_
                refine g_putf (r := 42) g77546 ad42 (by decide) ft12_60 (by decide) (fun e => absurd e nz12_60) rf42_60 (by decide) (by omega) (by omega) (fun h77547 e77547 g77547 => ?_)
                have k77547 := k77546.wr e77547 rfl
                refine ev_ret rfl (by decide) (by decide) ?_
                show jEv _ _ _ _ _ _ _ (_, [(2, 42), (0, a1), (0, a3)], [], _, _, _)
                refine ev_aload_n rfl ?_
                refine ev_iload_n rfl ?_
                refine ev_iload_n rfl ?_
                refine ev_in (d := 5) (a := 0) (b := 0) (cd' := c359_0) (m := 3) (L0 := [(2, 42), (0, a1), (0, a3)]) (jcall_v (A := [(0, a3), (0, a1)]) (S' := []) (r := 42) rfl (g77547.lt ad42) (g77547.tg ad42) (Nat.le_of_ble_eq_true rfl)) (by decide) ml359 pp359 (Nat.le_of_ble_eq_true rfl) rfl (by decide) (by decide) ?_
                refine ev_aload_n rfl ?_
                refine g_getp (r := 42) (c := 60) g77547 ad42 (by decide) (by decide) rf42_29 ft12_29 ?_
                refine ev_iload_n rfl ?_
                refine g_ialdv (v := v77261) g77547 ad60 (by omega) (by omega) (((jw_ne e77547 (Or.inl (by decide))).trans ((jw_ne e77546 (Or.inl (by decide))).trans ev77261))) ?_
                refine ev_iconst ?_
                refine ev_icmpne f359_24 (fun c77548 => ?_) (fun c77548 => absurd c77548 (by omega))
                refine ev_aload_n rfl ?_
                refine g_getp (r := 42) (c := 60) g77547 ad42 (by decide) (by decide) rf42_29 ft12_29 ?_
                refine ev_iload_n rfl ?_
                refine g_ialdv (v := v77261) g77547 ad60 (by omega) (by omega) (((jw_ne e77547 (Or.inl (by decide))).trans ((jw_ne e77546 (Or.inl (by decide))).trans ev77261))) ?_
                refine ev_iconst ?_
                refine ev_icmpne f359_43 (fun c77549 => absurd c77549 (by omega)) (fun c77549 => ?_)
                refine ev_aload_n rfl ?_
                refine ev_iload_n rfl ?_
                refine ev_iload_n rfl ?_
                refine ev_in (d := 4) (a := 0) (b := 0) (cd' := c358_0) (m := 3) (L0 := [(2, 42), (0, a1), (0, a3)]) (jcall_v (A := [(0, a3), (0, a1)]) (S' := []) (r := 42) rfl (g77547.lt ad42) (g77547.tg ad42) (Nat.le_of_ble_eq_true rfl)) (by decide) ml358 pp358 (Nat.le_of_ble_eq_true rfl) rfl (by decide) (by decide) ?_
                refine ev_aload_n rfl ?_
                refine ev_bipush ?_
                refine ev_in (d := 3) (a := 0) (b := 0) (cd' := c356_0) (m := 2) (L0 := [(2, 42), (0, 50)]) (jcall_v (A := [(0, 50)]) (S' := []) (r := 42) rfl (g77547.lt ad42) (g77547.tg ad42) (Nat.le_of_ble_eq_true rfl)) (by decide) ml356 pp356 (Nat.le_of_ble_eq_true rfl) rfl (by decide) (by decide) ?_
                refine ev_aload_n rfl ?_
                refine g_getv (r := 42) (v := 1) g77547 ad42 (by decide) ft12_60 ((jw_eq e77547)) ?_
                refine ev_bipush ?_
                refine ev_icmpge f356_19 (fun c77550 => absurd c77550 (by omega)) (fun c77550 => ?_)
                refine ev_aload_n rfl ?_
                refine g_getp (r := 42) (c := 78) g77547 ad42 (by decide) (by decide) rf42_61 ft12_61 ?_
                refine ev_aload_n rfl ?_
                refine g_getv (r := 42) (v := 1) g77547 ad42 (by decide) ft12_60 ((jw_eq e77547)) ?_
                refine ev_iload_n rfl ?_
                refine g_iast g77547 ad78 rt78 (fun _ => rfl) (by omega) (by omega) (by omega) (by omega) (fun h77551 e77551 g77551 => ?_)
                have k77551 := k77547.wr e77551 rfl
                refine ev_aload_n rfl ?_
                refine ev_dup (by decide) ?_
                refine g_getv (r := 42) (v := 1) g77551 ad42 (by decide) ft12_60 (((jw_ne e77551 (Or.inl (by decide))).trans (jw_eq e77547))) ?_
                refine ev_iconst ?_
                refine ev_iadd (r := 2) (by decide) ?_
                refine g_putf (r := 42) g77551 ad42 (by decide) ft12_60 (by decide) (fun e => absurd e nz12_60) rf42_60 (by decide) (by omega) (by omega) (fun h77552 e77552 g77552 => ?_)
                have k77552 := k77551.wr e77552 rfl
                refine ev_ret rfl (by decide) (by decide) ?_
                show jEv _ _ _ _ _ _ _ (_, [(2, 42), (0, a1), (0, a3)], [], _, _, _)
                refine ev_aload_n rfl ?_
                refine ev_iload_n rfl ?_
                refine ev_iload_n rfl ?_
                refine ev_in (d := 3) (a := 0) (b := 0) (cd' := c357_0) (m := 3) (L0 := [(2, 42), (0, a1), (0, a3)]) (jcall_v (A := [(0, a3), (0, a1)]) (S' := []) (r := 42) rfl (g77552.lt ad42) (g77552.tg ad42) (Nat.le_of_ble_eq_true rfl)) (by decide) ml357 pp357 (Nat.le_of_ble_eq_true rfl) rfl (by decide) (by decide) ?_
                refine ev_aload_n rfl ?_
                refine ev_iconst ?_
                refine ev_in (d := 2) (a := 0) (b := 0) (cd' := c356_0) (m := 2) (L0 := [(2, 42), (0, 1)]) (jcall_v (A := [(0, 1)]) (S' := []) (r := 42) rfl (g77552.lt ad42) (g77552.tg ad42) (Nat.le_of_ble_eq_true rfl)) (by decide) ml356 pp356 (Nat.le_of_ble_eq_true rfl) rfl (by decide) (by decide) ?_
                refine ev_aload_n rfl ?_
                refine g_getv (r := 42) (v := 2) g77552 ad42 (by decide) ft12_60 ((jw_eq e77552)) ?_
                refine ev_bipush ?_
                refine ev_icmpge f356_19 (fun c77553 => absurd c77553 (by omega)) (fun c77553 => ?_)
                refine ev_aload_n rfl ?_
                refine g_getp (r := 42) (c := 78) g77552 ad42 (by decide) (by decide) rf42_61 ft12_61 ?_
                refine ev_aload_n rfl ?_
                refine g_getv (r := 42) (v := 2) g77552 ad42 (by decide) ft12_60 ((jw_eq e77552)) ?_
                refine ev_iload_n rfl ?_
                refine g_iast g77552 ad78 rt78 (fun _ => rfl) (by omega) (by omega) (by omega) (by omega) (fun h77554 e77554 g77554 => ?_)
                have k77554 := k77552.wr e77554 rfl
                refine ev_aload_n rfl ?_
                refine ev_dup (by decide) ?_
                refine g_getv (r := 42) (v := 2) g77554 ad42 (by decide) ft12_60 (((jw_ne e77554 (Or.inl (by decide))).trans (jw_eq e77552))) ?_
                refine ev_iconst ?_
                refine ev_iadd (r := 3) (by decide) ?_
                refine g_putf (r := 42) g77554 ad42 (by decide) ft12_60 (by decide) (fun e => absurd e nz12_60) rf42_60 (by decide) (by omega) (by omega) (fun h77555 e77555 g77555 => ?_)
                have k77555 := k77554.wr e77555 rfl
                refine ev_ret rfl (by decide) (by decide) ?_
                show jEv _ _ _ _ _ _ _ (_, [(2, 42), (0, a1), (0, a3)], [], _, _, _)
                refine ev_iload_n rfl ?_
                refine ev_iload_n rfl ?_
                refine g_iaddG (fun v77556 ev77556 lv77556 uv77556 => ?_)
                refine ev_ret rfl (by decide) (by decide) ?_
                show jEv _ _ _ _ _ _ _ (_, [(2, 42), (0, a1), (0, a3)], [(0, v77556)], _, _, _)
                refine ev_aload_n rfl ?_
                refine g_getp (r := 42) (c := 61) g77555 ad42 (by decide) (by decide) rf42_30 ft12_30 ?_
                refine ev_iload_n rfl ?_
                refine g_ialdv (v := v77262) g77555 ad61 (by omega) (by omega) (((jw_ne e77555 (Or.inl (by decide))).trans ((jw_ne e77554 (Or.inl (by decide))).trans ((jw_ne e77552 (Or.inl (by decide))).trans ((jw_ne e77551 (Or.inl (by decide))).trans ((jw_ne e77547 (Or.inl (by decide))).trans ((jw_ne e77546 (Or.inl (by decide))).trans ev77262))))))) ?_
                refine g_iaddG (fun v77557 ev77557 lv77557 uv77557 => ?_)
                refine ev_ret rfl (by decide) (by decide) ?_
                show jEv _ _ _ _ _ _ _ (_, [(2, 42), (0, a1), (0, a3)], [(0, v77557)], _, _, _)
                refine ev_goto f359_49 ?_
                refine ev_ret rfl (by decide) (by decide) ?_
                show jEv _ _ _ _ _ _ _ (_, [(2, 42), (0, a1), (0, a3)], [(0, v77557)], _, _, _)
                refine ev_iconst ?_
                refine g_imulG (fun v77558 ev77558 lv77558 uv77558 => ?_)
                refine ev_ret rfl (by decide) (by decide) ?_
                show jEv _ _ _ _ _ _ _ (_, [(2, 42), (0, a1), (0, a3), (9, 0)], [(0, v77558)], _, _, _)
                refine ev_ret rfl (by decide) (by decide) ?_
                show jEv _ _ _ _ _ _ _ (_, [(2, 42), (0, a1), (0, a2), (0, a3)], [(0, v77558)], _, _, _)
                refine ev_goto f367_71 ?_
                exact ev_ret rfl (by decide) (by decide) ⟨_, rfl, g77555, k77555, Or.inr ⟨(by unfold AV0; rw [ew0]; omega), by rw [show h.2.2 60 (a1).toNat = 4 from (k77250.v rfl).symm.trans ((ev77261).trans (by omega)), show h.2.2 61 (a1).toNat = v77262 from (k77250.v rfl).symm.trans ev77262, show a2 = 1 by omega, ac_4_1]; (try rw [ev77556]); (try rw [ev77557]); (try rw [ev77558]); all_goals (first | rfl | omega | (unfold w32 at *; omega)), by rw [show h.2.2 60 (a1).toNat = 4 from (k77250.v rfl).symm.trans ((ev77261).trans (by omega)), show a2 = 1 by omega, tr_4_1]; exact ⟨(((jw_eq e77555))), (((jw_ne e77555 (Or.inl (by decide))).trans ((jw_ne e77554 (Or.inr (by decide))).trans ((jw_ne e77552 (Or.inl (by decide))).trans ((jw_ne e77551 (Or.inr (by decide))).trans ((jw_ne e77547 (Or.inl (by decide))).trans (jw_eq e77546))))))), (((jw_ne e77555 (Or.inl (by decide))).trans ((jw_ne e77554 (Or.inr (by decide))).trans ((jw_ne e77552 (Or.inl (by decide))).trans (jw_eq e77551))))), (((jw_ne e77555 (Or.inl (by decide))).trans (jw_eq e77554))), trivial⟩⟩⟩
            · refine ev_aload_n rfl ?_
              refine ev_iload_n rfl ?_
              refine ev_iload_n rfl ?_
              refine ev_in (d := 7) (a := 0) (b := 0) (cd' := c359_0) (m := 3) (L0 := [(2, 42), (0, a1), (0, a3)]) (jcall_v (A := [(0, a3), (0, a1)]) (S' := []) (r := 42) rfl (g77250.lt ad42) (g77250.tg ad42) (Nat.le_of_ble_eq_true rfl)) (by decide) ml359 pp359 (Nat.le_of_ble_eq_true rfl) rfl (by decide) (by decide) ?_
              refine ev_aload_n rfl ?_
              refine g_getp (r := 42) (c := 60) g77250 ad42 (by decide) (by decide) rf42_29 ft12_29 ?_
              refine ev_iload_n rfl ?_
              refine g_ialdv (v := v77261) g77250 ad60 (by omega) (by omega) (ev77261) ?_
              refine ev_iconst ?_
              refine ev_icmpne f359_24 (fun c77559 => ?_) (fun c77559 => absurd c77559 (by omega))
              refine ev_aload_n rfl ?_
              refine g_getp (r := 42) (c := 60) g77250 ad42 (by decide) (by decide) rf42_29 ft12_29 ?_
              refine ev_iload_n rfl ?_
              refine g_ialdv (v := v77261) g77250 ad60 (by omega) (by omega) (ev77261) ?_
              refine ev_iconst ?_
              refine ev_icmpne f359_43 (fun c77560 => absurd c77560 (by omega)) (fun c77560 => ?_)
              refine ev_aload_n rfl ?_
              refine ev_iload_n rfl ?_
              refine ev_iload_n rfl ?_
              refine ev_in (d := 6) (a := 0) (b := 0) (cd' := c358_0) (m := 3) (L0 := [(2, 42), (0, a1), (0, a3)]) (jcall_v (A := [(0, a3), (0, a1)]) (S' := []) (r := 42) rfl (g77250.lt ad42) (g77250.tg ad42) (Nat.le_of_ble_eq_true rfl)) (by decide) ml358 pp358 (Nat.le_of_ble_eq_true rfl) rfl (by decide) (by decide) ?_
              refine ev_aload_n rfl ?_
              refine ev_bipush ?_
              refine ev_in (d := 5) (a := 0) (b := 0) (cd' := c356_0) (m := 2) (L0 := [(2, 42), (0, 50)]) (jcall_v (A := [(0, 50)]) (S' := []) (r := 42) rfl (g77250.lt ad42) (g77250.tg ad42) (Nat.le_of_ble_eq_true rfl)) (by decide) ml356 pp356 (Nat.le_of_ble_eq_true rfl) rfl (by decide) (by decide) ?_
              refine ev_aload_n rfl ?_
              refine g_getv (r := 42) (v := 0) g77250 ad42 (by decide) ft12_60 ((jw_eq e77250)) ?_
              refine ev_bipush ?_
              refine ev_icmpge f356_19 (fun c77561 => absurd c77561 (by omega)) (fun c77561 => ?_)
              refine ev_aload_n rfl ?_
              refine g_getp (r := 42) (c := 78) g77250 ad42 (by decide) (by decide) rf42_61 ft12_61 ?_
              refine ev_aload_n rfl ?_
              refine g_getv (r := 42) (v := 0) g77250 ad42 (by decide) ft12_60 ((jw_eq e77250)) ?_
              refine ev_iload_n rfl ?_
              refine g_iast g77250 ad78 rt78 (fun _ => rfl) (by omega) (by omega) (by omega) (by omega) (fun h77562 e77562 g77562 => ?_)
              have k77562 := k77250.wr e77562 rfl
              refine ev_aload_n rfl ?_
              refine ev_dup (by decide) ?_
              refine g_getv (r := 42) (v := 0) g77562 ad42 (by decide) ft12_60 (((jw_ne e77562 (Or.inl (by decide))).trans (jw_eq e77250))) ?_
              refine ev_iconst ?_
              refine ev_iadd (r := 1) (by decide) ?_
              refine g_putf (r := 42) g77562 ad42 (by decide) ft12_60 (by decide) (fun e => absurd e nz12_60) rf42_60 (by decide) (by omega) (by omega) (fun h77563 e77563 g77563 => ?_)
              have k77563 := k77562.wr e77563 rfl
              refine ev_ret rfl (by decide) (by decide) ?_
              show jEv _ _ _ _ _ _ _ (_, [(2, 42), (0, a1), (0, a3)], [], _, _, _)
              refine ev_aload_n rfl ?_
              refine ev_iload_n rfl ?_
              refine ev_iload_n rfl ?_
              refine ev_in (d := 5) (a := 0) (b := 0) (cd' := c357_0) (m := 3) (L0 := [(2, 42), (0, a1), (0, a3)]) (jcall_v (A := [(0, a3), (0, a1)]) (S' := []) (r := 42) rfl (g77563.lt ad42) (g77563.tg ad42) (Nat.le_of_ble_eq_true rfl)) (by decide) ml357 pp357 (Nat.le_of_ble_eq_true rfl) rfl (by decide) (by decide) ?_
              refine ev_aload_n rfl ?_
              refine ev_iconst ?_
              refine ev_in (d := 4) (a := 0) (b := 0) (cd' := c356_0) (m := 2) (L0 := [(2, 42), (0, 1)]) (jcall_v (A := [(0, 1)]) (S' := []) (r := 42) rfl (g77563.lt ad42) (g77563.tg ad42) (Nat.le_of_ble_eq_true rfl)) (by decide) ml356 pp356 (Nat.le_of_ble_eq_true rfl) rfl (by decide) (by decide) ?_
              refine ev_aload_n rfl ?_
              refine g_getv (r := 42) (v := 1) g77563 ad42 (by decide) ft12_60 ((jw_eq e77563)) ?_
              refine ev_bipush ?_
              refine ev_icmpge f356_19 (fun c77564 => absurd c77564 (by omega)) (fun c77564 => ?_)
              refine ev_aload_n rfl ?_
              refine g_getp (r := 42) (c := 78) g77563 ad42 (by decide) (by decide) rf42_61 ft12_61 ?_
              refine ev_aload_n rfl ?_
              refine g_getv (r := 42) (v := 1) g77563 ad42 (by decide) ft12_60 ((jw_eq e77563)) ?_
              refine ev_iload_n rfl ?_
              refine g_iast g77563 ad78 rt78 (fun _ => rfl) (by omega) (by omega) (by omega) (by omega) (fun h77565 e77565 g77565 => ?_)
              have k77565 := k77563.wr e77565 rfl
              refine ev_aload_n rfl ?_
              refine ev_dup (by decide) ?_
              refine g_getv (r := 42) (v := 1) g77565 ad42 (by decide) ft12_60 (((jw_ne e77565 (Or.inl (by decide))).trans (jw_eq e77563))) ?_
              refine ev_iconst ?_
              refine ev_iadd (r := 2) (by decide) ?_
              refine g_putf (r := 42) g77565 ad42 (by decide) ft12_60 (by decide) (fun e => absurd e nz12_60) rf42_60 (by decide) (by omega) (by omega) (fun h77566 e77566 g77566 => ?_)
              have k77566 := k77565.wr e77566 rfl
              refine ev_ret rfl (by decide) (by decide) ?_
              show jEv _ _ _ _ _ _ _ (_, [(2, 42), (0, a1), (0, a3)], [], _, _, _)
              refine ev_iload_n rfl ?_
              refine ev_iload_n rfl ?_
              refine g_iaddG (fun v77567 ev77567 lv77567 uv77567 => ?_)
              refine ev_ret rfl (by decide) (by decide) ?_
              show jEv _ _ _ _ _ _ _ (_, [(2, 42), (0, a1), (0, a3)], [(0, v77567)], _, _, _)
              refine ev_aload_n rfl ?_
              refine g_getp (r := 42) (c := 61) g77566 ad42 (by decide) (by decide) rf42_30 ft12_30 ?_
              refine ev_iload_n rfl ?_
              refine g_ialdv (v := v77262) g77566 ad61 (by omega) (by omega) (((jw_ne e77566 (Or.inl (by decide))).trans ((jw_ne e77565 (Or.inl (by decide))).trans ((jw_ne e77563 (Or.inl (by decide))).trans ((jw_ne e77562 (Or.inl (by decide))).trans ev77262))))) ?_
              refine g_iaddG (fun v77568 ev77568 lv77568 uv77568 => ?_)
              refine ev_ret rfl (by decide) (by decide) ?_
              show jEv _ _ _ _ _ _ _ (_, [(2, 42), (0, a1), (0, a3)], [(0, v77568)], _, _, _)
              refine ev_goto f359_49 ?_
              refine ev_ret rfl (by decide) (by decide) ?_
              show jEv _ _ _ _ _ _ _ (_, [(2, 42), (0, a1), (0, a2), (0, a3)], [(0, v77568)], _, _, _)
              refine ev_goto f367_71 ?_
              exact ev_ret rfl (by decide) (by decide) ⟨_, rfl, g77566, k77566, Or.inr ⟨(by unfold AV0; rw [ew0]; omega), by rw [show h.2.2 60 (a1).toNat = 4 from (k77250.v rfl).symm.trans ((ev77261).trans (by omega)), show h.2.2 61 (a1).toNat = v77262 from (k77250.v rfl).symm.trans ev77262, show a2 = 0 by omega, ac_4_0]; (try rw [ev77567]); (try rw [ev77568]); all_goals (first | rfl | omega | (unfold w32 at *; omega)), by rw [show h.2.2 60 (a1).toNat = 4 from (k77250.v rfl).symm.trans ((ev77261).trans (by omega)), show a2 = 0 by omega, tr_4_0]; exact ⟨(((jw_eq e77566))), (((jw_ne e77566 (Or.inl (by decide))).trans ((jw_ne e77565 (Or.inr (by decide))).trans ((jw_ne e77563 (Or.inl (by decide))).trans (jw_eq e77562))))), (((jw_ne e77566 (Or.inl (by decide))).trans (jw_eq e77565))), trivial⟩⟩⟩
          · refine ev_iload_n rfl ?_
            refine ev_ifne f367_37 (fun c77569 => ?_) (fun c77569 => ?_)
            · refine ev_iload_n rfl ?_
              refine ev_iconst ?_
              refine ev_icmpne f367_51 (fun c77570 => ?_) (fun c77570 => ?_)
              · refine ev_iload_n rfl ?_
                refine ev_iconst ?_
                refine ev_icmpne f367_65 (fun c77571 => ?_) (fun c77571 => ?_)
                · refine ev_aload_n rfl ?_
                  refine ev_iload_n rfl ?_
                  refine ev_iload_n rfl ?_
                  refine ev_in (d := 7) (a := 0) (b := 0) (cd' := c366_0) (m := 3) (L0 := [(2, 42), (0, a1), (0, a3)]) (jcall_v (A := [(0, a3), (0, a1)]) (S' := []) (r := 42) rfl (g77250.lt ad42) (g77250.tg ad42) (Nat.le_of_ble_eq_true rfl)) (by decide) ml366 pp366 (Nat.le_of_ble_eq_true rfl) rfl (by decide) (by decide) ?_
                  refine ev_aload_n rfl ?_
                  refine g_getp (r := 42) (c := 60) g77250 ad42 (by decide) (by decide) rf42_29 ft12_29 ?_
                  refine ev_iload_n rfl ?_
                  refine g_ialdv (v := v77261) g77250 ad60 (by omega) (by omega) (ev77261) ?_
                  refine ev_iconst ?_
                  refine ev_icmpne f366_25 (fun c77572 => ?_) (fun c77572 => absurd c77572 (by omega))
                  refine ev_aload_n rfl ?_
                  refine ev_iload_n rfl ?_
                  refine ev_iload_n rfl ?_
                  refine ev_in (d := 6) (a := 0) (b := 0) (cd' := c365_0) (m := 4) (L0 := [(2, 42), (0, a1), (0, a3), (9, 0)]) (jcall_v (A := [(0, a3), (0, a1)]) (S' := []) (r := 42) rfl (g77250.lt ad42) (g77250.tg ad42) (Nat.le_of_ble_eq_true rfl)) (by decide) ml365 pp365 (Nat.le_of_ble_eq_true rfl) rfl (by decide) (by decide) ?_
                  refine ev_aload_n rfl ?_
                  refine ev_iconst ?_
                  refine ev_in (d := 5) (a := 0) (b := 0) (cd' := c356_0) (m := 2) (L0 := [(2, 42), (0, 2)]) (jcall_v (A := [(0, 2)]) (S' := []) (r := 42) rfl (g77250.lt ad42) (g77250.tg ad42) (Nat.le_of_ble_eq_true rfl)) (by decide) ml356 pp356 (Nat.le_of_ble_eq_true rfl) rfl (by decide) (by decide) ?_
                  refine ev_aload_n rfl ?_
                  refine g_getv (r := 42) (v := 0) g77250 ad42 (by decide) ft12_60 ((jw_eq e77250)) ?_
                  refine ev_bipush ?_
                  refine ev_icmpge f356_19 (fun c77573 => absurd c77573 (by omega)) (fun c77573 => ?_)
                  refine ev_aload_n rfl ?_
                  refine g_getp (r := 42) (c := 78) g77250 ad42 (by decide) (by decide) rf42_61 ft12_61 ?_
                  refine ev_aload_n rfl ?_
                  refine g_getv (r := 42) (v := 0) g77250 ad42 (by decide) ft12_60 ((jw_eq e77250)) ?_
                  refine ev_iload_n rfl ?_
                  refine g_iast g77250 ad78 rt78 (fun _ => rfl) (by omega) (by omega) (by omega) (by omega) (fun h77574 e77574 g77574 => ?_)
                  have k77574 := k77250.wr e77574 rfl
                  refine ev_aload_n rfl ?_
                  refine ev_dup (by decide) ?_
                  refine g_getv (r := 42) (v := 0) g77574 ad42 (by decide) ft12_60 (((jw_ne e77574 (Or.inl (by decide))).trans (jw_eq e77250))) ?_
                  refine ev_iconst ?_
                  refine ev_iadd (r := 1) (by decide) ?_
                  refine g_putf (r := 42) g77574 ad42 (by decide) ft12_60 (by decide) (fun e => absurd e nz12_60) rf42_60 (by decide) (by omega) (by omega) (fun h77575 e77575 g77575 => ?_)
                  have k77575 := k77574.wr e77575 rfl
                  refine ev_ret rfl (by decide) (by decide) ?_
                  show jEv _ _ _ _ _ _ _ (_, [(2, 42), (0, a1), (0, a3), (9, 0)], [], _, _, _)
                  refine ev_aload_n rfl ?_
                  refine ev_iload_n rfl ?_
                  refine ev_iload_n rfl ?_
                  refine ev_in (d := 5) (a := 0) (b := 0) (cd' := c362_0) (m := 4) (L0 := [(2, 42), (0, a1), (0, a3), (9, 0)]) (jcall_v (A := [(0, a3), (0, a1)]) (S' := []) (r := 42) rfl (g77575.lt ad42) (g77575.tg ad42) (Nat.le_of_ble_eq_true rfl)) (by decide) ml362 pp362 (Nat.le_of_ble_eq_true rfl) rfl (by decide) (by decide) ?_
                  refine ev_aload_n rfl ?_
                  refine g_getp (r := 42) (c := 60) g77575 ad42 (by decide) (by decide) rf42_29 ft12_29 ?_
                  refine ev_iload_n rfl ?_
                  refine g_ialdv (v := v77261) g77575 ad60 (by omega) (by omega) (((jw_ne e77575 (Or.inl (by decide))).trans ((jw_ne e77574 (Or.inl (by decide))).trans ev77261))) ?_
                  refine ev_iconst ?_
                  refine ev_icmpne f362_32 (fun c77576 => ?_) (fun c77576 => absurd c77576 (by omega))
                  refine ev_aload_n rfl ?_
                  refine g_getp (r := 42) (c := 60) g77575 ad42 (by decide) (by decide) rf42_29 ft12_29 ?_
                  refine ev_iload_n rfl ?_
                  refine g_ialdv (v := v77261) g77575 ad60 (by omega) (by omega) (((jw_ne e77575 (Or.inl (by decide))).trans ((jw_ne e77574 (Or.inl (by decide))).trans ev77261))) ?_
                  refine ev_iconst ?_
                  refine ev_icmpne f362_51 (fun c77577 => ?_) (fun c77577 => absurd c77577 (by omega))
                  refine ev_aload_n rfl ?_
                  refine ev_iload_n rfl ?_
                  refine ev_iload_n rfl ?_
                  refine ev_in (d := 4) (a := 0) (b := 0) (cd' := c360_0) (m := 3) (L0 := [(2, 42), (0, a1), (0, a3)]) (jcall_v (A := [(0, a3), (0, a1)]) (S' := []) (r := 42) rfl (g77575.lt ad42) (g77575.tg ad42) (Nat.le_of_ble_eq_true rfl)) (by decide) ml360 pp360 (Nat.le_of_ble_eq_true rfl) rfl (by decide) (by decide) ?_
                  refine ev_aload_n rfl ?_
                  refine ev_bipush ?_
                  refine ev_in (d := 3) (a := 0) (b := 0) (cd' := c356_0) (m := 2) (L0 := [(2, 42), (0, 10)]) (jcall_v (A := [(0, 10)]) (S' := []) (r := 42) rfl (g77575.lt ad42) (g77575.tg ad42) (Nat.le_of_ble_eq_true rfl)) (by decide) ml356 pp356 (Nat.le_of_ble_eq_true rfl) rfl (by decide) (by decide) ?_
                  refine ev_aload_n rfl ?_
                  refine g_getv (r := 42) (v := 1) g77575 ad42 (by decide) ft12_60 ((jw_eq e77575)) ?_
                  refine ev_bipush ?_
                  refine ev_icmpge f356_19 (fun c77578 => absurd c77578 (by omega)) (fun c77578 => ?_)
                  refine ev_aload_n rfl ?_
                  refine g_getp (r := 42) (c := 78) g77575 ad42 (by decide) (by decide) rf42_61 ft12_61 ?_
                  refine ev_aload_n rfl ?_
                  refine g_getv (r := 42) (v := 1) g77575 ad42 (by decide) ft12_60 ((jw_eq e77575)) ?_
                  refine ev_iload_n rfl ?_
                  refine g_iast g77575 ad78 rt78 (fun _ => rfl) (by omega) (by omega) (by omega) (by omega) (fun h77579 e77579 g77579 => ?_)
                  have k77579 := k77575.wr e77579 rfl
                  refine ev_aload_n rfl ?_
                  refine ev_dup (by decide) ?_
                  refine g_getv (r := 42) (v := 1) g77579 ad42 (by decide) ft12_60 (((jw_ne e77579 (Or.inl (by decide))).trans (jw_eq e77575))) ?_
                  refine ev_iconst ?_
                  refine ev_iadd (r := 2) (by decide) ?_
                  refine g_putf (r := 42) g77579 ad42 (by decide) ft12_60 (by decide) (fun e => absurd e nz12_60) rf42_60 (by decide) (by omega) (by omega) (fun h77580 e77580 g77580 => ?_)
                  have k77580 := k77579.wr e77580 rfl
                  refine ev_ret rfl (by decide) (by decide) ?_
                  show jEv _ _ _ _ _ _ _ (_, [(2, 42), (0, a1), (0, a3)], [], _, _, _)
                  refine ev_aload_n rfl ?_
                  refine ev_iload_n rfl ?_
                  refine ev_iload_n rfl ?_
                  refine ev_in (d := 3) (a := 0) (b := 0) (cd' := c359_0) (m := 3) (L0 := [(2, 42), (0, a1), (0, a3)]) (jcall_v (A := [(0, a3), (0, a1)]) (S' := []) (r := 42) rfl (g77580.lt ad42) (g77580.tg ad42) (Nat.le_of_ble_eq_true rfl)) (by decide) ml359 pp359 (Nat.le_of_ble_eq_true rfl) rfl (by decide) (by decide) ?_
                  refine ev_aload_n rfl ?_
                  refine g_getp (r := 42) (c := 60) g77580 ad42 (by decide) (by decide) rf42_29 ft12_29 ?_
                  refine ev_iload_n rfl ?_
                  refine g_ialdv (v := v77261) g77580 ad60 (by omega) (by omega) (((jw_ne e77580 (Or.inl (by decide))).trans ((jw_ne e77579 (Or.inl (by decide))).trans ((jw_ne e77575 (Or.inl (by decide))).trans ((jw_ne e77574 (Or.inl (by decide))).trans ev77261))))) ?_
                  refine ev_iconst ?_
                  refine ev_icmpne f359_24 (fun c77581 => absurd c77581 (by omega)) (fun c77581 => ?_)
                  refine ev_aload_n rfl ?_
                  refine ev_bipush ?_
                  refine ev_in (d := 2) (a := 0) (b := 0) (cd' := c356_0) (m := 2) (L0 := [(2, 42), (0, 60)]) (jcall_v (A := [(0, 60)]) (S' := []) (r := 42) rfl (g77580.lt ad42) (g77580.tg ad42) (Nat.le_of_ble_eq_true rfl)) (by decide) ml356 pp356 (Nat.le_of_ble_eq_true rfl) rfl (by decide) (by decide) ?_
                  refine ev_aload_n rfl ?_
                  refine g_getv (r := 42) (v := 2) g77580 ad42 (by decide) ft12_60 ((jw_eq e77580)) ?_
                  refine ev_bipush ?_
                  refine ev_icmpge f356_19 (fun c77582 => absurd c77582 (by omega)) (fun c77582 => ?_)
                  refine ev_aload_n rfl ?_
                  refine g_getp (r := 42) (c := 78) g77580 ad42 (by decide) (by decide) rf42_61 ft12_61 ?_
                  refine ev_aload_n rfl ?_
                  refine g_getv (r := 42) (v := 2) g77580 ad42 (by decide) ft12_60 ((jw_eq e77580)) ?_
                  refine ev_iload_n rfl ?_
                  refine g_iast g77580 ad78 rt78 (fun _ => rfl) (by omega) (by omega) (by omega) (by omega) (fun h77583 e77583 g77583 => ?_)
                  have k77583 := k77580.wr e77583 rfl
                  refine ev_aload_n rfl ?_
                  refine ev_dup (by decide) ?_
                  refine g_getv (r := 42) (v := 2) g77583 ad42 (by decide) ft12_60 (((jw_ne e77583 (Or.inl (by decide))).trans (jw_eq e77580))) ?_
                  refine ev_iconst ?_
                  refine ev_iadd (r := 3) (by decide) ?_
                  refine g_putf (r := 42) g77583 ad42 (by decide) ft12_60 (by decide) (fun e => absurd e nz12_60) rf42_60 (by decide) (by omega) (by omega) (fun h77584 e77584 g77584 => ?_)
                  have k77584 := k77583.wr e77584 rfl
                  refine ev_ret rfl (by decide) (by decide) ?_
                  show jEv _ _ _ _ _ _ _ (_, [(2, 42), (0, a1), (0, a3)], [], _, _, _)
                  refine ev_aload_n rfl ?_
                  refine ev_iload_n rfl ?_
                  refine ev_iload_n rfl ?_
                  refine ev_in (d := 2) (a := 0) (b := 0) (cd' := c358_0) (m := 3) (L0 := [(2, 42), (0, a1), (0, a3)]) (jcall_v (A := [(0, a3), (0, a1)]) (S' := []) (r := 42) rfl (g77584.lt ad42) (g77584.tg ad42) (Nat.le_of_ble_eq_true rfl)) (by decide) ml358 pp358 (Nat.le_of_ble_eq_true rfl) rfl (by decide) (by decide) ?_
                  refine ev_aload_n rfl ?_
                  refine ev_bipush ?_
                  refine ev_in (d := 1) (a := 0) (b := 0) (cd' := c356_0) (m := 2) (L0 := [(2, 42), (0, 50)]) (jcall_v (A := [(0, 50)]) (S' := []) (r := 42) rfl (g77584.lt ad42) (g77584.tg ad42) (Nat.le_of_ble_eq_true rfl)) (by decide) ml356 pp356 (Nat.le_of_ble_eq_true rfl) rfl (by decide) (by decide) ?_
                  refine ev_aload_n rfl ?_
                  refine g_getv (r := 42) (v := 3) g77584 ad42 (by decide) ft12_60 ((jw_eq e77584)) ?_
                  refine ev_bipush ?_
                  refine ev_icmpge f356_19 (fun c77585 => absurd c77585 (by omega)) (fun c77585 => ?_)
                  refine ev_aload_n rfl ?_
                  refine g_getp (r := 42) (c := 78) g77584 ad42 (by decide) (by decide) rf42_61 ft12_61 ?_
                  refine ev_aload_n rfl ?_
                  refine g_getv (r := 42) (v := 3) g77584 ad42 (by decide) ft12_60 ((jw_eq e77584)) ?_
                  refine ev_iload_n rfl ?_
                  refine g_iast g77584 ad78 rt78 (fun _ => rfl) (by omega) (by omega) (by omega) (by omega) (fun h77586 e77586 g77586 => ?_)
                  have k77586 := k77584.wr e77586 rfl
                  refine ev_aload_n rfl ?_
                  refine ev_dup (by decide) ?_
                  refine g_getv (r := 42) (v := 3) g77586 ad42 (by decide) ft12_60 (((jw_ne e77586 (Or.inl (by decide))).trans (jw_eq e77584))) ?_
                  refine ev_iconst ?_
                  refine ev_iadd (r := 4) (by decide) ?_
                  refine g_putf (r := 42) g77586 ad42 (by decide) ft12_60 (by decide) (fun e => absurd e nz12_60) rf42_60 (by decide) (by omega) (by omega) (fun h77587 e77587 g77587 => ?_)
                  have k77587 := k77586.wr e77587 rfl
                  refine ev_ret rfl (by decide) (by decide) ?_
                  show jEv _ _ _ _ _ _ _ (_, [(2, 42), (0, a1), (0, a3)], [], _, _, _)
                  refine ev_aload_n rfl ?_
                  refine ev_iload_n rfl ?_
                  refine ev_iload_n rfl ?_
                  refine ev_in (d := 1) (a := 0) (b := 0) (cd' := c357_0) (m := 3) (L0 := [(2, 42), (0, a1), (0, a3)]) (jcall_v (A := [(0, a3), (0, a1)]) (S' := []) (r := 42) rfl (g77587.lt ad42) (g77587.tg ad42) (Nat.le_of_ble_eq_true rfl)) (by decide) ml357 pp357 (Nat.le_of_ble_eq_true rfl) rfl (by decide) (by decide) ?_
                  refine ev_aload_n rfl ?_
                  refine ev_iconst ?_
                  refine ev_in (d := 0) (a := 0) (b := 0) (cd' := c356_0) (m := 2) (L0 := [(2, 42), (0, 1)]) (jcall_v (A := [(0, 1)]) (S' := []) (r := 42) rfl (g77587.lt ad42) (g77587.tg ad42) (Nat.le_of_ble_eq_true rfl)) (by decide) ml356 pp356 (Nat.le_of_ble_eq_true rfl) rfl (by decide) (by decide) ?_
                  refine ev_aload_n rfl ?_
                  refine g_getv (r := 42) (v := 4) g77587 ad42 (by decide) ft12_60 ((jw_eq e77587)) ?_
                  refine ev_bipush ?_
                  refine ev_icmpge f356_19 (fun c77588 => absurd c77588 (by omega)) (fun c77588 => ?_)
                  refine ev_aload_n rfl ?_
                  refine g_getp (r := 42) (c := 78) g77587 ad42 (by decide) (by decide) rf42_61 ft12_61 ?_
                  refine ev_aload_n rfl ?_
                  refine g_getv (r := 42) (v := 4) g77587 ad42 (by decide) ft12_60 ((jw_eq e77587)) ?_
                  refine ev_iload_n rfl ?_
                  refine g_iast g77587 ad78 rt78 (fun _ => rfl) (by omega) (by omega) (by omega) (by omega) (fun h77589 e77589 g77589 => ?_)
                  have k77589 := k77587.wr e77589 rfl
                  refine ev_aload_n rfl ?_
                  refine ev_dup (by decide) ?_
                  refine g_getv (r := 42) (v := 4) g77589 ad42 (by decide) ft12_60 (((jw_ne e77589 (Or.inl (by decide))).trans (jw_eq e77587))) ?_
                  refine ev_iconst ?_
                  refine ev_iadd (r := 5) (by decide) ?_
                  refine g_putf (r := 42) g77589 ad42 (by decide) ft12_60 (by decide) (fun e => absurd e nz12_60) rf42_60 (by decide) (by omega) (by omega) (fun h77590 e77590 g77590 => ?_)
                  have k77590 := k77589.wr e77590 rfl
                  refine ev_ret rfl (by decide) (by decide) ?_
                  show jEv _ _ _ _ _ _ _ (_, [(2, 42), (0, a1), (0, a3)], [], _, _, _)
                  refine ev_iload_n rfl ?_
                  refine ev_iload_n rfl ?_
                  refine g_iaddG (fun v77591 ev77591 lv77591 uv77591 => ?_)
                  refine ev_ret rfl (by decide) (by decide) ?_
                  show jEv _ _ _ _ _ _ _ (_, [(2, 42), (0, a1), (0, a3)], [(0, v77591)], _, _, _)
                  refine ev_aload_n rfl ?_
                  refine g_getp (r := 42) (c := 61) g77590 ad42 (by decide) (by decide) rf42_30 ft12_30 ?_
                  refine ev_iload_n rfl ?_
                  refine g_ialdv (v := v77262) g77590 ad61 (by omega) (by omega) (((jw_ne e77590 (Or.inl (by decide))).trans ((jw_ne e77589 (Or.inl (by decide))).trans ((jw_ne e77587 (Or.inl (by decide))).trans ((jw_ne e77586 (Or.inl (by decide))).trans ((jw_ne e77584 (Or.inl (by decide))).trans ((jw_ne e77583 (Or.inl (by decide))).trans ((jw_ne e77580 (Or.inl (by decide))).trans ((jw_ne e77579 (Or.inl (by decide))).trans ((jw_ne e77575 (Or.inl (by decide))).trans ((jw_ne e77574 (Or.inl (by decide))).trans ev77262))))))))))) ?_
                  refine g_iaddG (fun v77592 ev77592 lv77592 uv77592 => ?_)
                  refine ev_ret rfl (by decide) (by decide) ?_
                  show jEv _ _ _ _ _ _ _ (_, [(2, 42), (0, a1), (0, a3)], [(0, v77592)], _, _, _)
                  refine g_inegG (fun v77593 ev77593 lv77593 uv77593 => ?_)
                  refine ev_ret rfl (by decide) (by decide) ?_
                  show jEv _ _ _ _ _ _ _ (_, [(2, 42), (0, a1), (0, a3)], [(0, v77593)], _, _, _)
                  refine ev_iconst ?_
                  refine g_imulG (fun v77594 ev77594 lv77594 uv77594 => ?_)
                  refine ev_ret rfl (by decide) (by decide) ?_
                  show jEv _ _ _ _ _ _ _ (_, [(2, 42), (0, a1), (0, a3), (9, 0)], [(0, v77594)], _, _, _)
                  refine ev_ret rfl (by decide) (by decide) ?_
                  show jEv _ _ _ _ _ _ _ (_, [(2, 42), (0, a1), (0, a3), (9, 0)], [(0, v77594)], _, _, _)
                  refine ev_istore_n (L' := [(2, 42), (0, a1), (0, a3), (0, v77594)]) (Nat.le_of_ble_eq_true rfl) rfl ?_
                  refine ev_iload_n rfl ?_
                  refine ev_aload_n rfl ?_
                  refine ev_iload_n rfl ?_
                  refine ev_iconst ?_
                  refine ev_in (d := 5) (a := 0) (b := 0) (cd' := c364_0) (m := 4) (L0 := [(2, 42), (0, a1), (0, 1), (9, 0)]) (jcall_v (A := [(0, 1), (0, a1)]) (S' := [(0, v77594)]) (r := 42) rfl (g77590.lt ad42) (g77590.tg ad42) (Nat.le_of_ble_eq_true rfl)) (by decide) ml364 pp364 (Nat.le_of_ble_eq_true rfl) rfl (by decide) (by decide) ?_
                  refine ev_aload_n rfl ?_
                  refine g_getp (r := 42) (c := 60) g77590 ad42 (by decide) (by decide) rf42_29 ft12_29 ?_
                  refine ev_iload_n rfl ?_
                  refine g_ialdv (v := v77261) g77590 ad60 (by omega) (by omega) (((jw_ne e77590 (Or.inl (by decide))).trans ((jw_ne e77589 (Or.inl (by decide))).trans ((jw_ne e77587 (Or.inl (by decide))).trans ((jw_ne e77586 (Or.inl (by decide))).trans ((jw_ne e77584 (Or.inl (by decide))).trans ((jw_ne e77583 (Or.inl (by decide))).trans ((jw_ne e77580 (Or.inl (by decide))).trans ((jw_ne e77579 (Or.inl (by decide))).trans ((jw_ne e77575 (Or.inl (by decide))).trans ((jw_ne e77574 (Or.inl (by decide))).trans ev77261))))))))))) ?_
                  refine ev_iconst ?_
                  refine ev_icmpne f364_25 (fun c77595 => ?_) (fun c77595 => absurd c77595 (by omega))
                  refine ev_aload_n rfl ?_
                  refine g_getp (r := 42) (c := 60) g77590 ad42 (by decide) (by decide) rf42_29 ft12_29 ?_
                  refine ev_iload_n rfl ?_
                  refine g_ialdv (v := v77261) g77590 ad60 (by omega) (by omega) (((jw_ne e77590 (Or.inl (by decide))).trans ((jw_ne e77589 (Or.inl (by decide))).trans ((jw_ne e77587 (Or.inl (by decide))).trans ((jw_ne e77586 (Or.inl (by decide))).trans ((jw_ne e77584 (Or.inl (by decide))).trans ((jw_ne e77583 (Or.inl (by decide))).trans ((jw_ne e77580 (Or.inl (by decide))).trans ((jw_ne e77579 (Or.inl (by decide))).trans ((jw_ne e77575 (Or.inl (by decide))).trans ((jw_ne e77574 (Or.inl (by decide))).trans ev77261))))))))))) ?_
                  refine ev_iconst ?_
                  refine ev_icmpne f364_57 (fun c77596 => absurd c77596 (by omega)) (fun c77596 => ?_)
                  refine ev_aload_n rfl ?_
                  refine ev_bipush ?_
                  refine ev_in (d := 4) (a := 0) (b := 0) (cd' := c356_0) (m := 2) (L0 := [(2, 42), (0, 61)]) (jcall_v (A := [(0, 61)]) (S' := []) (r := 42) rfl (g77590.lt ad42) (g77590.tg ad42) (Nat.le_of_ble_eq_true rfl)) (by decide) ml356 pp356 (Nat.le_of_ble_eq_true rfl) rfl (by decide) (by decide) ?_
                  refine ev_aload_n rfl ?_
                  refine g_getv (r := 42) (v := 5) g77590 ad42 (by decide) ft12_60 ((jw_eq e77590)) ?_
                  refine ev_bipush ?_
                  refine ev_icmpge f356_19 (fun c77597 => absurd c77597 (by omega)) (fun c77597 => ?_)
                  refine ev_aload_n rfl ?_
                  refine g_getp (r := 42) (c := 78) g77590 ad42 (by decide) (by decide) rf42_61 ft12_61 ?_
                  refine ev_aload_n rfl ?_
                  refine g_getv (r := 42) (v := 5) g77590 ad42 (by decide) ft12_60 ((jw_eq e77590)) ?_
                  refine ev_iload_n rfl ?_
                  refine g_iast g77590 ad78 rt78 (fun _ => rfl) (by omega) (by omega) (by omega) (by omega) (fun h77598 e77598 g77598 => ?_)
                  have k77598 := k77590.wr e77598 rfl
                  refine ev_aload_n rfl ?_
                  refine ev_dup (by decide) ?_
                  refine g_getv (r := 42) (v := 5) g77598 ad42 (by decide) ft12_60 (((jw_ne e77598 (Or.inl (by decide))).trans (jw_eq e77590))) ?_
                  refine ev_iconst ?_
                  refine ev_iadd (r := 6) (by decide) ?_
                  refine g_putf (r := 42) g77598 ad42 (by decide) ft12_60 (by decide) (fun e => absurd e nz12_60) rf42_60 (by decide) (by omega) (by omega) (fun h77599 e77599 g77599 => ?_)
                  have k77599 := k77598.wr e77599 rfl
                  refine ev_ret rfl (by decide) (by decide) ?_
                  show jEv _ _ _ _ _ _ _ (_, [(2, 42), (0, a1), (0, 1), (9, 0)], [], _, _, _)
                  refine ev_aload_n rfl ?_
                  refine ev_iload_n rfl ?_
                  refine ev_iload_n rfl ?_
                  refine ev_in (d := 4) (a := 0) (b := 0) (cd' := c363_0) (m := 3) (L0 := [(2, 42), (0, a1), (0, 1)]) (jcall_v (A := [(0, 1), (0, a1)]) (S' := []) (r := 42) rfl (g77599.lt ad42) (g77599.tg ad42) (Nat.le_of_ble_eq_true rfl)) (by decide) ml363 pp363 (Nat.le_of_ble_eq_true rfl) rfl (by decide) (by decide) ?_
                  refine ev_aload_n rfl ?_
                  refine ev_bipush ?_
                  refine ev_in (d := 3) (a := 0) (b := 0) (cd' := c356_0) (m := 2) (L0 := [(2, 42), (0, 11)]) (jcall_v (A := [(0, 11)]) (S' := []) (r := 42) rfl (g77599.lt ad42) (g77599.tg ad42) (Nat.le_of_ble_eq_true rfl)) (by decide) ml356 pp356 (Nat.le_of_ble_eq_true rfl) rfl (by decide) (by decide) ?_
                  refine ev_aload_n rfl ?_
                  refine g_getv (r := 42) (v := 6) g77599 ad42 (by decide) ft12_60 ((jw_eq e77599)) ?_
                  refine ev_bipush ?_
                  refine ev_icmpge f356_19 (fun c77600 => absurd c77600 (by omega)) (fun c77600 => ?_)
                  refine ev_aload_n rfl ?_
                  refine g_getp (r := 42) (c := 78) g77599 ad42 (by decide) (by decide) rf42_61 ft12_61 ?_
                  refine ev_aload_n rfl ?_
                  refine g_getv (r := 42) (v := 6) g77599 ad42 (by decide) ft12_60 ((jw_eq e77599)) ?_
                  refine ev_iload_n rfl ?_
                  refine g_iast g77599 ad78 rt78 (fun _ => rfl) (by omega) (by omega) (by omega) (by omega) (fun h77601 e77601 g77601 => ?_)
                  have k77601 := k77599.wr e77601 rfl
                  refine ev_aload_n rfl ?_
                  refine ev_dup (by decide) ?_
                  refine g_getv (r := 42) (v := 6) g77601 ad42 (by decide) ft12_60 (((jw_ne e77601 (Or.inl (by decide))).trans (jw_eq e77599))) ?_
                  refine ev_iconst ?_
                  refine ev_iadd (r := 7) (by decide) ?_
                  refine g_putf (r := 42) g77601 ad42 (by decide) ft12_60 (by decide) (fun e => absurd e nz12_60) rf42_60 (by decide) (by omega) (by omega) (fun h77602 e77602 g77602 => ?_)
                  have k77602 := k77601.wr e77602 rfl
                  refine ev_ret rfl (by decide) (by decide) ?_
                  show jEv _ _ _ _ _ _ _ (_, [(2, 42), (0, a1), (0, 1)], [], _, _, _)
                  refine ev_iload_n rfl ?_
                  refine ev_iload_n rfl ?_
                  refine g_ixorB (k := 5) (hi := 31) (by decide) (by decide) (by omega) (by omega) (by omega) (by omega) (fun v77603 ev77603 lv77603 uv77603 => ?_)
                  refine ev_ret rfl (by decide) (by decide) ?_
                  show jEv _ _ _ _ _ _ _ (_, [(2, 42), (0, a1), (0, 1), (9, 0)], [(0, v77603)], _, _, _)
                  refine ev_istore_n (L' := [(2, 42), (0, a1), (0, 1), (0, v77603)]) (Nat.le_of_ble_eq_true rfl) rfl ?_
                  refine ev_iload_n rfl ?_
                  refine ev_aload_n rfl ?_
                  refine ev_iload_n rfl ?_
                  refine ev_iconst ?_
                  refine ev_in (d := 4) (a := 0) (b := 0) (cd' := c359_0) (m := 3) (L0 := [(2, 42), (0, a1), (0, 1)]) (jcall_v (A := [(0, 1), (0, a1)]) (S' := [(0, v77603)]) (r := 42) rfl (g77602.lt ad42) (g77602.tg ad42) (Nat.le_of_ble_eq_true rfl)) (by decide) ml359 pp359 (Nat.le_of_ble_eq_true rfl) rfl (by decide) (by decide) ?_
                  refine ev_aload_n rfl ?_
                  refine g_getp (r := 42) (c := 60) g77602 ad42 (by decide) (by decide) rf42_29 ft12_29 ?_
                  refine ev_iload_n rfl ?_
                  refine g_ialdv (v := v77261) g77602 ad60 (by omega) (by omega) (((jw_ne e77602 (Or.inl (by decide))).trans ((jw_ne e77601 (Or.inl (by decide))).trans ((jw_ne e77599 (Or.inl (by decide))).trans ((jw_ne e77598 (Or.inl (by decide))).trans ((jw_ne e77590 (Or.inl (by decide))).trans ((jw_ne e77589 (Or.inl (by decide))).trans ((jw_ne e77587 (Or.inl (by decide))).trans ((jw_ne e77586 (Or.inl (by decide))).trans ((jw_ne e77584 (Or.inl (by decide))).trans ((jw_ne e77583 (Or.inl (by decide))).trans ((jw_ne e77580 (Or.inl (by decide))).trans ((jw_ne e77579 (Or.inl (by decide))).trans ((jw_ne e77575 (Or.inl (by decide))).trans ((jw_ne e77574 (Or.inl (by decide))).trans ev77261))))))))))))))) ?_
                  refine ev_iconst ?_
                  refine ev_icmpne f359_24 (fun c77604 => absurd c77604 (by omega)) (fun c77604 => ?_)
                  refine ev_aload_n rfl ?_
                  refine ev_bipush ?_
                  refine ev_in (d := 3) (a := 0) (b := 0) (cd' := c356_0) (m := 2) (L0 := [(2, 42), (0, 60)]) (jcall_v (A := [(0, 60)]) (S' := []) (r := 42) rfl (g77602.lt ad42) (g77602.tg ad42) (Nat.le_of_ble_eq_true rfl)) (by decide) ml356 pp356 (Nat.le_of_ble_eq_true rfl) rfl (by decide) (by decide) ?_
                  refine ev_aload_n rfl ?_
                  refine g_getv (r := 42) (v := 7) g77602 ad42 (by decide) ft12_60 ((jw_eq e77602)) ?_
                  refine ev_bipush ?_
                  refine ev_icmpge f356_19 (fun c77605 => absurd c77605 (by omega)) (fun c77605 => ?_)
                  refine ev_aload_n rfl ?_
                  refine g_getp (r := 42) (c := 78) g77602 ad42 (by decide) (by decide) rf42_61 ft12_61 ?_
                  refine ev_aload_n rfl ?_
                  refine g_getv (r := 42) (v := 7) g77602 ad42 (by decide) ft12_60 ((jw_eq e77602)) ?_
                  refine ev_iload_n rfl ?_
                  refine g_iast g77602 ad78 rt78 (fun _ => rfl) (by omega) (by omega) (by omega) (by omega) (fun h77606 e77606 g77606 => ?_)
                  have k77606 := k77602.wr e77606 rfl
                  refine ev_aload_n rfl ?_
                  refine ev_dup (by decide) ?_
                  refine g_getv (r := 42) (v := 7) g77606 ad42 (by decide) ft12_60 (((jw_ne e77606 (Or.inl (by decide))).trans (jw_eq e77602))) ?_
                  refine ev_iconst ?_
                  refine ev_iadd (r := 8) (by decide) ?_
                  refine g_putf (r := 42) g77606 ad42 (by decide) ft12_60 (by decide) (fun e => absurd e nz12_60) rf42_60 (by decide) (by omega) (by omega) (fun h77607 e77607 g77607 => ?_)
                  have k77607 := k77606.wr e77607 rfl
                  refine ev_ret rfl (by decide) (by decide) ?_
                  show jEv _ _ _ _ _ _ _ (_, [(2, 42), (0, a1), (0, 1)], [], _, _, _)
                  refine ev_aload_n rfl ?_
                  refine ev_iload_n rfl ?_
                  refine ev_iload_n rfl ?_
                  refine ev_in (d := 3) (a := 0) (b := 0) (cd' := c358_0) (m := 3) (L0 := [(2, 42), (0, a1), (0, 1)]) (jcall_v (A := [(0, 1), (0, a1)]) (S' := []) (r := 42) rfl (g77607.lt ad42) (g77607.tg ad42) (Nat.le_of_ble_eq_true rfl)) (by decide) ml358 pp358 (Nat.le_of_ble_eq_true rfl) rfl (by decide) (by decide) ?_
                  refine ev_aload_n rfl ?_
                  refine ev_bipush ?_
                  refine ev_in (d := 2) (a := 0) (b := 0) (cd' := c356_0) (m := 2) (L0 := [(2, 42), (0, 50)]) (jcall_v (A := [(0, 50)]) (S' := []) (r := 42) rfl (g77607.lt ad42) (g77607.tg ad42) (Nat.le_of_ble_eq_true rfl)) (by decide) ml356 pp356 (Nat.le_of_ble_eq_true rfl) rfl (by decide) (by decide) ?_
                  refine ev_aload_n rfl ?_
                  refine g_getv (r := 42) (v := 8) g77607 ad42 (by decide) ft12_60 ((jw_eq e77607)) ?_
                  refine ev_bipush ?_
                  refine ev_icmpge f356_19 (fun c77608 => absurd c77608 (by omega)) (fun c77608 => ?_)
                  refine ev_aload_n rfl ?_
                  refine g_getp (r := 42) (c := 78) g77607 ad42 (by decide) (by decide) rf42_61 ft12_61 ?_
                  refine ev_aload_n rfl ?_
                  refine g_getv (r := 42) (v := 8) g77607 ad42 (by decide) ft12_60 ((jw_eq e77607)) ?_
                  refine ev_iload_n rfl ?_
                  refine g_iast g77607 ad78 rt78 (fun _ => rfl) (by omega) (by omega) (by omega) (by omega) (fun h77609 e77609 g77609 => ?_)
                  have k77609 := k77607.wr e77609 rfl
                  refine ev_aload_n rfl ?_
                  refine ev_dup (by decide) ?_
                  refine g_getv (r := 42) (v := 8) g77609 ad42 (by decide) ft12_60 (((jw_ne e77609 (Or.inl (by decide))).trans (jw_eq e77607))) ?_
                  refine ev_iconst ?_
                  refine ev_iadd (r := 9) (by decide) ?_
                  refine g_putf (r := 42) g77609 ad42 (by decide) ft12_60 (by decide) (fun e => absurd e nz12_60) rf42_60 (by decide) (by omega) (by omega) (fun h77610 e77610 g77610 => ?_)
                  have k77610 := k77609.wr e77610 rfl
                  refine ev_ret rfl (by decide) (by decide) ?_
                  show jEv _ _ _ _ _ _ _ (_, [(2, 42), (0, a1), (0, 1)], [], _, _, _)
                  refine ev_aload_n rfl ?_
                  refine ev_iload_n rfl ?_
                  refine ev_iload_n rfl ?_
                  refine ev_in (d := 2) (a := 0) (b := 0) (cd' := c357_0) (m := 3) (L0 := [(2, 42), (0, a1), (0, 1)]) (jcall_v (A := [(0, 1), (0, a1)]) (S' := []) (r := 42) rfl (g77610.lt ad42) (g77610.tg ad42) (Nat.le_of_ble_eq_true rfl)) (by decide) ml357 pp357 (Nat.le_of_ble_eq_true rfl) rfl (by decide) (by decide) ?_
                  refine ev_aload_n rfl ?_
                  refine ev_iconst ?_
                  refine ev_in (d := 1) (a := 0) (b := 0) (cd' := c356_0) (m := 2) (L0 := [(2, 42), (0, 1)]) (jcall_v (A := [(0, 1)]) (S' := []) (r := 42) rfl (g77610.lt ad42) (g77610.tg ad42) (Nat.le_of_ble_eq_true rfl)) (by decide) ml356 pp356 (Nat.le_of_ble_eq_true rfl) rfl (by decide) (by decide) ?_
                  refine ev_aload_n rfl ?_
                  refine g_getv (r := 42) (v := 9) g77610 ad42 (by decide) ft12_60 ((jw_eq e77610)) ?_
                  refine ev_bipush ?_
                  refine ev_icmpge f356_19 (fun c77611 => absurd c77611 (by omega)) (fun c77611 => ?_)
                  refine ev_aload_n rfl ?_
                  refine g_getp (r := 42) (c := 78) g77610 ad42 (by decide) (by decide) rf42_61 ft12_61 ?_
                  refine ev_aload_n rfl ?_
                  refine g_getv (r := 42) (v := 9) g77610 ad42 (by decide) ft12_60 ((jw_eq e77610)) ?_
                  refine ev_iload_n rfl ?_
                  refine g_iast g77610 ad78 rt78 (fun _ => rfl) (by omega) (by omega) (by omega) (by omega) (fun h77612 e77612 g77612 => ?_)
                  have k77612 := k77610.wr e77612 rfl
                  refine ev_aload_n rfl ?_
                  refine ev_dup (by decide) ?_
                  refine g_getv (r := 42) (v := 9) g77612 ad42 (by decide) ft12_60 (((jw_ne e77612 (Or.inl (by decide))).trans (jw_eq e77610))) ?_
                  refine ev_iconst ?_
                  refine ev_iadd (r := 10) (by decide) ?_
                  refine g_putf (r := 42) g77612 ad42 (by decide) ft12_60 (by decide) (fun e => absurd e nz12_60) rf42_60 (by decide) (by omega) (by omega) (fun h77613 e77613 g77613 => ?_)
                  have k77613 := k77612.wr e77613 rfl
                  refine ev_ret rfl (by decide) (by decide) ?_
                  show jEv _ _ _ _ _ _ _ (_, [(2, 42), (0, a1), (0, 1)], [], _, _, _)
                  refine ev_iload_n rfl ?_
                  refine ev_iload_n rfl ?_
                  refine ev_iadd (r := (a1 + 1)) (by unfold w32; omega) ?_
                  refine ev_ret rfl (by decide) (by decide) ?_
                  show jEv _ _ _ _ _ _ _ (_, [(2, 42), (0, a1), (0, 1)], [(0, (a1 + 1))], _, _, _)
                  refine ev_aload_n rfl ?_
                  refine g_getp (r := 42) (c := 61) g77613 ad42 (by decide) (by decide) rf42_30 ft12_30 ?_
                  refine ev_iload_n rfl ?_
                  refine g_ialdv (v := v77262) g77613 ad61 (by omega) (by omega) (((jw_ne e77613 (Or.inl (by decide))).trans ((jw_ne e77612 (Or.inl (by decide))).trans ((jw_ne e77610 (Or.inl (by decide))).trans ((jw_ne e77609 (Or.inl (by decide))).trans ((jw_ne e77607 (Or.inl (by decide))).trans ((jw_ne e77606 (Or.inl (by decide))).trans ((jw_ne e77602 (Or.inl (by decide))).trans ((jw_ne e77601 (Or.inl (by decide))).trans ((jw_ne e77599 (Or.inl (by decide))).trans ((jw_ne e77598 (Or.inl (by decide))).trans ((jw_ne e77590 (Or.inl (by decide))).trans ((jw_ne e77589 (Or.inl (by decide))).trans ((jw_ne e77587 (Or.inl (by decide))).trans ((jw_ne e77586 (Or.inl (by decide))).trans ((jw_ne e77584 (Or.inl (by decide))).trans ((jw_ne e77583 (Or.inl (by decide))).trans ((jw_ne e77580 (Or.inl (by decide))).trans ((jw_ne e77579 (Or.inl (by decide))).trans ((jw_ne e77575 (Or.inl (by decide))).trans ((jw_ne e77574 (Or.inl (by decide))).trans ev77262))))))))))))))))))))) ?_
                  refine ev_iadd (r := (a1 + v77262 + 1)) (by unfold w32; omega) ?_
                  refine ev_ret rfl (by decide) (by decide) ?_
                  show jEv _ _ _ _ _ _ _ (_, [(2, 42), (0, a1), (0, 1)], [(0, (a1 + v77262 + 1))], _, _, _)
                  refine ev_ineg (r := ((-a1) + (-v77262) - 1)) (by unfold w32; omega) ?_
                  refine ev_ret rfl (by decide) (by decide) ?_
                  show jEv _ _ _ _ _ _ _ (_, [(2, 42), (0, a1), (0, 1), (0, v77603)], [(0, ((-a1) + (-v77262) - 1)), (0, v77603)], _, _, _)
                  refine ev_iadd (r := ((-a1) + (-v77262) + v77603 - 1)) (by unfold w32; omega) ?_
                  refine ev_ret rfl (by decide) (by decide) ?_
                  show jEv _ _ _ _ _ _ _ (_, [(2, 42), (0, a1), (0, a3), (0, v77594)], [(0, ((-a1) + (-v77262) + v77603 - 1)), (0, v77594)], _, _, _)
                  refine g_isubG (fun v77614 ev77614 lv77614 uv77614 => ?_)
                  refine ev_ret rfl (by decide) (by decide) ?_
                  show jEv _ _ _ _ _ _ _ (_, [(2, 42), (0, a1), (0, a3)], [(0, v77614)], _, _, _)
                  refine ev_ret rfl (by decide) (by decide) ?_
                  show jEv _ _ _ _ _ _ _ (_, [(2, 42), (0, a1), (0, a2), (0, a3)], [(0, v77614)], _, _, _)
                  exact ev_ret rfl (by decide) (by decide) ⟨_, rfl, g77613, k77613, Or.inr ⟨(by unfold AV0; rw [ew0]; omega), by rw [show h.2.2 60 (a1).toNat = 5 from (k77250.v rfl).symm.trans ((ev77261).trans (by omega)), show h.2.2 61 (a1).toNat = v77262 from (k77250.v rfl).symm.trans ev77262, show a2 = 3 by omega, ac_5_3]; (try rw [ev77591]); (try rw [ev77592]); (try rw [ev77593]); (try rw [ev77594]); (try rw [ev77603]); (try rw [ev77614]); all_goals (first | rfl | omega | (unfold w32 at *; omega)), by rw [show h.2.2 60 (a1).toNat = 5 from (k77250.v rfl).symm.trans ((ev77261).trans (by omega)), show a2 = 3 by omega, tr_5_3]; exact ⟨(((jw_eq e77613))), (((jw_ne e77613 (Or.inl (by decide))).trans ((jw_ne e77612 (Or.inr (by decide))).trans ((jw_ne e77610 (Or.inl (by decide))).trans ((jw_ne e77609 (Or.inr (by decide))).trans ((jw_ne e77607 (Or.inl (by decide))).trans ((jw_ne e77606 (Or.inr (by decide))).trans ((jw_ne e77602 (Or.inl (by decide))).trans ((jw_ne e77601 (Or.inr (by decide))).trans ((jw_ne e77599 (Or.inl (by decide))).trans ((jw_ne e77598 (Or.inr (by decide))).trans ((jw_ne e77590 (Or.inl (by decide))).trans ((jw_ne e77589 (Or.inr (by decide))).trans ((jw_ne e77587 (Or.inl (by decide))).trans ((jw_ne e77586 (Or.inr (by decide))).trans ((jw_ne e77584 (Or.inl (by decide))).trans ((jw_ne e77583 (Or.inr (by decide))).trans ((jw_ne e77580 (Or.inl (by decide))).trans ((jw_ne e77579 (Or.inr (by decide))).trans ((jw_ne e77575 (Or.inl (by decide))).trans (jw_eq e77574))))))))))))))))))))), (((jw_ne e77613 (Or.inl (by decide))).trans ((jw_ne e77612 (Or.inr (by decide))).trans ((jw_ne e77610 (Or.inl (by decide))).trans ((jw_ne e77609 (Or.inr (by decide))).trans ((jw_ne e77607 (Or.inl (by decide))).trans ((jw_ne e77606 (Or.inr (by decide))).trans ((jw_ne e77602 (Or.inl (by decide))).trans ((jw_ne e77601 (Or.inr (by decide))).trans ((jw_ne e77599 (Or.inl (by decide))).trans ((jw_ne e77598 (Or.inr (by decide))).trans ((jw_ne e77590 (Or.inl (by decide))).trans ((jw_ne e77589 (Or.inr (by decide))).trans ((jw_ne e77587 (Or.inl (by decide))).trans ((jw_ne e77586 (Or.inr (by decide))).trans ((jw_ne e77584 (Or.inl (by decide))).trans ((jw_ne e77583 (Or.inr (by decide))).trans ((jw_ne e77580 (Or.inl (by decide))).trans (jw_eq e77579))))))))))))))))))), (((jw_ne e77613 (Or.inl (by decide))).trans ((jw_ne e77612 (Or.inr (by decide))).trans ((jw_ne e77610 (Or.inl (by decide))).trans ((jw_ne e77609 (Or.inr (by decide))).trans ((jw_ne e77607 (Or.inl (by decide))).trans ((jw_ne e77606 (Or.inr (by decide))).trans ((jw_ne e77602 (Or.inl (by decide))).trans ((jw_ne e77601 (Or.inr (by decide))).trans ((jw_ne e77599 (Or.inl (by decide))).trans ((jw_ne e77598 (Or.inr (by decide))).trans ((jw_ne e77590 (Or.inl (by decide))).trans ((jw_ne e77589 (Or.inr (by decide))).trans ((jw_ne e77587 (Or.inl (by decide))).trans ((jw_ne e77586 (Or.inr (by decide))).trans ((jw_ne e77584 (Or.inl (by decide))).trans (jw_eq e77583))))))))))))))))), (((jw_ne e77613 (Or.inl (by decide))).trans ((jw_ne e77612 (Or.inr (by decide))).trans ((jw_ne e77610 (Or.inl (by decide))).trans ((jw_ne e77609 (Or.inr (by decide))).trans ((jw_ne e77607 (Or.inl (by decide))).trans ((jw_ne e77606 (Or.inr (by decide))).trans ((jw_ne e77602 (Or.inl (by decide))).trans ((jw_ne e77601 (Or.inr (by decide))).trans ((jw_ne e77599 (Or.inl (by decide))).trans ((jw_ne e77598 (Or.inr (by decide))).trans ((jw_ne e77590 (Or.inl (by decide))).trans ((jw_ne e77589 (Or.inr (by decide))).trans ((jw_ne e77587 (Or.inl (by decide))).trans (jw_eq e77586))))))))))))))), (((jw_ne e77613 (Or.inl (by decide))).trans ((jw_ne e77612 (Or.inr (by decide))).trans ((jw_ne e77610 (Or.inl (by decide))).trans ((jw_ne e77609 (Or.inr (by decide))).trans ((jw_ne e77607 (Or.inl (by decide))).trans ((jw_ne e77606 (Or.inr (by decide))).trans ((jw_ne e77602 (Or.inl (by decide))).trans ((jw_ne e77601 (Or.inr (by decide))).trans ((jw_ne e77599 (Or.inl (by decide))).trans ((jw_ne e77598 (Or.inr (by decide))).trans ((jw_ne e77590 (Or.inl (by decide))).trans (jw_eq e77589))))))))))))), (((jw_ne e77613 (Or.inl (by decide))).trans ((jw_ne e77612 (Or.inr (by decide))).trans ((jw_ne e77610 (Or.inl (by decide))).trans ((jw_ne e77609 (Or.inr (by decide))).trans ((jw_ne e77607 (Or.inl (by decide))).trans ((jw_ne e77606 (Or.inr (by decide))).trans ((jw_ne e77602 (Or.inl (by decide))).trans ((jw_ne e77601 (Or.inr (by decide))).trans ((jw_ne e77599 (Or.inl (by decide))).trans (jw_eq e77598))))))))))), (((jw_ne e77613 (Or.inl (by decide))).trans ((jw_ne e77612 (Or.inr (by decide))).trans ((jw_ne e77610 (Or.inl (by decide))).trans ((jw_ne e77609 (Or.inr (by decide))).trans ((jw_ne e77607 (Or.inl (by decide))).trans ((jw_ne e77606 (Or.inr (by decide))).trans ((jw_ne e77602 (Or.inl (by decide))).trans (jw_eq e77601))))))))), (((jw_ne e77613 (Or.inl (by decide))).trans ((jw_ne e77612 (Or.inr (by decide))).trans ((jw_ne e77610 (Or.inl (by decide))).trans ((jw_ne e77609 (Or.inr (by decide))).trans ((jw_ne e77607 (Or.inl (by decide))).trans (jw_eq e77606))))))), (((jw_ne e77613 (Or.inl (by decide))).trans ((jw_ne e77612 (Or.inr (by decide))).trans ((jw_ne e77610 (Or.inl (by decide))).trans (jw_eq e77609))))), (((jw_ne e77613 (Or.inl (by decide))).trans (jw_eq e77612))), trivial⟩⟩⟩
                · refine ev_aload_n rfl ?_
                  refine ev_iload_n rfl ?_
                  refine ev_iload_n rfl ?_
                  refine ev_in (d := 7) (a := 0) (b := 0) (cd' := c364_0) (m := 4) (L0 := [(2, 42), (0, a1), (0, a3), (9, 0)]) (jcall_v (A := [(0, a3), (0, a1)]) (S' := []) (r := 42) rfl (g77250.lt ad42) (g77250.tg ad42) (Nat.le_of_ble_eq_true rfl)) (by decide) ml364 pp364 (Nat.le_of_ble_eq_true rfl) rfl (by decide) (by decide) ?_
                  refine ev_aload_n rfl ?_
                  refine g_getp (r := 42) (c := 60) g77250 ad42 (by decide) (by decide) rf42_29 ft12_29 ?_
                  refine ev_iload_n rfl ?_
                  refine g_ialdv (v := v77261) g77250 ad60 (by omega) (by omega) (ev77261) ?_
                  refine ev_iconst ?_
                  refine ev_icmpne f364_25 (fun c77615 => ?_) (fun c77615 => absurd c77615 (by omega))
                  refine ev_aload_n rfl ?_
                  refine g_getp (r := 42) (c := 60) g77250 ad42 (by decide) (by decide) rf42_29 ft12_29 ?_
                  refine ev_iload_n rfl ?_
                  refine g_ialdv (v := v77261) g77250 ad60 (by omega) (by omega) (ev77261) ?_
                  refine ev_iconst ?_
                  refine ev_icmpne f364_57 (fun c77616 => absurd c77616 (by omega)) (fun c77616 => ?_)
                  refine ev_aload_n rfl ?_
                  refine ev_bipush ?_
                  refine ev_in (d := 6) (a := 0) (b := 0) (cd' := c356_0) (m := 2) (L0 := [(2, 42), (0, 61)]) (jcall_v (A := [(0, 61)]) (S' := []) (r := 42) rfl (g77250.lt ad42) (g77250.tg ad42) (Nat.le_of_ble_eq_true rfl)) (by decide) ml356 pp356 (Nat.le_of_ble_eq_true rfl) rfl (by decide) (by decide) ?_
                  refine ev_aload_n rfl ?_
                  refine g_getv (r := 42) (v := 0) g77250 ad42 (by decide) ft12_60 ((jw_eq e77250)) ?_
                  refine ev_bipush ?_
                  refine ev_icmpge f356_19 (fun c77617 => absurd c77617 (by omega)) (fun c77617 => ?_)
                  refine ev_aload_n rfl ?_
                  refine g_getp (r := 42) (c := 78) g77250 ad42 (by decide) (by decide) rf42_61 ft12_61 ?_
                  refine ev_aload_n rfl ?_
                  refine g_getv (r := 42) (v := 0) g77250 ad42 (by decide) ft12_60 ((jw_eq e77250)) ?_
                  refine ev_iload_n rfl ?_
                  refine g_iast g77250 ad78 rt78 (fun _ => rfl) (by omega) (by omega) (by omega) (by omega) (fun h77618 e77618 g77618 => ?_)
                  have k77618 := k77250.wr e77618 rfl
                  refine ev_aload_n rfl ?_
                  refine ev_dup (by decide) ?_
                  refine g_getv (r := 42) (v := 0) g77618 ad42 (by decide) ft12_60 (((jw_ne e77618 (Or.inl (by decide))).trans (jw_eq e77250))) ?_
                  refine ev_iconst ?_
                  refine ev_iadd (r := 1) (by decide) ?_
                  refine g_putf (r := 42) g77618 ad42 (by decide) ft12_60 (by decide) (fun e => absurd e nz12_60) rf42_60 (by decide) (by omega) (by omega) (fun h77619 e77619 g77619 => ?_)
                  have k77619 := k77618.wr e77619 rfl
                  refine ev_ret rfl (by decide) (by decide) ?_
                  show jEv _ _ _ _ _ _ _ (_, [(2, 42), (0, a1), (0, a3), (9, 0)], [], _, _, _)
                  refine ev_aload_n rfl ?_
                  refine ev_iload_n rfl ?_
                  refine ev_iload_n rfl ?_
                  refine ev_in (d := 6) (a := 0) (b := 0) (cd' := c363_0) (m := 3) (L0 := [(2, 42), (0, a1), (0, a3)]) (jcall_v (A := [(0, a3), (0, a1)]) (S' := []) (r := 42) rfl (g77619.lt ad42) (g77619.tg ad42) (Nat.le_of_ble_eq_true rfl)) (by decide) ml363 pp363 (Nat.le_of_ble_eq_true rfl) rfl (by decide) (by decide) ?_
                  refine ev_aload_n rfl ?_
                  refine ev_bipush ?_
                  refine ev_in (d := 5) (a := 0) (b := 0) (cd' := c356_0) (m := 2) (L0 := [(2, 42), (0, 11)]) (jcall_v (A := [(0, 11)]) (S' := []) (r := 42) rfl (g77619.lt ad42) (g77619.tg ad42) (Nat.le_of_ble_eq_true rfl)) (by decide) ml356 pp356 (Nat.le_of_ble_eq_true rfl) rfl (by decide) (by decide) ?_
                  refine ev_aload_n rfl ?_
                  refine g_getv (r := 42) (v := 1) g77619 ad42 (by decide) ft12_60 ((jw_eq e77619)) ?_
                  refine ev_bipush ?_
                  refine ev_icmpge f356_19 (fun c77620 => absurd c77620 (by omega)) (fun c77620 => ?_)
                  refine ev_aload_n rfl ?_
                  refine g_getp (r := 42) (c := 78) g77619 ad42 (by decide) (by decide) rf42_61 ft12_61 ?_
                  refine ev_aload_n rfl ?_
                  refine g_getv (r := 42) (v := 1) g77619 ad42 (by decide) ft12_60 ((jw_eq e77619)) ?_
                  refine ev_iload_n rfl ?_
                  refine g_iast g77619 ad78 rt78 (fun _ => rfl) (by omega) (by omega) (by omega) (by omega) (fun h77621 e77621 g77621 => ?_)
                  have k77621 := k77619.wr e77621 rfl
                  refine ev_aload_n rfl ?_
                  refine ev_dup (by decide) ?_
                  refine g_getv (r := 42) (v := 1) g77621 ad42 (by decide) ft12_60 (((jw_ne e77621 (Or.inl (by decide))).trans (jw_eq e77619))) ?_
                  refine ev_iconst ?_
                  refine ev_iadd (r := 2) (by decide) ?_
                  refine g_putf (r := 42) g77621 ad42 (by decide) ft12_60 (by decide) (fun e => absurd e nz12_60) rf42_60 (by decide) (by omega) (by omega) (fun h77622 e77622 g77622 => ?_)
                  have k77622 := k77621.wr e77622 rfl
                  refine ev_ret rfl (by decide) (by decide) ?_
                  show jEv _ _ _ _ _ _ _ (_, [(2, 42), (0, a1), (0, a3)], [], _, _, _)
                  refine ev_iload_n rfl ?_
                  refine ev_iload_n rfl ?_
                  refine g_ixorG (fun v77623 ev77623 lv77623 uv77623 => ?_)
                  refine ev_ret rfl (by decide) (by decide) ?_
                  show jEv _ _ _ _ _ _ _ (_, [(2, 42), (0, a1), (0, a3), (9, 0)], [(0, v77623)], _, _, _)
                  refine ev_istore_n (L' := [(2, 42), (0, a1), (0, a3), (0, v77623)]) (Nat.le_of_ble_eq_true rfl) rfl ?_
                  refine ev_iload_n rfl ?_
                  refine ev_aload_n rfl ?_
                  refine ev_iload_n rfl ?_
                  refine ev_iconst ?_
                  refine ev_in (d := 6) (a := 0) (b := 0) (cd' := c359_0) (m := 3) (L0 := [(2, 42), (0, a1), (0, 1)]) (jcall_v (A := [(0, 1), (0, a1)]) (S' := [(0, v77623)]) (r := 42) rfl (g77622.lt ad42) (g77622.tg ad42) (Nat.le_of_ble_eq_true rfl)) (by decide) ml359 pp359 (Nat.le_of_ble_eq_true rfl) rfl (by decide) (by decide) ?_
                  refine ev_aload_n rfl ?_
                  refine g_getp (r := 42) (c := 60) g77622 ad42 (by decide) (by decide) rf42_29 ft12_29 ?_
                  refine ev_iload_n rfl ?_
                  refine g_ialdv (v := v77261) g77622 ad60 (by omega) (by omega) (((jw_ne e77622 (Or.inl (by decide))).trans ((jw_ne e77621 (Or.inl (by decide))).trans ((jw_ne e77619 (Or.inl (by decide))).trans ((jw_ne e77618 (Or.inl (by decide))).trans ev77261))))) ?_
                  refine ev_iconst ?_
                  refine ev_icmpne f359_24 (fun c77624 => absurd c77624 (by omega)) (fun c77624 => ?_)
                  refine ev_aload_n rfl ?_
                  refine ev_bipush ?_
                  refine ev_in (d := 5) (a := 0) (b := 0) (cd' := c356_0) (m := 2) (L0 := [(2, 42), (0, 60)]) (jcall_v (A := [(0, 60)]) (S' := []) (r := 42) rfl (g77622.lt ad42) (g77622.tg ad42) (Nat.le_of_ble_eq_true rfl)) (by decide) ml356 pp356 (Nat.le_of_ble_eq_true rfl) rfl (by decide) (by decide) ?_
                  refine ev_aload_n rfl ?_
                  refine g_getv (r := 42) (v := 2) g77622 ad42 (by decide) ft12_60 ((jw_eq e77622)) ?_
                  refine ev_bipush ?_
                  refine ev_icmpge f356_19 (fun c77625 => absurd c77625 (by omega)) (fun c77625 => ?_)
                  refine ev_aload_n rfl ?_
                  refine g_getp (r := 42) (c := 78) g77622 ad42 (by decide) (by decide) rf42_61 ft12_61 ?_
                  refine ev_aload_n rfl ?_
                  refine g_getv (r := 42) (v := 2) g77622 ad42 (by decide) ft12_60 ((jw_eq e77622)) ?_
                  refine ev_iload_n rfl ?_
                  refine g_iast g77622 ad78 rt78 (fun _ => rfl) (by omega) (by omega) (by omega) (by omega) (fun h77626 e77626 g77626 => ?_)
                  have k77626 := k77622.wr e77626 rfl
                  refine ev_aload_n rfl ?_
                  refine ev_dup (by decide) ?_
                  refine g_getv (r := 42) (v := 2) g77626 ad42 (by decide) ft12_60 (((jw_ne e77626 (Or.inl (by decide))).trans (jw_eq e77622))) ?_
                  refine ev_iconst ?_
                  refine ev_iadd (r := 3) (by decide) ?_
                  refine g_putf (r := 42) g77626 ad42 (by decide) ft12_60 (by decide) (fun e => absurd e nz12_60) rf42_60 (by decide) (by omega) (by omega) (fun h77627 e77627 g77627 => ?_)
                  have k77627 := k77626.wr e77627 rfl
                  refine ev_ret rfl (by decide) (by decide) ?_
                  show jEv _ _ _ _ _ _ _ (_, [(2, 42), (0, a1), (0, 1)], [], _, _, _)
                  refine ev_aload_n rfl ?_
                  refine ev_iload_n rfl ?_
                  refine ev_iload_n rfl ?_
                  refine ev_in (d := 5) (a := 0) (b := 0) (cd' := c358_0) (m := 3) (L0 := [(2, 42), (0, a1), (0, 1)]) (jcall_v (A := [(0, 1), (0, a1)]) (S' := []) (r := 42) rfl (g77627.lt ad42) (g77627.tg ad42) (Nat.le_of_ble_eq_true rfl)) (by decide) ml358 pp358 (Nat.le_of_ble_eq_true rfl) rfl (by decide) (by decide) ?_
                  refine ev_aload_n rfl ?_
                  refine ev_bipush ?_
                  refine ev_in (d := 4) (a := 0) (b := 0) (cd' := c356_0) (m := 2) (L0 := [(2, 42), (0, 50)]) (jcall_v (A := [(0, 50)]) (S' := []) (r := 42) rfl (g77627.lt ad42) (g77627.tg ad42) (Nat.le_of_ble_eq_true rfl)) (by decide) ml356 pp356 (Nat.le_of_ble_eq_true rfl) rfl (by decide) (by decide) ?_
                  refine ev_aload_n rfl ?_
                  refine g_getv (r := 42) (v := 3) g77627 ad42 (by decide) ft12_60 ((jw_eq e77627)) ?_
                  refine ev_bipush ?_
                  refine ev_icmpge f356_19 (fun c77628 => absurd c77628 (by omega)) (fun c77628 => ?_)
                  refine ev_aload_n rfl ?_
                  refine g_getp (r := 42) (c := 78) g77627 ad42 (by decide) (by decide) rf42_61 ft12_61 ?_
                  refine ev_aload_n rfl ?_
                  refine g_getv (r := 42) (v := 3) g77627 ad42 (by decide) ft12_60 ((jw_eq e77627)) ?_
                  refine ev_iload_n rfl ?_
                  refine g_iast g77627 ad78 rt78 (fun _ => rfl) (by omega) (by omega) (by omega) (by omega) (fun h77629 e77629 g77629 => ?_)
                  have k77629 := k77627.wr e77629 rfl
                  refine ev_aload_n rfl ?_
                  refine ev_dup (by decide) ?_
                  refine g_getv (r := 42) (v := 3) g77629 ad42 (by decide) ft12_60 (((jw_ne e77629 (Or.inl (by decide))).trans (jw_eq e77627))) ?_
                  refine ev_iconst ?_
                  refine ev_iadd (r := 4) (by decide) ?_
                  refine g_putf (r := 42) g77629 ad42 (by decide) ft12_60 (by decide) (fun e => absurd e nz12_60) rf42_60 (by decide) (by omega) (by omega) (fun h77630 e77630 g77630 => ?_)
                  have k77630 := k77629.wr e77630 rfl
                  refine ev_ret rfl (by decide) (by decide) ?_
                  show jEv _ _ _ _ _ _ _ (_, [(2, 42), (0, a1), (0, 1)], [], _, _, _)
                  refine ev_aload_n rfl ?_
                  refine ev_iload_n rfl ?_
                  refine ev_iload_n rfl ?_
                  refine ev_in (d := 4) (a := 0) (b := 0) (cd' := c357_0) (m := 3) (L0 := [(2, 42), (0, a1), (0, 1)]) (jcall_v (A := [(0, 1), (0, a1)]) (S' := []) (r := 42) rfl (g77630.lt ad42) (g77630.tg ad42) (Nat.le_of_ble_eq_true rfl)) (by decide) ml357 pp357 (Nat.le_of_ble_eq_true rfl) rfl (by decide) (by decide) ?_
                  refine ev_aload_n rfl ?_
                  refine ev_iconst ?_
                  refine ev_in (d := 3) (a := 0) (b := 0) (cd' := c356_0) (m := 2) (L0 := [(2, 42), (0, 1)]) (jcall_v (A := [(0, 1)]) (S' := []) (r := 42) rfl (g77630.lt ad42) (g77630.tg ad42) (Nat.le_of_ble_eq_true rfl)) (by decide) ml356 pp356 (Nat.le_of_ble_eq_true rfl) rfl (by decide) (by decide) ?_
                  refine ev_aload_n rfl ?_
                  refine g_getv (r := 42) (v := 4) g77630 ad42 (by decide) ft12_60 ((jw_eq e77630)) ?_
                  refine ev_bipush ?_
                  refine ev_icmpge f356_19 (fun c77631 => absurd c77631 (by omega)) (fun c77631 => ?_)
                  refine ev_aload_n rfl ?_
                  refine g_getp (r := 42) (c := 78) g77630 ad42 (by decide) (by decide) rf42_61 ft12_61 ?_
                  refine ev_aload_n rfl ?_
                  refine g_getv (r := 42) (v := 4) g77630 ad42 (by decide) ft12_60 ((jw_eq e77630)) ?_
                  refine ev_iload_n rfl ?_
                  refine g_iast g77630 ad78 rt78 (fun _ => rfl) (by omega) (by omega) (by omega) (by omega) (fun h77632 e77632 g77632 => ?_)
                  have k77632 := k77630.wr e77632 rfl
                  refine ev_aload_n rfl ?_
                  refine ev_dup (by decide) ?_
                  refine g_getv (r := 42) (v := 4) g77632 ad42 (by decide) ft12_60 (((jw_ne e77632 (Or.inl (by decide))).trans (jw_eq e77630))) ?_
                  refine ev_iconst ?_
                  refine ev_iadd (r := 5) (by decide) ?_
                  refine g_putf (r := 42) g77632 ad42 (by decide) ft12_60 (by decide) (fun e => absurd e nz12_60) rf42_60 (by decide) (by omega) (by omega) (fun h77633 e77633 g77633 => ?_)
                  have k77633 := k77632.wr e77633 rfl
                  refine ev_ret rfl (by decide) (by decide) ?_
                  show jEv _ _ _ _ _ _ _ (_, [(2, 42), (0, a1), (0, 1)], [], _, _, _)
                  refine ev_iload_n rfl ?_
                  refine ev_iload_n rfl ?_
                  refine ev_iadd (r := (a1 + 1)) (by unfold w32; omega) ?_
                  refine ev_ret rfl (by decide) (by decide) ?_
                  show jEv _ _ _ _ _ _ _ (_, [(2, 42), (0, a1), (0, 1)], [(0, (a1 + 1))], _, _, _)
                  refine ev_aload_n rfl ?_
                  refine g_getp (r := 42) (c := 61) g77633 ad42 (by decide) (by decide) rf42_30 ft12_30 ?_
                  refine ev_iload_n rfl ?_
                  refine g_ialdv (v := v77262) g77633 ad61 (by omega) (by omega) (((jw_ne e77633 (Or.inl (by decide))).trans ((jw_ne e77632 (Or.inl (by decide))).trans ((jw_ne e77630 (Or.inl (by decide))).trans ((jw_ne e77629 (Or.inl (by decide))).trans ((jw_ne e77627 (Or.inl (by decide))).trans ((jw_ne e77626 (Or.inl (by decide))).trans ((jw_ne e77622 (Or.inl (by decide))).trans ((jw_ne e77621 (Or.inl (by decide))).trans ((jw_ne e77619 (Or.inl (by decide))).trans ((jw_ne e77618 (Or.inl (by decide))).trans ev77262))))))))))) ?_
                  refine ev_iadd (r := (a1 + v77262 + 1)) (by unfold w32; omega) ?_
                  refine ev_ret rfl (by decide) (by decide) ?_
                  show jEv _ _ _ _ _ _ _ (_, [(2, 42), (0, a1), (0, 1)], [(0, (a1 + v77262 + 1))], _, _, _)
                  refine ev_ineg (r := ((-a1) + (-v77262) - 1)) (by unfold w32; omega) ?_
                  refine ev_ret rfl (by decide) (by decide) ?_
                  show jEv _ _ _ _ _ _ _ (_, [(2, 42), (0, a1), (0, a3), (0, v77623)], [(0, ((-a1) + (-v77262) - 1)), (0, v77623)], _, _, _)
                  refine g_iaddG (fun v77634 ev77634 lv77634 uv77634 => ?_)
                  refine ev_ret rfl (by decide) (by decide) ?_
                  show jEv _ _ _ _ _ _ _ (_, [(2, 42), (0, a1), (0, a2), (0, a3)], [(0, v77634)], _, _, _)
                  refine ev_goto f367_71 ?_
                  exact ev_ret rfl (by decide) (by decide) ⟨_, rfl, g77633, k77633, Or.inr ⟨(by unfold AV0; rw [ew0]; omega), by rw [show h.2.2 60 (a1).toNat = 5 from (k77250.v rfl).symm.trans ((ev77261).trans (by omega)), show h.2.2 61 (a1).toNat = v77262 from (k77250.v rfl).symm.trans ev77262, show a2 = 2 by omega, ac_5_2]; (try rw [ev77623]); (try rw [ev77634]); all_goals (first | rfl | omega | (unfold w32 at *; omega)), by rw [show h.2.2 60 (a1).toNat = 5 from (k77250.v rfl).symm.trans ((ev77261).trans (by omega)), show a2 = 2 by omega, tr_5_2]; exact ⟨(((jw_eq e77633))), (((jw_ne e77633 (Or.inl (by decide))).trans ((jw_ne e77632 (Or.inr (by decide))).trans ((jw_ne e77630 (Or.inl (by decide))).trans ((jw_ne e77629 (Or.inr (by decide))).trans ((jw_ne e77627 (Or.inl (by decide))).trans ((jw_ne e77626 (Or.inr (by decide))).trans ((jw_ne e77622 (Or.inl (by decide))).trans ((jw_ne e77621 (Or.inr (by decide))).trans ((jw_ne e77619 (Or.inl (by decide))).trans (jw_eq e77618))))))))))), (((jw_ne e77633 (Or.inl (by decide))).trans ((jw_ne e77632 (Or.inr (by decide))).trans ((jw_ne e77630 (Or.inl (by decide))).trans ((jw_ne e77629 (Or.inr (by decide))).trans ((jw_ne e77627 (Or.inl (by decide))).trans ((jw_ne e77626 (Or.inr (by decide))).trans ((jw_ne e77622 (Or.inl (by decide))).trans (jw_eq e77621))))))))), (((jw_ne e77633 (Or.inl (by decide))).trans ((jw_ne e77632 (Or.inr (by decide))).trans ((jw_ne e77630 (Or.inl (by decide))).trans ((jw_ne e77629 (Or.inr (by decide))).trans ((jw_ne e77627 (Or.inl (by decide))).trans (jw_eq e77626))))))), (((jw_ne e77633 (Or.inl (by decide))).trans ((jw_ne e77632 (Or.inr (by decide))).trans ((jw_ne e77630 (Or.inl (by decide))).trans (jw_eq e77629))))), (((jw_ne e77633 (Or.inl (by decide))).trans (jw_eq e77632))), trivial⟩⟩⟩
              · refine ev_aload_n rfl ?_
                refine ev_iload_n rfl ?_
                refine ev_iload_n rfl ?_
                refine ev_in (d := 7) (a := 0) (b := 0) (cd' := c362_0) (m := 4) (L0 := [(2, 42), (0, a1), (0, a3), (9, 0)]) (jcall_v (A := [(0, a3), (0, a1)]) (S' := []) (r := 42) rfl (g77250.lt ad42) (g77250.tg ad42) (Nat.le_of_ble_eq_true rfl)) (by decide) ml362 pp362 (Nat.le_of_ble_eq_true rfl) rfl (by decide) (by decide) ?_
                refine ev_aload_n rfl ?_
                refine g_getp (r := 42) (c := 60) g77250 ad42 (by decide) (by decide) rf42_29 ft12_29 ?_
                refine ev_iload_n rfl ?_
                refine g_ialdv (v := v77261) g77250 ad60 (by omega) (by omega) (ev77261) ?_
                refine ev_iconst ?_
                refine ev_icmpne f362_32 (fun c77635 => ?_) (fun c77635 => absurd c77635 (by omega))
                refine ev_aload_n rfl ?_
                refine g_getp (r := 42) (c := 60) g77250 ad42 (by decide) (by decide) rf42_29 ft12_29 ?_
                refine ev_iload_n rfl ?_
                refine g_ialdv (v := v77261) g77250 ad60 (by omega) (by omega) (ev77261) ?_
                refine ev_iconst ?_
                refine ev_icmpne f362_51 (fun c77636 => ?_) (fun c77636 => absurd c77636 (by omega))
                refine ev_aload_n rfl ?_
                refine ev_iload_n rfl ?_
                refine ev_iload_n rfl ?_
                refine ev_in (d := 6) (a := 0) (b := 0) (cd' := c360_0) (m := 3) (L0 := [(2, 42), (0, a1), (0, a3)]) (jcall_v (A := [(0, a3), (0, a1)]) (S' := []) (r := 42) rfl (g77250.lt ad42) (g77250.tg ad42) (Nat.le_of_ble_eq_true rfl)) (by decide) ml360 pp360 (Nat.le_of_ble_eq_true rfl) rfl (by decide) (by decide) ?_
                refine ev_aload_n rfl ?_
                refine ev_bipush ?_
                refine ev_in (d := 5) (a := 0) (b := 0) (cd' := c356_0) (m := 2) (L0 := [(2, 42), (0, 10)]) (jcall_v (A := [(0, 10)]) (S' := []) (r := 42) rfl (g77250.lt ad42) (g77250.tg ad42) (Nat.le_of_ble_eq_true rfl)) (by decide) ml356 pp356 (Nat.le_of_ble_eq_true rfl) rfl (by decide) (by decide) ?_
                refine ev_aload_n rfl ?_
                refine g_getv (r := 42) (v := 0) g77250 ad42 (by decide) ft12_60 ((jw_eq e77250)) ?_
                refine ev_bipush ?_
                refine ev_icmpge f356_19 (fun c77637 => absurd c77637 (by omega)) (fun c77637 => ?_)
                refine ev_aload_n rfl ?_
                refine g_getp (r := 42) (c := 78) g77250 ad42 (by decide) (by decide) rf42_61 ft12_61 ?_
                refine ev_aload_n rfl ?_
                refine g_getv (r := 42) (v := 0) g77250 ad42 (by decide) ft12_60 ((jw_eq e77250)) ?_
                refine ev_iload_n rfl ?_
                refine g_iast g77250 ad78 rt78 (fun _ => rfl) (by omega) (by omega) (by omega) (by omega) (fun h77638 e77638 g77638 => ?_)
                have k77638 := k77250.wr e77638 rfl
                refine ev_aload_n rfl ?_
                refine ev_dup (by decide) ?_
                refine g_getv (r := 42) (v := 0) g77638 ad42 (by decide) ft12_60 (((jw_ne e77638 (Or.inl (by decide))).trans (jw_eq e77250))) ?_
                refine ev_iconst ?_
                refine ev_iadd (r := 1) (by decide) ?_
                refine g_putf (r := 42) g77638 ad42 (by decide) ft12_60 (by decide) (fun e => absurd e nz12_60) rf42_60 (by decide) (by omega) (by omega) (fun h77639 e77639 g77639 => ?_)
                have k77639 := k77638.wr e77639 rfl
                refine ev_ret rfl (by decide) (by decide) ?_
                show jEv _ _ _ _ _ _ _ (_, [(2, 42), (0, a1), (0, a3)], [], _, _, _)
                refine ev_aload_n rfl ?_
                refine ev_iload_n rfl ?_
                refine ev_iload_n rfl ?_
                refine ev_in (d := 5) (a := 0) (b := 0) (cd' := c359_0) (m := 3) (L0 := [(2, 42), (0, a1), (0, a3)]) (jcall_v (A := [(0, a3), (0, a1)]) (S' := []) (r := 42) rfl (g77639.lt ad42) (g77639.tg ad42) (Nat.le_of_ble_eq_true rfl)) (by decide) ml359 pp359 (Nat.le_of_ble_eq_true rfl) rfl (by decide) (by decide) ?_
                refine ev_aload_n rfl ?_
                refine g_getp (r := 42) (c := 60) g77639 ad42 (by decide) (by decide) rf42_29 ft12_29 ?_
                refine ev_iload_n rfl ?_
                refine g_ialdv (v := v77261) g77639 ad60 (by omega) (by omega) (((jw_ne e77639 (Or.inl (by decide))).trans ((jw_ne e77638 (Or.inl (by decide))).trans ev77261))) ?_
                refine ev_iconst ?_
                refine ev_icmpne f359_24 (fun c77640 => absurd c77640 (by omega)) (fun c77640 => ?_)
                refine ev_aload_n rfl ?_
                refine ev_bipush ?_
                refine ev_in (d := 4) (a := 0) (b := 0) (cd' := c356_0) (m := 2) (L0 := [(2, 42), (0, 60)]) (jcall_v (A := [(0, 60)]) (S' := []) (r := 42) rfl (g77639.lt ad42) (g77639.tg ad42) (Nat.le_of_ble_eq_true rfl)) (by decide) ml356 pp356 (Nat.le_of_ble_eq_true rfl) rfl (by decide) (by decide) ?_
                refine ev_aload_n rfl ?_
                refine g_getv (r := 42) (v := 1) g77639 ad42 (by decide) ft12_60 ((jw_eq e77639)) ?_
                refine ev_bipush ?_
                refine ev_icmpge f356_19 (fun c77641 => absurd c77641 (by omega)) (fun c77641 => ?_)
                refine ev_aload_n rfl ?_
                refine g_getp (r := 42) (c := 78) g77639 ad42 (by decide) (by decide) rf42_61 ft12_61 ?_
                refine ev_aload_n rfl ?_
                refine g_getv (r := 42) (v := 1) g77639 ad42 (by decide) ft12_60 ((jw_eq e77639)) ?_
                refine ev_iload_n rfl ?_
                refine g_iast g77639 ad78 rt78 (fun _ => rfl) (by omega) (by omega) (by omega) (by omega) (fun h77642 e77642 g77642 => ?_)
                have k77642 := k77639.wr e77642 rfl
                refine ev_aload_n rfl ?_
                refine ev_dup (by decide) ?_
                refine g_getv (r := 42) (v := 1) g77642 ad42 (by decide) ft12_60 (((jw_ne e77642 (Or.inl (by decide))).trans (jw_eq e77639))) ?_
                refine ev_iconst ?_
                refine ev_iadd (r := 2) (by decide) ?_
                refine g_putf (r := 42) g77642 ad42 (by decide) ft12_60 (by decide) (fun e => absurd e nz12_60) rf42_60 (by decide) (by omega) (by omega) (fun h77643 e77643 g77643 => ?_)
                have k77643 := k77642.wr e77643 rfl
                refine ev_ret rfl (by decide) (by decide) ?_
                show jEv _ _ _ _ _ _ _ (_, [(2, 42), (0, a1), (0, a3)], [], _, _, _)
                refine ev_aload_n rfl ?_
                refine ev_iload_n rfl ?_
                refine ev_iload_n rfl ?_
                refine ev_in (d := 4) (a := 0) (b := 0) (cd' := c358_0) (m := 3) (L0 := [(2, 42), (0, a1), (0, a3)]) (jcall_v (A := [(0, a3), (0, a1)]) (S' := []) (r := 42) rfl (g77643.lt ad42) (g77643.tg ad42) (Nat.le_of_ble_eq_true rfl)) (by decide) ml358 pp358 (Nat.le_of_ble_eq_true rfl) rfl (by decide) (by decide) ?_
                refine ev_aload_n rfl ?_
                refine ev_bipush ?_
                refine ev_in (d := 3) (a := 0) (b := 0) (cd' := c356_0) (m := 2) (L0 := [(2, 42), (0, 50)]) (jcall_v (A := [(0, 50)]) (S' := []) (r := 42) rfl (g77643.lt ad42) (g77643.tg ad42) (Nat.le_of_ble_eq_true rfl)) (by decide) ml356 pp356 (Nat.le_of_ble_eq_true rfl) rfl (by decide) (by decide) ?_
                refine ev_aload_n rfl ?_
                refine g_getv (r := 42) (v := 2) g77643 ad42 (by decide) ft12_60 ((jw_eq e77643)) ?_
                refine ev_bipush ?_
                refine ev_icmpge f356_19 (fun c77644 => absurd c77644 (by omega)) (fun c77644 => ?_)
                refine ev_aload_n rfl ?_
                refine g_getp (r := 42) (c := 78) g77643 ad42 (by decide) (by decide) rf42_61 ft12_61 ?_
                refine ev_aload_n rfl ?_
                refine g_getv (r := 42) (v := 2) g77643 ad42 (by decide) ft12_60 ((jw_eq e77643)) ?_
                refine ev_iload_n rfl ?_
                refine g_iast g77643 ad78 rt78 (fun _ => rfl) (by omega) (by omega) (by omega) (by omega) (fun h77645 e77645 g77645 => ?_)
                have k77645 := k77643.wr e77645 rfl
                refine ev_aload_n rfl ?_
                refine ev_dup (by decide) ?_
                refine g_getv (r := 42) (v := 2) g77645 ad42 (by decide) ft12_60 (((jw_ne e77645 (Or.inl (by decide))).trans (jw_eq e77643))) ?_
                refine ev_iconst ?_
                refine ev_iadd (r := 3) (by decide) ?_
                refine g_putf (r := 42) g77645 ad42 (by decide) ft12_60 (by decide) (fun e => absurd e nz12_60) rf42_60 (by decide) (by omega) (by omega) (fun h77646 e77646 g77646 => ?_)
                have k77646 := k77645.wr e77646 rfl
                refine ev_ret rfl (by decide) (by decide) ?_
                show jEv _ _ _ _ _ _ _ (_, [(2, 42), (0, a1), (0, a3)], [], _, _, _)
                refine ev_aload_n rfl ?_
                refine ev_iload_n rfl ?_
                refine ev_iload_n rfl ?_
                refine ev_in (d := 3) (a := 0) (b := 0) (cd' := c357_0) (m := 3) (L0 := [(2, 42), (0, a1), (0, a3)]) (jcall_v (A := [(0, a3), (0, a1)]) (S' := []) (r := 42) rfl (g77646.lt ad42) (g77646.tg ad42) (Nat.le_of_ble_eq_true rfl)) (by decide) ml357 pp357 (Nat.le_of_ble_eq_true rfl) rfl (by decide) (by decide) ?_
                refine ev_aload_n rfl ?_
                refine ev_iconst ?_
                refine ev_in (d := 2) (a := 0) (b := 0) (cd' := c356_0) (m := 2) (L0 := [(2, 42), (0, 1)]) (jcall_v (A := [(0, 1)]) (S' := []) (r := 42) rfl (g77646.lt ad42) (g77646.tg ad42) (Nat.le_of_ble_eq_true rfl)) (by decide) ml356 pp356 (Nat.le_of_ble_eq_true rfl) rfl (by decide) (by decide) ?_
                refine ev_aload_n rfl ?_
                refine g_getv (r := 42) (v := 3) g77646 ad42 (by decide) ft12_60 ((jw_eq e77646)) ?_
                refine ev_bipush ?_
                refine ev_icmpge f356_19 (fun c77647 => absurd c77647 (by omega)) (fun c77647 => ?_)
                refine ev_aload_n rfl ?_
                refine g_getp (r := 42) (c := 78) g77646 ad42 (by decide) (by decide) rf42_61 ft12_61 ?_
                refine ev_aload_n rfl ?_
                refine g_getv (r := 42) (v := 3) g77646 ad42 (by decide) ft12_60 ((jw_eq e77646)) ?_
                refine ev_iload_n rfl ?_
                refine g_iast g77646 ad78 rt78 (fun _ => rfl) (by omega) (by omega) (by omega) (by omega) (fun h77648 e77648 g77648 => ?_)
                have k77648 := k77646.wr e77648 rfl
                refine ev_aload_n rfl ?_
                refine ev_dup (by decide) ?_
                refine g_getv (r := 42) (v := 3) g77648 ad42 (by decide) ft12_60 (((jw_ne e77648 (Or.inl (by decide))).trans (jw_eq e77646))) ?_
                refine ev_iconst ?_
                refine ev_iadd (r := 4) (by decide) ?_
                refine g_putf (r := 42) g77648 ad42 (by decide) ft12_60 (by decide) (fun e => absurd e nz12_60) rf42_60 (by decide) (by omega) (by omega) (fun h77649 e77649 g77649 => ?_)
                have k77649 := k77648.wr e77649 rfl
                refine ev_ret rfl (by decide) (by decide) ?_
                show jEv _ _ _ _ _ _ _ (_, [(2, 42), (0, a1), (0, a3)], [], _, _, _)
                refine ev_iload_n rfl ?_
                refine ev_iload_n rfl ?_
                refine g_iaddG (fun v77650 ev77650 lv77650 uv77650 => ?_)
                refine ev_ret rfl (by decide) (by decide) ?_
                show jEv _ _ _ _ _ _ _ (_, [(2, 42), (0, a1), (0, a3)], [(0, v77650)], _, _, _)
                refine ev_aload_n rfl ?_
                refine g_getp (r := 42) (c := 61) g77649 ad42 (by decide) (by decide) rf42_30 ft12_30 ?_
                refine ev_iload_n rfl ?_
                refine g_ialdv (v := v77262) g77649 ad61 (by omega) (by omega) (((jw_ne e77649 (Or.inl (by decide))).trans ((jw_ne e77648 (Or.inl (by decide))).trans ((jw_ne e77646 (Or.inl (by decide))).trans ((jw_ne e77645 (Or.inl (by decide))).trans ((jw_ne e77643 (Or.inl (by decide))).trans ((jw_ne e77642 (Or.inl (by decide))).trans ((jw_ne e77639 (Or.inl (by decide))).trans ((jw_ne e77638 (Or.inl (by decide))).trans ev77262))))))))) ?_
                refine g_iaddG (fun v77651 ev77651 lv77651 uv77651 => ?_)
                refine ev_ret rfl (by decide) (by decide) ?_
                show jEv _ _ _ _ _ _ _ (_, [(2, 42), (0, a1), (0, a3)], [(0, v77651)], _, _, _)
                refine g_inegG (fun v77652 ev77652 lv77652 uv77652 => ?_)
                refine ev_ret rfl (by decide) (by decide) ?_
                show jEv _ _ _ _ _ _ _ (_, [(2, 42), (0, a1), (0, a3)], [(0, v77652)], _, _, _)
                refine ev_iconst ?_
                refine g_imulG (fun v77653 ev77653 lv77653 uv77653 => ?_)
                refine ev_ret rfl (by decide) (by decide) ?_
                show jEv _ _ _ _ _ _ _ (_, [(2, 42), (0, a1), (0, a3), (9, 0)], [(0, v77653)], _, _, _)
                refine ev_ret rfl (by decide) (by decide) ?_
                show jEv _ _ _ _ _ _ _ (_, [(2, 42), (0, a1), (0, a2), (0, a3)], [(0, v77653)], _, _, _)
                refine ev_goto f367_71 ?_
                exact ev_ret rfl (by decide) (by decide) ⟨_, rfl, g77649, k77649, Or.inr ⟨(by unfold AV0; rw [ew0]; omega), by rw [show h.2.2 60 (a1).toNat = 5 from (k77250.v rfl).symm.trans ((ev77261).trans (by omega)), show h.2.2 61 (a1).toNat = v77262 from (k77250.v rfl).symm.trans ev77262, show a2 = 1 by omega, ac_5_1]; (try rw [ev77650]); (try rw [ev77651]); (try rw [ev77652]); (try rw [ev77653]); all_goals (first | rfl | omega | (unfold w32 at *; omega)), by rw [show h.2.2 60 (a1).toNat = 5 from (k77250.v rfl).symm.trans ((ev77261).trans (by omega)), show a2 = 1 by omega, tr_5_1]; exact ⟨(((jw_eq e77649))), (((jw_ne e77649 (Or.inl (by decide))).trans ((jw_ne e77648 (Or.inr (by decide))).trans ((jw_ne e77646 (Or.inl (by decide))).trans ((jw_ne e77645 (Or.inr (by decide))).trans ((jw_ne e77643 (Or.inl (by decide))).trans ((jw_ne e77642 (Or.inr (by decide))).trans ((jw_ne e77639 (Or.inl (by decide))).trans (jw_eq e77638))))))))), (((jw_ne e77649 (Or.inl (by decide))).trans ((jw_ne e77648 (Or.inr (by decide))).trans ((jw_ne e77646 (Or.inl (by decide))).trans ((jw_ne e77645 (Or.inr (by decide))).trans ((jw_ne e77643 (Or.inl (by decide))).trans (jw_eq e77642))))))), (((jw_ne e77649 (Or.inl (by decide))).trans ((jw_ne e77648 (Or.inr (by decide))).trans ((jw_ne e77646 (Or.inl (by decide))).trans (jw_eq e77645))))), (((jw_ne e77649 (Or.inl (by decide))).trans (jw_eq e77648))), trivial⟩⟩⟩
            · refine ev_aload_n rfl ?_
              refine ev_iload_n rfl ?_
              refine ev_iload_n rfl ?_
              refine ev_in (d := 7) (a := 0) (b := 0) (cd' := c359_0) (m := 3) (L0 := [(2, 42), (0, a1), (0, a3)]) (jcall_v (A := [(0, a3), (0, a1)]) (S' := []) (r := 42) rfl (g77250.lt ad42) (g77250.tg ad42) (Nat.le_of_ble_eq_true rfl)) (by decide) ml359 pp359 (Nat.le_of_ble_eq_true rfl) rfl (by decide) (by decide) ?_
              refine ev_aload_n rfl ?_
              refine g_getp (r := 42) (c := 60) g77250 ad42 (by decide) (by decide) rf42_29 ft12_29 ?_
              refine ev_iload_n rfl ?_
              refine g_ialdv (v := v77261) g77250 ad60 (by omega) (by omega) (ev77261) ?_
              refine ev_iconst ?_
              refine ev_icmpne f359_24 (fun c77654 => absurd c77654 (by omega)) (fun c77654 => ?_)
              refine ev_aload_n rfl ?_
              refine ev_bipush ?_
              refine ev_in (d := 6) (a := 0) (b := 0) (cd' := c356_0) (m := 2) (L0 := [(2, 42), (0, 60)]) (jcall_v (A := [(0, 60)]) (S' := []) (r := 42) rfl (g77250.lt ad42) (g77250.tg ad42) (Nat.le_of_ble_eq_true rfl)) (by decide) ml356 pp356 (Nat.le_of_ble_eq_true rfl) rfl (by decide) (by decide) ?_
              refine ev_aload_n rfl ?_
              refine g_getv (r := 42) (v := 0) g77250 ad42 (by decide) ft12_60 ((jw_eq e77250)) ?_
              refine ev_bipush ?_
              refine ev_icmpge f356_19 (fun c77655 => absurd c77655 (by omega)) (fun c77655 => ?_)
              refine ev_aload_n rfl ?_
              refine g_getp (r := 42) (c := 78) g77250 ad42 (by decide) (by decide) rf42_61 ft12_61 ?_
              refine ev_aload_n rfl ?_
              refine g_getv (r := 42) (v := 0) g77250 ad42 (by decide) ft12_60 ((jw_eq e77250)) ?_
              refine ev_iload_n rfl ?_
              refine g_iast g77250 ad78 rt78 (fun _ => rfl) (by omega) (by omega) (by omega) (by omega) (fun h77656 e77656 g77656 => ?_)
              have k77656 := k77250.wr e77656 rfl
              refine ev_aload_n rfl ?_
              refine ev_dup (by decide) ?_
              refine g_getv (r := 42) (v := 0) g77656 ad42 (by decide) ft12_60 (((jw_ne e77656 (Or.inl (by decide))).trans (jw_eq e77250))) ?_
              refine ev_iconst ?_
              refine ev_iadd (r := 1) (by decide) ?_
              refine g_putf (r := 42) g77656 ad42 (by decide) ft12_60 (by decide) (fun e => absurd e nz12_60) rf42_60 (by decide) (by omega) (by omega) (fun h77657 e77657 g77657 => ?_)
              have k77657 := k77656.wr e77657 rfl
              refine ev_ret rfl (by decide) (by decide) ?_
              show jEv _ _ _ _ _ _ _ (_, [(2, 42), (0, a1), (0, a3)], [], _, _, _)
              refine ev_aload_n rfl ?_
              refine ev_iload_n rfl ?_
              refine ev_iload_n rfl ?_
              refine ev_in (d := 6) (a := 0) (b := 0) (cd' := c358_0) (m := 3) (L0 := [(2, 42), (0, a1), (0, a3)]) (jcall_v (A := [(0, a3), (0, a1)]) (S' := []) (r := 42) rfl (g77657.lt ad42) (g77657.tg ad42) (Nat.le_of_ble_eq_true rfl)) (by decide) ml358 pp358 (Nat.le_of_ble_eq_true rfl) rfl (by decide) (by decide) ?_
              refine ev_aload_n rfl ?_
              refine ev_bipush ?_
              refine ev_in (d := 5) (a := 0) (b := 0) (cd' := c356_0) (m := 2) (L0 := [(2, 42), (0, 50)]) (jcall_v (A := [(0, 50)]) (S' := []) (r := 42) rfl (g77657.lt ad42) (g77657.tg ad42) (Nat.le_of_ble_eq_true rfl)) (by decide) ml356 pp356 (Nat.le_of_ble_eq_true rfl) rfl (by decide) (by decide) ?_
              refine ev_aload_n rfl ?_
              refine g_getv (r := 42) (v := 1) g77657 ad42 (by decide) ft12_60 ((jw_eq e77657)) ?_
              refine ev_bipush ?_
              refine ev_icmpge f356_19 (fun c77658 => absurd c77658 (by omega)) (fun c77658 => ?_)
              refine ev_aload_n rfl ?_
              refine g_getp (r := 42) (c := 78) g77657 ad42 (by decide) (by decide) rf42_61 ft12_61 ?_
              refine ev_aload_n rfl ?_
              refine g_getv (r := 42) (v := 1) g77657 ad42 (by decide) ft12_60 ((jw_eq e77657)) ?_
              refine ev_iload_n rfl ?_
              refine g_iast g77657 ad78 rt78 (fun _ => rfl) (by omega) (by omega) (by omega) (by omega) (fun h77659 e77659 g77659 => ?_)
              have k77659 := k77657.wr e77659 rfl
              refine ev_aload_n rfl ?_
              refine ev_dup (by decide) ?_
              refine g_getv (r := 42) (v := 1) g77659 ad42 (by decide) ft12_60 (((jw_ne e77659 (Or.inl (by decide))).trans (jw_eq e77657))) ?_
              refine ev_iconst ?_
              refine ev_iadd (r := 2) (by decide) ?_
              refine g_putf (r := 42) g77659 ad42 (by decide) ft12_60 (by decide) (fun e => absurd e nz12_60) rf42_60 (by decide) (by omega) (by omega) (fun h77660 e77660 g77660 => ?_)
              have k77660 := k77659.wr e77660 rfl
              refine ev_ret rfl (by decide) (by decide) ?_
              show jEv _ _ _ _ _ _ _ (_, [(2, 42), (0, a1), (0, a3)], [], _, _, _)
              refine ev_aload_n rfl ?_
              refine ev_iload_n rfl ?_
              refine ev_iload_n rfl ?_
              refine ev_in (d := 5) (a := 0) (b := 0) (cd' := c357_0) (m := 3) (L0 := [(2, 42), (0, a1), (0, a3)]) (jcall_v (A := [(0, a3), (0, a1)]) (S' := []) (r := 42) rfl (g77660.lt ad42) (g77660.tg ad42) (Nat.le_of_ble_eq_true rfl)) (by decide) ml357 pp357 (Nat.le_of_ble_eq_true rfl) rfl (by decide) (by decide) ?_
              refine ev_aload_n rfl ?_
              refine ev_iconst ?_
              refine ev_in (d := 4) (a := 0) (b := 0) (cd' := c356_0) (m := 2) (L0 := [(2, 42), (0, 1)]) (jcall_v (A := [(0, 1)]) (S' := []) (r := 42) rfl (g77660.lt ad42) (g77660.tg ad42) (Nat.le_of_ble_eq_true rfl)) (by decide) ml356 pp356 (Nat.le_of_ble_eq_true rfl) rfl (by decide) (by decide) ?_
              refine ev_aload_n rfl ?_
              refine g_getv (r := 42) (v := 2) g77660 ad42 (by decide) ft12_60 ((jw_eq e77660)) ?_
              refine ev_bipush ?_
              refine ev_icmpge f356_19 (fun c77661 => absurd c77661 (by omega)) (fun c77661 => ?_)
              refine ev_aload_n rfl ?_
              refine g_getp (r := 42) (c := 78) g77660 ad42 (by decide) (by decide) rf42_61 ft12_61 ?_
              refine ev_aload_n rfl ?_
              refine g_getv (r := 42) (v := 2) g77660 ad42 (by decide) ft12_60 ((jw_eq e77660)) ?_
              refine ev_iload_n rfl ?_
              refine g_iast g77660 ad78 rt78 (fun _ => rfl) (by omega) (by omega) (by omega) (by omega) (fun h77662 e77662 g77662 => ?_)
              have k77662 := k77660.wr e77662 rfl
              refine ev_aload_n rfl ?_
              refine ev_dup (by decide) ?_
              refine g_getv (r := 42) (v := 2) g77662 ad42 (by decide) ft12_60 (((jw_ne e77662 (Or.inl (by decide))).trans (jw_eq e77660))) ?_
              refine ev_iconst ?_
              refine ev_iadd (r := 3) (by decide) ?_
              refine g_putf (r := 42) g77662 ad42 (by decide) ft12_60 (by decide) (fun e => absurd e nz12_60) rf42_60 (by decide) (by omega) (by omega) (fun h77663 e77663 g77663 => ?_)
              have k77663 := k77662.wr e77663 rfl
              refine ev_ret rfl (by decide) (by decide) ?_
              show jEv _ _ _ _ _ _ _ (_, [(2, 42), (0, a1), (0, a3)], [], _, _, _)
              refine ev_iload_n rfl ?_
              refine ev_iload_n rfl ?_
              refine g_iaddG (fun v77664 ev77664 lv77664 uv77664 => ?_)
              refine ev_ret rfl (by decide) (by decide) ?_
              show jEv _ _ _ _ _ _ _ (_, [(2, 42), (0, a1), (0, a3)], [(0, v77664)], _, _, _)
              refine ev_aload_n rfl ?_
              refine g_getp (r := 42) (c := 61) g77663 ad42 (by decide) (by decide) rf42_30 ft12_30 ?_
              refine ev_iload_n rfl ?_
              refine g_ialdv (v := v77262) g77663 ad61 (by omega) (by omega) (((jw_ne e77663 (Or.inl (by decide))).trans ((jw_ne e77662 (Or.inl (by decide))).trans ((jw_ne e77660 (Or.inl (by decide))).trans ((jw_ne e77659 (Or.inl (by decide))).trans ((jw_ne e77657 (Or.inl (by decide))).trans ((jw_ne e77656 (Or.inl (by decide))).trans ev77262))))))) ?_
              refine g_iaddG (fun v77665 ev77665 lv77665 uv77665 => ?_)
              refine ev_ret rfl (by decide) (by decide) ?_
              show jEv _ _ _ _ _ _ _ (_, [(2, 42), (0, a1), (0, a3)], [(0, v77665)], _, _, _)
              refine g_inegG (fun v77666 ev77666 lv77666 uv77666 => ?_)
              refine ev_ret rfl (by decide) (by decide) ?_
              show jEv _ _ _ _ _ _ _ (_, [(2, 42), (0, a1), (0, a2), (0, a3)], [(0, v77666)], _, _, _)
              refine ev_goto f367_71 ?_
              exact ev_ret rfl (by decide) (by decide) ⟨_, rfl, g77663, k77663, Or.inr ⟨(by unfold AV0; rw [ew0]; omega), by rw [show h.2.2 60 (a1).toNat = 5 from (k77250.v rfl).symm.trans ((ev77261).trans (by omega)), show h.2.2 61 (a1).toNat = v77262 from (k77250.v rfl).symm.trans ev77262, show a2 = 0 by omega, ac_5_0]; (try rw [ev77664]); (try rw [ev77665]); (try rw [ev77666]); all_goals (first | rfl | omega | (unfold w32 at *; omega)), by rw [show h.2.2 60 (a1).toNat = 5 from (k77250.v rfl).symm.trans ((ev77261).trans (by omega)), show a2 = 0 by omega, tr_5_0]; exact ⟨(((jw_eq e77663))), (((jw_ne e77663 (Or.inl (by decide))).trans ((jw_ne e77662 (Or.inr (by decide))).trans ((jw_ne e77660 (Or.inl (by decide))).trans ((jw_ne e77659 (Or.inr (by decide))).trans ((jw_ne e77657 (Or.inl (by decide))).trans (jw_eq e77656))))))), (((jw_ne e77663 (Or.inl (by decide))).trans ((jw_ne e77662 (Or.inr (by decide))).trans ((jw_ne e77660 (Or.inl (by decide))).trans (jw_eq e77659))))), (((jw_ne e77663 (Or.inl (by decide))).trans (jw_eq e77662))), trivial⟩⟩⟩
set_option maxHeartbeats 4000000 in
theorem t211 {G : GH} {h : JH} (g : Gd G h) {a1 : Int} (la1 : (-2147483648) ≤ a1) (ua1 : a1 ≤ 2147483647) : jOk 2 0 0 211 [(2, 0), (0, a1)] h (fun v h' => ∃ r : Int, v = some (0, r) ∧ Gd G h' ∧ Kp [] h h' ∧ r = tcF a1 (h.2.2 19 5) (h.2.2 22 (a1).toNat)) := by
  refine ⟨by decide, by rw [ml211]; exact Nat.le_of_ble_eq_true rfl, ?_⟩
  rw [ml211, pp211]
  show jEv _ none _ c211_0 0 0 _ (c211_0, [(2, 0), (0, a1)], [], h, 0, 0)
  have k0 := Kp.rf [] h
  refine ev_aload_n rfl ?_
  refine g_getp (r := 0) (c := 19) g ad0 (by decide) (by decide) rf0_4 ft11_4 ?_
  refine ev_iload_n rfl ?_
  refine ev_in (d := 0) (a := 0) (b := 0) (cd' := c95_0) (m := 2) (L0 := [(2, 19), (0, a1)]) (jcall_v (A := [(0, a1)]) (S' := []) (r := 19) rfl (g.lt ad19) (g.tg ad19) (Nat.le_of_ble_eq_true rfl)) (by decide) ml95 pp95 (Nat.le_of_ble_eq_true rfl) rfl (by decide) (by decide) ?_
  refine ev_iload_n rfl ?_
  refine ev_iflt f95_22 (fun c77685 => ?_) (fun c77685 => ?_)
  · refine ev_iconst ?_
    refine ev_ret rfl (by decide) (by decide) ?_
    show jEv _ _ _ _ _ _ _ (_, [(2, 0), (0, a1)], [(0, 0)], _, _, _)
    refine ev_ifeq f211_22 (fun c77686 => ?_) (fun c77686 => absurd c77686 (by omega))
    refine ev_iconst ?_
    exact ev_ret rfl (by decide) (by decide) ⟨_, rfl, g, k0, by unfold tcF; rw [if_neg (by omega)]⟩
  · refine ev_iload_n rfl ?_
    refine ev_aload_n rfl ?_
    obtain ⟨v77687, ev77687, lv77687, uv77687⟩ := g.rd ad19 (show 5 < 6 by decide) rf19_5
    refine g_getv (r := 19) (v := v77687) g ad19 (by decide) ft7_5 ev77687 ?_
    refine ev_icmpge f95_22 (fun c77688 => ?_) (fun c77688 => ?_)
    · refine ev_iconst ?_
      refine ev_ret rfl (by decide) (by decide) ?_
      show jEv _ _ _ _ _ _ _ (_, [(2, 0), (0, a1)], [(0, 0)], _, _, _)
      refine ev_ifeq f211_22 (fun c77689 => ?_) (fun c77689 => absurd c77689 (by omega))
      refine ev_iconst ?_
      exact ev_ret rfl (by decide) (by decide) ⟨_, rfl, g, k0, by unfold tcF; rw [ev77687]; rw [if_neg (by omega)]⟩
    · refine ev_iload_n rfl ?_
      refine ev_bipush ?_
      refine ev_icmpge f95_22 (fun c77690 => ?_) (fun c77690 => ?_)
      · refine ev_iconst ?_
        refine ev_ret rfl (by decide) (by decide) ?_
        show jEv _ _ _ _ _ _ _ (_, [(2, 0), (0, a1)], [(0, 0)], _, _, _)
        refine ev_ifeq f211_22 (fun c77691 => ?_) (fun c77691 => absurd c77691 (by omega))
        refine ev_iconst ?_
        exact ev_ret rfl (by decide) (by decide) ⟨_, rfl, g, k0, by unfold tcF; rw [ev77687]; rw [if_neg (by omega)]⟩
      · refine ev_iconst ?_
        refine ev_goto f95_23 ?_
        refine ev_ret rfl (by decide) (by decide) ?_
        show jEv _ _ _ _ _ _ _ (_, [(2, 0), (0, a1)], [(0, 1)], _, _, _)
        refine ev_ifeq f211_22 (fun c77692 => absurd c77692 (by omega)) (fun c77692 => ?_)
        refine ev_aload_n rfl ?_
        refine g_getp (r := 0) (c := 19) g ad0 (by decide) (by decide) rf0_4 ft11_4 ?_
        refine ev_iload_n rfl ?_
        refine ev_in (d := 0) (a := 0) (b := 0) (cd' := c96_0) (m := 2) (L0 := [(2, 19), (0, a1)]) (jcall_v (A := [(0, a1)]) (S' := []) (r := 19) rfl (g.lt ad19) (g.tg ad19) (Nat.le_of_ble_eq_true rfl)) (by decide) ml96 pp96 (Nat.le_of_ble_eq_true rfl) rfl (by decide) (by decide) ?_
        refine ev_aload_n rfl ?_
        refine g_getp (r := 19) (c := 22) g ad19 (by decide) (by decide) rf19_2 ft7_2 ?_
        refine ev_iload_n rfl ?_
        refine g_iald g ad22 rt22 (by omega) (by omega) (fun v77693 ev77693 lv77693 uv77693 => ?_)
        refine ev_ret rfl (by decide) (by decide) ?_
        show jEv _ _ _ _ _ _ _ (_, [(2, 0), (0, a1)], [(0, v77693)], _, _, _)
        refine ev_goto f211_23 ?_
        exact ev_ret rfl (by decide) (by decide) ⟨_, rfl, g, k0, by unfold tcF; rw [ev77687]; rw [if_pos (by omega)]; exact ev77693.symm⟩
set_option maxHeartbeats 4000000 in
theorem t368 {G : GH} {h : JH} (g : Gd G h) {a1 : Int} (la1 : (-2147483648) ≤ a1) (ua1 : a1 ≤ 2147483647) : jOk 1 0 0 368 [(2, 42), (0, a1)] h (fun v h' => ∃ r : Int, v = some (0, r) ∧ Gd G h' ∧ Kp [] h h' ∧ r = tcF a1 (h.2.2 42 60) (h.2.2 78 (a1).toNat)) := by
  refine ⟨by decide, by rw [ml368]; exact Nat.le_of_ble_eq_true rfl, ?_⟩
  rw [ml368, pp368]
  show jEv _ none _ c368_0 0 0 _ (c368_0, [(2, 42), (0, a1)], [], h, 0, 0)
  have k0 := Kp.rf [] h
  refine ev_iload_n rfl ?_
  refine ev_iflt f368_27 (fun c77704 => ?_) (fun c77704 => ?_)
  · refine ev_iconst ?_
    exact ev_ret rfl (by decide) (by decide) ⟨_, rfl, g, k0, by unfold tcF; rw [if_neg (by omega)]⟩
  · refine ev_iload_n rfl ?_
    refine ev_aload_n rfl ?_
    obtain ⟨v77705, ev77705, lv77705, uv77705⟩ := g.rd ad42 (show 60 < 66 by decide) rf42_60
    refine g_getv (r := 42) (v := v77705) g ad42 (by decide) ft12_60 ev77705 ?_
    refine ev_icmpge f368_27 (fun c77706 => ?_) (fun c77706 => ?_)
    · refine ev_iconst ?_
      exact ev_ret rfl (by decide) (by decide) ⟨_, rfl, g, k0, by unfold tcF; rw [ev77705]; rw [if_neg (by omega)]⟩
    · refine ev_iload_n rfl ?_
      refine ev_bipush ?_
      refine ev_icmpge f368_27 (fun c77707 => ?_) (fun c77707 => ?_)
      · refine ev_iconst ?_
        exact ev_ret rfl (by decide) (by decide) ⟨_, rfl, g, k0, by unfold tcF; rw [ev77705]; rw [if_neg (by omega)]⟩
      · refine ev_aload_n rfl ?_
        refine g_getp (r := 42) (c := 78) g ad42 (by decide) (by decide) rf42_61 ft12_61 ?_
        refine ev_iload_n rfl ?_
        refine g_iald g ad78 rt78 (by omega) (by omega) (fun v77708 ev77708 lv77708 uv77708 => ?_)
        refine ev_goto f368_28 ?_
        exact ev_ret rfl (by decide) (by decide) ⟨_, rfl, g, k0, by unfold tcF; rw [ev77705]; rw [if_pos (by omega)]; exact ev77708.symm⟩
theorem jn11 : jN 11 = 17 := by decide +kernel
theorem jn12 : jN 12 = 66 := by decide +kernel
theorem ml384 : jML jnM = 4 := by decide +kernel
theorem pp384 : jP jnM = c384_0 := rfl
set_option maxRecDepth 100000 in
theorem jlawN : jchkN jnM = true := jchkNF_ok (by decide +kernel)
set_option maxRecDepth 100000 in
theorem f384_18 : jfind c384_0 18 = some c384_18 := rfl
set_option maxRecDepth 100000 in
theorem f384_260 : jfind c384_0 260 = some c384_260 := rfl
set_option maxRecDepth 100000 in
theorem f384_283 : jfind c384_0 283 = some c384_283 := rfl
set_option maxRecDepth 100000 in
theorem f384_316 : jfind c384_0 316 = some c384_316 := rfl
set_option maxRecDepth 100000 in
theorem f384_369 : jfind c384_0 369 = some c384_369 := rfl
set_option maxRecDepth 100000 in
theorem f384_382 : jfind c384_0 382 = some c384_382 := rfl
set_option maxRecDepth 100000 in
theorem f384_405 : jfind c384_0 405 = some c384_405 := rfl
set_option maxRecDepth 100000 in
theorem f384_448 : jfind c384_0 448 = some c384_448 := rfl
set_option maxRecDepth 100000 in
theorem f384_481 : jfind c384_0 481 = some c384_481 := rfl
set_option maxRecDepth 100000 in
theorem f384_494 : jfind c384_0 494 = some c384_494 := rfl
set_option maxRecDepth 100000 in
theorem f384_537 : jfind c384_0 537 = some c384_537 := rfl
set_option maxRecDepth 100000 in
theorem f384_590 : jfind c384_0 590 = some c384_590 := rfl
set_option maxRecDepth 100000 in
theorem f384_603 : jfind c384_0 603 = some c384_603 := rfl
set_option maxRecDepth 100000 in
theorem f384_616 : jfind c384_0 616 = some c384_616 := rfl
set_option maxRecDepth 100000 in
theorem f384_649 : jfind c384_0 649 = some c384_649 := rfl
set_option maxRecDepth 100000 in
theorem f384_682 : jfind c384_0 682 = some c384_682 := rfl
set_option maxRecDepth 100000 in
theorem f384_715 : jfind c384_0 715 = some c384_715 := rfl
set_option maxRecDepth 100000 in
theorem f384_758 : jfind c384_0 758 = some c384_758 := rfl
set_option maxRecDepth 100000 in
theorem f384_801 : jfind c384_0 801 = some c384_801 := rfl
set_option maxRecDepth 100000 in
theorem f384_844 : jfind c384_0 844 = some c384_844 := rfl
set_option maxRecDepth 100000 in
theorem f384_877 : jfind c384_0 877 = some c384_877 := rfl
set_option maxRecDepth 100000 in
theorem f384_930 : jfind c384_0 930 = some c384_930 := rfl
set_option maxRecDepth 100000 in
theorem f384_963 : jfind c384_0 963 = some c384_963 := rfl
set_option maxRecDepth 100000 in
theorem f384_1006 : jfind c384_0 1006 = some c384_1006 := rfl
set_option maxRecDepth 100000 in
theorem f384_1059 : jfind c384_0 1059 = some c384_1059 := rfl
set_option maxRecDepth 100000 in
theorem f384_1082 : jfind c384_0 1082 = some c384_1082 := rfl
set_option maxRecDepth 100000 in
theorem f384_1125 : jfind c384_0 1125 = some c384_1125 := rfl
set_option maxRecDepth 100000 in
theorem f384_1178 : jfind c384_0 1178 = some c384_1178 := rfl
set_option maxRecDepth 100000 in
theorem f384_1201 : jfind c384_0 1201 = some c384_1201 := rfl
set_option maxRecDepth 100000 in
theorem f384_1254 : jfind c384_0 1254 = some c384_1254 := rfl
set_option maxRecDepth 100000 in
theorem f384_1307 : jfind c384_0 1307 = some c384_1307 := rfl
set_option maxRecDepth 100000 in
theorem f384_1340 : jfind c384_0 1340 = some c384_1340 := rfl
set_option maxRecDepth 100000 in
theorem f384_1383 : jfind c384_0 1383 = some c384_1383 := rfl
set_option maxRecDepth 100000 in
theorem f384_1406 : jfind c384_0 1406 = some c384_1406 := rfl
set_option maxRecDepth 100000 in
theorem f384_1429 : jfind c384_0 1429 = some c384_1429 := rfl
set_option maxRecDepth 100000 in
theorem f384_1452 : jfind c384_0 1452 = some c384_1452 := rfl
set_option maxRecDepth 100000 in
theorem f384_1495 : jfind c384_0 1495 = some c384_1495 := rfl
set_option maxRecDepth 100000 in
theorem f384_1518 : jfind c384_0 1518 = some c384_1518 := rfl
set_option maxRecDepth 100000 in
theorem f384_1551 : jfind c384_0 1551 = some c384_1551 := rfl
set_option maxRecDepth 100000 in
theorem f384_1564 : jfind c384_0 1564 = some c384_1564 := rfl
set_option maxRecDepth 100000 in
theorem f384_1597 : jfind c384_0 1597 = some c384_1597 := rfl
set_option maxRecDepth 100000 in
theorem f384_1630 : jfind c384_0 1630 = some c384_1630 := rfl
set_option maxRecDepth 100000 in
theorem f384_1683 : jfind c384_0 1683 = some c384_1683 := rfl
set_option maxRecDepth 100000 in
theorem f384_1726 : jfind c384_0 1726 = some c384_1726 := rfl
set_option maxRecDepth 100000 in
theorem f384_1769 : jfind c384_0 1769 = some c384_1769 := rfl
set_option maxRecDepth 100000 in
theorem f384_1812 : jfind c384_0 1812 = some c384_1812 := rfl
set_option maxRecDepth 100000 in
theorem f384_1855 : jfind c384_0 1855 = some c384_1855 := rfl
set_option maxRecDepth 100000 in
theorem f384_1878 : jfind c384_0 1878 = some c384_1878 := rfl
set_option maxRecDepth 100000 in
theorem f384_1911 : jfind c384_0 1911 = some c384_1911 := rfl
set_option maxRecDepth 100000 in
theorem f384_1954 : jfind c384_0 1954 = some c384_1954 := rfl
set_option maxRecDepth 100000 in
theorem f384_2027 : jfind c384_0 2027 = some c384_2027 := rfl
set_option maxRecDepth 100000 in
theorem f384_2060 : jfind c384_0 2060 = some c384_2060 := rfl
set_option maxRecDepth 100000 in
theorem f384_2123 : jfind c384_0 2123 = some c384_2123 := rfl
set_option maxRecDepth 100000 in
theorem f384_2156 : jfind c384_0 2156 = some c384_2156 := rfl
set_option maxRecDepth 100000 in
theorem f384_2179 : jfind c384_0 2179 = some c384_2179 := rfl
set_option maxRecDepth 100000 in
theorem f384_2185 : jfind c384_0 2185 = some c384_2185 := rfl

