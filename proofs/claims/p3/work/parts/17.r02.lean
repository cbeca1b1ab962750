set_option maxHeartbeats 4000000 in
theorem s318_w_l {G : GH} {h : JH} {a1 : Int} (la1 : 0 ≤ a1) (ua1 : a1 ≤ 5) {a3 : Int} (la3 : 0 ≤ a3) (ua3 : a3 ≤ 35) {a4 : Int} (la4 : 0 ≤ a4) (ua4 : a4 ≤ 1) {w0 : Int} (ew0 : h.2.2 42 9 = w0) (lw0 : 0 ≤ w0) (uw0 : w0 ≤ 6) {w1 : Int} (ew1 : h.2.2 48 (a1).toNat = w1) (lw1 : 1 ≤ w1) (uw1 : w1 ≤ 100) {w2 : Int} (ew2 : h.2.2 42 1 = w2) (lw2 : 0 ≤ w2) (uw2 : w2 ≤ 4) (F0 : (a1 + (-w0)) ≤ (-1)) (F1 : (a3 + (-9) * w2) ≤ (-1)) : ∀ N : Nat, (∀ (h1 : JH) (x5 x6 x9 x10 : Int) (j11 j12 : AV), Gd G h1 → Kp [(46, 0), (47, 0), (42, 6), (42, 9), (42, 37), (42, 38), (42, 39), (42, 40), (64, 0), (65, 0), (45, 0)] h h1 → 0 ≤ a1 → a1 ≤ 5 → 0 ≤ a3 → a3 ≤ 35 → 0 ≤ a4 → a4 ≤ 1 → 0 ≤ x5 → x5 ≤ 3 → 1 ≤ x6 → x6 ≤ 99 → (-2) ≤ x9 → x9 ≤ 40 → 1 ≤ x10 → x10 ≤ 41 → ((-x10) + 41) < N → jEv (jOk 205) none (fun _ => 0) c318_0 0 0 (PI G [(46, 0), (47, 0), (42, 6), (42, 9), (42, 37), (42, 38), (42, 39), (42, 40), (64, 0), (65, 0), (45, 0)] h 0 (-4) 40) (c318_77, [(2, 42), (0, a1), (0, (-1)), (0, a3), (0, a4), (0, x5), (0, x6), (0, 1), (0, 99), (0, x9), (0, x10), j11, j12], [], h1, 0, 0)) := by
  intro N
  induction N with
  | zero => exact fun h1 x5 x6 x9 x10 j11 j12 g1 k1 b0 b1 b2 b3 b4 b5 b6 b7 b8 b9 b10 b11 b12 b13 hm => absurd hm (by omega)
  | succ N ih =>
    show _
    intro h1 x5 x6 x9 x10 j11 j12 g1 k1 b0 b1 b2 b3 b4 b5 b6 b7 b8 b9 b10 b11 b12 b13 hm
    refine ev_iload rfl ?_
    refine ev_bipush ?_
    refine ev_icmpgt f318_167 (fun c58170 => ?_) (fun c58170 => ?_)
    · refine ev_aload_n rfl ?_
      refine ev_iload_n rfl ?_
      refine ev_iload_n rfl ?_
      refine ev_iload rfl ?_
      refine ev_in (d := 204) (a := 0) (b := 0) (cd' := c280_0) (m := 4) (L0 := [(2, 42), (0, (-1)), (0, a3), (0, x6)]) (jcall_v (A := [(0, x6), (0, a3), (0, (-1))]) (S' := []) (r := 42) rfl (g1.lt ad42) (g1.tg ad42) (Nat.le_of_ble_eq_true rfl)) (by decide) ml280 pp280 (Nat.le_of_ble_eq_true rfl) rfl (by decide) (by decide) ?_
      refine ev_iload_n rfl ?_
      refine ev_ifge f280_14 (fun c58171 => absurd c58171 (by omega)) (fun c58171 => ?_)
      refine ev_aload_n rfl ?_
      refine g_getp (r := 42) (c := 45) g1 ad42 (by decide) (by decide) rf42_4 ft12_4 ?_
      refine ev_iload_n rfl ?_
      refine ev_iload_n rfl ?_
      refine ev_iastG (r := 45) (j := (a3).toNat) (g1.lt ad45) (g1.tg ad45) (by omega) (by rw [g1.ln ad45]; omega) (fun h58172 e58172 => ?_)
      have g58172 := g1.s45 e58172 (by omega) (by omega)
      have k58172 := k1.wr e58172 rfl
      refine ev_goto f280_35 ?_
      refine ev_ret rfl (by decide) (by decide) ?_
      show jEv _ _ _ _ _ _ _ (_, [(2, 42), (0, a1), (0, (-1)), (0, a3), (0, a4), (0, x5), (0, x6), (0, 1), (0, 99), (0, x9), (0, x10), j11, j12], [], _, _, _)
      refine ev_iload rfl ?_
      exact ev_ret rfl (by decide) (by decide) ⟨_, rfl, by omega, by omega, g58172, k58172⟩
    · refine ev_iload rfl ?_
      refine ev_ifge f318_167 (fun c58173 => ?_) (fun c58173 => ?_)
      · refine ev_aload_n rfl ?_
        refine ev_iload_n rfl ?_
        refine ev_iload_n rfl ?_
        refine ev_iload rfl ?_
        refine ev_in (d := 204) (a := 0) (b := 0) (cd' := c280_0) (m := 4) (L0 := [(2, 42), (0, (-1)), (0, a3), (0, x6)]) (jcall_v (A := [(0, x6), (0, a3), (0, (-1))]) (S' := []) (r := 42) rfl (g1.lt ad42) (g1.tg ad42) (Nat.le_of_ble_eq_true rfl)) (by decide) ml280 pp280 (Nat.le_of_ble_eq_true rfl) rfl (by decide) (by decide) ?_
        refine ev_iload_n rfl ?_
        refine ev_ifge f280_14 (fun c58174 => absurd c58174 (by omega)) (fun c58174 => ?_)
        refine ev_aload_n rfl ?_
        refine g_getp (r := 42) (c := 45) g1 ad42 (by decide) (by decide) rf42_4 ft12_4 ?_
        refine ev_iload_n rfl ?_
        refine ev_iload_n rfl ?_
        refine ev_iastG (r := 45) (j := (a3).toNat) (g1.lt ad45) (g1.tg ad45) (by omega) (by rw [g1.ln ad45]; omega) (fun h58175 e58175 => ?_)
        have g58175 := g1.s45 e58175 (by omega) (by omega)
        have k58175 := k1.wr e58175 rfl
        refine ev_goto f280_35 ?_
        refine ev_ret rfl (by decide) (by decide) ?_
        show jEv _ _ _ _ _ _ _ (_, [(2, 42), (0, a1), (0, (-1)), (0, a3), (0, a4), (0, x5), (0, x6), (0, 1), (0, 99), (0, x9), (0, x10), j11, j12], [], _, _, _)
        refine ev_iload rfl ?_
        exact ev_ret rfl (by decide) (by decide) ⟨_, rfl, by omega, by omega, g58175, k58175⟩
      · refine ev_iload rfl ?_
        refine ev_iconst ?_
        refine ev_icmpne f318_103 (fun c58176 => ?_) (fun c58176 => ?_)
        · refine ev_iload rfl ?_
          refine ev_iload rfl ?_
          refine ev_isub (r := ((-x10) + x6)) (by unfold w32; omega) ?_
          refine ev_istore (L' := [(2, 42), (0, a1), (0, (-1)), (0, a3), (0, a4), (0, x5), (0, x6), (0, 1), (0, 99), (0, x9), (0, x10), (0, ((-x10) + x6)), j12]) (Nat.le_of_ble_eq_true rfl) rfl ?_
          refine ev_iload rfl ?_
          refine ev_iload rfl ?_
          refine ev_iload rfl ?_
          refine ev_in (d := 204) (a := 0) (b := 0) (cd' := c242_0) (m := 3) (L0 := [(0, ((-x10) + x6)), (0, 1), (0, 99)]) (jcall_s (A := [(0, 99), (0, 1), (0, ((-x10) + x6))]) (S' := []) (by decide) rfl (Nat.le_of_ble_eq_true rfl)) (by decide) ml242 pp242 (Nat.le_of_ble_eq_true rfl) rfl (by decide) (by decide) ?_
          refine ev_iload_n rfl ?_
          refine ev_iload_n rfl ?_
          refine ev_icmplt f242_14 (fun c58177 => ?_) (fun c58177 => ?_)
          · refine ev_iconst ?_
            refine ev_ret rfl (by decide) (by decide) ?_
            show jEv _ _ _ _ _ _ _ (_, [(2, 42), (0, a1), (0, (-1)), (0, a3), (0, a4), (0, x5), (0, x6), (0, 1), (0, 99), (0, x9), (0, x10), (0, ((-x10) + x6)), j12], [(0, 0)], _, _, _)
            refine ev_ifne f318_125 (fun c58178 => absurd c58178 (by omega)) (fun c58178 => ?_)
            refine ev_goto f318_167 ?_
            refine ev_aload_n rfl ?_
            refine ev_iload_n rfl ?_
            refine ev_iload_n rfl ?_
            refine ev_iload rfl ?_
            refine ev_in (d := 204) (a := 0) (b := 0) (cd' := c280_0) (m := 4) (L0 := [(2, 42), (0, (-1)), (0, a3), (0, x6)]) (jcall_v (A := [(0, x6), (0, a3), (0, (-1))]) (S' := []) (r := 42) rfl (g1.lt ad42) (g1.tg ad42) (Nat.le_of_ble_eq_true rfl)) (by decide) ml280 pp280 (Nat.le_of_ble_eq_true rfl) rfl (by decide) (by decide) ?_
            refine ev_iload_n rfl ?_
            refine ev_ifge f280_14 (fun c58179 => absurd c58179 (by omega)) (fun c58179 => ?_)
            refine ev_aload_n rfl ?_
            refine g_getp (r := 42) (c := 45) g1 ad42 (by decide) (by decide) rf42_4 ft12_4 ?_
            refine ev_iload_n rfl ?_
            refine ev_iload_n rfl ?_
            refine ev_iastG (r := 45) (j := (a3).toNat) (g1.lt ad45) (g1.tg ad45) (by omega) (by rw [g1.ln ad45]; omega) (fun h58180 e58180 => ?_)
            have g58180 := g1.s45 e58180 (by omega) (by omega)
            have k58180 := k1.wr e58180 rfl
            refine ev_goto f280_35 ?_
            refine ev_ret rfl (by decide) (by decide) ?_
            show jEv _ _ _ _ _ _ _ (_, [(2, 42), (0, a1), (0, (-1)), (0, a3), (0, a4), (0, x5), (0, x6), (0, 1), (0, 99), (0, x9), (0, x10), (0, ((-x10) + x6)), j12], [], _, _, _)
            refine ev_iload rfl ?_
            exact ev_ret rfl (by decide) (by decide) ⟨_, rfl, by omega, by omega, g58180, k58180⟩
          · refine ev_iload_n rfl ?_
            refine ev_iload_n rfl ?_
            refine ev_icmpgt f242_14 (fun c58181 => absurd c58181 (by omega)) (fun c58181 => ?_)
            refine ev_iconst ?_
            refine ev_goto f242_15 ?_
            refine ev_ret rfl (by decide) (by decide) ?_
            show jEv _ _ _ _ _ _ _ (_, [(2, 42), (0, a1), (0, (-1)), (0, a3), (0, a4), (0, x5), (0, x6), (0, 1), (0, 99), (0, x9), (0, x10), (0, ((-x10) + x6)), j12], [(0, 1)], _, _, _)
            refine ev_ifne f318_125 (fun c58182 => ?_) (fun c58182 => absurd c58182 (by omega))
            refine ev_aload_n rfl ?_
            refine ev_iload_n rfl ?_
            refine ev_iload_n rfl ?_
            refine ev_iload rfl ?_
            refine ev_in (d := 204) (a := 0) (b := 0) (cd' := c280_0) (m := 4) (L0 := [(2, 42), (0, (-1)), (0, a3), (0, ((-x10) + x6))]) (jcall_v (A := [(0, ((-x10) + x6)), (0, a3), (0, (-1))]) (S' := []) (r := 42) rfl (g1.lt ad42) (g1.tg ad42) (Nat.le_of_ble_eq_true rfl)) (by decide) ml280 pp280 (Nat.le_of_ble_eq_true rfl) rfl (by decide) (by decide) ?_
            refine ev_iload_n rfl ?_
            refine ev_ifge f280_14 (fun c58183 => absurd c58183 (by omega)) (fun c58183 => ?_)
            refine ev_aload_n rfl ?_
            refine g_getp (r := 42) (c := 45) g1 ad42 (by decide) (by decide) rf42_4 ft12_4 ?_
            refine ev_iload_n rfl ?_
            refine ev_iload_n rfl ?_
            refine ev_iastG (r := 45) (j := (a3).toNat) (g1.lt ad45) (g1.tg ad45) (by omega) (by rw [g1.ln ad45]; omega) (fun h58184 e58184 => ?_)
            have g58184 := g1.s45 e58184 (by omega) (by omega)
            have k58184 := k1.wr e58184 rfl
            refine ev_goto f280_35 ?_
            refine ev_ret rfl (by decide) (by decide) ?_
            show jEv _ _ _ _ _ _ _ (_, [(2, 42), (0, a1), (0, (-1)), (0, a3), (0, a4), (0, x5), (0, x6), (0, 1), (0, 99), (0, x9), (0, x10), (0, ((-x10) + x6)), j12], [], _, _, _)
            refine ev_aload_n rfl ?_
            refine ev_iload_n rfl ?_
            refine ev_call (jcall_v (A := [(0, a1)]) (S' := []) (r := 42) rfl (g58184.lt ad42) (g58184.tg ad42) (Nat.le_of_ble_eq_true rfl)) (jOk_le (by decide) (s316 g58184 (by omega) (by omega) (((jw_ne e58184 (Or.inl (by decide))).trans ((k1.v (by decide)).trans ew0))) (by omega) (by omega) (((jw_ne e58184 (Or.inl (by decide))).trans ((k1.v rfl).trans ew1))) (by omega) (by omega) (by omega))) (by decide) (by decide) (fun w58185 h58185 q58185 => ?_)
            obtain ⟨v58186, rfl, lv58186, uv58186, g58185, kk58185⟩ := q58185
            have k58185 := k58184.tr kk58185 (by decide)
            show jEv _ _ _ _ _ _ _ (_, [(2, 42), (0, a1), (0, (-1)), (0, a3), (0, a4), (0, x5), (0, x6), (0, 1), (0, 99), (0, x9), (0, x10), (0, ((-x10) + x6)), j12], [(0, v58186)], _, _, _)
            refine ev_istore (L' := [(2, 42), (0, a1), (0, (-1)), (0, a3), (0, a4), (0, x5), (0, x6), (0, 1), (0, 99), (0, x9), (0, x10), (0, ((-x10) + x6)), (0, v58186)]) (Nat.le_of_ble_eq_true rfl) rfl ?_
            refine ev_iload rfl ?_
            refine ev_bipush ?_
            refine ev_icmpne f318_150 (fun c58187 => ?_) (fun c58187 => ?_)
            · refine ev_iload rfl ?_
              refine ev_iload rfl ?_
              refine ev_icmpeq f318_161 (fun c58188 => ?_) (fun c58188 => ?_)
              · refine ev_iinc (w := (x10 + 1)) (L' := [(2, 42), (0, a1), (0, (-1)), (0, a3), (0, a4), (0, x5), (0, x6), (0, 1), (0, 99), (0, x9), (0, (x10 + 1)), (0, ((-x10) + x6)), (0, v58186)]) rfl (by unfold w32; omega) rfl ?_
                refine ev_goto f318_77 ?_
                exact ih _ _ _ _ _ _ _ g58185 k58185 (by omega) (by omega) (by omega) (by omega) (by omega) (by omega) (by omega) (by omega) (by omega) (by omega) (by omega) (by omega) (by omega) (by omega) (by omega)
              · refine ev_iload rfl ?_
                refine ev_istore (L' := [(2, 42), (0, a1), (0, (-1)), (0, a3), (0, a4), (0, x5), (0, x6), (0, 1), (0, 99), (0, x10), (0, x10), (0, ((-x10) + x6)), (0, v58186)]) (Nat.le_of_ble_eq_true rfl) rfl ?_
                refine ev_iinc (w := (x10 + 1)) (L' := [(2, 42), (0, a1), (0, (-1)), (0, a3), (0, a4), (0, x5), (0, x6), (0, 1), (0, 99), (0, x10), (0, (x10 + 1)), (0, ((-x10) + x6)), (0, v58186)]) rfl (by unfold w32; omega) rfl ?_
                refine ev_goto f318_77 ?_
                exact ih _ _ _ _ _ _ _ g58185 k58185 (by omega) (by omega) (by omega) (by omega) (by omega) (by omega) (by omega) (by omega) (by omega) (by omega) (by omega) (by omega) (by omega) (by omega) (by omega)
            · refine ev_goto f318_167 ?_
              refine ev_aload_n rfl ?_
              refine ev_iload_n rfl ?_
              refine ev_iload_n rfl ?_
              refine ev_iload rfl ?_
              refine ev_in (d := 204) (a := 0) (b := 0) (cd' := c280_0) (m := 4) (L0 := [(2, 42), (0, (-1)), (0, a3), (0, x6)]) (jcall_v (A := [(0, x6), (0, a3), (0, (-1))]) (S' := []) (r := 42) rfl (g58185.lt ad42) (g58185.tg ad42) (Nat.le_of_ble_eq_true rfl)) (by decide) ml280 pp280 (Nat.le_of_ble_eq_true rfl) rfl (by decide) (by decide) ?_
              refine ev_iload_n rfl ?_
              refine ev_ifge f280_14 (fun c58189 => absurd c58189 (by omega)) (fun c58189 => ?_)
              refine ev_aload_n rfl ?_
              refine g_getp (r := 42) (c := 45) g58185 ad42 (by decide) (by decide) rf42_4 ft12_4 ?_
              refine ev_iload_n rfl ?_
              refine ev_iload_n rfl ?_
              refine ev_iastG (r := 45) (j := (a3).toNat) (g58185.lt ad45) (g58185.tg ad45) (by omega) (by rw [g58185.ln ad45]; omega) (fun h58190 e58190 => ?_)
              have g58190 := g58185.s45 e58190 (by omega) (by omega)
              have k58190 := k58185.wr e58190 rfl
              refine ev_goto f280_35 ?_
              refine ev_ret rfl (by decide) (by decide) ?_
              show jEv _ _ _ _ _ _ _ (_, [(2, 42), (0, a1), (0, (-1)), (0, a3), (0, a4), (0, x5), (0, x6), (0, 1), (0, 99), (0, x9), (0, x10), (0, ((-x10) + x6)), (0, v58186)], [], _, _, _)
              refine ev_iload rfl ?_
              exact ev_ret rfl (by decide) (by decide) ⟨_, rfl, by omega, by omega, g58190, k58190⟩
        · refine ev_iload rfl ?_
          refine ev_iload rfl ?_
          refine ev_iadd (r := (x10 + x6)) (by unfold w32; omega) ?_
          refine ev_goto f318_108 ?_
          refine ev_istore (L' := [(2, 42), (0, a1), (0, (-1)), (0, a3), (0, a4), (0, x5), (0, x6), (0, 1), (0, 99), (0, x9), (0, x10), (0, (x10 + x6)), j12]) (Nat.le_of_ble_eq_true rfl) rfl ?_
          refine ev_iload rfl ?_
          refine ev_iload rfl ?_
          refine ev_iload rfl ?_
          refine ev_in (d := 204) (a := 0) (b := 0) (cd' := c242_0) (m := 3) (L0 := [(0, (x10 + x6)), (0, 1), (0, 99)]) (jcall_s (A := [(0, 99), (0, 1), (0, (x10 + x6))]) (S' := []) (by decide) rfl (Nat.le_of_ble_eq_true rfl)) (by decide) ml242 pp242 (Nat.le_of_ble_eq_true rfl) rfl (by decide) (by decide) ?_
          refine ev_iload_n rfl ?_
          refine ev_iload_n rfl ?_
          refine ev_icmplt f242_14 (fun c58191 => absurd c58191 (by omega)) (fun c58191 => ?_)
          refine ev_iload_n rfl ?_
          refine ev_iload_n rfl ?_
          refine ev_icmpgt f242_14 (fun c58192 => ?_) (fun c58192 => ?_)
          · refine ev_iconst ?_
            refine ev_ret rfl (by decide) (by decide) ?_
            show jEv _ _ _ _ _ _ _ (_, [(2, 42), (0, a1), (0, (-1)), (0, a3), (0, a4), (0, x5), (0, x6), (0, 1), (0, 99), (0, x9), (0, x10), (0, (x10 + x6)), j12], [(0, 0)], _, _, _)
            refine ev_ifne f318_125 (fun c58193 => absurd c58193 (by omega)) (fun c58193 => ?_)
            refine ev_goto f318_167 ?_
            refine ev_aload_n rfl ?_
            refine ev_iload_n rfl ?_
            refine ev_iload_n rfl ?_
            refine ev_iload rfl ?_
            refine ev_in (d := 204) (a := 0) (b := 0) (cd' := c280_0) (m := 4) (L0 := [(2, 42), (0, (-1)), (0, a3), (0, x6)]) (jcall_v (A := [(0, x6), (0, a3), (0, (-1))]) (S' := []) (r := 42) rfl (g1.lt ad42) (g1.tg ad42) (Nat.le_of_ble_eq_true rfl)) (by decide) ml280 pp280 (Nat.le_of_ble_eq_true rfl) rfl (by decide) (by decide) ?_
            refine ev_iload_n rfl ?_
            refine ev_ifge f280_14 (fun c58194 => absurd c58194 (by omega)) (fun c58194 => ?_)
            refine ev_aload_n rfl ?_
            refine g_getp (r := 42) (c := 45) g1 ad42 (by decide) (by decide) rf42_4 ft12_4 ?_
            refine ev_iload_n rfl ?_
            refine ev_iload_n rfl ?_
            refine ev_iastG (r := 45) (j := (a3).toNat) (g1.lt ad45) (g1.tg ad45) (by omega) (by rw [g1.ln ad45]; omega) (fun h58195 e58195 => ?_)
            have g58195 := g1.s45 e58195 (by omega) (by omega)
            have k58195 := k1.wr e58195 rfl
            refine ev_goto f280_35 ?_
            refine ev_ret rfl (by decide) (by decide) ?_
            show jEv _ _ _ _ _ _ _ (_, [(2, 42), (0, a1), (0, (-1)), (0, a3), (0, a4), (0, x5), (0, x6), (0, 1), (0, 99), (0, x9), (0, x10), (0, (x10 + x6)), j12], [], _, _, _)
            refine ev_iload rfl ?_
            exact ev_ret rfl (by decide) (by decide) ⟨_, rfl, by omega, by omega, g58195, k58195⟩
          · refine ev_iconst ?_
            refine ev_goto f242_15 ?_
            refine ev_ret rfl (by decide) (by decide) ?_
            show jEv _ _ _ _ _ _ _ (_, [(2, 42), (0, a1), (0, (-1)), (0, a3), (0, a4), (0, x5), (0, x6), (0, 1), (0, 99), (0, x9), (0, x10), (0, (x10 + x6)), j12], [(0, 1)], _, _, _)
            refine ev_ifne f318_125 (fun c58196 => ?_) (fun c58196 => absurd c58196 (by omega))
            refine ev_aload_n rfl ?_
            refine ev_iload_n rfl ?_
            refine ev_iload_n rfl ?_
            refine ev_iload rfl ?_
            refine ev_in (d := 204) (a := 0) (b := 0) (cd' := c280_0) (m := 4) (L0 := [(2, 42), (0, (-1)), (0, a3), (0, (x10 + x6))]) (jcall_v (A := [(0, (x10 + x6)), (0, a3), (0, (-1))]) (S' := []) (r := 42) rfl (g1.lt ad42) (g1.tg ad42) (Nat.le_of_ble_eq_true rfl)) (by decide) ml280 pp280 (Nat.le_of_ble_eq_true rfl) rfl (by decide) (by decide) ?_
            refine ev_iload_n rfl ?_
            refine ev_ifge f280_14 (fun c58197 => absurd c58197 (by omega)) (fun c58197 => ?_)
            refine ev_aload_n rfl ?_
            refine g_getp (r := 42) (c := 45) g1 ad42 (by decide) (by decide) rf42_4 ft12_4 ?_
            refine ev_iload_n rfl ?_
            refine ev_iload_n rfl ?_
            refine ev_iastG (r := 45) (j := (a3).toNat) (g1.lt ad45) (g1.tg ad45) (by omega) (by rw [g1.ln ad45]; omega) (fun h58198 e58198 => ?_)
            have g58198 := g1.s45 e58198 (by omega) (by omega)
            have k58198 := k1.wr e58198 rfl
            refine ev_goto f280_35 ?_
            refine ev_ret rfl (by decide) (by decide) ?_
            show jEv _ _ _ _ _ _ _ (_, [(2, 42), (0, a1), (0, (-1)), (0, a3), (0, a4), (0, x5), (0, x6), (0, 1), (0, 99), (0, x9), (0, x10), (0, (x10 + x6)), j12], [], _, _, _)
            refine ev_aload_n rfl ?_
            refine ev_iload_n rfl ?_
            refine ev_call (jcall_v (A := [(0, a1)]) (S' := []) (r := 42) rfl (g58198.lt ad42) (g58198.tg ad42) (Nat.le_of_ble_eq_true rfl)) (jOk_le (by decide) (s316 g58198 (by omega) (by omega) (((jw_ne e58198 (Or.inl (by decide))).trans ((k1.v (by decide)).trans ew0))) (by omega) (by omega) (((jw_ne e58198 (Or.inl (by decide))).trans ((k1.v rfl).trans ew1))) (by omega) (by omega) (by omega))) (by decide) (by decide) (fun w58199 h58199 q58199 => ?_)
            obtain ⟨v58200, rfl, lv58200, uv58200, g58199, kk58199⟩ := q58199
            have k58199 := k58198.tr kk58199 (by decide)
            show jEv _ _ _ _ _ _ _ (_, [(2, 42), (0, a1), (0, (-1)), (0, a3), (0, a4), (0, x5), (0, x6), (0, 1), (0, 99), (0, x9), (0, x10), (0, (x10 + x6)), j12], [(0, v58200)], _, _, _)
            refine ev_istore (L' := [(2, 42), (0, a1), (0, (-1)), (0, a3), (0, a4), (0, x5), (0, x6), (0, 1), (0, 99), (0, x9), (0, x10), (0, (x10 + x6)), (0, v58200)]) (Nat.le_of_ble_eq_true rfl) rfl ?_
            refine ev_iload rfl ?_
            refine ev_bipush ?_
            refine ev_icmpne f318_150 (fun c58201 => ?_) (fun c58201 => ?_)
            · refine ev_iload rfl ?_
              refine ev_iload rfl ?_
              refine ev_icmpeq f318_161 (fun c58202 => ?_) (fun c58202 => ?_)
              · refine ev_iinc (w := (x10 + 1)) (L' := [(2, 42), (0, a1), (0, (-1)), (0, a3), (0, a4), (0, x5), (0, x6), (0, 1), (0, 99), (0, x9), (0, (x10 + 1)), (0, (x10 + x6)), (0, v58200)]) rfl (by unfold w32; omega) rfl ?_
                refine ev_goto f318_77 ?_
                exact ih _ _ _ _ _ _ _ g58199 k58199 (by omega) (by omega) (by omega) (by omega) (by omega) (by omega) (by omega) (by omega) (by omega) (by omega) (by omega) (by omega) (by omega) (by omega) (by omega)
              · refine ev_iload rfl ?_
                refine ev_istore (L' := [(2, 42), (0, a1), (0, (-1)), (0, a3), (0, a4), (0, x5), (0, x6), (0, 1), (0, 99), (0, x10), (0, x10), (0, (x10 + x6)), (0, v58200)]) (Nat.le_of_ble_eq_true rfl) rfl ?_
                refine ev_iinc (w := (x10 + 1)) (L' := [(2, 42), (0, a1), (0, (-1)), (0, a3), (0, a4), (0, x5), (0, x6), (0, 1), (0, 99), (0, x10), (0, (x10 + 1)), (0, (x10 + x6)), (0, v58200)]) rfl (by unfold w32; omega) rfl ?_
                refine ev_goto f318_77 ?_
                exact ih _ _ _ _ _ _ _ g58199 k58199 (by omega) (by omega) (by omega) (by omega) (by omega) (by omega) (by omega) (by omega) (by omega) (by omega) (by omega) (by omega) (by omega) (by omega) (by omega)
            · refine ev_goto f318_167 ?_
              refine ev_aload_n rfl ?_
              refine ev_iload_n rfl ?_
              refine ev_iload_n rfl ?_
              refine ev_iload rfl ?_
              refine ev_in (d := 204) (a := 0) (b := 0) (cd' := c280_0) (m := 4) (L0 := [(2, 42), (0, (-1)), (0, a3), (0, x6)]) (jcall_v (A := [(0, x6), (0, a3), (0, (-1))]) (S' := []) (r := 42) rfl (g58199.lt ad42) (g58199.tg ad42) (Nat.le_of_ble_eq_true rfl)) (by decide) ml280 pp280 (Nat.le_of_ble_eq_true rfl) rfl (by decide) (by decide) ?_
              refine ev_iload_n rfl ?_
              refine ev_ifge f280_14 (fun c58203 => absurd c58203 (by omega)) (fun c58203 => ?_)
              refine ev_aload_n rfl ?_
              refine g_getp (r := 42) (c := 45) g58199 ad42 (by decide) (by decide) rf42_4 ft12_4 ?_
              refine ev_iload_n rfl ?_
              refine ev_iload_n rfl ?_
              refine ev_iastG (r := 45) (j := (a3).toNat) (g58199.lt ad45) (g58199.tg ad45) (by omega) (by rw [g58199.ln ad45]; omega) (fun h58204 e58204 => ?_)
              have g58204 := g58199.s45 e58204 (by omega) (by omega)
              have k58204 := k58199.wr e58204 rfl
              refine ev_goto f280_35 ?_
              refine ev_ret rfl (by decide) (by decide) ?_
              show jEv _ _ _ _ _ _ _ (_, [(2, 42), (0, a1), (0, (-1)), (0, a3), (0, a4), (0, x5), (0, x6), (0, 1), (0, 99), (0, x9), (0, x10), (0, (x10 + x6)), (0, v58200)], [], _, _, _)
              refine ev_iload rfl ?_
              exact ev_ret rfl (by decide) (by decide) ⟨_, rfl, by omega, by omega, g58204, k58204⟩
set_option maxHeartbeats 4000000 in
theorem s318_w {G : GH} {h : JH} (g : Gd G h) {a1 : Int} (la1 : 0 ≤ a1) (ua1 : a1 ≤ 5) {a3 : Int} (la3 : 0 ≤ a3) (ua3 : a3 ≤ 35) {a4 : Int} (la4 : 0 ≤ a4) (ua4 : a4 ≤ 1) {w0 : Int} (ew0 : h.2.2 42 9 = w0) (lw0 : 0 ≤ w0) (uw0 : w0 ≤ 6) {w1 : Int} (ew1 : h.2.2 48 (a1).toNat = w1) (lw1 : 1 ≤ w1) (uw1 : w1 ≤ 100) {w2 : Int} (ew2 : h.2.2 42 1 = w2) (lw2 : 0 ≤ w2) (uw2 : w2 ≤ 4) (F0 : (a1 + (-w0)) ≤ (-1)) (F1 : (a3 + (-9) * w2) ≤ (-1)) : jOk 206 0 0 318 [(2, 42), (0, a1), (0, (-1)), (0, a3), (0, a4)] h (PI G [(46, 0), (47, 0), (42, 6), (42, 9), (42, 37), (42, 38), (42, 39), (42, 40), (64, 0), (65, 0), (45, 0)] h 0 (-4) 40) := by
  refine ⟨by decide, by rw [ml318]; exact Nat.le_of_ble_eq_true rfl, ?_⟩
  rw [ml318, pp318]
  show jEv _ none _ c318_0 0 0 _ (c318_0, [(2, 42), (0, a1), (0, (-1)), (0, a3), (0, a4), (9, 0), (9, 0), (9, 0), (9, 0), (9, 0), (9, 0), (9, 0), (9, 0)], [], h, 0, 0)
  have k0 := Kp.rf [(46, 0), (47, 0), (42, 6), (42, 9), (42, 37), (42, 38), (42, 39), (42, 40), (64, 0), (65, 0), (45, 0)] h
  refine ev_aload_n rfl ?_
  refine ev_iload_n rfl ?_
  refine ev_call (jcall_v (A := [(0, a1)]) (S' := []) (r := 42) rfl (g.lt ad42) (g.tg ad42) (Nat.le_of_ble_eq_true rfl)) (jOk_le (by decide) (s316 g (by omega) (by omega) (ew0) (by omega) (by omega) (ew1) (by omega) (by omega) (by omega))) (by decide) (by decide) (fun w58205 h58205 q58205 => ?_)
  obtain ⟨v58206, rfl, lv58206, uv58206, g58205, kk58205⟩ := q58205
  have k58205 := k0.tr kk58205 (by decide)
  show jEv _ _ _ _ _ _ _ (_, [(2, 42), (0, a1), (0, (-1)), (0, a3), (0, a4), (9, 0), (9, 0), (9, 0), (9, 0), (9, 0), (9, 0), (9, 0), (9, 0)], [(0, v58206)], _, _, _)
  refine ev_istore (L' := [(2, 42), (0, a1), (0, (-1)), (0, a3), (0, a4), (0, v58206), (9, 0), (9, 0), (9, 0), (9, 0), (9, 0), (9, 0), (9, 0)]) (Nat.le_of_ble_eq_true rfl) rfl ?_
  refine ev_iload rfl ?_
  refine ev_ifge f318_27 (fun c58207 => ?_) (fun c58207 => ?_)
  · refine ev_aload_n rfl ?_
    refine ev_iload_n rfl ?_
    refine ev_iload_n rfl ?_
    refine ev_in (d := 204) (a := 0) (b := 0) (cd' := c317_0) (m := 3) (L0 := [(2, 42), (0, (-1)), (0, a3)]) (jcall_v (A := [(0, a3), (0, (-1))]) (S' := []) (r := 42) rfl (g58205.lt ad42) (g58205.tg ad42) (Nat.le_of_ble_eq_true rfl)) (by decide) ml317 pp317 (Nat.le_of_ble_eq_true rfl) rfl (by decide) (by decide) ?_
    refine ev_iload_n rfl ?_
    refine ev_ifge f317_13 (fun c58208 => absurd c58208 (by omega)) (fun c58208 => ?_)
    refine ev_aload_n rfl ?_
    refine g_getp (r := 42) (c := 45) g58205 ad42 (by decide) (by decide) rf42_4 ft12_4 ?_
    refine ev_iload_n rfl ?_
    refine g_iald g58205 ad45 rt45 (by omega) (by omega) (fun v58209 ev58209 lv58209 uv58209 => ?_)
    have xv58209 := (g58205.ex.2.2.1 (a3 : Int).toNat (by rw [(((kk58205.v (by decide)).trans ew2))]; omega))
    rw [ev58209] at xv58209
    refine ev_goto f317_32 ?_
    refine ev_ret rfl (by decide) (by decide) ?_
    show jEv _ _ _ _ _ _ _ (_, [(2, 42), (0, a1), (0, (-1)), (0, a3), (0, a4), (0, v58206), (9, 0), (9, 0), (9, 0), (9, 0), (9, 0), (9, 0), (9, 0)], [(0, v58209)], _, _, _)
    refine ev_istore (L' := [(2, 42), (0, a1), (0, (-1)), (0, a3), (0, a4), (0, v58206), (0, v58209), (9, 0), (9, 0), (9, 0), (9, 0), (9, 0), (9, 0)]) (Nat.le_of_ble_eq_true rfl) rfl ?_
    refine ev_iload_n rfl ?_
    refine ev_ifge f318_43 (fun c58210 => absurd c58210 (by omega)) (fun c58210 => ?_)
    refine ev_iconst ?_
    refine ev_goto f318_54 ?_
    refine ev_istore (L' := [(2, 42), (0, a1), (0, (-1)), (0, a3), (0, a4), (0, v58206), (0, v58209), (0, 1), (9, 0), (9, 0), (9, 0), (9, 0), (9, 0)]) (Nat.le_of_ble_eq_true rfl) rfl ?_
    refine ev_iload_n rfl ?_
    refine ev_ifne f318_66 (fun c58211 => ?_) (fun c58211 => absurd c58211 (by omega))
    refine ev_bipush ?_
    refine ev_istore (L' := [(2, 42), (0, a1), (0, (-1)), (0, a3), (0, a4), (0, v58206), (0, v58209), (0, 1), (0, 99), (9, 0), (9, 0), (9, 0), (9, 0)]) (Nat.le_of_ble_eq_true rfl) rfl ?_
    refine ev_bipush ?_
    refine ev_istore (L' := [(2, 42), (0, a1), (0, (-1)), (0, a3), (0, a4), (0, v58206), (0, v58209), (0, 1), (0, 99), (0, (-2)), (9, 0), (9, 0), (9, 0)]) (Nat.le_of_ble_eq_true rfl) rfl ?_
    refine ev_iconst ?_
    refine ev_istore (L' := [(2, 42), (0, a1), (0, (-1)), (0, a3), (0, a4), (0, v58206), (0, v58209), (0, 1), (0, 99), (0, (-2)), (0, 1), (9, 0), (9, 0)]) (Nat.le_of_ble_eq_true rfl) rfl ?_
    exact (s318_w_l la1 ua1 la3 ua3 la4 ua4 ew0 lw0 uw0 ew1 lw1 uw1 ew2 lw2 uw2 F0 F1 82) _ _ _ _ _ _ _ g58205 k58205 (by omega) (by omega) (by omega) (by omega) (by omega) (by omega) (by omega) (by omega) (by omega) (by omega) (by omega) (by omega) (by omega) (by omega) (by omega)
  · refine ev_iload rfl ?_
    refine ev_bipush ?_
    refine ev_icmpne f318_24 (fun c58212 => ?_) (fun c58212 => ?_)
    · refine ev_bipush ?_
      exact ev_ret rfl (by decide) (by decide) ⟨_, rfl, by omega, by omega, g58205, k58205⟩
    · refine ev_bipush ?_
      refine ev_goto f318_26 ?_
      exact ev_ret rfl (by decide) (by decide) ⟨_, rfl, by omega, by omega, g58205, k58205⟩
set_option maxHeartbeats 4000000 in
theorem s318_c_l {G : GH} {h : JH} {a1 : Int} (la1 : 0 ≤ a1) (ua1 : a1 ≤ 5) {a3 : Int} (la3 : 0 ≤ a3) (ua3 : a3 ≤ 2799) {a4 : Int} (la4 : 0 ≤ a4) (ua4 : a4 ≤ 1) {w0 : Int} (ew0 : h.2.2 42 9 = w0) (lw0 : 0 ≤ w0) (uw0 : w0 ≤ 6) {w1 : Int} (ew1 : h.2.2 48 (a1).toNat = w1) (lw1 : 1 ≤ w1) (uw1 : w1 ≤ 100) (F0 : (a1 + (-w0)) ≤ (-1)) : ∀ N : Nat, (∀ (h1 : JH) (x5 x6 x9 x10 : Int) (j11 j12 : AV), Gd G h1 → Kp [(46, 0), (47, 0), (42, 6), (42, 9), (42, 37), (42, 38), (42, 39), (42, 40), (64, 0), (65, 0), (52, 0)] h h1 → 0 ≤ a1 → a1 ≤ 5 → 0 ≤ a3 → a3 ≤ 2799 → 0 ≤ a4 → a4 ≤ 1 → 0 ≤ x5 → x5 ≤ 3 → 0 ≤ x6 → x6 ≤ 99 → (-2) ≤ x9 → x9 ≤ 40 → 1 ≤ x10 → x10 ≤ 41 → ((-x10) + 41) < N → jEv (jOk 205) none (fun _ => 0) c318_0 0 0 (PI G [(46, 0), (47, 0), (42, 6), (42, 9), (42, 37), (42, 38), (42, 39), (42, 40), (64, 0), (65, 0), (52, 0)] h 0 (-4) 40) (c318_77, [(2, 42), (0, a1), (0, 1), (0, a3), (0, a4), (0, x5), (0, x6), (0, 0), (0, 99), (0, x9), (0, x10), j11, j12], [], h1, 0, 0)) := by
  intro N
  induction N with
  | zero => exact fun h1 x5 x6 x9 x10 j11 j12 g1 k1 b0 b1 b2 b3 b4 b5 b6 b7 b8 b9 b10 b11 b12 b13 hm => absurd hm (by omega)
  | succ N ih =>
    show _
    intro h1 x5 x6 x9 x10 j11 j12 g1 k1 b0 b1 b2 b3 b4 b5 b6 b7 b8 b9 b10 b11 b12 b13 hm
    refine ev_iload rfl ?_
    refine ev_bipush ?_
    refine ev_icmpgt f318_167 (fun c59316 => ?_) (fun c59316 => ?_)
    · refine ev_aload_n rfl ?_
      refine ev_iload_n rfl ?_
      refine ev_iload_n rfl ?_
      refine ev_iload rfl ?_
      refine ev_in (d := 204) (a := 0) (b := 0) (cd' := c280_0) (m := 4) (L0 := [(2, 42), (0, 1), (0, a3), (0, x6)]) (jcall_v (A := [(0, x6), (0, a3), (0, 1)]) (S' := []) (r := 42) rfl (g1.lt ad42) (g1.tg ad42) (Nat.le_of_ble_eq_true rfl)) (by decide) ml280 pp280 (Nat.le_of_ble_eq_true rfl) rfl (by decide) (by decide) ?_
      refine ev_iload_n rfl ?_
      refine ev_ifge f280_14 (fun c59317 => ?_) (fun c59317 => absurd c59317 (by omega))
      refine ev_iload_n rfl ?_
      refine ev_ifne f280_28 (fun c59318 => ?_) (fun c59318 => absurd c59318 (by omega))
      refine ev_aload_n rfl ?_
      refine g_getp (r := 42) (c := 52) g1 ad42 (by decide) (by decide) rf42_14 ft12_14 ?_
      refine ev_iload_n rfl ?_
      refine ev_iload_n rfl ?_
      refine g_iast g1 ad52 rt52 (fun _ => rfl) (by omega) (by omega) (by omega) (by omega) (fun h59319 e59319 g59319 => ?_)
      have k59319 := k1.wr e59319 rfl
      refine ev_ret rfl (by decide) (by decide) ?_
      show jEv _ _ _ _ _ _ _ (_, [(2, 42), (0, a1), (0, 1), (0, a3), (0, a4), (0, x5), (0, x6), (0, 0), (0, 99), (0, x9), (0, x10), j11, j12], [], _, _, _)
      refine ev_iload rfl ?_
      exact ev_ret rfl (by decide) (by decide) ⟨_, rfl, by omega, by omega, g59319, k59319⟩
    · refine ev_iload rfl ?_
      refine ev_ifge f318_167 (fun c59320 => ?_) (fun c59320 => ?_)
      · refine ev_aload_n rfl ?_
        refine ev_iload_n rfl ?_
        refine ev_iload_n rfl ?_
        refine ev_iload rfl ?_
        refine ev_in (d := 204) (a := 0) (b := 0) (cd' := c280_0) (m := 4) (L0 := [(2, 42), (0, 1), (0, a3), (0, x6)]) (jcall_v (A := [(0, x6), (0, a3), (0, 1)]) (S' := []) (r := 42) rfl (g1.lt ad42) (g1.tg ad42) (Nat.le_of_ble_eq_true rfl)) (by decide) ml280 pp280 (Nat.le_of_ble_eq_true rfl) rfl (by decide) (by decide) ?_
        refine ev_iload_n rfl ?_
        refine ev_ifge f280_14 (fun c59321 => ?_) (fun c59321 => absurd c59321 (by omega))
        refine ev_iload_n rfl ?_
        refine ev_ifne f280_28 (fun c59322 => ?_) (fun c59322 => absurd c59322 (by omega))
        refine ev_aload_n rfl ?_
        refine g_getp (r := 42) (c := 52) g1 ad42 (by decide) (by decide) rf42_14 ft12_14 ?_
        refine ev_iload_n rfl ?_
        refine ev_iload_n rfl ?_
        refine g_iast g1 ad52 rt52 (fun _ => rfl) (by omega) (by omega) (by omega) (by omega) (fun h59323 e59323 g59323 => ?_)
        have k59323 := k1.wr e59323 rfl
        refine ev_ret rfl (by decide) (by decide) ?_
        show jEv _ _ _ _ _ _ _ (_, [(2, 42), (0, a1), (0, 1), (0, a3), (0, a4), (0, x5), (0, x6), (0, 0), (0, 99), (0, x9), (0, x10), j11, j12], [], _, _, _)
        refine ev_iload rfl ?_
        exact ev_ret rfl (by decide) (by decide) ⟨_, rfl, by omega, by omega, g59323, k59323⟩
      · refine ev_iload rfl ?_
        refine ev_iconst ?_
        refine ev_icmpne f318_103 (fun c59324 => ?_) (fun c59324 => ?_)
        · refine ev_iload rfl ?_
          refine ev_iload rfl ?_
          refine ev_isub (r := ((-x10) + x6)) (by unfold w32; omega) ?_
          refine ev_istore (L' := [(2, 42), (0, a1), (0, 1), (0, a3), (0, a4), (0, x5), (0, x6), (0, 0), (0, 99), (0, x9), (0, x10), (0, ((-x10) + x6)), j12]) (Nat.le_of_ble_eq_true rfl) rfl ?_
          refine ev_iload rfl ?_
          refine ev_iload rfl ?_
          refine ev_iload rfl ?_
          refine ev_in (d := 204) (a := 0) (b := 0) (cd' := c242_0) (m := 3) (L0 := [(0, ((-x10) + x6)), (0, 0), (0, 99)]) (jcall_s (A := [(0, 99), (0, 0), (0, ((-x10) + x6))]) (S' := []) (by decide) rfl (Nat.le_of_ble_eq_true rfl)) (by decide) ml242 pp242 (Nat.le_of_ble_eq_true rfl) rfl (by decide) (by decide) ?_
          refine ev_iload_n rfl ?_
          refine ev_iload_n rfl ?_
          refine ev_icmplt f242_14 (fun c59325 => ?_) (fun c59325 => ?_)
          · refine ev_iconst ?_
            refine ev_ret rfl (by decide) (by decide) ?_
            show jEv _ _ _ _ _ _ _ (_, [(2, 42), (0, a1), (0, 1), (0, a3), (0, a4), (0, x5), (0, x6), (0, 0), (0, 99), (0, x9), (0, x10), (0, ((-x10) + x6)), j12], [(0, 0)], _, _, _)
            refine ev_ifne f318_125 (fun c59326 => absurd c59326 (by omega)) (fun c59326 => ?_)
            refine ev_goto f318_167 ?_
            refine ev_aload_n rfl ?_
            refine ev_iload_n rfl ?_
            refine ev_iload_n rfl ?_
            refine ev_iload rfl ?_
            refine ev_in (d := 204) (a := 0) (b := 0) (cd' := c280_0) (m := 4) (L0 := [(2, 42), (0, 1), (0, a3), (0, x6)]) (jcall_v (A := [(0, x6), (0, a3), (0, 1)]) (S' := []) (r := 42) rfl (g1.lt ad42) (g1.tg ad42) (Nat.le_of_ble_eq_true rfl)) (by decide) ml280 pp280 (Nat.le_of_ble_eq_true rfl) rfl (by decide) (by decide) ?_
            refine ev_iload_n rfl ?_
            refine ev_ifge f280_14 (fun c59327 => ?_) (fun c59327 => absurd c59327 (by omega))
            refine ev_iload_n rfl ?_
            refine ev_ifne f280_28 (fun c59328 => ?_) (fun c59328 => absurd c59328 (by omega))
            refine ev_aload_n rfl ?_
            refine g_getp (r := 42) (c := 52) g1 ad42 (by decide) (by decide) rf42_14 ft12_14 ?_
            refine ev_iload_n rfl ?_
            refine ev_iload_n rfl ?_
            refine g_iast g1 ad52 rt52 (fun _ => rfl) (by omega) (by omega) (by omega) (by omega) (fun h59329 e59329 g59329 => ?_)
            have k59329 := k1.wr e59329 rfl
            refine ev_ret rfl (by decide) (by decide) ?_
            show jEv _ _ _ _ _ _ _ (_, [(2, 42), (0, a1), (0, 1), (0, a3), (0, a4), (0, x5), (0, x6), (0, 0), (0, 99), (0, x9), (0, x10), (0, ((-x10) + x6)), j12], [], _, _, _)
            refine ev_iload rfl ?_
            exact ev_ret rfl (by decide) (by decide) ⟨_, rfl, by omega, by omega, g59329, k59329⟩
          · refine ev_iload_n rfl ?_
            refine ev_iload_n rfl ?_
            refine ev_icmpgt f242_14 (fun c59330 => absurd c59330 (by omega)) (fun c59330 => ?_)
            refine ev_iconst ?_
            refine ev_goto f242_15 ?_
            refine ev_ret rfl (by decide) (by decide) ?_
            show jEv _ _ _ _ _ _ _ (_, [(2, 42), (0, a1), (0, 1), (0, a3), (0, a4), (0, x5), (0, x6), (0, 0), (0, 99), (0, x9), (0, x10), (0, ((-x10) + x6)), j12], [(0, 1)], _, _, _)
            refine ev_ifne f318_125 (fun c59331 => ?_) (fun c59331 => absurd c59331 (by omega))
            refine ev_aload_n rfl ?_
            refine ev_iload_n rfl ?_
            refine ev_iload_n rfl ?_
            refine ev_iload rfl ?_
            refine ev_in (d := 204) (a := 0) (b := 0) (cd' := c280_0) (m := 4) (L0 := [(2, 42), (0, 1), (0, a3), (0, ((-x10) + x6))]) (jcall_v (A := [(0, ((-x10) + x6)), (0, a3), (0, 1)]) (S' := []) (r := 42) rfl (g1.lt ad42) (g1.tg ad42) (Nat.le_of_ble_eq_true rfl)) (by decide) ml280 pp280 (Nat.le_of_ble_eq_true rfl) rfl (by decide) (by decide) ?_
            refine ev_iload_n rfl ?_
            refine ev_ifge f280_14 (fun c59332 => ?_) (fun c59332 => absurd c59332 (by omega))
            refine ev_iload_n rfl ?_
            refine ev_ifne f280_28 (fun c59333 => ?_) (fun c59333 => absurd c59333 (by omega))
            refine ev_aload_n rfl ?_
            refine g_getp (r := 42) (c := 52) g1 ad42 (by decide) (by decide) rf42_14 ft12_14 ?_
            refine ev_iload_n rfl ?_
            refine ev_iload_n rfl ?_
            refine g_iast g1 ad52 rt52 (fun _ => rfl) (by omega) (by omega) (by omega) (by omega) (fun h59334 e59334 g59334 => ?_)
            have k59334 := k1.wr e59334 rfl
            refine ev_ret rfl (by decide) (by decide) ?_
            show jEv _ _ _ _ _ _ _ (_, [(2, 42), (0, a1), (0, 1), (0, a3), (0, a4), (0, x5), (0, x6), (0, 0), (0, 99), (0, x9), (0, x10), (0, ((-x10) + x6)), j12], [], _, _, _)
            refine ev_aload_n rfl ?_
            refine ev_iload_n rfl ?_
            refine ev_call (jcall_v (A := [(0, a1)]) (S' := []) (r := 42) rfl (g59334.lt ad42) (g59334.tg ad42) (Nat.le_of_ble_eq_true rfl)) (jOk_le (by decide) (s316 g59334 (by omega) (by omega) (((jw_ne e59334 (Or.inl (by decide))).trans ((k1.v (by decide)).trans ew0))) (by omega) (by omega) (((jw_ne e59334 (Or.inl (by decide))).trans ((k1.v rfl).trans ew1))) (by omega) (by omega) (by omega))) (by decide) (by decide) (fun w59335 h59335 q59335 => ?_)
            obtain ⟨v59336, rfl, lv59336, uv59336, g59335, kk59335⟩ := q59335
            have k59335 := k59334.tr kk59335 (by decide)
            show jEv _ _ _ _ _ _ _ (_, [(2, 42), (0, a1), (0, 1), (0, a3), (0, a4), (0, x5), (0, x6), (0, 0), (0, 99), (0, x9), (0, x10), (0, ((-x10) + x6)), j12], [(0, v59336)], _, _, _)
            refine ev_istore (L' := [(2, 42), (0, a1), (0, 1), (0, a3), (0, a4), (0, x5), (0, x6), (0, 0), (0, 99), (0, x9), (0, x10), (0, ((-x10) + x6)), (0, v59336)]) (Nat.le_of_ble_eq_true rfl) rfl ?_
            refine ev_iload rfl ?_
            refine ev_bipush ?_
            refine ev_icmpne f318_150 (fun c59337 => ?_) (fun c59337 => ?_)
            · refine ev_iload rfl ?_
              refine ev_iload rfl ?_
              refine ev_icmpeq f318_161 (fun c59338 => ?_) (fun c59338 => ?_)
              · refine ev_iinc (w := (x10 + 1)) (L' := [(2, 42), (0, a1), (0, 1), (0, a3), (0, a4), (0, x5), (0, x6), (0, 0), (0, 99), (0, x9), (0, (x10 + 1)), (0, ((-x10) + x6)), (0, v59336)]) rfl (by unfold w32; omega) rfl ?_
                refine ev_goto f318_77 ?_
                exact ih _ _ _ _ _ _ _ g59335 k59335 (by omega) (by omega) (by omega) (by omega) (by omega) (by omega) (by omega) (by omega) (by omega) (by omega) (by omega) (by omega) (by omega) (by omega) (by omega)
              · refine ev_iload rfl ?_
                refine ev_istore (L' := [(2, 42), (0, a1), (0, 1), (0, a3), (0, a4), (0, x5), (0, x6), (0, 0), (0, 99), (0, x10), (0, x10), (0, ((-x10) + x6)), (0, v59336)]) (Nat.le_of_ble_eq_true rfl) rfl ?_
                refine ev_iinc (w := (x10 + 1)) (L' := [(2, 42), (0, a1), (0, 1), (0, a3), (0, a4), (0, x5), (0, x6), (0, 0), (0, 99), (0, x10), (0, (x10 + 1)), (0, ((-x10) + x6)), (0, v59336)]) rfl (by unfold w32; omega) rfl ?_
                refine ev_goto f318_77 ?_
                exact ih _ _ _ _ _ _ _ g59335 k59335 (by omega) (by omega) (by omega) (by omega) (by omega) (by omega) (by omega) (by omega) (by omega) (by omega) (by omega) (by omega) (by omega) (by omega) (by omega)
            · refine ev_goto f318_167 ?_
              refine ev_aload_n rfl ?_
              refine ev_iload_n rfl ?_
              refine ev_iload_n rfl ?_
              refine ev_iload rfl ?_
              refine ev_in (d := 204) (a := 0) (b := 0) (cd' := c280_0) (m := 4) (L0 := [(2, 42), (0, 1), (0, a3), (0, x6)]) (jcall_v (A := [(0, x6), (0, a3), (0, 1)]) (S' := []) (r := 42) rfl (g59335.lt ad42) (g59335.tg ad42) (Nat.le_of_ble_eq_true rfl)) (by decide) ml280 pp280 (Nat.le_of_ble_eq_true rfl) rfl (by decide) (by decide) ?_
              refine ev_iload_n rfl ?_
              refine ev_ifge f280_14 (fun c59339 => ?_) (fun c59339 => absurd c59339 (by omega))
              refine ev_iload_n rfl ?_
              refine ev_ifne f280_28 (fun c59340 => ?_) (fun c59340 => absurd c59340 (by omega))
              refine ev_aload_n rfl ?_
              refine g_getp (r := 42) (c := 52) g59335 ad42 (by decide) (by decide) rf42_14 ft12_14 ?_
              refine ev_iload_n rfl ?_
              refine ev_iload_n rfl ?_
              refine g_iast g59335 ad52 rt52 (fun _ => rfl) (by omega) (by omega) (by omega) (by omega) (fun h59341 e59341 g59341 => ?_)
              have k59341 := k59335.wr e59341 rfl
              refine ev_ret rfl (by decide) (by decide) ?_
              show jEv _ _ _ _ _ _ _ (_, [(2, 42), (0, a1), (0, 1), (0, a3), (0, a4), (0, x5), (0, x6), (0, 0), (0, 99), (0, x9), (0, x10), (0, ((-x10) + x6)), (0, v59336)], [], _, _, _)
              refine ev_iload rfl ?_
              exact ev_ret rfl (by decide) (by decide) ⟨_, rfl, by omega, by omega, g59341, k59341⟩
        · refine ev_iload rfl ?_
          refine ev_iload rfl ?_
          refine ev_iadd (r := (x10 + x6)) (by unfold w32; omega) ?_
          refine ev_goto f318_108 ?_
          refine ev_istore (L' := [(2, 42), (0, a1), (0, 1), (0, a3), (0, a4), (0, x5), (0, x6), (0, 0), (0, 99), (0, x9), (0, x10), (0, (x10 + x6)), j12]) (Nat.le_of_ble_eq_true rfl) rfl ?_
          refine ev_iload rfl ?_
          refine ev_iload rfl ?_
          refine ev_iload rfl ?_
          refine ev_in (d := 204) (a := 0) (b := 0) (cd' := c242_0) (m := 3) (L0 := [(0, (x10 + x6)), (0, 0), (0, 99)]) (jcall_s (A := [(0, 99), (0, 0), (0, (x10 + x6))]) (S' := []) (by decide) rfl (Nat.le_of_ble_eq_true rfl)) (by decide) ml242 pp242 (Nat.le_of_ble_eq_true rfl) rfl (by decide) (by decide) ?_
          refine ev_iload_n rfl ?_
          refine ev_iload_n rfl ?_
          refine ev_icmplt f242_14 (fun c59342 => absurd c59342 (by omega)) (fun c59342 => ?_)
          refine ev_iload_n rfl ?_
          refine ev_iload_n rfl ?_
          refine ev_icmpgt f242_14 (fun c59343 => ?_) (fun c59343 => ?_)
          · refine ev_iconst ?_
            refine ev_ret rfl (by decide) (by decide) ?_
            show jEv _ _ _ _ _ _ _ (_, [(2, 42), (0, a1), (0, 1), (0, a3), (0, a4), (0, x5), (0, x6), (0, 0), (0, 99), (0, x9), (0, x10), (0, (x10 + x6)), j12], [(0, 0)], _, _, _)
            refine ev_ifne f318_125 (fun c59344 => absurd c59344 (by omega)) (fun c59344 => ?_)
            refine ev_goto f318_167 ?_
            refine ev_aload_n rfl ?_
            refine ev_iload_n rfl ?_
            refine ev_iload_n rfl ?_
            refine ev_iload rfl ?_
            refine ev_in (d := 204) (a := 0) (b := 0) (cd' := c280_0) (m := 4) (L0 := [(2, 42), (0, 1), (0, a3), (0, x6)]) (jcall_v (A := [(0, x6), (0, a3), (0, 1)]) (S' := []) (r := 42) rfl (g1.lt ad42) (g1.tg ad42) (Nat.le_of_ble_eq_true rfl)) (by decide) ml280 pp280 (Nat.le_of_ble_eq_true rfl) rfl (by decide) (by decide) ?_
            refine ev_iload_n rfl ?_
            refine ev_ifge f280_14 (fun c59345 => ?_) (fun c59345 => absurd c59345 (by omega))
            refine ev_iload_n rfl ?_
            refine ev_ifne f280_28 (fun c59346 => ?_) (fun c59346 => absurd c59346 (by omega))
            refine ev_aload_n rfl ?_
            refine g_getp (r := 42) (c := 52) g1 ad42 (by decide) (by decide) rf42_14 ft12_14 ?_
            refine ev_iload_n rfl ?_
            refine ev_iload_n rfl ?_
            refine g_iast g1 ad52 rt52 (fun _ => rfl) (by omega) (by omega) (by omega) (by omega) (fun h59347 e59347 g59347 => ?_)
            have k59347 := k1.wr e59347 rfl
            refine ev_ret rfl (by decide) (by decide) ?_
            show jEv _ _ _ _ _ _ _ (_, [(2, 42), (0, a1), (0, 1), (0, a3), (0, a4), (0, x5), (0, x6), (0, 0), (0, 99), (0, x9), (0, x10), (0, (x10 + x6)), j12], [], _, _, _)
            refine ev_iload rfl ?_
            exact ev_ret rfl (by decide) (by decide) ⟨_, rfl, by omega, by omega, g59347, k59347⟩
          · refine ev_iconst ?_
            refine ev_goto f242_15 ?_
            refine ev_ret rfl (by decide) (by decide) ?_
            show jEv _ _ _ _ _ _ _ (_, [(2, 42), (0, a1), (0, 1), (0, a3), (0, a4), (0, x5), (0, x6), (0, 0), (0, 99), (0, x9), (0, x10), (0, (x10 + x6)), j12], [(0, 1)], _, _, _)
            refine ev_ifne f318_125 (fun c59348 => ?_) (fun c59348 => absurd c59348 (by omega))
            refine ev_aload_n rfl ?_
            refine ev_iload_n rfl ?_
            refine ev_iload_n rfl ?_
            refine ev_iload rfl ?_
            refine ev_in (d := 204) (a := 0) (b := 0) (cd' := c280_0) (m := 4) (L0 := [(2, 42), (0, 1), (0, a3), (0, (x10 + x6))]) (jcall_v (A := [(0, (x10 + x6)), (0, a3), (0, 1)]) (S' := []) (r := 42) rfl (g1.lt ad42) (g1.tg ad42) (Nat.le_of_ble_eq_true rfl)) (by decide) ml280 pp280 (Nat.le_of_ble_eq_true rfl) rfl (by decide) (by decide) ?_
            refine ev_iload_n rfl ?_
            refine ev_ifge f280_14 (fun c59349 => ?_) (fun c59349 => absurd c59349 (by omega))
            refine ev_iload_n rfl ?_
            refine ev_ifne f280_28 (fun c59350 => ?_) (fun c59350 => absurd c59350 (by omega))
            refine ev_aload_n rfl ?_
            refine g_getp (r := 42) (c := 52) g1 ad42 (by decide) (by decide) rf42_14 ft12_14 ?_
            refine ev_iload_n rfl ?_
            refine ev_iload_n rfl ?_
            refine g_iast g1 ad52 rt52 (fun _ => rfl) (by omega) (by omega) (by omega) (by omega) (fun h59351 e59351 g59351 => ?_)
            have k59351 := k1.wr e59351 rfl
            refine ev_ret rfl (by decide) (by decide) ?_
            show jEv _ _ _ _ _ _ _ (_, [(2, 42), (0, a1), (0, 1), (0, a3), (0, a4), (0, x5), (0, x6), (0, 0), (0, 99), (0, x9), (0, x10), (0, (x10 + x6)), j12], [], _, _, _)
            refine ev_aload_n rfl ?_
            refine ev_iload_n rfl ?_
            refine ev_call (jcall_v (A := [(0, a1)]) (S' := []) (r := 42) rfl (g59351.lt ad42) (g59351.tg ad42) (Nat.le_of_ble_eq_true rfl)) (jOk_le (by decide) (s316 g59351 (by omega) (by omega) (((jw_ne e59351 (Or.inl (by decide))).trans ((k1.v (by decide)).trans ew0))) (by omega) (by omega) (((jw_ne e59351 (Or.inl (by decide))).trans ((k1.v rfl).trans ew1))) (by omega) (by omega) (by omega))) (by decide) (by decide) (fun w59352 h59352 q59352 => ?_)
            obtain ⟨v59353, rfl, lv59353, uv59353, g59352, kk59352⟩ := q59352
            have k59352 := k59351.tr kk59352 (by decide)
            show jEv _ _ _ _ _ _ _ (_, [(2, 42), (0, a1), (0, 1), (0, a3), (0, a4), (0, x5), (0, x6), (0, 0), (0, 99), (0, x9), (0, x10), (0, (x10 + x6)), j12], [(0, v59353)], _, _, _)
            refine ev_istore (L' := [(2, 42), (0, a1), (0, 1), (0, a3), (0, a4), (0, x5), (0, x6), (0, 0), (0, 99), (0, x9), (0, x10), (0, (x10 + x6)), (0, v59353)]) (Nat.le_of_ble_eq_true rfl) rfl ?_
            refine ev_iload rfl ?_
            refine ev_bipush ?_
            refine ev_icmpne f318_150 (fun c59354 => ?_) (fun c59354 => ?_)
            · refine ev_iload rfl ?_
              refine ev_iload rfl ?_
              refine ev_icmpeq f318_161 (fun c59355 => ?_) (fun c59355 => ?_)
              · refine ev_iinc (w := (x10 + 1)) (L' := [(2, 42), (0, a1), (0, 1), (0, a3), (0, a4), (0, x5), (0, x6), (0, 0), (0, 99), (0, x9), (0, (x10 + 1)), (0, (x10 + x6)), (0, v59353)]) rfl (by unfold w32; omega) rfl ?_
                refine ev_goto f318_77 ?_
                exact ih _ _ _ _ _ _ _ g59352 k59352 (by omega) (by omega) (by omega) (by omega) (by omega) (by omega) (by omega) (by omega) (by omega) (by omega) (by omega) (by omega) (by omega) (by omega) (by omega)
              · refine ev_iload rfl ?_
                refine ev_istore (L' := [(2, 42), (0, a1), (0, 1), (0, a3), (0, a4), (0, x5), (0, x6), (0, 0), (0, 99), (0, x10), (0, x10), (0, (x10 + x6)), (0, v59353)]) (Nat.le_of_ble_eq_true rfl) rfl ?_
                refine ev_iinc (w := (x10 + 1)) (L' := [(2, 42), (0, a1), (0, 1), (0, a3), (0, a4), (0, x5), (0, x6), (0, 0), (0, 99), (0, x10), (0, (x10 + 1)), (0, (x10 + x6)), (0, v59353)]) rfl (by unfold w32; omega) rfl ?_
                refine ev_goto f318_77 ?_
                exact ih _ _ _ _ _ _ _ g59352 k59352 (by omega) (by omega) (by omega) (by omega) (by omega) (by omega) (by omega) (by omega) (by omega) (by omega) (by omega) (by omega) (by omega) (by omega) (by omega)
            · refine ev_goto f318_167 ?_
              refine ev_aload_n rfl ?_
              refine ev_iload_n rfl ?_
              refine ev_iload_n rfl ?_
              refine ev_iload rfl ?_
              refine ev_in (d := 204) (a := 0) (b := 0) (cd' := c280_0) (m := 4) (L0 := [(2, 42), (0, 1), (0, a3), (0, x6)]) (jcall_v (A := [(0, x6), (0, a3), (0, 1)]) (S' := []) (r := 42) rfl (g59352.lt ad42) (g59352.tg ad42) (Nat.le_of_ble_eq_true rfl)) (by decide) ml280 pp280 (Nat.le_of_ble_eq_true rfl) rfl (by decide) (by decide) ?_
              refine ev_iload_n rfl ?_
              refine ev_ifge f280_14 (fun c59356 => ?_) (fun c59356 => absurd c59356 (by omega))
              refine ev_iload_n rfl ?_
              refine ev_ifne f280_28 (fun c59357 => ?_) (fun c59357 => absurd c59357 (by omega))
              refine ev_aload_n rfl ?_
              refine g_getp (r := 42) (c := 52) g59352 ad42 (by decide) (by decide) rf42_14 ft12_14 ?_
              refine ev_iload_n rfl ?_
              refine ev_iload_n rfl ?_
              refine g_iast g59352 ad52 rt52 (fun _ => rfl) (by omega) (by omega) (by omega) (by omega) (fun h59358 e59358 g59358 => ?_)
              have k59358 := k59352.wr e59358 rfl
              refine ev_ret rfl (by decide) (by decide) ?_
              show jEv _ _ _ _ _ _ _ (_, [(2, 42), (0, a1), (0, 1), (0, a3), (0, a4), (0, x5), (0, x6), (0, 0), (0, 99), (0, x9), (0, x10), (0, (x10 + x6)), (0, v59353)], [], _, _, _)
              refine ev_iload rfl ?_
              exact ev_ret rfl (by decide) (by decide) ⟨_, rfl, by omega, by omega, g59358, k59358⟩
set_option maxHeartbeats 4000000 in
theorem s318_c {G : GH} {h : JH} (g : Gd G h) {a1 : Int} (la1 : 0 ≤ a1) (ua1 : a1 ≤ 5) {a3 : Int} (la3 : 0 ≤ a3) (ua3 : a3 ≤ 2799) {a4 : Int} (la4 : 0 ≤ a4) (ua4 : a4 ≤ 1) {w0 : Int} (ew0 : h.2.2 42 9 = w0) (lw0 : 0 ≤ w0) (uw0 : w0 ≤ 6) {w1 : Int} (ew1 : h.2.2 48 (a1).toNat = w1) (lw1 : 1 ≤ w1) (uw1 : w1 ≤ 100) (F0 : (a1 + (-w0)) ≤ (-1)) : jOk 206 0 0 318 [(2, 42), (0, a1), (0, 1), (0, a3), (0, a4)] h (PI G [(46, 0), (47, 0), (42, 6), (42, 9), (42, 37), (42, 38), (42, 39), (42, 40), (64, 0), (65, 0), (52, 0)] h 0 (-4) 40) := by
  refine ⟨by decide, by rw [ml318]; exact Nat.le_of_ble_eq_true rfl, ?_⟩
  rw [ml318, pp318]
  show jEv _ none _ c318_0 0 0 _ (c318_0, [(2, 42), (0, a1), (0, 1), (0, a3), (0, a4), (9, 0), (9, 0), (9, 0), (9, 0), (9, 0), (9, 0), (9, 0), (9, 0)], [], h, 0, 0)
  have k0 := Kp.rf [(46, 0), (47, 0), (42, 6), (42, 9), (42, 37), (42, 38), (42, 39), (42, 40), (64, 0), (65, 0), (52, 0)] h
  refine ev_aload_n rfl ?_
  refine ev_iload_n rfl ?_
  refine ev_call (jcall_v (A := [(0, a1)]) (S' := []) (r := 42) rfl (g.lt ad42) (g.tg ad42) (Nat.le_of_ble_eq_true rfl)) (jOk_le (by decide) (s316 g (by omega) (by omega) (ew0) (by omega) (by omega) (ew1) (by omega) (by omega) (by omega))) (by decide) (by decide) (fun w59359 h59359 q59359 => ?_)
  obtain ⟨v59360, rfl, lv59360, uv59360, g59359, kk59359⟩ := q59359
  have k59359 := k0.tr kk59359 (by decide)
  show jEv _ _ _ _ _ _ _ (_, [(2, 42), (0, a1), (0, 1), (0, a3), (0, a4), (9, 0), (9, 0), (9, 0), (9, 0), (9, 0), (9, 0), (9, 0), (9, 0)], [(0, v59360)], _, _, _)
  refine ev_istore (L' := [(2, 42), (0, a1), (0, 1), (0, a3), (0, a4), (0, v59360), (9, 0), (9, 0), (9, 0), (9, 0), (9, 0), (9, 0), (9, 0)]) (Nat.le_of_ble_eq_true rfl) rfl ?_
  refine ev_iload rfl ?_
  refine ev_ifge f318_27 (fun c59361 => ?_) (fun c59361 => ?_)
  · refine ev_aload_n rfl ?_
    refine ev_iload_n rfl ?_
    refine ev_iload_n rfl ?_
    refine ev_in (d := 204) (a := 0) (b := 0) (cd' := c317_0) (m := 3) (L0 := [(2, 42), (0, 1), (0, a3)]) (jcall_v (A := [(0, a3), (0, 1)]) (S' := []) (r := 42) rfl (g59359.lt ad42) (g59359.tg ad42) (Nat.le_of_ble_eq_true rfl)) (by decide) ml317 pp317 (Nat.le_of_ble_eq_true rfl) rfl (by decide) (by decide) ?_
    refine ev_iload_n rfl ?_
    refine ev_ifge f317_13 (fun c59362 => ?_) (fun c59362 => absurd c59362 (by omega))
    refine ev_iload_n rfl ?_
    refine ev_ifne f317_26 (fun c59363 => ?_) (fun c59363 => absurd c59363 (by omega))
    refine ev_aload_n rfl ?_
    refine g_getp (r := 42) (c := 52) g59359 ad42 (by decide) (by decide) rf42_14 ft12_14 ?_
    refine ev_iload_n rfl ?_
    refine g_iald g59359 ad52 rt52 (by omega) (by omega) (fun v59364 ev59364 lv59364 uv59364 => ?_)
    refine ev_ret rfl (by decide) (by decide) ?_
    show jEv _ _ _ _ _ _ _ (_, [(2, 42), (0, a1), (0, 1), (0, a3), (0, a4), (0, v59360), (9, 0), (9, 0), (9, 0), (9, 0), (9, 0), (9, 0), (9, 0)], [(0, v59364)], _, _, _)
    refine ev_istore (L' := [(2, 42), (0, a1), (0, 1), (0, a3), (0, a4), (0, v59360), (0, v59364), (9, 0), (9, 0), (9, 0), (9, 0), (9, 0), (9, 0)]) (Nat.le_of_ble_eq_true rfl) rfl ?_
    refine ev_iload_n rfl ?_
    refine ev_ifge f318_43 (fun c59365 => ?_) (fun c59365 => absurd c59365 (by omega))
    refine ev_iload_n rfl ?_
    refine ev_ifne f318_53 (fun c59366 => ?_) (fun c59366 => absurd c59366 (by omega))
    refine ev_iconst ?_
    refine ev_istore (L' := [(2, 42), (0, a1), (0, 1), (0, a3), (0, a4), (0, v59360), (0, v59364), (0, 0), (9, 0), (9, 0), (9, 0), (9, 0), (9, 0)]) (Nat.le_of_ble_eq_true rfl) rfl ?_
    refine ev_iload_n rfl ?_
    refine ev_ifne f318_66 (fun c59367 => ?_) (fun c59367 => absurd c59367 (by omega))
    refine ev_bipush ?_
    refine ev_istore (L' := [(2, 42), (0, a1), (0, 1), (0, a3), (0, a4), (0, v59360), (0, v59364), (0, 0), (0, 99), (9, 0), (9, 0), (9, 0), (9, 0)]) (Nat.le_of_ble_eq_true rfl) rfl ?_
    refine ev_bipush ?_
    refine ev_istore (L' := [(2, 42), (0, a1), (0, 1), (0, a3), (0, a4), (0, v59360), (0, v59364), (0, 0), (0, 99), (0, (-2)), (9, 0), (9, 0), (9, 0)]) (Nat.le_of_ble_eq_true rfl) rfl ?_
    refine ev_iconst ?_
    refine ev_istore (L' := [(2, 42), (0, a1), (0, 1), (0, a3), (0, a4), (0, v59360), (0, v59364), (0, 0), (0, 99), (0, (-2)), (0, 1), (9, 0), (9, 0)]) (Nat.le_of_ble_eq_true rfl) rfl ?_
    exact (s318_c_l la1 ua1 la3 ua3 la4 ua4 ew0 lw0 uw0 ew1 lw1 uw1 F0 82) _ _ _ _ _ _ _ g59359 k59359 (by omega) (by omega) (by omega) (by omega) (by omega) (by omega) (by omega) (by omega) (by omega) (by omega) (by omega) (by omega) (by omega) (by omega) (by omega)
  · refine ev_iload rfl ?_
    refine ev_bipush ?_
    refine ev_icmpne f318_24 (fun c59368 => ?_) (fun c59368 => ?_)
    · refine ev_bipush ?_
      exact ev_ret rfl (by decide) (by decide) ⟨_, rfl, by omega, by omega, g59359, k59359⟩
    · refine ev_bipush ?_
      refine ev_goto f318_26 ?_
      exact ev_ret rfl (by decide) (by decide) ⟨_, rfl, by omega, by omega, g59359, k59359⟩
set_option maxHeartbeats 4000000 in
theorem s318_e_l {G : GH} {h : JH} {a1 : Int} (la1 : 0 ≤ a1) (ua1 : a1 ≤ 5) {a3 : Int} (la3 : 0 ≤ a3) (ua3 : a3 ≤ 699) {a4 : Int} (la4 : 0 ≤ a4) (ua4 : a4 ≤ 1) {w0 : Int} (ew0 : h.2.2 42 9 = w0) (lw0 : 0 ≤ w0) (uw0 : w0 ≤ 6) {w1 : Int} (ew1 : h.2.2 48 (a1).toNat = w1) (lw1 : 1 ≤ w1) (uw1 : w1 ≤ 100) (F0 : (a1 + (-w0)) ≤ (-1)) (hk : h.2.2 49 (a3).toNat = 0) : ∀ N : Nat, (∀ (h1 : JH) (x5 x6 x9 x10 : Int) (j11 j12 : AV), Gd G h1 → Kp [(46, 0), (47, 0), (42, 6), (42, 9), (42, 37), (42, 38), (42, 39), (42, 40), (64, 0), (65, 0), (50, 0)] h h1 → 0 ≤ a1 → a1 ≤ 5 → 0 ≤ a3 → a3 ≤ 699 → 0 ≤ a4 → a4 ≤ 1 → 0 ≤ x5 → x5 ≤ 3 → (-999) ≤ x6 → x6 ≤ 999 → (-2) ≤ x9 → x9 ≤ 40 → 1 ≤ x10 → x10 ≤ 41 → ((-x10) + 41) < N → jEv (jOk 205) none (fun _ => 0) c318_0 0 0 (PI G [(46, 0), (47, 0), (42, 6), (42, 9), (42, 37), (42, 38), (42, 39), (42, 40), (64, 0), (65, 0), (50, 0)] h 0 (-4) 40) (c318_77, [(2, 42), (0, a1), (0, 0), (0, a3), (0, a4), (0, x5), (0, x6), (0, (-999)), (0, 999), (0, x9), (0, x10), j11, j12], [], h1, 0, 0)) := by
  intro N
  induction N with
  | zero => exact fun h1 x5 x6 x9 x10 j11 j12 g1 k1 b0 b1 b2 b3 b4 b5 b6 b7 b8 b9 b10 b11 b12 b13 hm => absurd hm (by omega)
  | succ N ih =>
    show _
    intro h1 x5 x6 x9 x10 j11 j12 g1 k1 b0 b1 b2 b3 b4 b5 b6 b7 b8 b9 b10 b11 b12 b13 hm
    refine ev_iload rfl ?_
    refine ev_bipush ?_
    refine ev_icmpgt f318_167 (fun c60472 => ?_) (fun c60472 => ?_)
    · refine ev_aload_n rfl ?_
      refine ev_iload_n rfl ?_
      refine ev_iload_n rfl ?_
      refine ev_iload rfl ?_
      refine ev_in (d := 204) (a := 0) (b := 0) (cd' := c280_0) (m := 4) (L0 := [(2, 42), (0, 0), (0, a3), (0, x6)]) (jcall_v (A := [(0, x6), (0, a3), (0, 0)]) (S' := []) (r := 42) rfl (g1.lt ad42) (g1.tg ad42) (Nat.le_of_ble_eq_true rfl)) (by decide) ml280 pp280 (Nat.le_of_ble_eq_true rfl) rfl (by decide) (by decide) ?_
      refine ev_iload_n rfl ?_
      refine ev_ifge f280_14 (fun c60473 => ?_) (fun c60473 => absurd c60473 (by omega))
      refine ev_iload_n rfl ?_
      refine ev_ifne f280_28 (fun c60474 => absurd c60474 (by omega)) (fun c60474 => ?_)
      refine ev_aload_n rfl ?_
      refine g_getp (r := 42) (c := 50) g1 ad42 (by decide) (by decide) rf42_12 ft12_12 ?_
      refine ev_iload_n rfl ?_
      refine ev_iload_n rfl ?_
      refine ev_iastG (r := 50) (j := (a3).toNat) (g1.lt ad50) (g1.tg ad50) (by omega) (by rw [g1.ln ad50]; omega) (fun h60475 e60475 => ?_)
      have g60475 := g1.s50 e60475 (Or.inr (by rw [(((k1.v rfl).trans hk))])) (by omega) (by omega)
      have k60475 := k1.wr e60475 rfl
      refine ev_goto f280_35 ?_
      refine ev_ret rfl (by decide) (by decide) ?_
      show jEv _ _ _ _ _ _ _ (_, [(2, 42), (0, a1), (0, 0), (0, a3), (0, a4), (0, x5), (0, x6), (0, (-999)), (0, 999), (0, x9), (0, x10), j11, j12], [], _, _, _)
      refine ev_iload rfl ?_
      exact ev_ret rfl (by decide) (by decide) ⟨_, rfl, by omega, by omega, g60475, k60475⟩
    · refine ev_iload rfl ?_
      refine ev_ifge f318_167 (fun c60476 => ?_) (fun c60476 => ?_)
      · refine ev_aload_n rfl ?_
        refine ev_iload_n rfl ?_
        refine ev_iload_n rfl ?_
        refine ev_iload rfl ?_
        refine ev_in (d := 204) (a := 0) (b := 0) (cd' := c280_0) (m := 4) (L0 := [(2, 42), (0, 0), (0, a3), (0, x6)]) (jcall_v (A := [(0, x6), (0, a3), (0, 0)]) (S' := []) (r := 42) rfl (g1.lt ad42) (g1.tg ad42) (Nat.le_of_ble_eq_true rfl)) (by decide) ml280 pp280 (Nat.le_of_ble_eq_true rfl) rfl (by decide) (by decide) ?_
        refine ev_iload_n rfl ?_
        refine ev_ifge f280_14 (fun c60477 => ?_) (fun c60477 => absurd c60477 (by omega))
        refine ev_iload_n rfl ?_
        refine ev_ifne f280_28 (fun c60478 => absurd c60478 (by omega)) (fun c60478 => ?_)
        refine ev_aload_n rfl ?_
        refine g_getp (r := 42) (c := 50) g1 ad42 (by decide) (by decide) rf42_12 ft12_12 ?_
        refine ev_iload_n rfl ?_
        refine ev_iload_n rfl ?_
        refine ev_iastG (r := 50) (j := (a3).toNat) (g1.lt ad50) (g1.tg ad50) (by omega) (by rw [g1.ln ad50]; omega) (fun h60479 e60479 => ?_)
        have g60479 := g1.s50 e60479 (Or.inr (by rw [(((k1.v rfl).trans hk))])) (by omega) (by omega)
        have k60479 := k1.wr e60479 rfl
        refine ev_goto f280_35 ?_
        refine ev_ret rfl (by decide) (by decide) ?_
        show jEv _ _ _ _ _ _ _ (_, [(2, 42), (0, a1), (0, 0), (0, a3), (0, a4), (0, x5), (0, x6), (0, (-999)), (0, 999), (0, x9), (0, x10), j11, j12], [], _, _, _)
        refine ev_iload rfl ?_
        exact ev_ret rfl (by decide) (by decide) ⟨_, rfl, by omega, by omega, g60479, k60479⟩
      · refine ev_iload rfl ?_
        refine ev_iconst ?_
        refine ev_icmpne f318_103 (fun c60480 => ?_) (fun c60480 => ?_)
        · refine ev_iload rfl ?_
          refine ev_iload rfl ?_
          refine ev_isub (r := ((-x10) + x6)) (by unfold w32; omega) ?_
          refine ev_istore (L' := [(2, 42), (0, a1), (0, 0), (0, a3), (0, a4), (0, x5), (0, x6), (0, (-999)), (0, 999), (0, x9), (0, x10), (0, ((-x10) + x6)), j12]) (Nat.le_of_ble_eq_true rfl) rfl ?_
          refine ev_iload rfl ?_
          refine ev_iload rfl ?_
          refine ev_iload rfl ?_
          refine ev_in (d := 204) (a := 0) (b := 0) (cd' := c242_0) (m := 3) (L0 := [(0, ((-x10) + x6)), (0, (-999)), (0, 999)]) (jcall_s (A := [(0, 999), (0, (-999)), (0, ((-x10) + x6))]) (S' := []) (by decide) rfl (Nat.le_of_ble_eq_true rfl)) (by decide) ml242 pp242 (Nat.le_of_ble_eq_true rfl) rfl (by decide) (by decide) ?_
          refine ev_iload_n rfl ?_
          refine ev_iload_n rfl ?_
          refine ev_icmplt f242_14 (fun c60481 => ?_) (fun c60481 => ?_)
          · refine ev_iconst ?_
            refine ev_ret rfl (by decide) (by decide) ?_
            show jEv _ _ _ _ _ _ _ (_, [(2, 42), (0, a1), (0, 0), (0, a3), (0, a4), (0, x5), (0, x6), (0, (-999)), (0, 999), (0, x9), (0, x10), (0, ((-x10) + x6)), j12], [(0, 0)], _, _, _)
            refine ev_ifne f318_125 (fun c60482 => absurd c60482 (by omega)) (fun c60482 => ?_)
            refine ev_goto f318_167 ?_
            refine ev_aload_n rfl ?_
            refine ev_iload_n rfl ?_
            refine ev_iload_n rfl ?_
            refine ev_iload rfl ?_
            refine ev_in (d := 204) (a := 0) (b := 0) (cd' := c280_0) (m := 4) (L0 := [(2, 42), (0, 0), (0, a3), (0, x6)]) (jcall_v (A := [(0, x6), (0, a3), (0, 0)]) (S' := []) (r := 42) rfl (g1.lt ad42) (g1.tg ad42) (Nat.le_of_ble_eq_true rfl)) (by decide) ml280 pp280 (Nat.le_of_ble_eq_true rfl) rfl (by decide) (by decide) ?_
            refine ev_iload_n rfl ?_
            refine ev_ifge f280_14 (fun c60483 => ?_) (fun c60483 => absurd c60483 (by omega))
            refine ev_iload_n rfl ?_
            refine ev_ifne f280_28 (fun c60484 => absurd c60484 (by omega)) (fun c60484 => ?_)
            refine ev_aload_n rfl ?_
            refine g_getp (r := 42) (c := 50) g1 ad42 (by decide) (by decide) rf42_12 ft12_12 ?_
            refine ev_iload_n rfl ?_
            refine ev_iload_n rfl ?_
            refine ev_iastG (r := 50) (j := (a3).toNat) (g1.lt ad50) (g1.tg ad50) (by omega) (by rw [g1.ln ad50]; omega) (fun h60485 e60485 => ?_)
            have g60485 := g1.s50 e60485 (Or.inr (by rw [(((k1.v rfl).trans hk))])) (by omega) (by omega)
            have k60485 := k1.wr e60485 rfl
            refine ev_goto f280_35 ?_
            refine ev_ret rfl (by decide) (by decide) ?_
            show jEv _ _ _ _ _ _ _ (_, [(2, 42), (0, a1), (0, 0), (0, a3), (0, a4), (0, x5), (0, x6), (0, (-999)), (0, 999), (0, x9), (0, x10), (0, ((-x10) + x6)), j12], [], _, _, _)
            refine ev_iload rfl ?_
            exact ev_ret rfl (by decide) (by decide) ⟨_, rfl, by omega, by omega, g60485, k60485⟩
          · refine ev_iload_n rfl ?_
            refine ev_iload_n rfl ?_
            refine ev_icmpgt f242_14 (fun c60486 => absurd c60486 (by omega)) (fun c60486 => ?_)
            refine ev_iconst ?_
            refine ev_goto f242_15 ?_
            refine ev_ret rfl (by decide) (by decide) ?_
            show jEv _ _ _ _ _ _ _ (_, [(2, 42), (0, a1), (0, 0), (0, a3), (0, a4), (0, x5), (0, x6), (0, (-999)), (0, 999), (0, x9), (0, x10), (0, ((-x10) + x6)), j12], [(0, 1)], _, _, _)
            refine ev_ifne f318_125 (fun c60487 => ?_) (fun c60487 => absurd c60487 (by omega))
            refine ev_aload_n rfl ?_
            refine ev_iload_n rfl ?_
            refine ev_iload_n rfl ?_
            refine ev_iload rfl ?_
            refine ev_in (d := 204) (a := 0) (b := 0) (cd' := c280_0) (m := 4) (L0 := [(2, 42), (0, 0), (0, a3), (0, ((-x10) + x6))]) (jcall_v (A := [(0, ((-x10) + x6)), (0, a3), (0, 0)]) (S' := []) (r := 42) rfl (g1.lt ad42) (g1.tg ad42) (Nat.le_of_ble_eq_true rfl)) (by decide) ml280 pp280 (Nat.le_of_ble_eq_true rfl) rfl (by decide) (by decide) ?_
            refine ev_iload_n rfl ?_
            refine ev_ifge f280_14 (fun c60488 => ?_) (fun c60488 => absurd c60488 (by omega))
            refine ev_iload_n rfl ?_
            refine ev_ifne f280_28 (fun c60489 => absurd c60489 (by omega)) (fun c60489 => ?_)
            refine ev_aload_n rfl ?_
            refine g_getp (r := 42) (c := 50) g1 ad42 (by decide) (by decide) rf42_12 ft12_12 ?_
            refine ev_iload_n rfl ?_
            refine ev_iload_n rfl ?_
            refine ev_iastG (r := 50) (j := (a3).toNat) (g1.lt ad50) (g1.tg ad50) (by omega) (by rw [g1.ln ad50]; omega) (fun h60490 e60490 => ?_)
            have g60490 := g1.s50 e60490 (Or.inr (by rw [(((k1.v rfl).trans hk))])) (by omega) (by omega)
            have k60490 := k1.wr e60490 rfl
            refine ev_goto f280_35 ?_
            refine ev_ret rfl (by decide) (by decide) ?_
            show jEv _ _ _ _ _ _ _ (_, [(2, 42), (0, a1), (0, 0), (0, a3), (0, a4), (0, x5), (0, x6), (0, (-999)), (0, 999), (0, x9), (0, x10), (0, ((-x10) + x6)), j12], [], _, _, _)
            refine ev_aload_n rfl ?_
            refine ev_iload_n rfl ?_
            refine ev_call (jcall_v (A := [(0, a1)]) (S' := []) (r := 42) rfl (g60490.lt ad42) (g60490.tg ad42) (Nat.le_of_ble_eq_true rfl)) (jOk_le (by decide) (s316 g60490 (by omega) (by omega) (((jw_ne e60490 (Or.inl (by decide))).trans ((k1.v (by decide)).trans ew0))) (by omega) (by omega) (((jw_ne e60490 (Or.inl (by decide))).trans ((k1.v rfl).trans ew1))) (by omega) (by omega) (by omega))) (by decide) (by decide) (fun w60491 h60491 q60491 => ?_)
            obtain ⟨v60492, rfl, lv60492, uv60492, g60491, kk60491⟩ := q60491
            have k60491 := k60490.tr kk60491 (by decide)
            show jEv _ _ _ _ _ _ _ (_, [(2, 42), (0, a1), (0, 0), (0, a3), (0, a4), (0, x5), (0, x6), (0, (-999)), (0, 999), (0, x9), (0, x10), (0, ((-x10) + x6)), j12], [(0, v60492)], _, _, _)
            refine ev_istore (L' := [(2, 42), (0, a1), (0, 0), (0, a3), (0, a4), (0, x5), (0, x6), (0, (-999)), (0, 999), (0, x9), (0, x10), (0, ((-x10) + x6)), (0, v60492)]) (Nat.le_of_ble_eq_true rfl) rfl ?_
            refine ev_iload rfl ?_
            refine ev_bipush ?_
            refine ev_icmpne f318_150 (fun c60493 => ?_) (fun c60493 => ?_)
            · refine ev_iload rfl ?_
              refine ev_iload rfl ?_
              refine ev_icmpeq f318_161 (fun c60494 => ?_) (fun c60494 => ?_)
              · refine ev_iinc (w := (x10 + 1)) (L' := [(2, 42), (0, a1), (0, 0), (0, a3), (0, a4), (0, x5), (0, x6), (0, (-999)), (0, 999), (0, x9), (0, (x10 + 1)), (0, ((-x10) + x6)), (0, v60492)]) rfl (by unfold w32; omega) rfl ?_
                refine ev_goto f318_77 ?_
                exact ih _ _ _ _ _ _ _ g60491 k60491 (by omega) (by omega) (by omega) (by omega) (by omega) (by omega) (by omega) (by omega) (by omega) (by omega) (by omega) (by omega) (by omega) (by omega) (by omega)
              · refine ev_iload rfl ?_
                refine ev_istore (L' := [(2, 42), (0, a1), (0, 0), (0, a3), (0, a4), (0, x5), (0, x6), (0, (-999)), (0, 999), (0, x10), (0, x10), (0, ((-x10) + x6)), (0, v60492)]) (Nat.le_of_ble_eq_true rfl) rfl ?_
                refine ev_iinc (w := (x10 + 1)) (L' := [(2, 42), (0, a1), (0, 0), (0, a3), (0, a4), (0, x5), (0, x6), (0, (-999)), (0, 999), (0, x10), (0, (x10 + 1)), (0, ((-x10) + x6)), (0, v60492)]) rfl (by unfold w32; omega) rfl ?_
                refine ev_goto f318_77 ?_
                exact ih _ _ _ _ _ _ _ g60491 k60491 (by omega) (by omega) (by omega) (by omega) (by omega) (by omega) (by omega) (by omega) (by omega) (by omega) (by omega) (by omega) (by omega) (by omega) (by omega)
            · refine ev_goto f318_167 ?_
              refine ev_aload_n rfl ?_
              refine ev_iload_n rfl ?_
              refine ev_iload_n rfl ?_
              refine ev_iload rfl ?_
              refine ev_in (d := 204) (a := 0) (b := 0) (cd' := c280_0) (m := 4) (L0 := [(2, 42), (0, 0), (0, a3), (0, x6)]) (jcall_v (A := [(0, x6), (0, a3), (0, 0)]) (S' := []) (r := 42) rfl (g60491.lt ad42) (g60491.tg ad42) (Nat.le_of_ble_eq_true rfl)) (by decide) ml280 pp280 (Nat.le_of_ble_eq_true rfl) rfl (by decide) (by decide) ?_
              refine ev_iload_n rfl ?_
              refine ev_ifge f280_14 (fun c60495 => ?_) (fun c60495 => absurd c60495 (by omega))
              refine ev_iload_n rfl ?_
              refine ev_ifne f280_28 (fun c60496 => absurd c60496 (by omega)) (fun c60496 => ?_)
              refine ev_aload_n rfl ?_
              refine g_getp (r := 42) (c := 50) g60491 ad42 (by decide) (by decide) rf42_12 ft12_12 ?_
              refine ev_iload_n rfl ?_
              refine ev_iload_n rfl ?_
              refine ev_iastG (r := 50) (j := (a3).toNat) (g60491.lt ad50) (g60491.tg ad50) (by omega) (by rw [g60491.ln ad50]; omega) (fun h60497 e60497 => ?_)
              have g60497 := g60491.s50 e60497 (Or.inr (by rw [(((kk60491.v rfl).trans ((jw_ne e60490 (Or.inl (by decide))).trans ((k1.v rfl).trans hk))))])) (by omega) (by omega)
              have k60497 := k60491.wr e60497 rfl
              refine ev_goto f280_35 ?_
              refine ev_ret rfl (by decide) (by decide) ?_
              show jEv _ _ _ _ _ _ _ (_, [(2, 42), (0, a1), (0, 0), (0, a3), (0, a4), (0, x5), (0, x6), (0, (-999)), (0, 999), (0, x9), (0, x10), (0, ((-x10) + x6)), (0, v60492)], [], _, _, _)
              refine ev_iload rfl ?_
              exact ev_ret rfl (by decide) (by decide) ⟨_, rfl, by omega, by omega, g60497, k60497⟩
        · refine ev_iload rfl ?_
          refine ev_iload rfl ?_
          refine ev_iadd (r := (x10 + x6)) (by unfold w32; omega) ?_
          refine ev_goto f318_108 ?_
          refine ev_istore (L' := [(2, 42), (0, a1), (0, 0), (0, a3), (0, a4), (0, x5), (0, x6), (0, (-999)), (0, 999), (0, x9), (0, x10), (0, (x10 + x6)), j12]) (Nat.le_of_ble_eq_true rfl) rfl ?_
          refine ev_iload rfl ?_
          refine ev_iload rfl ?_
          refine ev_iload rfl ?_
          refine ev_in (d := 204) (a := 0) (b := 0) (cd' := c242_0) (m := 3) (L0 := [(0, (x10 + x6)), (0, (-999)), (0, 999)]) (jcall_s (A := [(0, 999), (0, (-999)), (0, (x10 + x6))]) (S' := []) (by decide) rfl (Nat.le_of_ble_eq_true rfl)) (by decide) ml242 pp242 (Nat.le_of_ble_eq_true rfl) rfl (by decide) (by decide) ?_
          refine ev_iload_n rfl ?_
          refine ev_iload_n rfl ?_
          refine ev_icmplt f242_14 (fun c60498 => absurd c60498 (by omega)) (fun c60498 => ?_)
          refine ev_iload_n rfl ?_
          refine ev_iload_n rfl ?_
          refine ev_icmpgt f242_14 (fun c60499 => ?_) (fun c60499 => ?_)
          · refine ev_iconst ?_
            refine ev_ret rfl (by decide) (by decide) ?_
            show jEv _ _ _ _ _ _ _ (_, [(2, 42), (0, a1), (0, 0), (0, a3), (0, a4), (0, x5), (0, x6), (0, (-999)), (0, 999), (0, x9), (0, x10), (0, (x10 + x6)), j12], [(0, 0)], _, _, _)
            refine ev_ifne f318_125 (fun c60500 => absurd c60500 (by omega)) (fun c60500 => ?_)
            refine ev_goto f318_167 ?_
            refine ev_aload_n rfl ?_
            refine ev_iload_n rfl ?_
            refine ev_iload_n rfl ?_
            refine ev_iload rfl ?_
            refine ev_in (d := 204) (a := 0) (b := 0) (cd' := c280_0) (m := 4) (L0 := [(2, 42), (0, 0), (0, a3), (0, x6)]) (jcall_v (A := [(0, x6), (0, a3), (0, 0)]) (S' := []) (r := 42) rfl (g1.lt ad42) (g1.tg ad42) (Nat.le_of_ble_eq_true rfl)) (by decide) ml280 pp280 (Nat.le_of_ble_eq_true rfl) rfl (by decide) (by decide) ?_
            refine ev_iload_n rfl ?_
            refine ev_ifge f280_14 (fun c60501 => ?_) (fun c60501 => absurd c60501 (by omega))
            refine ev_iload_n rfl ?_
            refine ev_ifne f280_28 (fun c60502 => absurd c60502 (by omega)) (fun c60502 => ?_)
            refine ev_aload_n rfl ?_
            refine g_getp (r := 42) (c := 50) g1 ad42 (by decide) (by decide) rf42_12 ft12_12 ?_
            refine ev_iload_n rfl ?_
            refine ev_iload_n rfl ?_
            refine ev_iastG (r := 50) (j := (a3).toNat) (g1.lt ad50) (g1.tg ad50) (by omega) (by rw [g1.ln ad50]; omega) (fun h60503 e60503 => ?_)
            have g60503 := g1.s50 e60503 (Or.inr (by rw [(((k1.v rfl).trans hk))])) (by omega) (by omega)
            have k60503 := k1.wr e60503 rfl
            refine ev_goto f280_35 ?_
            refine ev_ret rfl (by decide) (by decide) ?_
            show jEv _ _ _ _ _ _ _ (_, [(2, 42), (0, a1), (0, 0), (0, a3), (0, a4), (0, x5), (0, x6), (0, (-999)), (0, 999), (0, x9), (0, x10), (0, (x10 + x6)), j12], [], _, _, _)
            refine ev_iload rfl ?_
            exact ev_ret rfl (by decide) (by decide) ⟨_, rfl, by omega, by omega, g60503, k60503⟩
          · refine ev_iconst ?_
            refine ev_goto f242_15 ?_
            refine ev_ret rfl (by decide) (by decide) ?_
            show jEv _ _ _ _ _ _ _ (_, [(2, 42), (0, a1), (0, 0), (0, a3), (0, a4), (0, x5), (0, x6), (0, (-999)), (0, 999), (0, x9), (0, x10), (0, (x10 + x6)), j12], [(0, 1)], _, _, _)
            refine ev_ifne f318_125 (fun c60504 => ?_) (fun c60504 => absurd c60504 (by omega))
            refine ev_aload_n rfl ?_
            refine ev_iload_n rfl ?_
            refine ev_iload_n rfl ?_
            refine ev_iload rfl ?_
            refine ev_in (d := 204) (a := 0) (b := 0) (cd' := c280_0) (m := 4) (L0 := [(2, 42), (0, 0), (0, a3), (0, (x10 + x6))]) (jcall_v (A := [(0, (x10 + x6)), (0, a3), (0, 0)]) (S' := []) (r := 42) rfl (g1.lt ad42) (g1.tg ad42) (Nat.le_of_ble_eq_true rfl)) (by decide) ml280 pp280 (Nat.le_of_ble_eq_true rfl) rfl (by decide) (by decide) ?_
            refine ev_iload_n rfl ?_
            refine ev_ifge f280_14 (fun c60505 => ?_) (fun c60505 => absurd c60505 (by omega))
            refine ev_iload_n rfl ?_
            refine ev_ifne f280_28 (fun c60506 => absurd c60506 (by omega)) (fun c60506 => ?_)
            refine ev_aload_n rfl ?_
            refine g_getp (r := 42) (c := 50) g1 ad42 (by decide) (by decide) rf42_12 ft12_12 ?_
            refine ev_iload_n rfl ?_
            refine ev_iload_n rfl ?_
            refine ev_iastG (r := 50) (j := (a3).toNat) (g1.lt ad50) (g1.tg ad50) (by omega) (by rw [g1.ln ad50]; omega) (fun h60507 e60507 => ?_)
            have g60507 := g1.s50 e60507 (Or.inr (by rw [(((k1.v rfl).trans hk))])) (by omega) (by omega)
            have k60507 := k1.wr e60507 rfl
            refine ev_goto f280_35 ?_
            refine ev_ret rfl (by decide) (by decide) ?_
            show jEv _ _ _ _ _ _ _ (_, [(2, 42), (0, a1), (0, 0), (0, a3), (0, a4), (0, x5), (0, x6), (0, (-999)), (0, 999), (0, x9), (0, x10), (0, (x10 + x6)), j12], [], _, _, _)
            refine ev_aload_n rfl ?_
            refine ev_iload_n rfl ?_
            refine ev_call (jcall_v (A := [(0, a1)]) (S' := []) (r := 42) rfl (g60507.lt ad42) (g60507.tg ad42) (Nat.le_of_ble_eq_true rfl)) (jOk_le (by decide) (s316 g60507 (by omega) (by omega) (((jw_ne e60507 (Or.inl (by decide))).trans ((k1.v (by decide)).trans ew0))) (by omega) (by omega) (((jw_ne e60507 (Or.inl (by decide))).trans ((k1.v rfl).trans ew1))) (by omega) (by omega) (by omega))) (by decide) (by decide) (fun w60508 h60508 q60508 => ?_)
            obtain ⟨v60509, rfl, lv60509, uv60509, g60508, kk60508⟩ := q60508
            have k60508 := k60507.tr kk60508 (by decide)
            show jEv _ _ _ _ _ _ _ (_, [(2, 42), (0, a1), (0, 0), (0, a3), (0, a4), (0, x5), (0, x6), (0, (-999)), (0, 999), (0, x9), (0, x10), (0, (x10 + x6)), j12], [(0, v60509)], _, _, _)
            refine ev_istore (L' := [(2, 42), (0, a1), (0, 0), (0, a3), (0, a4), (0, x5), (0, x6), (0, (-999)), (0, 999), (0, x9), (0, x10), (0, (x10 + x6)), (0, v60509)]) (Nat.le_of_ble_eq_true rfl) rfl ?_
            refine ev_iload rfl ?_
            refine ev_bipush ?_
            refine ev_icmpne f318_150 (fun c60510 => ?_) (fun c60510 => ?_)
            · refine ev_iload rfl ?_
              refine ev_iload rfl ?_
              refine ev_icmpeq f318_161 (fun c60511 => ?_) (fun c60511 => ?_)
              · refine ev_iinc (w := (x10 + 1)) (L' := [(2, 42), (0, a1), (0, 0), (0, a3), (0, a4), (0, x5), (0, x6), (0, (-999)), (0, 999), (0, x9), (0, (x10 + 1)), (0, (x10 + x6)), (0, v60509)]) rfl (by unfold w32; omega) rfl ?_
                refine ev_goto f318_77 ?_
                exact ih _ _ _ _ _ _ _ g60508 k60508 (by omega) (by omega) (by omega) (by omega) (by omega) (by omega) (by omega) (by omega) (by omega) (by omega) (by omega) (by omega) (by omega) (by omega) (by omega)
              · refine ev_iload rfl ?_
                refine ev_istore (L' := [(2, 42), (0, a1), (0, 0), (0, a3), (0, a4), (0, x5), (0, x6), (0, (-999)), (0, 999), (0, x10), (0, x10), (0, (x10 + x6)), (0, v60509)]) (Nat.le_of_ble_eq_true rfl) rfl ?_
                refine ev_iinc (w := (x10 + 1)) (L' := [(2, 42), (0, a1), (0, 0), (0, a3), (0, a4), (0, x5), (0, x6), (0, (-999)), (0, 999), (0, x10), (0, (x10 + 1)), (0, (x10 + x6)), (0, v60509)]) rfl (by unfold w32; omega) rfl ?_
                refine ev_goto f318_77 ?_
                exact ih _ _ _ _ _ _ _ g60508 k60508 (by omega) (by omega) (by omega) (by omega) (by omega) (by omega) (by omega) (by omega) (by omega) (by omega) (by omega) (by omega) (by omega) (by omega) (by omega)
            · refine ev_goto f318_167 ?_
              refine ev_aload_n rfl ?_
              refine ev_iload_n rfl ?_
              refine ev_iload_n rfl ?_
              refine ev_iload rfl ?_
              refine ev_in (d := 204) (a := 0) (b := 0) (cd' := c280_0) (m := 4) (L0 := [(2, 42), (0, 0), (0, a3), (0, x6)]) (jcall_v (A := [(0, x6), (0, a3), (0, 0)]) (S' := []) (r := 42) rfl (g60508.lt ad42) (g60508.tg ad42) (Nat.le_of_ble_eq_true rfl)) (by decide) ml280 pp280 (Nat.le_of_ble_eq_true rfl) rfl (by decide) (by decide) ?_
              refine ev_iload_n rfl ?_
              refine ev_ifge f280_14 (fun c60512 => ?_) (fun c60512 => absurd c60512 (by omega))
              refine ev_iload_n rfl ?_
              refine ev_ifne f280_28 (fun c60513 => absurd c60513 (by omega)) (fun c60513 => ?_)
              refine ev_aload_n rfl ?_
              refine g_getp (r := 42) (c := 50) g60508 ad42 (by decide) (by decide) rf42_12 ft12_12 ?_
              refine ev_iload_n rfl ?_
              refine ev_iload_n rfl ?_
              refine ev_iastG (r := 50) (j := (a3).toNat) (g60508.lt ad50) (g60508.tg ad50) (by omega) (by rw [g60508.ln ad50]; omega) (fun h60514 e60514 => ?_)
              have g60514 := g60508.s50 e60514 (Or.inr (by rw [(((kk60508.v rfl).trans ((jw_ne e60507 (Or.inl (by decide))).trans ((k1.v rfl).trans hk))))])) (by omega) (by omega)
              have k60514 := k60508.wr e60514 rfl
              refine ev_goto f280_35 ?_
              refine ev_ret rfl (by decide) (by decide) ?_
              show jEv _ _ _ _ _ _ _ (_, [(2, 42), (0, a1), (0, 0), (0, a3), (0, a4), (0, x5), (0, x6), (0, (-999)), (0, 999), (0, x9), (0, x10), (0, (x10 + x6)), (0, v60509)], [], _, _, _)
              refine ev_iload rfl ?_
              exact ev_ret rfl (by decide) (by decide) ⟨_, rfl, by omega, by omega, g60514, k60514⟩
set_option maxHeartbeats 4000000 in
theorem s318_e {G : GH} {h : JH} (g : Gd G h) {a1 : Int} (la1 : 0 ≤ a1) (ua1 : a1 ≤ 5) {a3 : Int} (la3 : 0 ≤ a3) (ua3 : a3 ≤ 699) {a4 : Int} (la4 : 0 ≤ a4) (ua4 : a4 ≤ 1) {w0 : Int} (ew0 : h.2.2 42 9 = w0) (lw0 : 0 ≤ w0) (uw0 : w0 ≤ 6) {w1 : Int} (ew1 : h.2.2 48 (a1).toNat = w1) (lw1 : 1 ≤ w1) (uw1 : w1 ≤ 100) (F0 : (a1 + (-w0)) ≤ (-1)) (hk : h.2.2 49 (a3).toNat = 0) : jOk 206 0 0 318 [(2, 42), (0, a1), (0, 0), (0, a3), (0, a4)] h (PI G [(46, 0), (47, 0), (42, 6), (42, 9), (42, 37), (42, 38), (42, 39), (42, 40), (64, 0), (65, 0), (50, 0)] h 0 (-4) 40) := by
  refine ⟨by decide, by rw [ml318]; exact Nat.le_of_ble_eq_true rfl, ?_⟩
  rw [ml318, pp318]
  show jEv _ none _ c318_0 0 0 _ (c318_0, [(2, 42), (0, a1), (0, 0), (0, a3), (0, a4), (9, 0), (9, 0), (9, 0), (9, 0), (9, 0), (9, 0), (9, 0), (9, 0)], [], h, 0, 0)
  have k0 := Kp.rf [(46, 0), (47, 0), (42, 6), (42, 9), (42, 37), (42, 38), (42, 39), (42, 40), (64, 0), (65, 0), (50, 0)] h
  refine ev_aload_n rfl ?_
  refine ev_iload_n rfl ?_
  refine ev_call (jcall_v (A := [(0, a1)]) (S' := []) (r := 42) rfl (g.lt ad42) (g.tg ad42) (Nat.le_of_ble_eq_true rfl)) (jOk_le (by decide) (s316 g (by omega) (by omega) (ew0) (by omega) (by omega) (ew1) (by omega) (by omega) (by omega))) (by decide) (by decide) (fun w60515 h60515 q60515 => ?_)
  obtain ⟨v60516, rfl, lv60516, uv60516, g60515, kk60515⟩ := q60515
  have k60515 := k0.tr kk60515 (by decide)
  show jEv _ _ _ _ _ _ _ (_, [(2, 42), (0, a1), (0, 0), (0, a3), (0, a4), (9, 0), (9, 0), (9, 0), (9, 0), (9, 0), (9, 0), (9, 0), (9, 0)], [(0, v60516)], _, _, _)
  refine ev_istore (L' := [(2, 42), (0, a1), (0, 0), (0, a3), (0, a4), (0, v60516), (9, 0), (9, 0), (9, 0), (9, 0), (9, 0), (9, 0), (9, 0)]) (Nat.le_of_ble_eq_true rfl) rfl ?_
  refine ev_iload rfl ?_
  refine ev_ifge f318_27 (fun c60517 => ?_) (fun c60517 => ?_)
  · refine ev_aload_n rfl ?_
    refine ev_iload_n rfl ?_
    refine ev_iload_n rfl ?_
    refine ev_in (d := 204) (a := 0) (b := 0) (cd' := c317_0) (m := 3) (L0 := [(2, 42), (0, 0), (0, a3)]) (jcall_v (A := [(0, a3), (0, 0)]) (S' := []) (r := 42) rfl (g60515.lt ad42) (g60515.tg ad42) (Nat.le_of_ble_eq_true rfl)) (by decide) ml317 pp317 (Nat.le_of_ble_eq_true rfl) rfl (by decide) (by decide) ?_
    refine ev_iload_n rfl ?_
    refine ev_ifge f317_13 (fun c60518 => ?_) (fun c60518 => absurd c60518 (by omega))
    refine ev_iload_n rfl ?_
    refine ev_ifne f317_26 (fun c60519 => absurd c60519 (by omega)) (fun c60519 => ?_)
    refine ev_aload_n rfl ?_
    refine g_getp (r := 42) (c := 50) g60515 ad42 (by decide) (by decide) rf42_12 ft12_12 ?_
    refine ev_iload_n rfl ?_
    refine g_iald g60515 ad50 rt50 (by omega) (by omega) (fun v60520 ev60520 lv60520 uv60520 => ?_)
    refine ev_goto f317_32 ?_
    refine ev_ret rfl (by decide) (by decide) ?_
    show jEv _ _ _ _ _ _ _ (_, [(2, 42), (0, a1), (0, 0), (0, a3), (0, a4), (0, v60516), (9, 0), (9, 0), (9, 0), (9, 0), (9, 0), (9, 0), (9, 0)], [(0, v60520)], _, _, _)
    refine ev_istore (L' := [(2, 42), (0, a1), (0, 0), (0, a3), (0, a4), (0, v60516), (0, v60520), (9, 0), (9, 0), (9, 0), (9, 0), (9, 0), (9, 0)]) (Nat.le_of_ble_eq_true rfl) rfl ?_
    refine ev_iload_n rfl ?_
    refine ev_ifge f318_43 (fun c60521 => ?_) (fun c60521 => absurd c60521 (by omega))
    refine ev_iload_n rfl ?_
    refine ev_ifne f318_53 (fun c60522 => absurd c60522 (by omega)) (fun c60522 => ?_)
    refine ev_sipush ?_
    refine ev_goto f318_54 ?_
    refine ev_istore (L' := [(2, 42), (0, a1), (0, 0), (0, a3), (0, a4), (0, v60516), (0, v60520), (0, (-999)), (9, 0), (9, 0), (9, 0), (9, 0), (9, 0)]) (Nat.le_of_ble_eq_true rfl) rfl ?_
    refine ev_iload_n rfl ?_
    refine ev_ifne f318_66 (fun c60523 => absurd c60523 (by omega)) (fun c60523 => ?_)
    refine ev_sipush ?_
    refine ev_goto f318_68 ?_
    refine ev_istore (L' := [(2, 42), (0, a1), (0, 0), (0, a3), (0, a4), (0, v60516), (0, v60520), (0, (-999)), (0, 999), (9, 0), (9, 0), (9, 0), (9, 0)]) (Nat.le_of_ble_eq_true rfl) rfl ?_
    refine ev_bipush ?_
    refine ev_istore (L' := [(2, 42), (0, a1), (0, 0), (0, a3), (0, a4), (0, v60516), (0, v60520), (0, (-999)), (0, 999), (0, (-2)), (9, 0), (9, 0), (9, 0)]) (Nat.le_of_ble_eq_true rfl) rfl ?_
    refine ev_iconst ?_
    refine ev_istore (L' := [(2, 42), (0, a1), (0, 0), (0, a3), (0, a4), (0, v60516), (0, v60520), (0, (-999)), (0, 999), (0, (-2)), (0, 1), (9, 0), (9, 0)]) (Nat.le_of_ble_eq_true rfl) rfl ?_
    exact (s318_e_l la1 ua1 la3 ua3 la4 ua4 ew0 lw0 uw0 ew1 lw1 uw1 F0 hk 82) _ _ _ _ _ _ _ g60515 k60515 (by omega) (by omega) (by omega) (by omega) (by omega) (by omega) (by omega) (by omega) (by omega) (by omega) (by omega) (by omega) (by omega) (by omega) (by omega)
  · refine ev_iload rfl ?_
    refine ev_bipush ?_
    refine ev_icmpne f318_24 (fun c60524 => ?_) (fun c60524 => ?_)
    · refine ev_bipush ?_
      exact ev_ret rfl (by decide) (by decide) ⟨_, rfl, by omega, by omega, g60515, k60515⟩
    · refine ev_bipush ?_
      refine ev_goto f318_26 ?_
      exact ev_ret rfl (by decide) (by decide) ⟨_, rfl, by omega, by omega, g60515, k60515⟩
set_option maxHeartbeats 4000000 in
theorem s319 {G : GH} {h : JH} (g : Gd G h) {a1 : Int} (la1 : (-2147483648) ≤ a1) (ua1 : a1 ≤ 2147483647) {a2 : Int} (la2 : (-2147483648) ≤ a2) (ua2 : a2 ≤ 2147483647) {a3 : Int} (la3 : (-2147483648) ≤ a3) (ua3 : a3 ≤ 2147483647) : jOk 207 0 0 319 [(2, 42), (0, a1), (0, a2), (0, a3)] h (PI G [(46, 0), (47, 0), (42, 6), (42, 9), (42, 37), (42, 38), (42, 39), (42, 40), (64, 0), (65, 0), (45, 0)] h 0 (-4) 40) := by
  refine ⟨by decide, by rw [ml319]; exact Nat.le_of_ble_eq_true rfl, ?_⟩
  rw [ml319, pp319]
  show jEv _ none _ c319_0 0 0 _ (c319_0, [(2, 42), (0, a1), (0, a2), (0, a3)], [], h, 0, 0)
  have k0 := Kp.rf [(46, 0), (47, 0), (42, 6), (42, 9), (42, 37), (42, 38), (42, 39), (42, 40), (64, 0), (65, 0), (45, 0)] h
  refine ev_aload_n rfl ?_
  refine ev_iload_n rfl ?_
  refine ev_in (d := 205) (a := 0) (b := 0) (cd' := c261_0) (m := 2) (L0 := [(2, 42), (0, a1)]) (jcall_v (A := [(0, a1)]) (S' := []) (r := 42) rfl (g.lt ad42) (g.tg ad42) (Nat.le_of_ble_eq_true rfl)) (by decide) ml261 pp261 (Nat.le_of_ble_eq_true rfl) rfl (by decide) (by decide) ?_
  refine ev_iload_n rfl ?_
  refine ev_iconst ?_
  refine ev_aload_n rfl ?_
  obtain ⟨v60673, ev60673, lv60673, uv60673⟩ := g.rd ad42 (show 9 < 66 by decide) rf42_9
  refine g_getv (r := 42) (v := v60673) g ad42 (by decide) ft12_9 ev60673 ?_
  refine ev_iconst ?_
  refine ev_isub (r := (v60673 - 1)) (by unfold w32; omega) ?_
  refine ev_in (d := 204) (a := 0) (b := 0) (cd' := c242_0) (m := 3) (L0 := [(0, a1), (0, 0), (0, (v60673 - 1))]) (jcall_s (A := [(0, (v60673 - 1)), (0, 0), (0, a1)]) (S' := []) (by decide) rfl (Nat.le_of_ble_eq_true rfl)) (by decide) ml242 pp242 (Nat.le_of_ble_eq_true rfl) rfl (by decide) (by decide) ?_
  refine ev_iload_n rfl ?_
  refine ev_iload_n rfl ?_
  refine ev_icmplt f242_14 (fun c60674 => ?_) (fun c60674 => ?_)
  · refine ev_iconst ?_
    refine ev_ret rfl (by decide) (by decide) ?_
    show jEv _ _ _ _ _ _ _ (_, [(2, 42), (0, a1)], [(0, 0)], _, _, _)
    refine ev_ret rfl (by decide) (by decide) ?_
    show jEv _ _ _ _ _ _ _ (_, [(2, 42), (0, a1), (0, a2), (0, a3)], [(0, 0)], _, _, _)
    refine ev_ifeq f319_43 (fun c60675 => ?_) (fun c60675 => absurd c60675 (by omega))
    refine ev_iconst ?_
    exact ev_ret rfl (by decide) (by decide) ⟨_, rfl, by omega, by omega, g, k0⟩
  · refine ev_iload_n rfl ?_
    refine ev_iload_n rfl ?_
    refine ev_icmpgt f242_14 (fun c60676 => ?_) (fun c60676 => ?_)
    · refine ev_iconst ?_
      refine ev_ret rfl (by decide) (by decide) ?_
      show jEv _ _ _ _ _ _ _ (_, [(2, 42), (0, a1)], [(0, 0)], _, _, _)
      refine ev_ret rfl (by decide) (by decide) ?_
      show jEv _ _ _ _ _ _ _ (_, [(2, 42), (0, a1), (0, a2), (0, a3)], [(0, 0)], _, _, _)
      refine ev_ifeq f319_43 (fun c60677 => ?_) (fun c60677 => absurd c60677 (by omega))
      refine ev_iconst ?_
      exact ev_ret rfl (by decide) (by decide) ⟨_, rfl, by omega, by omega, g, k0⟩
    · refine ev_iconst ?_
      refine ev_goto f242_15 ?_
      refine ev_ret rfl (by decide) (by decide) ?_
      show jEv _ _ _ _ _ _ _ (_, [(2, 42), (0, a1)], [(0, 1)], _, _, _)
      refine ev_ret rfl (by decide) (by decide) ?_
      show jEv _ _ _ _ _ _ _ (_, [(2, 42), (0, a1), (0, a2), (0, a3)], [(0, 1)], _, _, _)
      refine ev_ifeq f319_43 (fun c60678 => absurd c60678 (by omega)) (fun c60678 => ?_)
      refine ev_iload_n rfl ?_
      refine ev_iflt f319_43 (fun c60679 => ?_) (fun c60679 => ?_)
      · refine ev_iconst ?_
        exact ev_ret rfl (by decide) (by decide) ⟨_, rfl, by omega, by omega, g, k0⟩
      · refine ev_aload_n rfl ?_
        refine ev_iload_n rfl ?_
        refine ev_bipush ?_
        refine g_idivP (c := 100) rfl (by decide) (by omega) (by omega) (fun v60680 ev60680 lv60680 uv60680 => ?_)
        refine ev_iload_n rfl ?_
        refine ev_bipush ?_
        refine g_idivP (c := 10) rfl (by decide) (by omega) (by omega) (fun v60681 ev60681 lv60681 uv60681 => ?_)
        refine ev_bipush ?_
        refine g_iremP (c := 10) rfl (by decide) (by omega) (fun v60682 ev60682 lv60682 uv60682 wv60682 => ?_)
        refine ev_iload_n rfl ?_
        refine ev_bipush ?_
        refine g_iremP (c := 10) rfl (by decide) (by omega) (fun v60683 ev60683 lv60683 uv60683 wv60683 => ?_)
        refine ev_in (d := 205) (a := 0) (b := 0) (cd' := c249_0) (m := 4) (L0 := [(2, 42), (0, v60680), (0, v60682), (0, v60683)]) (jcall_v (A := [(0, v60683), (0, v60682), (0, v60680)]) (S' := []) (r := 42) rfl (g.lt ad42) (g.tg ad42) (Nat.le_of_ble_eq_true rfl)) (by decide) ml249 pp249 (Nat.le_of_ble_eq_true rfl) rfl (by decide) (by decide) ?_
        refine ev_aload_n rfl ?_
        refine ev_iload_n rfl ?_
        refine ev_in (d := 204) (a := 0) (b := 0) (cd' := c245_0) (m := 2) (L0 := [(2, 42), (0, v60680)]) (jcall_v (A := [(0, v60680)]) (S' := []) (r := 42) rfl (g.lt ad42) (g.tg ad42) (Nat.le_of_ble_eq_true rfl)) (by decide) ml245 pp245 (Nat.le_of_ble_eq_true rfl) rfl (by decide) (by decide) ?_
        refine ev_iload_n rfl ?_
        refine ev_iconst ?_
        refine ev_aload_n rfl ?_
        obtain ⟨v60684, ev60684, lv60684, uv60684⟩ := g.rd ad42 (show 1 < 66 by decide) rf42_1
        refine g_getv (r := 42) (v := v60684) g ad42 (by decide) ft12_1 ev60684 ?_
        refine ev_iconst ?_
        refine ev_isub (r := (v60684 - 1)) (by unfold w32; omega) ?_
        refine ev_in (d := 203) (a := 0) (b := 0) (cd' := c242_0) (m := 3) (L0 := [(0, v60680), (0, 0), (0, (v60684 - 1))]) (jcall_s (A := [(0, (v60684 - 1)), (0, 0), (0, v60680)]) (S' := []) (by decide) rfl (Nat.le_of_ble_eq_true rfl)) (by decide) ml242 pp242 (Nat.le_of_ble_eq_true rfl) rfl (by decide) (by decide) ?_
        refine ev_iload_n rfl ?_
        refine ev_iload_n rfl ?_
        refine ev_icmplt f242_14 (fun c60685 => absurd c60685 (by omega)) (fun c60685 => ?_)
        refine ev_iload_n rfl ?_
        refine ev_iload_n rfl ?_
        refine ev_icmpgt f242_14 (fun c60686 => ?_) (fun c60686 => ?_)
        · refine ev_iconst ?_
          refine ev_ret rfl (by decide) (by decide) ?_
          show jEv _ _ _ _ _ _ _ (_, [(2, 42), (0, v60680)], [(0, 0)], _, _, _)
          refine ev_ret rfl (by decide) (by decide) ?_
          show jEv _ _ _ _ _ _ _ (_, [(2, 42), (0, v60680), (0, v60682), (0, v60683)], [(0, 0)], _, _, _)
          refine ev_ifeq f249_43 (fun c60687 => ?_) (fun c60687 => absurd c60687 (by omega))
          refine ev_iconst ?_
          refine ev_ret rfl (by decide) (by decide) ?_
          show jEv _ _ _ _ _ _ _ (_, [(2, 42), (0, a1), (0, a2), (0, a3)], [(0, 0)], _, _, _)
          refine ev_ifeq f319_43 (fun c60688 => ?_) (fun c60688 => absurd c60688 (by omega))
          refine ev_iconst ?_
          exact ev_ret rfl (by decide) (by decide) ⟨_, rfl, by omega, by omega, g, k0⟩
        · refine ev_iconst ?_
          refine ev_goto f242_15 ?_
          refine ev_ret rfl (by decide) (by decide) ?_
          show jEv _ _ _ _ _ _ _ (_, [(2, 42), (0, v60680)], [(0, 1)], _, _, _)
          refine ev_ret rfl (by decide) (by decide) ?_
          show jEv _ _ _ _ _ _ _ (_, [(2, 42), (0, v60680), (0, v60682), (0, v60683)], [(0, 1)], _, _, _)
          refine ev_ifeq f249_43 (fun c60689 => absurd c60689 (by omega)) (fun c60689 => ?_)
          refine ev_iload_n rfl ?_
          refine ev_iconst ?_
          refine ev_aload_n rfl ?_
          refine ev_iload_n rfl ?_
          refine ev_in (d := 204) (a := 0) (b := 0) (cd' := c246_0) (m := 2) (L0 := [(2, 42), (0, v60680)]) (jcall_v (A := [(0, v60680)]) (S' := [(0, 0), (0, v60682)]) (r := 42) rfl (g.lt ad42) (g.tg ad42) (Nat.le_of_ble_eq_true rfl)) (by decide) ml246 pp246 (Nat.le_of_ble_eq_true rfl) rfl (by decide) (by decide) ?_
          refine ev_aload_n rfl ?_
          refine g_getp (r := 42) (c := 44) g ad42 (by decide) (by decide) rf42_3 ft12_3 ?_
          refine ev_iload_n rfl ?_
          refine g_iald g ad44 rt44 (by omega) (by omega) (fun v60690 ev60690 lv60690 uv60690 => ?_)
          refine ev_ifge f246_13 (fun c60691 => ?_) (fun c60691 => ?_)
          · refine ev_aload_n rfl ?_
            refine g_getp (r := 42) (c := 43) g ad42 (by decide) (by decide) rf42_2 ft12_2 ?_
            refine ev_aload_n rfl ?_
            refine g_getp (r := 42) (c := 44) g ad42 (by decide) (by decide) rf42_3 ft12_3 ?_
            refine ev_iload_n rfl ?_
            refine g_ialdv (v := v60690) g ad44 (by omega) (by omega) (ev60690) ?_
            refine g_iald g ad43 rt43 (by omega) (by omega) (fun v60692 ev60692 lv60692 uv60692 => ?_)
            refine ev_ret rfl (by decide) (by decide) ?_
            show jEv _ _ _ _ _ _ _ (_, [(2, 42), (0, v60680), (0, v60682), (0, v60683)], [(0, v60692), (0, 0), (0, v60682)], _, _, _)
            refine ev_iconst ?_
            refine ev_isub (r := (v60692 - 1)) (by unfold w32; omega) ?_
            refine ev_in (d := 204) (a := 0) (b := 0) (cd' := c242_0) (m := 3) (L0 := [(0, v60682), (0, 0), (0, (v60692 - 1))]) (jcall_s (A := [(0, (v60692 - 1)), (0, 0), (0, v60682)]) (S' := []) (by decide) rfl (Nat.le_of_ble_eq_true rfl)) (by decide) ml242 pp242 (Nat.le_of_ble_eq_true rfl) rfl (by decide) (by decide) ?_
            refine ev_iload_n rfl ?_
            refine ev_iload_n rfl ?_
            refine ev_icmplt f242_14 (fun c60693 => absurd c60693 (by omega)) (fun c60693 => ?_)
            refine ev_iload_n rfl ?_
            refine ev_iload_n rfl ?_
            refine ev_icmpgt f242_14 (fun c60694 => ?_) (fun c60694 => ?_)
            · refine ev_iconst ?_
              refine ev_ret rfl (by decide) (by decide) ?_
              show jEv _ _ _ _ _ _ _ (_, [(2, 42), (0, v60680), (0, v60682), (0, v60683)], [(0, 0)], _, _, _)
              refine ev_ifeq f249_43 (fun c60695 => ?_) (fun c60695 => absurd c60695 (by omega))
              refine ev_iconst ?_
              refine ev_ret rfl (by decide) (by decide) ?_
              show jEv _ _ _ _ _ _ _ (_, [(2, 42), (0, a1), (0, a2), (0, a3)], [(0, 0)], _, _, _)
              refine ev_ifeq f319_43 (fun c60696 => ?_) (fun c60696 => absurd c60696 (by omega))
              refine ev_iconst ?_
              exact ev_ret rfl (by decide) (by decide) ⟨_, rfl, by omega, by omega, g, k0⟩
            · refine ev_iconst ?_
              refine ev_goto f242_15 ?_
              refine ev_ret rfl (by decide) (by decide) ?_
              show jEv _ _ _ _ _ _ _ (_, [(2, 42), (0, v60680), (0, v60682), (0, v60683)], [(0, 1)], _, _, _)
              refine ev_ifeq f249_43 (fun c60697 => absurd c60697 (by omega)) (fun c60697 => ?_)
              refine ev_iload_n rfl ?_
              refine ev_iconst ?_
              refine ev_aload_n rfl ?_
              refine g_getp (r := 42) (c := 43) g ad42 (by decide) (by decide) rf42_2 ft12_2 ?_
              refine ev_iload_n rfl ?_
              refine g_iald g ad43 rt43 (by omega) (by omega) (fun v60698 ev60698 lv60698 uv60698 => ?_)
              have xv60698 := (g.ex.2.1 (v60680 : Int).toNat (by rw [(ev60684)]; omega))
              rw [ev60698] at xv60698
              refine ev_iconst ?_
              refine ev_isub (r := (v60698 - 1)) (by unfold w32; omega) ?_
              refine ev_in (d := 204) (a := 0) (b := 0) (cd' := c242_0) (m := 3) (L0 := [(0, v60683), (0, 0), (0, (v60698 - 1))]) (jcall_s (A := [(0, (v60698 - 1)), (0, 0), (0, v60683)]) (S' := []) (by decide) rfl (Nat.le_of_ble_eq_true rfl)) (by decide) ml242 pp242 (Nat.le_of_ble_eq_true rfl) rfl (by decide) (by decide) ?_
              refine ev_iload_n rfl ?_
              refine ev_iload_n rfl ?_
              refine ev_icmplt f242_14 (fun c60699 => absurd c60699 (by omega)) (fun c60699 => ?_)
              refine ev_iload_n rfl ?_
              refine ev_iload_n rfl ?_
              refine ev_icmpgt f242_14 (fun c60700 => ?_) (fun c60700 => ?_)
              · refine ev_iconst ?_
                refine ev_ret rfl (by decide) (by decide) ?_
                show jEv _ _ _ _ _ _ _ (_, [(2, 42), (0, v60680), (0, v60682), (0, v60683)], [(0, 0)], _, _, _)
                refine ev_ifeq f249_43 (fun c60701 => ?_) (fun c60701 => absurd c60701 (by omega))
                refine ev_iconst ?_
                refine ev_ret rfl (by decide) (by decide) ?_
                show jEv _ _ _ _ _ _ _ (_, [(2, 42), (0, a1), (0, a2), (0, a3)], [(0, 0)], _, _, _)
                refine ev_ifeq f319_43 (fun c60702 => ?_) (fun c60702 => absurd c60702 (by omega))
                refine ev_iconst ?_
                exact ev_ret rfl (by decide) (by decide) ⟨_, rfl, by omega, by omega, g, k0⟩
              · refine ev_iconst ?_
                refine ev_goto f242_15 ?_
                refine ev_ret rfl (by decide) (by decide) ?_
                show jEv _ _ _ _ _ _ _ (_, [(2, 42), (0, v60680), (0, v60682), (0, v60683)], [(0, 1)], _, _, _)
                refine ev_ifeq f249_43 (fun c60703 => absurd c60703 (by omega)) (fun c60703 => ?_)
                refine ev_iconst ?_
                refine ev_goto f249_44 ?_
                refine ev_ret rfl (by decide) (by decide) ?_
                show jEv _ _ _ _ _ _ _ (_, [(2, 42), (0, a1), (0, a2), (0, a3)], [(0, 1)], _, _, _)
                refine ev_ifeq f319_43 (fun c60704 => absurd c60704 (by omega)) (fun c60704 => ?_)
                refine ev_iload_n rfl ?_
                refine ev_iconst ?_
                refine ev_iconst ?_
                refine ev_in (d := 205) (a := 0) (b := 0) (cd' := c242_0) (m := 3) (L0 := [(0, a3), (0, 0), (0, 1)]) (jcall_s (A := [(0, 1), (0, 0), (0, a3)]) (S' := []) (by decide) rfl (Nat.le_of_ble_eq_true rfl)) (by decide) ml242 pp242 (Nat.le_of_ble_eq_true rfl) rfl (by decide) (by decide) ?_
                refine ev_iload_n rfl ?_
                refine ev_iload_n rfl ?_
                refine ev_icmplt f242_14 (fun c60705 => ?_) (fun c60705 => ?_)
                · refine ev_iconst ?_
                  refine ev_ret rfl (by decide) (by decide) ?_
                  show jEv _ _ _ _ _ _ _ (_, [(2, 42), (0, a1), (0, a2), (0, a3)], [(0, 0)], _, _, _)
                  refine ev_ifne f319_45 (fun c60706 => absurd c60706 (by omega)) (fun c60706 => ?_)
                  refine ev_iconst ?_
                  exact ev_ret rfl (by decide) (by decide) ⟨_, rfl, by omega, by omega, g, k0⟩
                · refine ev_iload_n rfl ?_
                  refine ev_iload_n rfl ?_
                  refine ev_icmpgt f242_14 (fun c60707 => ?_) (fun c60707 => ?_)
                  · refine ev_iconst ?_
                    refine ev_ret rfl (by decide) (by decide) ?_
                    show jEv _ _ _ _ _ _ _ (_, [(2, 42), (0, a1), (0, a2), (0, a3)], [(0, 0)], _, _, _)
                    refine ev_ifne f319_45 (fun c60708 => absurd c60708 (by omega)) (fun c60708 => ?_)
                    refine ev_iconst ?_
                    exact ev_ret rfl (by decide) (by decide) ⟨_, rfl, by omega, by omega, g, k0⟩
                  · refine ev_iconst ?_
                    refine ev_goto f242_15 ?_
                    refine ev_ret rfl (by decide) (by decide) ?_
                    show jEv _ _ _ _ _ _ _ (_, [(2, 42), (0, a1), (0, a2), (0, a3)], [(0, 1)], _, _, _)
                    refine ev_ifne f319_45 (fun c60709 => ?_) (fun c60709 => absurd c60709 (by omega))
                    refine ev_aload_n rfl ?_
                    refine ev_call (jcall_v (A := []) (S' := []) (r := 42) rfl (g.lt ad42) (g.tg ad42) (Nat.le_of_ble_eq_true rfl)) (jOk_le (by decide) (s253 g )) (by decide) (by decide) (fun w60710 h60710 q60710 => ?_)
                    obtain ⟨v60711, rfl, lv60711, uv60711, g60710, kk60710⟩ := q60710
                    have k60710 := k0.tr kk60710 (by decide)
                    show jEv _ _ _ _ _ _ _ (_, [(2, 42), (0, a1), (0, a2), (0, a3)], [(1, v60711)], _, _, _)
                    refine ev_lconst ?_
                    refine ev_lcmp ?_
                    refine ev_ifge f319_57 (fun c60712 => ?_) (fun c60712 => ?_)
                    · have c60712b := jcmpL_ge c60712
                      refine ev_aload_n rfl ?_
                      refine ev_iload_n rfl ?_
                      refine ev_iconst ?_
                      refine ev_bipush ?_
                      refine ev_iload_n rfl ?_
                      refine ev_bipush ?_
                      refine g_idivP (c := 100) rfl (by decide) (by omega) (by omega) (fun v60713 ev60713 lv60713 uv60713 => ?_)
                      obtain rfl : v60680 = v60713 := by omega
                      refine ev_imul (r := (9 * v60680)) (by unfold w32; omega) ?_
                      refine ev_iconst ?_
                      refine ev_iload_n rfl ?_
                      refine ev_bipush ?_
                      refine g_idivP (c := 10) rfl (by decide) (by omega) (by omega) (fun v60714 ev60714 lv60714 uv60714 => ?_)
                      obtain rfl : v60681 = v60714 := by omega
                      refine ev_bipush ?_
                      refine g_iremP (c := 10) rfl (by decide) (by omega) (fun v60715 ev60715 lv60715 uv60715 wv60715 => ?_)
                      obtain rfl : v60682 = v60715 := by omega
                      refine ev_imul (r := (3 * v60682)) (by unfold w32; omega) ?_
                      refine ev_iadd (r := (9 * v60680 + 3 * v60682)) (by unfold w32; omega) ?_
                      refine ev_iload_n rfl ?_
                      refine ev_bipush ?_
                      refine g_iremP (c := 10) rfl (by decide) (by omega) (fun v60716 ev60716 lv60716 uv60716 wv60716 => ?_)
                      obtain rfl : v60683 = v60716 := by omega
                      refine ev_iadd (r := (9 * v60680 + 3 * v60682 + v60683)) (by unfold w32; omega) ?_
                      refine ev_iload_n rfl ?_
                      obtain ⟨v60717, ev60717, lv60717, uv60717⟩ := g60710.rd ad48 (show (a1).toNat < 7 by omega) (rt48 _)
                      have zv60717 := g60710.n48 (q := a1) (by omega) (by rw [(((kk60710.v (by decide)).trans ev60673))]; omega) ev60717
                      refine ev_call (jcall_v (A := [(0, a3), (0, (9 * v60680 + 3 * v60682 + v60683)), (0, (-1)), (0, a1)]) (S' := []) (r := 42) rfl (g60710.lt ad42) (g60710.tg ad42) (Nat.le_of_ble_eq_true rfl)) (jOk_le (by decide) (s318_w g60710 (by omega) (by omega) (by omega) (by omega) (by omega) (by omega) (((kk60710.v (by decide)).trans ev60673)) (by omega) (by omega) ev60717 (by omega) (by omega) (((kk60710.v (by decide)).trans ev60684)) (by omega) (by omega) (by omega) (by omega))) (by decide) (by decide) (fun w60718 h60718 q60718 => ?_)
                      obtain ⟨v60719, rfl, lv60719, uv60719, g60718, kk60718⟩ := q60718
                      have k60718 := k60710.tr kk60718 (by decide)
                      show jEv _ _ _ _ _ _ _ (_, [(2, 42), (0, a1), (0, a2), (0, a3)], [(0, v60719)], _, _, _)
                      exact ev_ret rfl (by decide) (by decide) ⟨_, rfl, by omega, by omega, g60718, k60718⟩
                    · have c60712b := jcmpL_geN c60712
                      refine ev_bipush ?_
                      exact ev_ret rfl (by decide) (by decide) ⟨_, rfl, by omega, by omega, g60710, k60710⟩
          · refine ev_iconst ?_
            refine ev_goto f246_24 ?_
            refine ev_ret rfl (by decide) (by decide) ?_
            show jEv _ _ _ _ _ _ _ (_, [(2, 42), (0, v60680), (0, v60682), (0, v60683)], [(0, 1), (0, 0), (0, v60682)], _, _, _)
            refine ev_iconst ?_
            refine ev_isub (r := 0) (by decide) ?_
            refine ev_in (d := 204) (a := 0) (b := 0) (cd' := c242_0) (m := 3) (L0 := [(0, v60682), (0, 0), (0, 0)]) (jcall_s (A := [(0, 0), (0, 0), (0, v60682)]) (S' := []) (by decide) rfl (Nat.le_of_ble_eq_true rfl)) (by decide) ml242 pp242 (Nat.le_of_ble_eq_true rfl) rfl (by decide) (by decide) ?_
            refine ev_iload_n rfl ?_
            refine ev_iload_n rfl ?_
            refine ev_icmplt f242_14 (fun c60720 => absurd c60720 (by omega)) (fun c60720 => ?_)
            refine ev_iload_n rfl ?_
            refine ev_iload_n rfl ?_
            refine ev_icmpgt f242_14 (fun c60721 => ?_) (fun c60721 => ?_)
            · refine ev_iconst ?_
              refine ev_ret rfl (by decide) (by decide) ?_
              show jEv _ _ _ _ _ _ _ (_, [(2, 42), (0, v60680), (0, v60682), (0, v60683)], [(0, 0)], _, _, _)
              refine ev_ifeq f249_43 (fun c60722 => ?_) (fun c60722 => absurd c60722 (by omega))
              refine ev_iconst ?_
              refine ev_ret rfl (by decide) (by decide) ?_
              show jEv _ _ _ _ _ _ _ (_, [(2, 42), (0, a1), (0, a2), (0, a3)], [(0, 0)], _, _, _)
              refine ev_ifeq f319_43 (fun c60723 => ?_) (fun c60723 => absurd c60723 (by omega))
              refine ev_iconst ?_
              exact ev_ret rfl (by decide) (by decide) ⟨_, rfl, by omega, by omega, g, k0⟩
            · refine ev_iconst ?_
              refine ev_goto f242_15 ?_
              refine ev_ret rfl (by decide) (by decide) ?_
              show jEv _ _ _ _ _ _ _ (_, [(2, 42), (0, v60680), (0, v60682), (0, v60683)], [(0, 1)], _, _, _)
              refine ev_ifeq f249_43 (fun c60724 => absurd c60724 (by omega)) (fun c60724 => ?_)
              refine ev_iload_n rfl ?_
              refine ev_iconst ?_
              refine ev_aload_n rfl ?_
              refine g_getp (r := 42) (c := 43) g ad42 (by decide) (by decide) rf42_2 ft12_2 ?_
              refine ev_iload_n rfl ?_
              refine g_iald g ad43 rt43 (by omega) (by omega) (fun v60725 ev60725 lv60725 uv60725 => ?_)
              have xv60725 := (g.ex.2.1 (v60680 : Int).toNat (by rw [(ev60684)]; omega))
              rw [ev60725] at xv60725
              refine ev_iconst ?_
              refine ev_isub (r := (v60725 - 1)) (by unfold w32; omega) ?_
              refine ev_in (d := 204) (a := 0) (b := 0) (cd' := c242_0) (m := 3) (L0 := [(0, v60683), (0, 0), (0, (v60725 - 1))]) (jcall_s (A := [(0, (v60725 - 1)), (0, 0), (0, v60683)]) (S' := []) (by decide) rfl (Nat.le_of_ble_eq_true rfl)) (by decide) ml242 pp242 (Nat.le_of_ble_eq_true rfl) rfl (by decide) (by decide) ?_
              refine ev_iload_n rfl ?_
              refine ev_iload_n rfl ?_
              refine ev_icmplt f242_14 (fun c60726 => absurd c60726 (by omega)) (fun c60726 => ?_)
              refine ev_iload_n rfl ?_
              refine ev_iload_n rfl ?_
              refine ev_icmpgt f242_14 (fun c60727 => ?_) (fun c60727 => ?_)
              · refine ev_iconst ?_
                refine ev_ret rfl (by decide) (by decide) ?_
                show jEv _ _ _ _ _ _ _ (_, [(2, 42), (0, v60680), (0, v60682), (0, v60683)], [(0, 0)], _, _, _)
                refine ev_ifeq f249_43 (fun c60728 => ?_) (fun c60728 => absurd c60728 (by omega))
                refine ev_iconst ?_
                refine ev_ret rfl (by decide) (by decide) ?_
                show jEv _ _ _ _ _ _ _ (_, [(2, 42), (0, a1), (0, a2), (0, a3)], [(0, 0)], _, _, _)
                refine ev_ifeq f319_43 (fun c60729 => ?_) (fun c60729 => absurd c60729 (by omega))
                refine ev_iconst ?_
                exact ev_ret rfl (by decide) (by decide) ⟨_, rfl, by omega, by omega, g, k0⟩
              · refine ev_iconst ?_
                refine ev_goto f242_15 ?_
                refine ev_ret rfl (by decide) (by decide) ?_
                show jEv _ _ _ _ _ _ _ (_, [(2, 42), (0, v60680), (0, v60682), (0, v60683)], [(0, 1)], _, _, _)
                refine ev_ifeq f249_43 (fun c60730 => absurd c60730 (by omega)) (fun c60730 => ?_)
                refine ev_iconst ?_
                refine ev_goto f249_44 ?_
                refine ev_ret rfl (by decide) (by decide) ?_
                show jEv _ _ _ _ _ _ _ (_, [(2, 42), (0, a1), (0, a2), (0, a3)], [(0, 1)], _, _, _)
                refine ev_ifeq f319_43 (fun c60731 => absurd c60731 (by omega)) (fun c60731 => ?_)
                refine ev_iload_n rfl ?_
                refine ev_iconst ?_
                refine ev_iconst ?_
                refine ev_in (d := 205) (a := 0) (b := 0) (cd' := c242_0) (m := 3) (L0 := [(0, a3), (0, 0), (0, 1)]) (jcall_s (A := [(0, 1), (0, 0), (0, a3)]) (S' := []) (by decide) rfl (Nat.le_of_ble_eq_true rfl)) (by decide) ml242 pp242 (Nat.le_of_ble_eq_true rfl) rfl (by decide) (by decide) ?_
                refine ev_iload_n rfl ?_
                refine ev_iload_n rfl ?_
                refine ev_icmplt f242_14 (fun c60732 => ?_) (fun c60732 => ?_)
                · refine ev_iconst ?_
                  refine ev_ret rfl (by decide) (by decide) ?_
                  show jEv _ _ _ _ _ _ _ (_, [(2, 42), (0, a1), (0, a2), (0, a3)], [(0, 0)], _, _, _)
                  refine ev_ifne f319_45 (fun c60733 => absurd c60733 (by omega)) (fun c60733 => ?_)
                  refine ev_iconst ?_
                  exact ev_ret rfl (by decide) (by decide) ⟨_, rfl, by omega, by omega, g, k0⟩
                · refine ev_iload_n rfl ?_
                  refine ev_iload_n rfl ?_
                  refine ev_icmpgt f242_14 (fun c60734 => ?_) (fun c60734 => ?_)
                  · refine ev_iconst ?_
                    refine ev_ret rfl (by decide) (by decide) ?_
                    show jEv _ _ _ _ _ _ _ (_, [(2, 42), (0, a1), (0, a2), (0, a3)], [(0, 0)], _, _, _)
                    refine ev_ifne f319_45 (fun c60735 => absurd c60735 (by omega)) (fun c60735 => ?_)
                    refine ev_iconst ?_
                    exact ev_ret rfl (by decide) (by decide) ⟨_, rfl, by omega, by omega, g, k0⟩
                  · refine ev_iconst ?_
                    refine ev_goto f242_15 ?_
                    refine ev_ret rfl (by decide) (by decide) ?_
                    show jEv _ _ _ _ _ _ _ (_, [(2, 42), (0, a1), (0, a2), (0, a3)], [(0, 1)], _, _, _)
                    refine ev_ifne f319_45 (fun c60736 => ?_) (fun c60736 => absurd c60736 (by omega))
                    refine ev_aload_n rfl ?_
                    refine ev_call (jcall_v (A := []) (S' := []) (r := 42) rfl (g.lt ad42) (g.tg ad42) (Nat.le_of_ble_eq_true rfl)) (jOk_le (by decide) (s253 g )) (by decide) (by decide) (fun w60737 h60737 q60737 => ?_)
                    obtain ⟨v60738, rfl, lv60738, uv60738, g60737, kk60737⟩ := q60737
                    have k60737 := k0.tr kk60737 (by decide)
                    show jEv _ _ _ _ _ _ _ (_, [(2, 42), (0, a1), (0, a2), (0, a3)], [(1, v60738)], _, _, _)
                    refine ev_lconst ?_
                    refine ev_lcmp ?_
                    refine ev_ifge f319_57 (fun c60739 => ?_) (fun c60739 => ?_)
                    · have c60739b := jcmpL_ge c60739
                      refine ev_aload_n rfl ?_
                      refine ev_iload_n rfl ?_
                      refine ev_iconst ?_
                      refine ev_bipush ?_
                      refine ev_iload_n rfl ?_
                      refine ev_bipush ?_
                      refine g_idivP (c := 100) rfl (by decide) (by omega) (by omega) (fun v60740 ev60740 lv60740 uv60740 => ?_)
                      obtain rfl : v60680 = v60740 := by omega
                      refine ev_imul (r := (9 * v60680)) (by unfold w32; omega) ?_
                      refine ev_iconst ?_
                      refine ev_iload_n rfl ?_
                      refine ev_bipush ?_
                      refine g_idivP (c := 10) rfl (by decide) (by omega) (by omega) (fun v60741 ev60741 lv60741 uv60741 => ?_)
                      obtain rfl : v60681 = v60741 := by omega
                      refine ev_bipush ?_
                      refine g_iremP (c := 10) rfl (by decide) (by omega) (fun v60742 ev60742 lv60742 uv60742 wv60742 => ?_)
                      obtain rfl : v60682 = v60742 := by omega
                      refine ev_imul (r := (3 * v60682)) (by unfold w32; omega) ?_
                      refine ev_iadd (r := (9 * v60680 + 3 * v60682)) (by unfold w32; omega) ?_
                      refine ev_iload_n rfl ?_
                      refine ev_bipush ?_
                      refine g_iremP (c := 10) rfl (by decide) (by omega) (fun v60743 ev60743 lv60743 uv60743 wv60743 => ?_)
                      obtain rfl : v60683 = v60743 := by omega
                      refine ev_iadd (r := (9 * v60680 + 3 * v60682 + v60683)) (by unfold w32; omega) ?_
                      refine ev_iload_n rfl ?_
                      obtain ⟨v60744, ev60744, lv60744, uv60744⟩ := g60737.rd ad48 (show (a1).toNat < 7 by omega) (rt48 _)
                      have zv60744 := g60737.n48 (q := a1) (by omega) (by rw [(((kk60737.v (by decide)).trans ev60673))]; omega) ev60744
                      refine ev_call (jcall_v (A := [(0, a3), (0, (9 * v60680 + 3 * v60682 + v60683)), (0, (-1)), (0, a1)]) (S' := []) (r := 42) rfl (g60737.lt ad42) (g60737.tg ad42) (Nat.le_of_ble_eq_true rfl)) (jOk_le (by decide) (s318_w g60737 (by omega) (by omega) (by omega) (by omega) (by omega) (by omega) (((kk60737.v (by decide)).trans ev60673)) (by omega) (by omega) ev60744 (by omega) (by omega) (((kk60737.v (by decide)).trans ev60684)) (by omega) (by omega) (by omega) (by omega))) (by decide) (by decide) (fun w60745 h60745 q60745 => ?_)
                      obtain ⟨v60746, rfl, lv60746, uv60746, g60745, kk60745⟩ := q60745
                      have k60745 := k60737.tr kk60745 (by decide)
                      show jEv _ _ _ _ _ _ _ (_, [(2, 42), (0, a1), (0, a2), (0, a3)], [(0, v60746)], _, _, _)
                      exact ev_ret rfl (by decide) (by decide) ⟨_, rfl, by omega, by omega, g60745, k60745⟩
                    · have c60739b := jcmpL_geN c60739
                      refine ev_bipush ?_
                      exact ev_ret rfl (by decide) (by decide) ⟨_, rfl, by omega, by omega, g60737, k60737⟩
set_option maxHeartbeats 4000000 in
theorem s320 {G : GH} {h : JH} (g : Gd G h) {a1 : Int} (la1 : (-2147483648) ≤ a1) (ua1 : a1 ≤ 2147483647) {a2 : Int} (la2 : (-2147483648) ≤ a2) (ua2 : a2 ≤ 2147483647) {a3 : Int} (la3 : (-2147483648) ≤ a3) (ua3 : a3 ≤ 2147483647) {a4 : Int} (la4 : (-2147483648) ≤ a4) (ua4 : a4 ≤ 2147483647) : jOk 207 0 0 320 [(2, 42), (0, a1), (0, a2), (0, a3), (0, a4)] h (PI G [(46, 0), (47, 0), (42, 6), (42, 9), (42, 37), (42, 38), (42, 39), (42, 40), (64, 0), (65, 0), (50, 0), (52, 0)] h 0 (-4) 40) := by
  refine ⟨by decide, by rw [ml320]; exact Nat.le_of_ble_eq_true rfl, ?_⟩
  rw [ml320, pp320]
  show jEv _ none _ c320_0 0 0 _ (c320_0, [(2, 42), (0, a1), (0, a2), (0, a3), (0, a4)], [], h, 0, 0)
  have k0 := Kp.rf [(46, 0), (47, 0), (42, 6), (42, 9), (42, 37), (42, 38), (42, 39), (42, 40), (64, 0), (65, 0), (50, 0), (52, 0)] h
  refine ev_aload_n rfl ?_
  refine ev_iload_n rfl ?_
  refine ev_iload_n rfl ?_
  refine ev_iload_n rfl ?_
  refine ev_in (d := 205) (a := 0) (b := 0) (cd' := c278_0) (m := 4) (L0 := [(2, 42), (0, a1), (0, a2), (0, a3)]) (jcall_v (A := [(0, a3), (0, a2), (0, a1)]) (S' := []) (r := 42) rfl (g.lt ad42) (g.tg ad42) (Nat.le_of_ble_eq_true rfl)) (by decide) ml278 pp278 (Nat.le_of_ble_eq_true rfl) rfl (by decide) (by decide) ?_
  refine ev_iload_n rfl ?_
  refine ev_iconst ?_
  refine ev_icmpne f278_36 (fun c60921 => ?_) (fun c60921 => ?_)
  · refine ev_aload_n rfl ?_
    refine ev_iload_n rfl ?_
    refine ev_iload_n rfl ?_
    refine ev_in (d := 204) (a := 0) (b := 0) (cd' := c277_0) (m := 3) (L0 := [(2, 42), (0, a1), (0, a2)]) (jcall_v (A := [(0, a2), (0, a1)]) (S' := []) (r := 42) rfl (g.lt ad42) (g.tg ad42) (Nat.le_of_ble_eq_true rfl)) (by decide) ml277 pp277 (Nat.le_of_ble_eq_true rfl) rfl (by decide) (by decide) ?_
    refine ev_aload_n rfl ?_
    refine ev_iload_n rfl ?_
    refine ev_iload_n rfl ?_
    refine ev_in (d := 203) (a := 0) (b := 0) (cd' := c262_0) (m := 3) (L0 := [(2, 42), (0, a1), (0, a2)]) (jcall_v (A := [(0, a2), (0, a1)]) (S' := []) (r := 42) rfl (g.lt ad42) (g.tg ad42) (Nat.le_of_ble_eq_true rfl)) (by decide) ml262 pp262 (Nat.le_of_ble_eq_true rfl) rfl (by decide) (by decide) ?_
    refine ev_aload_n rfl ?_
    refine ev_iload_n rfl ?_
    refine ev_in (d := 202) (a := 0) (b := 0) (cd' := c261_0) (m := 2) (L0 := [(2, 42), (0, a1)]) (jcall_v (A := [(0, a1)]) (S' := []) (r := 42) rfl (g.lt ad42) (g.tg ad42) (Nat.le_of_ble_eq_true rfl)) (by decide) ml261 pp261 (Nat.le_of_ble_eq_true rfl) rfl (by decide) (by decide) ?_
    refine ev_iload_n rfl ?_
    refine ev_iconst ?_
    refine ev_aload_n rfl ?_
    obtain ⟨v60922, ev60922, lv60922, uv60922⟩ := g.rd ad42 (show 9 < 66 by decide) rf42_9
    refine g_getv (r := 42) (v := v60922) g ad42 (by decide) ft12_9 ev60922 ?_
    refine ev_iconst ?_
    refine ev_isub (r := (v60922 - 1)) (by unfold w32; omega) ?_
    refine ev_in (d := 201) (a := 0) (b := 0) (cd' := c242_0) (m := 3) (L0 := [(0, a1), (0, 0), (0, (v60922 - 1))]) (jcall_s (A := [(0, (v60922 - 1)), (0, 0), (0, a1)]) (S' := []) (by decide) rfl (Nat.le_of_ble_eq_true rfl)) (by decide) ml242 pp242 (Nat.le_of_ble_eq_true rfl) rfl (by decide) (by decide) ?_
    refine ev_iload_n rfl ?_
    refine ev_iload_n rfl ?_
    refine ev_icmplt f242_14 (fun c60923 => ?_) (fun c60923 => ?_)
    · refine ev_iconst ?_
      refine ev_ret rfl (by decide) (by decide) ?_
      show jEv _ _ _ _ _ _ _ (_, [(2, 42), (0, a1)], [(0, 0)], _, _, _)
      refine ev_ret rfl (by decide) (by decide) ?_
      show jEv _ _ _ _ _ _ _ (_, [(2, 42), (0, a1), (0, a2)], [(0, 0)], _, _, _)
      refine ev_ifeq f262_28 (fun c60924 => ?_) (fun c60924 => absurd c60924 (by omega))
      refine ev_iconst ?_
      refine ev_ret rfl (by decide) (by decide) ?_
      show jEv _ _ _ _ _ _ _ (_, [(2, 42), (0, a1), (0, a2)], [(0, 0)], _, _, _)
      refine ev_ifeq f277_28 (fun c60925 => ?_) (fun c60925 => absurd c60925 (by omega))
      refine ev_iconst ?_
      refine ev_ret rfl (by decide) (by decide) ?_
      show jEv _ _ _ _ _ _ _ (_, [(2, 42), (0, a1), (0, a2), (0, a3)], [(0, 0)], _, _, _)
      refine ev_ifeq f278_70 (fun c60926 => ?_) (fun c60926 => absurd c60926 (by omega))
      refine ev_iconst ?_
      refine ev_ret rfl (by decide) (by decide) ?_
      show jEv _ _ _ _ _ _ _ (_, [(2, 42), (0, a1), (0, a2), (0, a3), (0, a4)], [(0, 0)], _, _, _)
      refine ev_ifeq f320_20 (fun c60927 => ?_) (fun c60927 => absurd c60927 (by omega))
      refine ev_iconst ?_
      exact ev_ret rfl (by decide) (by decide) ⟨_, rfl, by omega, by omega, g, k0⟩
    · refine ev_iload_n rfl ?_
      refine ev_iload_n rfl ?_
      refine ev_icmpgt f242_14 (fun c60928 => ?_) (fun c60928 => ?_)
      · refine ev_iconst ?_
        refine ev_ret rfl (by decide) (by decide) ?_
        show jEv _ _ _ _ _ _ _ (_, [(2, 42), (0, a1)], [(0, 0)], _, _, _)
        refine ev_ret rfl (by decide) (by decide) ?_
        show jEv _ _ _ _ _ _ _ (_, [(2, 42), (0, a1), (0, a2)], [(0, 0)], _, _, _)
        refine ev_ifeq f262_28 (fun c60929 => ?_) (fun c60929 => absurd c60929 (by omega))
        refine ev_iconst ?_
        refine ev_ret rfl (by decide) (by decide) ?_
        show jEv _ _ _ _ _ _ _ (_, [(2, 42), (0, a1), (0, a2)], [(0, 0)], _, _, _)
        refine ev_ifeq f277_28 (fun c60930 => ?_) (fun c60930 => absurd c60930 (by omega))
        refine ev_iconst ?_
        refine ev_ret rfl (by decide) (by decide) ?_
        show jEv _ _ _ _ _ _ _ (_, [(2, 42), (0, a1), (0, a2), (0, a3)], [(0, 0)], _, _, _)
        refine ev_ifeq f278_70 (fun c60931 => ?_) (fun c60931 => absurd c60931 (by omega))
        refine ev_iconst ?_
        refine ev_ret rfl (by decide) (by decide) ?_
        show jEv _ _ _ _ _ _ _ (_, [(2, 42), (0, a1), (0, a2), (0, a3), (0, a4)], [(0, 0)], _, _, _)
        refine ev_ifeq f320_20 (fun c60932 => ?_) (fun c60932 => absurd c60932 (by omega))
        refine ev_iconst ?_
        exact ev_ret rfl (by decide) (by decide) ⟨_, rfl, by omega, by omega, g, k0⟩
      · refine ev_iconst ?_
        refine ev_goto f242_15 ?_
        refine ev_ret rfl (by decide) (by decide) ?_
        show jEv _ _ _ _ _ _ _ (_, [(2, 42), (0, a1)], [(0, 1)], _, _, _)
        refine ev_ret rfl (by decide) (by decide) ?_
        show jEv _ _ _ _ _ _ _ (_, [(2, 42), (0, a1), (0, a2)], [(0, 1)], _, _, _)
        refine ev_ifeq f262_28 (fun c60933 => absurd c60933 (by omega)) (fun c60933 => ?_)
        refine ev_iload_n rfl ?_
        refine ev_iconst ?_
        refine ev_aload_n rfl ?_
        refine g_getp (r := 42) (c := 48) g ad42 (by decide) (by decide) rf42_10 ft12_10 ?_
        refine ev_iload_n rfl ?_
        refine g_iald g ad48 rt48 (by omega) (by omega) (fun v60934 ev60934 lv60934 uv60934 => ?_)
        have zv60934 := g.n48 (q := a1) (by omega) (by rw [(ev60922)]; omega) ev60934
        refine ev_iconst ?_
        refine ev_isub (r := (v60934 - 1)) (by unfold w32; omega) ?_
        refine ev_in (d := 202) (a := 0) (b := 0) (cd' := c242_0) (m := 3) (L0 := [(0, a2), (0, 0), (0, (v60934 - 1))]) (jcall_s (A := [(0, (v60934 - 1)), (0, 0), (0, a2)]) (S' := []) (by decide) rfl (Nat.le_of_ble_eq_true rfl)) (by decide) ml242 pp242 (Nat.le_of_ble_eq_true rfl) rfl (by decide) (by decide) ?_
        refine ev_iload_n rfl ?_
        refine ev_iload_n rfl ?_
        refine ev_icmplt f242_14 (fun c60935 => ?_) (fun c60935 => ?_)
        · refine ev_iconst ?_
          refine ev_ret rfl (by decide) (by decide) ?_
          show jEv _ _ _ _ _ _ _ (_, [(2, 42), (0, a1), (0, a2)], [(0, 0)], _, _, _)
          refine ev_ifeq f262_28 (fun c60936 => ?_) (fun c60936 => absurd c60936 (by omega))
          refine ev_iconst ?_
          refine ev_ret rfl (by decide) (by decide) ?_
          show jEv _ _ _ _ _ _ _ (_, [(2, 42), (0, a1), (0, a2)], [(0, 0)], _, _, _)
          refine ev_ifeq f277_28 (fun c60937 => ?_) (fun c60937 => absurd c60937 (by omega))
          refine ev_iconst ?_
          refine ev_ret rfl (by decide) (by decide) ?_
          show jEv _ _ _ _ _ _ _ (_, [(2, 42), (0, a1), (0, a2), (0, a3)], [(0, 0)], _, _, _)
          refine ev_ifeq f278_70 (fun c60938 => ?_) (fun c60938 => absurd c60938 (by omega))
          refine ev_iconst ?_
          refine ev_ret rfl (by decide) (by decide) ?_
          show jEv _ _ _ _ _ _ _ (_, [(2, 42), (0, a1), (0, a2), (0, a3), (0, a4)], [(0, 0)], _, _, _)
          refine ev_ifeq f320_20 (fun c60939 => ?_) (fun c60939 => absurd c60939 (by omega))
          refine ev_iconst ?_
          exact ev_ret rfl (by decide) (by decide) ⟨_, rfl, by omega, by omega, g, k0⟩
        · refine ev_iload_n rfl ?_
          refine ev_iload_n rfl ?_
          refine ev_icmpgt f242_14 (fun c60940 => ?_) (fun c60940 => ?_)
          · refine ev_iconst ?_
            refine ev_ret rfl (by decide) (by decide) ?_
            show jEv _ _ _ _ _ _ _ (_, [(2, 42), (0, a1), (0, a2)], [(0, 0)], _, _, _)
            refine ev_ifeq f262_28 (fun c60941 => ?_) (fun c60941 => absurd c60941 (by omega))
            refine ev_iconst ?_
            refine ev_ret rfl (by decide) (by decide) ?_
            show jEv _ _ _ _ _ _ _ (_, [(2, 42), (0, a1), (0, a2)], [(0, 0)], _, _, _)
            refine ev_ifeq f277_28 (fun c60942 => ?_) (fun c60942 => absurd c60942 (by omega))
            refine ev_iconst ?_
            refine ev_ret rfl (by decide) (by decide) ?_
            show jEv _ _ _ _ _ _ _ (_, [(2, 42), (0, a1), (0, a2), (0, a3)], [(0, 0)], _, _, _)
            refine ev_ifeq f278_70 (fun c60943 => ?_) (fun c60943 => absurd c60943 (by omega))
            refine ev_iconst ?_
            refine ev_ret rfl (by decide) (by decide) ?_
            show jEv _ _ _ _ _ _ _ (_, [(2, 42), (0, a1), (0, a2), (0, a3), (0, a4)], [(0, 0)], _, _, _)
            refine ev_ifeq f320_20 (fun c60944 => ?_) (fun c60944 => absurd c60944 (by omega))
            refine ev_iconst ?_
            exact ev_ret rfl (by decide) (by decide) ⟨_, rfl, by omega, by omega, g, k0⟩
          · refine ev_iconst ?_
            refine ev_goto f242_15 ?_
            refine ev_ret rfl (by decide) (by decide) ?_
            show jEv _ _ _ _ _ _ _ (_, [(2, 42), (0, a1), (0, a2)], [(0, 1)], _, _, _)
            refine ev_ifeq f262_28 (fun c60945 => absurd c60945 (by omega)) (fun c60945 => ?_)
            refine ev_iconst ?_
            refine ev_goto f262_29 ?_
            refine ev_ret rfl (by decide) (by decide) ?_
            show jEv _ _ _ _ _ _ _ (_, [(2, 42), (0, a1), (0, a2)], [(0, 1)], _, _, _)
            refine ev_ifeq f277_28 (fun c60946 => absurd c60946 (by omega)) (fun c60946 => ?_)
            refine ev_aload_n rfl ?_
            refine g_getp (r := 42) (c := 49) g ad42 (by decide) (by decide) rf42_11 ft12_11 ?_
            refine ev_bipush ?_
            refine ev_iload_n rfl ?_
            refine ev_imul (r := (100 * a1)) (by unfold w32; omega) ?_
            refine ev_iload_n rfl ?_
            refine ev_iadd (r := (100 * a1 + a2)) (by unfold w32; omega) ?_
            refine g_bald g ad49 rt49 (by omega) (by omega) (fun v60947 ev60947 lv60947 uv60947 => ?_)
            refine ev_iconst ?_
            refine ev_icmpne f277_28 (fun c60948 => ?_) (fun c60948 => ?_)
            · refine ev_iconst ?_
              refine ev_ret rfl (by decide) (by decide) ?_
              show jEv _ _ _ _ _ _ _ (_, [(2, 42), (0, a1), (0, a2), (0, a3)], [(0, 0)], _, _, _)
              refine ev_ifeq f278_70 (fun c60949 => ?_) (fun c60949 => absurd c60949 (by omega))
              refine ev_iconst ?_
              refine ev_ret rfl (by decide) (by decide) ?_
              show jEv _ _ _ _ _ _ _ (_, [(2, 42), (0, a1), (0, a2), (0, a3), (0, a4)], [(0, 0)], _, _, _)
              refine ev_ifeq f320_20 (fun c60950 => ?_) (fun c60950 => absurd c60950 (by omega))
              refine ev_iconst ?_
              exact ev_ret rfl (by decide) (by decide) ⟨_, rfl, by omega, by omega, g, k0⟩
            · refine ev_iconst ?_
              refine ev_goto f277_29 ?_
              refine ev_ret rfl (by decide) (by decide) ?_
              show jEv _ _ _ _ _ _ _ (_, [(2, 42), (0, a1), (0, a2), (0, a3)], [(0, 1)], _, _, _)
              refine ev_ifeq f278_70 (fun c60951 => absurd c60951 (by omega)) (fun c60951 => ?_)
              refine ev_iload_n rfl ?_
              refine ev_iconst ?_
              refine ev_aload_n rfl ?_
              refine g_getp (r := 42) (c := 50) g ad42 (by decide) (by decide) rf42_12 ft12_12 ?_
              refine ev_bipush ?_
              refine ev_iload_n rfl ?_
              refine ev_imul (r := (100 * a1)) (by unfold w32; omega) ?_
              refine ev_iload_n rfl ?_
              refine ev_iadd (r := (100 * a1 + a2)) (by unfold w32; omega) ?_
              refine g_iald g ad50 rt50 (by omega) (by omega) (fun v60952 ev60952 lv60952 uv60952 => ?_)
              have xv60952 := g.nd1 (q := a1) (n := a2) (by omega) (by rw [(ev60922)]; omega) (by omega) (by rw [(ev60934)]; omega) (i := (100 * a1 + a2)) (by omega) (by rw [(ev60947)]; omega) ev60952
              refine ev_iconst ?_
              refine ev_isub (r := (v60952 - 1)) (by unfold w32; omega) ?_
              refine ev_in (d := 204) (a := 0) (b := 0) (cd' := c242_0) (m := 3) (L0 := [(0, a3), (0, 0), (0, (v60952 - 1))]) (jcall_s (A := [(0, (v60952 - 1)), (0, 0), (0, a3)]) (S' := []) (by decide) rfl (Nat.le_of_ble_eq_true rfl)) (by decide) ml242 pp242 (Nat.le_of_ble_eq_true rfl) rfl (by decide) (by decide) ?_
              refine ev_iload_n rfl ?_
              refine ev_iload_n rfl ?_
              refine ev_icmplt f242_14 (fun c60953 => ?_) (fun c60953 => ?_)
              · refine ev_iconst ?_
                refine ev_ret rfl (by decide) (by decide) ?_
                show jEv _ _ _ _ _ _ _ (_, [(2, 42), (0, a1), (0, a2), (0, a3)], [(0, 0)], _, _, _)
                refine ev_ifeq f278_70 (fun c60954 => ?_) (fun c60954 => absurd c60954 (by omega))
                refine ev_iconst ?_
                refine ev_ret rfl (by decide) (by decide) ?_
                show jEv _ _ _ _ _ _ _ (_, [(2, 42), (0, a1), (0, a2), (0, a3), (0, a4)], [(0, 0)], _, _, _)
                refine ev_ifeq f320_20 (fun c60955 => ?_) (fun c60955 => absurd c60955 (by omega))
                refine ev_iconst ?_
                exact ev_ret rfl (by decide) (by decide) ⟨_, rfl, by omega, by omega, g, k0⟩
              · refine ev_iload_n rfl ?_
                refine ev_iload_n rfl ?_
                refine ev_icmpgt f242_14 (fun c60956 => ?_) (fun c60956 => ?_)
                · refine ev_iconst ?_
                  refine ev_ret rfl (by decide) (by decide) ?_
                  show jEv _ _ _ _ _ _ _ (_, [(2, 42), (0, a1), (0, a2), (0, a3)], [(0, 0)], _, _, _)
                  refine ev_ifeq f278_70 (fun c60957 => ?_) (fun c60957 => absurd c60957 (by omega))
                  refine ev_iconst ?_
                  refine ev_ret rfl (by decide) (by decide) ?_
                  show jEv _ _ _ _ _ _ _ (_, [(2, 42), (0, a1), (0, a2), (0, a3), (0, a4)], [(0, 0)], _, _, _)
                  refine ev_ifeq f320_20 (fun c60958 => ?_) (fun c60958 => absurd c60958 (by omega))
                  refine ev_iconst ?_
                  exact ev_ret rfl (by decide) (by decide) ⟨_, rfl, by omega, by omega, g, k0⟩
                · refine ev_iconst ?_
                  refine ev_goto f242_15 ?_
                  refine ev_ret rfl (by decide) (by decide) ?_
                  show jEv _ _ _ _ _ _ _ (_, [(2, 42), (0, a1), (0, a2), (0, a3)], [(0, 1)], _, _, _)
                  refine ev_ifeq f278_70 (fun c60959 => absurd c60959 (by omega)) (fun c60959 => ?_)
                  refine ev_iconst ?_
                  refine ev_goto f278_71 ?_
                  refine ev_ret rfl (by decide) (by decide) ?_
                  show jEv _ _ _ _ _ _ _ (_, [(2, 42), (0, a1), (0, a2), (0, a3), (0, a4)], [(0, 1)], _, _, _)
                  refine ev_ifeq f320_20 (fun c60960 => absurd c60960 (by omega)) (fun c60960 => ?_)
                  refine ev_iload rfl ?_
                  refine ev_iconst ?_
                  refine ev_iconst ?_
                  refine ev_in (d := 205) (a := 0) (b := 0) (cd' := c242_0) (m := 3) (L0 := [(0, a4), (0, 0), (0, 1)]) (jcall_s (A := [(0, 1), (0, 0), (0, a4)]) (S' := []) (by decide) rfl (Nat.le_of_ble_eq_true rfl)) (by decide) ml242 pp242 (Nat.le_of_ble_eq_true rfl) rfl (by decide) (by decide) ?_
                  refine ev_iload_n rfl ?_
                  refine ev_iload_n rfl ?_
                  refine ev_icmplt f242_14 (fun c60961 => ?_) (fun c60961 => ?_)
                  · refine ev_iconst ?_
                    refine ev_ret rfl (by decide) (by decide) ?_
                    show jEv _ _ _ _ _ _ _ (_, [(2, 42), (0, a1), (0, a2), (0, a3), (0, a4)], [(0, 0)], _, _, _)
                    refine ev_ifne f320_22 (fun c60962 => absurd c60962 (by omega)) (fun c60962 => ?_)
                    refine ev_iconst ?_
                    exact ev_ret rfl (by decide) (by decide) ⟨_, rfl, by omega, by omega, g, k0⟩
                  · refine ev_iload_n rfl ?_
                    refine ev_iload_n rfl ?_
                    refine ev_icmpgt f242_14 (fun c60963 => ?_) (fun c60963 => ?_)
                    · refine ev_iconst ?_
                      refine ev_ret rfl (by decide) (by decide) ?_
                      show jEv _ _ _ _ _ _ _ (_, [(2, 42), (0, a1), (0, a2), (0, a3), (0, a4)], [(0, 0)], _, _, _)
                      refine ev_ifne f320_22 (fun c60964 => absurd c60964 (by omega)) (fun c60964 => ?_)
                      refine ev_iconst ?_
                      exact ev_ret rfl (by decide) (by decide) ⟨_, rfl, by omega, by omega, g, k0⟩
                    · refine ev_iconst ?_
                      refine ev_goto f242_15 ?_
                      refine ev_ret rfl (by decide) (by decide) ?_
                      show jEv _ _ _ _ _ _ _ (_, [(2, 42), (0, a1), (0, a2), (0, a3), (0, a4)], [(0, 1)], _, _, _)
                      refine ev_ifne f320_22 (fun c60965 => ?_) (fun c60965 => absurd c60965 (by omega))
                      refine ev_aload_n rfl ?_
                      refine ev_call (jcall_v (A := []) (S' := []) (r := 42) rfl (g.lt ad42) (g.tg ad42) (Nat.le_of_ble_eq_true rfl)) (jOk_le (by decide) (s253 g )) (by decide) (by decide) (fun w60966 h60966 q60966 => ?_)
                      obtain ⟨v60967, rfl, lv60967, uv60967, g60966, kk60966⟩ := q60966
                      have k60966 := k0.tr kk60966 (by decide)
                      show jEv _ _ _ _ _ _ _ (_, [(2, 42), (0, a1), (0, a2), (0, a3), (0, a4)], [(1, v60967)], _, _, _)
                      refine ev_lconst ?_
                      refine ev_lcmp ?_
                      refine ev_ifge f320_34 (fun c60968 => ?_) (fun c60968 => ?_)
                      · have c60968b := jcmpL_ge c60968
                        refine ev_iload_n rfl ?_
                        refine ev_ifge f320_55 (fun c60969 => ?_) (fun c60969 => absurd c60969 (by omega))
                        refine ev_aload_n rfl ?_
                        refine ev_iload_n rfl ?_
                        refine ev_iconst ?_
                        refine ev_iconst ?_
                        refine ev_bipush ?_
                        refine ev_iload_n rfl ?_
                        refine ev_imul (r := (100 * a1)) (by unfold w32; omega) ?_
                        refine ev_iload_n rfl ?_
                        refine ev_iadd (r := (100 * a1 + a2)) (by unfold w32; omega) ?_
                        refine ev_imul (r := (400 * a1 + 4 * a2)) (by unfold w32; omega) ?_
                        refine ev_iload_n rfl ?_
                        refine ev_iadd (r := (400 * a1 + 4 * a2 + a3)) (by unfold w32; omega) ?_
                        refine ev_iload rfl ?_
                        refine ev_call (jcall_v (A := [(0, a4), (0, (400 * a1 + 4 * a2 + a3)), (0, 1), (0, a1)]) (S' := []) (r := 42) rfl (g60966.lt ad42) (g60966.tg ad42) (Nat.le_of_ble_eq_true rfl)) (jOk_le (by decide) (s318_c g60966 (by omega) (by omega) (by omega) (by omega) (by omega) (by omega) (((kk60966.v (by decide)).trans ev60922)) (by omega) (by omega) (((kk60966.v rfl).trans ev60934)) (by omega) (by omega) (by omega))) (by decide) (by decide) (fun w60970 h60970 q60970 => ?_)
                        obtain ⟨v60971, rfl, lv60971, uv60971, g60970, kk60970⟩ := q60970
                        have k60970 := k60966.tr kk60970 (by decide)
                        show jEv _ _ _ _ _ _ _ (_, [(2, 42), (0, a1), (0, a2), (0, a3), (0, a4)], [(0, v60971)], _, _, _)
                        exact ev_ret rfl (by decide) (by decide) ⟨_, rfl, by omega, by omega, g60970, k60970⟩
                      · have c60968b := jcmpL_geN c60968
                        refine ev_bipush ?_
                        exact ev_ret rfl (by decide) (by decide) ⟨_, rfl, by omega, by omega, g60966, k60966⟩
  · refine ev_aload_n rfl ?_
    refine ev_iload_n rfl ?_
    refine ev_iload_n rfl ?_
    refine ev_in (d := 204) (a := 0) (b := 0) (cd' := c262_0) (m := 3) (L0 := [(2, 42), (0, a1), (0, a2)]) (jcall_v (A := [(0, a2), (0, a1)]) (S' := []) (r := 42) rfl (g.lt ad42) (g.tg ad42) (Nat.le_of_ble_eq_true rfl)) (by decide) ml262 pp262 (Nat.le_of_ble_eq_true rfl) rfl (by decide) (by decide) ?_
    refine ev_aload_n rfl ?_
    refine ev_iload_n rfl ?_
    refine ev_in (d := 203) (a := 0) (b := 0) (cd' := c261_0) (m := 2) (L0 := [(2, 42), (0, a1)]) (jcall_v (A := [(0, a1)]) (S' := []) (r := 42) rfl (g.lt ad42) (g.tg ad42) (Nat.le_of_ble_eq_true rfl)) (by decide) ml261 pp261 (Nat.le_of_ble_eq_true rfl) rfl (by decide) (by decide) ?_
    refine ev_iload_n rfl ?_
    refine ev_iconst ?_
    refine ev_aload_n rfl ?_
    obtain ⟨v60972, ev60972, lv60972, uv60972⟩ := g.rd ad42 (show 9 < 66 by decide) rf42_9
    refine g_getv (r := 42) (v := v60972) g ad42 (by decide) ft12_9 ev60972 ?_
    refine ev_iconst ?_
    refine ev_isub (r := (v60972 - 1)) (by unfold w32; omega) ?_
    refine ev_in (d := 202) (a := 0) (b := 0) (cd' := c242_0) (m := 3) (L0 := [(0, a1), (0, 0), (0, (v60972 - 1))]) (jcall_s (A := [(0, (v60972 - 1)), (0, 0), (0, a1)]) (S' := []) (by decide) rfl (Nat.le_of_ble_eq_true rfl)) (by decide) ml242 pp242 (Nat.le_of_ble_eq_true rfl) rfl (by decide) (by decide) ?_
    refine ev_iload_n rfl ?_
    refine ev_iload_n rfl ?_
    refine ev_icmplt f242_14 (fun c60973 => ?_) (fun c60973 => ?_)
    · refine ev_iconst ?_
      refine ev_ret rfl (by decide) (by decide) ?_
      show jEv _ _ _ _ _ _ _ (_, [(2, 42), (0, a1)], [(0, 0)], _, _, _)
      refine ev_ret rfl (by decide) (by decide) ?_
      show jEv _ _ _ _ _ _ _ (_, [(2, 42), (0, a1), (0, a2)], [(0, 0)], _, _, _)
      refine ev_ifeq f262_28 (fun c60974 => ?_) (fun c60974 => absurd c60974 (by omega))
      refine ev_iconst ?_
      refine ev_ret rfl (by decide) (by decide) ?_
      show jEv _ _ _ _ _ _ _ (_, [(2, 42), (0, a1), (0, a2), (0, a3)], [(0, 0)], _, _, _)
      refine ev_ifeq f278_32 (fun c60975 => ?_) (fun c60975 => absurd c60975 (by omega))
      refine ev_iconst ?_
      refine ev_goto f278_71 ?_
      refine ev_ret rfl (by decide) (by decide) ?_
      show jEv _ _ _ _ _ _ _ (_, [(2, 42), (0, a1), (0, a2), (0, a3), (0, a4)], [(0, 0)], _, _, _)
      refine ev_ifeq f320_20 (fun c60976 => ?_) (fun c60976 => absurd c60976 (by omega))
      refine ev_iconst ?_
      exact ev_ret rfl (by decide) (by decide) ⟨_, rfl, by omega, by omega, g, k0⟩
    · refine ev_iload_n rfl ?_
      refine ev_iload_n rfl ?_
      refine ev_icmpgt f242_14 (fun c60977 => ?_) (fun c60977 => ?_)
      · refine ev_iconst ?_
        refine ev_ret rfl (by decide) (by decide) ?_
        show jEv _ _ _ _ _ _ _ (_, [(2, 42), (0, a1)], [(0, 0)], _, _, _)
        refine ev_ret rfl (by decide) (by decide) ?_
        show jEv _ _ _ _ _ _ _ (_, [(2, 42), (0, a1), (0, a2)], [(0, 0)], _, _, _)
        refine ev_ifeq f262_28 (fun c60978 => ?_) (fun c60978 => absurd c60978 (by omega))
        refine ev_iconst ?_
        refine ev_ret rfl (by decide) (by decide) ?_
        show jEv _ _ _ _ _ _ _ (_, [(2, 42), (0, a1), (0, a2), (0, a3)], [(0, 0)], _, _, _)
        refine ev_ifeq f278_32 (fun c60979 => ?_) (fun c60979 => absurd c60979 (by omega))
        refine ev_iconst ?_
        refine ev_goto f278_71 ?_
        refine ev_ret rfl (by decide) (by decide) ?_
        show jEv _ _ _ _ _ _ _ (_, [(2, 42), (0, a1), (0, a2), (0, a3), (0, a4)], [(0, 0)], _, _, _)
        refine ev_ifeq f320_20 (fun c60980 => ?_) (fun c60980 => absurd c60980 (by omega))
        refine ev_iconst ?_
        exact ev_ret rfl (by decide) (by decide) ⟨_, rfl, by omega, by omega, g, k0⟩
      · refine ev_iconst ?_
        refine ev_goto f242_15 ?_
        refine ev_ret rfl (by decide) (by decide) ?_
        show jEv _ _ _ _ _ _ _ (_, [(2, 42), (0, a1)], [(0, 1)], _, _, _)
        refine ev_ret rfl (by decide) (by decide) ?_
        show jEv _ _ _ _ _ _ _ (_, [(2, 42), (0, a1), (0, a2)], [(0, 1)], _, _, _)
        refine ev_ifeq f262_28 (fun c60981 => absurd c60981 (by omega)) (fun c60981 => ?_)
        refine ev_iload_n rfl ?_
        refine ev_iconst ?_
        refine ev_aload_n rfl ?_
        refine g_getp (r := 42) (c := 48) g ad42 (by decide) (by decide) rf42_10 ft12_10 ?_
        refine ev_iload_n rfl ?_
        refine g_iald g ad48 rt48 (by omega) (by omega) (fun v60982 ev60982 lv60982 uv60982 => ?_)
        have zv60982 := g.n48 (q := a1) (by omega) (by rw [(ev60972)]; omega) ev60982
        refine ev_iconst ?_
        refine ev_isub (r := (v60982 - 1)) (by unfold w32; omega) ?_
        refine ev_in (d := 203) (a := 0) (b := 0) (cd' := c242_0) (m := 3) (L0 := [(0, a2), (0, 0), (0, (v60982 - 1))]) (jcall_s (A := [(0, (v60982 - 1)), (0, 0), (0, a2)]) (S' := []) (by decide) rfl (Nat.le_of_ble_eq_true rfl)) (by decide) ml242 pp242 (Nat.le_of_ble_eq_true rfl) rfl (by decide) (by decide) ?_
        refine ev_iload_n rfl ?_
        refine ev_iload_n rfl ?_
        refine ev_icmplt f242_14 (fun c60983 => ?_) (fun c60983 => ?_)
        · refine ev_iconst ?_
          refine ev_ret rfl (by decide) (by decide) ?_
          show jEv _ _ _ _ _ _ _ (_, [(2, 42), (0, a1), (0, a2)], [(0, 0)], _, _, _)
          refine ev_ifeq f262_28 (fun c60984 => ?_) (fun c60984 => absurd c60984 (by omega))
          refine ev_iconst ?_
          refine ev_ret rfl (by decide) (by decide) ?_
          show jEv _ _ _ _ _ _ _ (_, [(2, 42), (0, a1), (0, a2), (0, a3)], [(0, 0)], _, _, _)
          refine ev_ifeq f278_32 (fun c60985 => ?_) (fun c60985 => absurd c60985 (by omega))
          refine ev_iconst ?_
          refine ev_goto f278_71 ?_
          refine ev_ret rfl (by decide) (by decide) ?_
          show jEv _ _ _ _ _ _ _ (_, [(2, 42), (0, a1), (0, a2), (0, a3), (0, a4)], [(0, 0)], _, _, _)
          refine ev_ifeq f320_20 (fun c60986 => ?_) (fun c60986 => absurd c60986 (by omega))
          refine ev_iconst ?_
          exact ev_ret rfl (by decide) (by decide) ⟨_, rfl, by omega, by omega, g, k0⟩
        · refine ev_iload_n rfl ?_
          refine ev_iload_n rfl ?_
          refine ev_icmpgt f242_14 (fun c60987 => ?_) (fun c60987 => ?_)
          · refine ev_iconst ?_
            refine ev_ret rfl (by decide) (by decide) ?_
            show jEv _ _ _ _ _ _ _ (_, [(2, 42), (0, a1), (0, a2)], [(0, 0)], _, _, _)
            refine ev_ifeq f262_28 (fun c60988 => ?_) (fun c60988 => absurd c60988 (by omega))
            refine ev_iconst ?_
            refine ev_ret rfl (by decide) (by decide) ?_
            show jEv _ _ _ _ _ _ _ (_, [(2, 42), (0, a1), (0, a2), (0, a3)], [(0, 0)], _, _, _)
            refine ev_ifeq f278_32 (fun c60989 => ?_) (fun c60989 => absurd c60989 (by omega))
            refine ev_iconst ?_
            refine ev_goto f278_71 ?_
            refine ev_ret rfl (by decide) (by decide) ?_
            show jEv _ _ _ _ _ _ _ (_, [(2, 42), (0, a1), (0, a2), (0, a3), (0, a4)], [(0, 0)], _, _, _)
            refine ev_ifeq f320_20 (fun c60990 => ?_) (fun c60990 => absurd c60990 (by omega))
            refine ev_iconst ?_
            exact ev_ret rfl (by decide) (by decide) ⟨_, rfl, by omega, by omega, g, k0⟩
          · refine ev_iconst ?_
            refine ev_goto f242_15 ?_
            refine ev_ret rfl (by decide) (by decide) ?_
            show jEv _ _ _ _ _ _ _ (_, [(2, 42), (0, a1), (0, a2)], [(0, 1)], _, _, _)
            refine ev_ifeq f262_28 (fun c60991 => absurd c60991 (by omega)) (fun c60991 => ?_)
            refine ev_iconst ?_
            refine ev_goto f262_29 ?_
            refine ev_ret rfl (by decide) (by decide) ?_
            show jEv _ _ _ _ _ _ _ (_, [(2, 42), (0, a1), (0, a2), (0, a3)], [(0, 1)], _, _, _)
            refine ev_ifeq f278_32 (fun c60992 => absurd c60992 (by omega)) (fun c60992 => ?_)
            refine ev_aload_n rfl ?_
            refine g_getp (r := 42) (c := 49) g ad42 (by decide) (by decide) rf42_11 ft12_11 ?_
            refine ev_bipush ?_
            refine ev_iload_n rfl ?_
            refine ev_imul (r := (100 * a1)) (by unfold w32; omega) ?_
            refine ev_iload_n rfl ?_
            refine ev_iadd (r := (100 * a1 + a2)) (by unfold w32; omega) ?_
            refine g_bald g ad49 rt49 (by omega) (by omega) (fun v60993 ev60993 lv60993 uv60993 => ?_)
            refine ev_ifne f278_32 (fun c60994 => ?_) (fun c60994 => ?_)
            · refine ev_iconst ?_
              refine ev_goto f278_71 ?_
              refine ev_ret rfl (by decide) (by decide) ?_
              show jEv _ _ _ _ _ _ _ (_, [(2, 42), (0, a1), (0, a2), (0, a3), (0, a4)], [(0, 0)], _, _, _)
              refine ev_ifeq f320_20 (fun c60995 => ?_) (fun c60995 => absurd c60995 (by omega))
              refine ev_iconst ?_
              exact ev_ret rfl (by decide) (by decide) ⟨_, rfl, by omega, by omega, g, k0⟩
            · refine ev_iconst ?_
              refine ev_goto f278_71 ?_
              refine ev_ret rfl (by decide) (by decide) ?_
              show jEv _ _ _ _ _ _ _ (_, [(2, 42), (0, a1), (0, a2), (0, a3), (0, a4)], [(0, 1)], _, _, _)
              refine ev_ifeq f320_20 (fun c60996 => absurd c60996 (by omega)) (fun c60996 => ?_)
              refine ev_iload rfl ?_
              refine ev_iconst ?_
              refine ev_iconst ?_
              refine ev_in (d := 205) (a := 0) (b := 0) (cd' := c242_0) (m := 3) (L0 := [(0, a4), (0, 0), (0, 1)]) (jcall_s (A := [(0, 1), (0, 0), (0, a4)]) (S' := []) (by decide) rfl (Nat.le_of_ble_eq_true rfl)) (by decide) ml242 pp242 (Nat.le_of_ble_eq_true rfl) rfl (by decide) (by decide) ?_
              refine ev_iload_n rfl ?_
              refine ev_iload_n rfl ?_
              refine ev_icmplt f242_14 (fun c60997 => ?_) (fun c60997 => ?_)
              · refine ev_iconst ?_
                refine ev_ret rfl (by decide) (by decide) ?_
                show jEv _ _ _ _ _ _ _ (_, [(2, 42), (0, a1), (0, a2), (0, a3), (0, a4)], [(0, 0)], _, _, _)
                refine ev_ifne f320_22 (fun c60998 => absurd c60998 (by omega)) (fun c60998 => ?_)
                refine ev_iconst ?_
                exact ev_ret rfl (by decide) (by decide) ⟨_, rfl, by omega, by omega, g, k0⟩
              · refine ev_iload_n rfl ?_
                refine ev_iload_n rfl ?_
                refine ev_icmpgt f242_14 (fun c60999 => ?_) (fun c60999 => ?_)
                · refine ev_iconst ?_
                  refine ev_ret rfl (by decide) (by decide) ?_
                  show jEv _ _ _ _ _ _ _ (_, [(2, 42), (0, a1), (0, a2), (0, a3), (0, a4)], [(0, 0)], _, _, _)
                  refine ev_ifne f320_22 (fun c61000 => absurd c61000 (by omega)) (fun c61000 => ?_)
                  refine ev_iconst ?_
                  exact ev_ret rfl (by decide) (by decide) ⟨_, rfl, by omega, by omega, g, k0⟩
                · refine ev_iconst ?_
                  refine ev_goto f242_15 ?_
                  refine ev_ret rfl (by decide) (by decide) ?_
                  show jEv _ _ _ _ _ _ _ (_, [(2, 42), (0, a1), (0, a2), (0, a3), (0, a4)], [(0, 1)], _, _, _)
                  refine ev_ifne f320_22 (fun c61001 => ?_) (fun c61001 => absurd c61001 (by omega))
                  refine ev_aload_n rfl ?_
                  refine ev_call (jcall_v (A := []) (S' := []) (r := 42) rfl (g.lt ad42) (g.tg ad42) (Nat.le_of_ble_eq_true rfl)) (jOk_le (by decide) (s253 g )) (by decide) (by decide) (fun w61002 h61002 q61002 => ?_)
                  obtain ⟨v61003, rfl, lv61003, uv61003, g61002, kk61002⟩ := q61002
                  have k61002 := k0.tr kk61002 (by decide)
                  show jEv _ _ _ _ _ _ _ (_, [(2, 42), (0, a1), (0, a2), (0, a3), (0, a4)], [(1, v61003)], _, _, _)
                  refine ev_lconst ?_
                  refine ev_lcmp ?_
                  refine ev_ifge f320_34 (fun c61004 => ?_) (fun c61004 => ?_)
                  · have c61004b := jcmpL_ge c61004
                    refine ev_iload_n rfl ?_
                    refine ev_ifge f320_55 (fun c61005 => absurd c61005 (by omega)) (fun c61005 => ?_)
                    refine ev_aload_n rfl ?_
                    refine ev_iload_n rfl ?_
                    refine ev_iconst ?_
                    refine ev_bipush ?_
                    refine ev_iload_n rfl ?_
                    refine ev_imul (r := (100 * a1)) (by unfold w32; omega) ?_
                    refine ev_iload_n rfl ?_
                    refine ev_iadd (r := (100 * a1 + a2)) (by unfold w32; omega) ?_
                    refine ev_iload rfl ?_
                    refine ev_call (jcall_v (A := [(0, a4), (0, (100 * a1 + a2)), (0, 0), (0, a1)]) (S' := []) (r := 42) rfl (g61002.lt ad42) (g61002.tg ad42) (Nat.le_of_ble_eq_true rfl)) (jOk_le (by decide) (s318_e g61002 (by omega) (by omega) (by omega) (by omega) (by omega) (by omega) (((kk61002.v (by decide)).trans ev60972)) (by omega) (by omega) (((kk61002.v rfl).trans ev60982)) (by omega) (by omega) (by omega) (by rw [(((kk61002.v rfl).trans ev60993))]; omega))) (by decide) (by decide) (fun w61006 h61006 q61006 => ?_)
                    obtain ⟨v61007, rfl, lv61007, uv61007, g61006, kk61006⟩ := q61006
                    have k61006 := k61002.tr kk61006 (by decide)
                    show jEv _ _ _ _ _ _ _ (_, [(2, 42), (0, a1), (0, a2), (0, a3), (0, a4)], [(0, v61007)], _, _, _)
                    refine ev_goto f320_73 ?_
                    exact ev_ret rfl (by decide) (by decide) ⟨_, rfl, by omega, by omega, g61006, k61006⟩
                  · have c61004b := jcmpL_geN c61004
                    refine ev_bipush ?_
                    exact ev_ret rfl (by decide) (by decide) ⟨_, rfl, by omega, by omega, g61002, k61002⟩
set_option maxHeartbeats 4000000 in
theorem s321_l {G : GH} {h : JH} {a1 : Int} (la1 : (-2147483648) ≤ a1) (ua1 : a1 ≤ 2147483647) : ∀ N : Nat, (∀ (h1 : JH) (x2 x3 x4 y0 y1 : Int) (j5 j6 : AV), Gd G h1 → Kp [(46, 0), (47, 0), (42, 6), (42, 9), (42, 37), (42, 38), (42, 39), (42, 40), (64, 0), (65, 0), (50, 0)] h h1 → 0 ≤ a1 → a1 ≤ 5 → (-2) ≤ x2 → x2 ≤ 99 → 0 ≤ x3 → x3 ≤ 40 → 0 ≤ x4 → x4 ≤ 100 → (a1 + (-y0)) ≤ (-1) → h1.2.2 42 9 = y0 → 0 ≤ y0 → y0 ≤ 6 → h1.2.2 48 (a1).toNat = y1 → 1 ≤ y1 → y1 ≤ 100 → ((-6) * x4 + 603) < N → jEv (jOk 206) none (fun _ => 0) c321_0 0 0 (PI G [(46, 0), (47, 0), (42, 6), (42, 9), (42, 37), (42, 38), (42, 39), (42, 40), (64, 0), (65, 0), (50, 0)] h 0 (-4) 99) (c321_30, [(2, 42), (0, a1), (0, x2), (0, x3), (0, x4), j5, j6], [], h1, 0, 0)) ∧ (∀ (h1 : JH) (x2 x3 x4 x5 y0 y1 y2 : Int) (j6 : AV), Gd G h1 → Kp [(46, 0), (47, 0), (42, 6), (42, 9), (42, 37), (42, 38), (42, 39), (42, 40), (64, 0), (65, 0), (50, 0)] h h1 → 0 ≤ a1 → a1 ≤ 5 → (-2) ≤ x2 → x2 ≤ 99 → 0 ≤ x3 → x3 ≤ 40 → 0 ≤ x4 → x4 ≤ 99 → 0 ≤ x5 → x5 ≤ 2 → (a1 + (-y0)) ≤ (-1) → (x4 + (-y1)) ≤ (-1) → h1.2.2 42 9 = y0 → 0 ≤ y0 → y0 ≤ 6 → h1.2.2 48 (a1).toNat = y1 → 1 ≤ y1 → y1 ≤ 100 → h1.2.2 49 ((100 * a1 + x4)).toNat = y2 → 0 ≤ y2 → y2 ≤ 0 → ((-6) * x4 + (-x5) + 602) < N → jEv (jOk 206) none (fun _ => 0) c321_0 0 0 (PI G [(46, 0), (47, 0), (42, 6), (42, 9), (42, 37), (42, 38), (42, 39), (42, 40), (64, 0), (65, 0), (50, 0)] h 0 (-4) 99) (c321_62, [(2, 42), (0, a1), (0, x2), (0, x3), (0, x4), (0, x5), j6], [], h1, 0, 0)) := by
  intro N
  induction N with
  | zero => exact ⟨fun h1 x2 x3 x4 y0 y1 j5 j6 g1 k1 b0 b1 b2 b3 b4 b5 b6 b7 b8 b9 b10 b11 b12 b13 b14 hm => absurd hm (by omega), fun h1 x2 x3 x4 x5 y0 y1 y2 j6 g1 k1 b0 b1 b2 b3 b4 b5 b6 b7 b8 b9 b10 b11 b12 b13 b14 b15 b16 b17 b18 b19 b20 hm => absurd hm (by omega)⟩
  | succ N ih =>
    refine ⟨?_, ?_⟩
    · intro h1 x2 x3 x4 y0 y1 j5 j6 g1 k1 b0 b1 b2 b3 b4 b5 b6 b7 b8 ey0 ly0 uy0 ey1 ly1 uy1 hm
      refine ev_iload rfl ?_
      refine ev_aload_n rfl ?_
      refine g_getp (r := 42) (c := 48) g1 ad42 (by decide) (by decide) rf42_10 ft12_10 ?_
      refine ev_iload_n rfl ?_
      refine g_ialdv (v := y1) g1 ad48 (by omega) (by omega) (ey1) ?_
      refine ev_icmpge f321_121 (fun c61171 => ?_) (fun c61171 => ?_)
      · refine ev_iload_n rfl ?_
        exact ev_ret rfl (by decide) (by decide) ⟨_, rfl, by omega, by omega, g1, k1⟩
      · refine ev_aload_n rfl ?_
        refine g_getp (r := 42) (c := 49) g1 ad42 (by decide) (by decide) rf42_11 ft12_11 ?_
        refine ev_bipush ?_
        refine ev_iload_n rfl ?_
        refine ev_imul (r := (100 * a1)) (by unfold w32; omega) ?_
        refine ev_iload rfl ?_
        refine ev_iadd (r := (100 * a1 + x4)) (by unfold w32; omega) ?_
        refine g_bald g1 ad49 rt49 (by omega) (by omega) (fun v61172 ev61172 lv61172 uv61172 => ?_)
        refine ev_ifeq f321_59 (fun c61173 => ?_) (fun c61173 => ?_)
        · refine ev_iconst ?_
          refine ev_istore (L' := [(2, 42), (0, a1), (0, x2), (0, x3), (0, x4), (0, 0), j6]) (Nat.le_of_ble_eq_true rfl) rfl ?_
          exact ih.2 _ _ _ _ _ _ _ _ _ g1 k1 (by omega) (by omega) (by omega) (by omega) (by omega) (by omega) (by omega) (by omega) (by omega) (by omega) (by omega) (by omega) (ey0) (by omega) (by omega) (ey1) (by omega) (by omega) (ev61172) (by omega) (by omega) (by omega)
        · refine ev_goto f321_115 ?_
          refine ev_iinc (w := (x4 + 1)) (L' := [(2, 42), (0, a1), (0, x2), (0, x3), (0, (x4 + 1)), j5, j6]) rfl (by unfold w32; omega) rfl ?_
          refine ev_goto f321_30 ?_
          exact ih.1 _ _ _ _ _ _ _ _ g1 k1 (by omega) (by omega) (by omega) (by omega) (by omega) (by omega) (by omega) (by omega) (by omega) (ey0) (by omega) (by omega) (ey1) (by omega) (by omega) (by omega)
    · intro h1 x2 x3 x4 x5 y0 y1 y2 j6 g1 k1 b0 b1 b2 b3 b4 b5 b6 b7 b8 b9 b10 b11 ey0 ly0 uy0 ey1 ly1 uy1 ey2 ly2 uy2 hm
      refine ev_iload rfl ?_
      refine ev_iconst ?_
      refine ev_icmpge f321_115 (fun c61174 => ?_) (fun c61174 => ?_)
      · refine ev_iinc (w := (x4 + 1)) (L' := [(2, 42), (0, a1), (0, x2), (0, x3), (0, (x4 + 1)), (0, x5), j6]) rfl (by unfold w32; omega) rfl ?_
        refine ev_goto f321_30 ?_
        exact ih.1 _ _ _ _ _ _ _ _ g1 k1 (by omega) (by omega) (by omega) (by omega) (by omega) (by omega) (by omega) (by omega) (by omega) (ey0) (by omega) (by omega) (ey1) (by omega) (by omega) (by omega)
      · refine ev_aload_n rfl ?_
        refine ev_iload_n rfl ?_
        refine ev_iconst ?_
        refine ev_bipush ?_
        refine ev_iload_n rfl ?_
        refine ev_imul (r := (100 * a1)) (by unfold w32; omega) ?_
        refine ev_iload rfl ?_
        refine ev_iadd (r := (100 * a1 + x4)) (by unfold w32; omega) ?_
        refine ev_iload rfl ?_
        refine ev_call (jcall_v (A := [(0, x5), (0, (100 * a1 + x4)), (0, 0), (0, a1)]) (S' := []) (r := 42) rfl (g1.lt ad42) (g1.tg ad42) (Nat.le_of_ble_eq_true rfl)) (jOk_le (by decide) (s318_e g1 (by omega) (by omega) (by omega) (by omega) (by omega) (by omega) (ey0) (by omega) (by omega) (ey1) (by omega) (by omega) (by omega) (by rw [(ey2)]; omega))) (by decide) (by decide) (fun w61175 h61175 q61175 => ?_)
        obtain ⟨v61176, rfl, lv61176, uv61176, g61175, kk61175⟩ := q61175
        have k61175 := k1.tr kk61175 (by decide)
        show jEv _ _ _ _ _ _ _ (_, [(2, 42), (0, a1), (0, x2), (0, x3), (0, x4), (0, x5), j6], [(0, v61176)], _, _, _)
        refine ev_istore (L' := [(2, 42), (0, a1), (0, x2), (0, x3), (0, x4), (0, x5), (0, v61176)]) (Nat.le_of_ble_eq_true rfl) rfl ?_
        refine ev_iload rfl ?_
        refine ev_iflt f321_109 (fun c61177 => ?_) (fun c61177 => ?_)
        · refine ev_iinc (w := (x5 + 1)) (L' := [(2, 42), (0, a1), (0, x2), (0, x3), (0, x4), (0, (x5 + 1)), (0, v61176)]) rfl (by unfold w32; omega) rfl ?_
          refine ev_goto f321_62 ?_
          exact ih.2 _ _ _ _ _ _ _ _ _ g61175 k61175 (by omega) (by omega) (by omega) (by omega) (by omega) (by omega) (by omega) (by omega) (by omega) (by omega) (by omega) (by omega) (((kk61175.v (by decide)).trans ey0)) (by omega) (by omega) (((kk61175.v rfl).trans ey1)) (by omega) (by omega) (((kk61175.v rfl).trans ey2)) (by omega) (by omega) (by omega)
        · refine ev_iload_n rfl ?_
          refine ev_iflt f321_103 (fun c61178 => ?_) (fun c61178 => ?_)
          · refine ev_iload rfl ?_
            refine ev_istore_n (L' := [(2, 42), (0, a1), (0, x4), (0, x3), (0, x4), (0, x5), (0, v61176)]) (Nat.le_of_ble_eq_true rfl) rfl ?_
            refine ev_iload rfl ?_
            refine ev_istore_n (L' := [(2, 42), (0, a1), (0, x4), (0, v61176), (0, x4), (0, x5), (0, v61176)]) (Nat.le_of_ble_eq_true rfl) rfl ?_
            refine ev_iinc (w := (x5 + 1)) (L' := [(2, 42), (0, a1), (0, x4), (0, v61176), (0, x4), (0, (x5 + 1)), (0, v61176)]) rfl (by unfold w32; omega) rfl ?_
            refine ev_goto f321_62 ?_
            exact ih.2 _ _ _ _ _ _ _ _ _ g61175 k61175 (by omega) (by omega) (by omega) (by omega) (by omega) (by omega) (by omega) (by omega) (by omega) (by omega) (by omega) (by omega) (((kk61175.v (by decide)).trans ey0)) (by omega) (by omega) (((kk61175.v rfl).trans ey1)) (by omega) (by omega) (((kk61175.v rfl).trans ey2)) (by omega) (by omega) (by omega)
          · refine ev_iload rfl ?_
            refine ev_iload_n rfl ?_
            refine ev_icmplt f321_103 (fun c61179 => ?_) (fun c61179 => ?_)
            · refine ev_iload rfl ?_
              refine ev_istore_n (L' := [(2, 42), (0, a1), (0, x4), (0, x3), (0, x4), (0, x5), (0, v61176)]) (Nat.le_of_ble_eq_true rfl) rfl ?_
              refine ev_iload rfl ?_
              refine ev_istore_n (L' := [(2, 42), (0, a1), (0, x4), (0, v61176), (0, x4), (0, x5), (0, v61176)]) (Nat.le_of_ble_eq_true rfl) rfl ?_
              refine ev_iinc (w := (x5 + 1)) (L' := [(2, 42), (0, a1), (0, x4), (0, v61176), (0, x4), (0, (x5 + 1)), (0, v61176)]) rfl (by unfold w32; omega) rfl ?_
              refine ev_goto f321_62 ?_
              exact ih.2 _ _ _ _ _ _ _ _ _ g61175 k61175 (by omega) (by omega) (by omega) (by omega) (by omega) (by omega) (by omega) (by omega) (by omega) (by omega) (by omega) (by omega) (((kk61175.v (by decide)).trans ey0)) (by omega) (by omega) (((kk61175.v rfl).trans ey1)) (by omega) (by omega) (((kk61175.v rfl).trans ey2)) (by omega) (by omega) (by omega)
            · refine ev_goto f321_109 ?_
              refine ev_iinc (w := (x5 + 1)) (L' := [(2, 42), (0, a1), (0, x2), (0, x3), (0, x4), (0, (x5 + 1)), (0, v61176)]) rfl (by unfold w32; omega) rfl ?_
              refine ev_goto f321_62 ?_
              exact ih.2 _ _ _ _ _ _ _ _ _ g61175 k61175 (by omega) (by omega) (by omega) (by omega) (by omega) (by omega) (by omega) (by omega) (by omega) (by omega) (by omega) (by omega) (((kk61175.v (by decide)).trans ey0)) (by omega) (by omega) (((kk61175.v rfl).trans ey1)) (by omega) (by omega) (((kk61175.v rfl).trans ey2)) (by omega) (by omega) (by omega)
set_option maxHeartbeats 4000000 in
theorem s321 {G : GH} {h : JH} (g : Gd G h) {a1 : Int} (la1 : (-2147483648) ≤ a1) (ua1 : a1 ≤ 2147483647) : jOk 207 0 0 321 [(2, 42), (0, a1)] h (PI G [(46, 0), (47, 0), (42, 6), (42, 9), (42, 37), (42, 38), (42, 39), (42, 40), (64, 0), (65, 0), (50, 0)] h 0 (-4) 99) := by
  refine ⟨by decide, by rw [ml321]; exact Nat.le_of_ble_eq_true rfl, ?_⟩
  rw [ml321, pp321]
  show jEv _ none _ c321_0 0 0 _ (c321_0, [(2, 42), (0, a1), (9, 0), (9, 0), (9, 0), (9, 0), (9, 0)], [], h, 0, 0)
  have k0 := Kp.rf [(46, 0), (47, 0), (42, 6), (42, 9), (42, 37), (42, 38), (42, 39), (42, 40), (64, 0), (65, 0), (50, 0)] h
  refine ev_aload_n rfl ?_
  refine ev_iload_n rfl ?_
  refine ev_in (d := 205) (a := 0) (b := 0) (cd' := c261_0) (m := 2) (L0 := [(2, 42), (0, a1)]) (jcall_v (A := [(0, a1)]) (S' := []) (r := 42) rfl (g.lt ad42) (g.tg ad42) (Nat.le_of_ble_eq_true rfl)) (by decide) ml261 pp261 (Nat.le_of_ble_eq_true rfl) rfl (by decide) (by decide) ?_
  refine ev_iload_n rfl ?_
  refine ev_iconst ?_
  refine ev_aload_n rfl ?_
  obtain ⟨v61180, ev61180, lv61180, uv61180⟩ := g.rd ad42 (show 9 < 66 by decide) rf42_9
  refine g_getv (r := 42) (v := v61180) g ad42 (by decide) ft12_9 ev61180 ?_
  refine ev_iconst ?_
  refine ev_isub (r := (v61180 - 1)) (by unfold w32; omega) ?_
  refine ev_in (d := 204) (a := 0) (b := 0) (cd' := c242_0) (m := 3) (L0 := [(0, a1), (0, 0), (0, (v61180 - 1))]) (jcall_s (A := [(0, (v61180 - 1)), (0, 0), (0, a1)]) (S' := []) (by decide) rfl (Nat.le_of_ble_eq_true rfl)) (by decide) ml242 pp242 (Nat.le_of_ble_eq_true rfl) rfl (by decide) (by decide) ?_
  refine ev_iload_n rfl ?_
  refine ev_iload_n rfl ?_
  refine ev_icmplt f242_14 (fun c61181 => ?_) (fun c61181 => ?_)
  · refine ev_iconst ?_
    refine ev_ret rfl (by decide) (by decide) ?_
    show jEv _ _ _ _ _ _ _ (_, [(2, 42), (0, a1)], [(0, 0)], _, _, _)
    refine ev_ret rfl (by decide) (by decide) ?_
    show jEv _ _ _ _ _ _ _ (_, [(2, 42), (0, a1), (9, 0), (9, 0), (9, 0), (9, 0), (9, 0)], [(0, 0)], _, _, _)
    refine ev_ifne f321_10 (fun c61182 => absurd c61182 (by omega)) (fun c61182 => ?_)
    refine ev_iconst ?_
    exact ev_ret rfl (by decide) (by decide) ⟨_, rfl, by omega, by omega, g, k0⟩
  · refine ev_iload_n rfl ?_
    refine ev_iload_n rfl ?_
    refine ev_icmpgt f242_14 (fun c61183 => ?_) (fun c61183 => ?_)
    · refine ev_iconst ?_
      refine ev_ret rfl (by decide) (by decide) ?_
      show jEv _ _ _ _ _ _ _ (_, [(2, 42), (0, a1)], [(0, 0)], _, _, _)
      refine ev_ret rfl (by decide) (by decide) ?_
      show jEv _ _ _ _ _ _ _ (_, [(2, 42), (0, a1), (9, 0), (9, 0), (9, 0), (9, 0), (9, 0)], [(0, 0)], _, _, _)
      refine ev_ifne f321_10 (fun c61184 => absurd c61184 (by omega)) (fun c61184 => ?_)
      refine ev_iconst ?_
      exact ev_ret rfl (by decide) (by decide) ⟨_, rfl, by omega, by omega, g, k0⟩
    · refine ev_iconst ?_
      refine ev_goto f242_15 ?_
      refine ev_ret rfl (by decide) (by decide) ?_
      show jEv _ _ _ _ _ _ _ (_, [(2, 42), (0, a1)], [(0, 1)], _, _, _)
      refine ev_ret rfl (by decide) (by decide) ?_
      show jEv _ _ _ _ _ _ _ (_, [(2, 42), (0, a1), (9, 0), (9, 0), (9, 0), (9, 0), (9, 0)], [(0, 1)], _, _, _)
      refine ev_ifne f321_10 (fun c61185 => ?_) (fun c61185 => absurd c61185 (by omega))
      refine ev_aload_n rfl ?_
      refine ev_call (jcall_v (A := []) (S' := []) (r := 42) rfl (g.lt ad42) (g.tg ad42) (Nat.le_of_ble_eq_true rfl)) (jOk_le (by decide) (s253 g )) (by decide) (by decide) (fun w61186 h61186 q61186 => ?_)
      obtain ⟨v61187, rfl, lv61187, uv61187, g61186, kk61186⟩ := q61186
      have k61186 := k0.tr kk61186 (by decide)
      show jEv _ _ _ _ _ _ _ (_, [(2, 42), (0, a1), (9, 0), (9, 0), (9, 0), (9, 0), (9, 0)], [(1, v61187)], _, _, _)
      refine ev_lconst ?_
      refine ev_lcmp ?_
      refine ev_ifge f321_22 (fun c61188 => ?_) (fun c61188 => ?_)
      · have c61188b := jcmpL_ge c61188
        refine ev_bipush ?_
        refine ev_istore_n (L' := [(2, 42), (0, a1), (0, (-2)), (9, 0), (9, 0), (9, 0), (9, 0)]) (Nat.le_of_ble_eq_true rfl) rfl ?_
        refine ev_iconst ?_
        refine ev_istore_n (L' := [(2, 42), (0, a1), (0, (-2)), (0, 0), (9, 0), (9, 0), (9, 0)]) (Nat.le_of_ble_eq_true rfl) rfl ?_
        refine ev_iconst ?_
        refine ev_istore (L' := [(2, 42), (0, a1), (0, (-2)), (0, 0), (0, 0), (9, 0), (9, 0)]) (Nat.le_of_ble_eq_true rfl) rfl ?_
        obtain ⟨v61189, ev61189, lv61189, uv61189⟩ := g61186.rd ad48 (show (a1).toNat < 7 by omega) (rt48 _)
        have zv61189 := g61186.n48 (q := a1) (by omega) (by rw [(((kk61186.v (by decide)).trans ev61180))]; omega) ev61189
        exact (s321_l la1 ua1 1212).1 _ _ _ _ _ _ _ _ g61186 k61186 (by omega) (by omega) (by omega) (by omega) (by omega) (by omega) (by omega) (by omega) (by omega) (((kk61186.v (by decide)).trans ev61180)) (by omega) (by omega) ev61189 (by omega) (by omega) (by omega)
      · have c61188b := jcmpL_geN c61188
        refine ev_bipush ?_
        exact ev_ret rfl (by decide) (by decide) ⟨_, rfl, by omega, by omega, g61186, k61186⟩
set_option maxHeartbeats 4000000 in
theorem s323_l {G : GH} {h : JH} {a1 : Int} (la1 : 0 ≤ a1) (ua1 : a1 ≤ 3) {a2 : Int} (la2 : 1 ≤ a2) (ua2 : a2 ≤ 99) {a3 : Int} (la3 : 1 ≤ a3) (ua3 : a3 ≤ 99) {w0 : Int} (ew0 : h.2.2 42 1 = w0) (lw0 : 0 ≤ w0) (uw0 : w0 ≤ 4) (F0 : (a1 + (-w0)) ≤ (-1)) : ∀ N : Nat, (∀ (h1 : JH) (x4 x5 x6 : Int), Gd G h1 → Kp [(45, 0)] h h1 → 0 ≤ a1 → a1 ≤ 3 → 1 ≤ a2 → a2 ≤ 99 → 1 ≤ a3 → a3 ≤ 99 → 1 ≤ x4 → x4 ≤ 99 → 0 ≤ x5 → x5 ≤ 1 → 1 ≤ x6 → x6 ≤ 100 → ((-x6) + 100) < N → jEv (jOk 3) none (fun _ => 0) c323_0 0 0 (PI G [(45, 0)] h 0 0 1) (c323_17, [(2, 42), (0, a1), (0, a2), (0, a3), (0, x4), (0, x5), (0, x6)], [], h1, 0, 0)) := by
  intro N
  induction N with
  | zero => exact fun h1 x4 x5 x6 g1 k1 b0 b1 b2 b3 b4 b5 b6 b7 b8 b9 b10 b11 hm => absurd hm (by omega)
  | succ N ih =>
    show _
    intro h1 x4 x5 x6 g1 k1 b0 b1 b2 b3 b4 b5 b6 b7 b8 b9 b10 b11 hm
    refine ev_iload rfl ?_
    refine ev_iload_n rfl ?_
    refine ev_icmpgt f323_61 (fun c61215 => ?_) (fun c61215 => ?_)
    · refine ev_aload_n rfl ?_
      refine g_getp (r := 42) (c := 45) g1 ad42 (by decide) (by decide) rf42_4 ft12_4 ?_
      refine ev_bipush ?_
      refine ev_iload_n rfl ?_
      refine ev_imul (r := (9 * a1)) (by unfold w32; omega) ?_
      refine ev_iload rfl ?_
      refine ev_iastG (r := 45) (j := ((9 * a1)).toNat) (g1.lt ad45) (g1.tg ad45) (by omega) (by rw [g1.ln ad45]; omega) (fun h61216 e61216 => ?_)
      have g61216 := g1.s45 e61216 (by omega) (by omega)
      have k61216 := k1.wr e61216 rfl
      refine ev_iload rfl ?_
      exact ev_ret (jret_b (by omega)) (by decide) (by decide) ⟨_, rfl, by omega, by omega, g61216, k61216⟩
    · refine ev_iload rfl ?_
      refine ev_ifeq f323_61 (fun c61217 => ?_) (fun c61217 => ?_)
      · refine ev_aload_n rfl ?_
        refine g_getp (r := 42) (c := 45) g1 ad42 (by decide) (by decide) rf42_4 ft12_4 ?_
        refine ev_bipush ?_
        refine ev_iload_n rfl ?_
        refine ev_imul (r := (9 * a1)) (by unfold w32; omega) ?_
        refine ev_iload rfl ?_
        refine ev_iastG (r := 45) (j := ((9 * a1)).toNat) (g1.lt ad45) (g1.tg ad45) (by omega) (by rw [g1.ln ad45]; omega) (fun h61218 e61218 => ?_)
        have g61218 := g1.s45 e61218 (by omega) (by omega)
        have k61218 := k1.wr e61218 rfl
        refine ev_iload rfl ?_
        exact ev_ret (jret_b (by omega)) (by decide) (by decide) ⟨_, rfl, by omega, by omega, g61218, k61218⟩
      · refine ev_aload_n rfl ?_
        refine g_getp (r := 42) (c := 45) g1 ad42 (by decide) (by decide) rf42_4 ft12_4 ?_
        refine ev_bipush ?_
        refine ev_iload_n rfl ?_
        refine ev_imul (r := (9 * a1)) (by unfold w32; omega) ?_
        refine ev_iload rfl ?_
        refine ev_iastG (r := 45) (j := ((9 * a1)).toNat) (g1.lt ad45) (g1.tg ad45) (by omega) (by rw [g1.ln ad45]; omega) (fun h61219 e61219 => ?_)
        have g61219 := g1.s45 e61219 (by omega) (by omega)
        have k61219 := k1.wr e61219 rfl
        refine ev_aload_n rfl ?_
        refine ev_call (jcall_v (A := []) (S' := []) (r := 42) rfl (g61219.lt ad42) (g61219.tg ad42) (Nat.le_of_ble_eq_true rfl)) (jOk_le (by decide) (s253 g61219 )) (by decide) (by decide) (fun w61220 h61220 q61220 => ?_)
        obtain ⟨v61221, rfl, lv61221, uv61221, g61220, kk61220⟩ := q61220
        have k61220 := k61219.tr kk61220 (by decide)
        show jEv _ _ _ _ _ _ _ (_, [(2, 42), (0, a1), (0, a2), (0, a3), (0, x4), (0, x5), (0, x6)], [(1, v61221)], _, _, _)
        refine ev_lconst ?_
        refine ev_lcmp ?_
        refine ev_ifle f323_52 (fun c61222 => ?_) (fun c61222 => ?_)
        · have c61222b := jcmpL_le c61222
          refine ev_iconst ?_
          refine ev_istore (L' := [(2, 42), (0, a1), (0, a2), (0, a3), (0, x4), (0, 0), (0, x6)]) (Nat.le_of_ble_eq_true rfl) rfl ?_
          refine ev_iinc (w := (x6 + 1)) (L' := [(2, 42), (0, a1), (0, a2), (0, a3), (0, x4), (0, 0), (0, (x6 + 1))]) rfl (by unfold w32; omega) rfl ?_
          refine ev_goto f323_17 ?_
          exact ih _ _ _ _ g61220 k61220 (by omega) (by omega) (by omega) (by omega) (by omega) (by omega) (by omega) (by omega) (by omega) (by omega) (by omega) (by omega) (by omega)
        · have c61222b := jcmpL_leN c61222
          refine ev_iconst ?_
          refine ev_goto f323_53 ?_
          refine ev_istore (L' := [(2, 42), (0, a1), (0, a2), (0, a3), (0, x4), (0, 1), (0, x6)]) (Nat.le_of_ble_eq_true rfl) rfl ?_
          refine ev_iinc (w := (x6 + 1)) (L' := [(2, 42), (0, a1), (0, a2), (0, a3), (0, x4), (0, 1), (0, (x6 + 1))]) rfl (by unfold w32; omega) rfl ?_
          refine ev_goto f323_17 ?_
          exact ih _ _ _ _ g61220 k61220 (by omega) (by omega) (by omega) (by omega) (by omega) (by omega) (by omega) (by omega) (by omega) (by omega) (by omega) (by omega) (by omega)
set_option maxHeartbeats 4000000 in
theorem s323 {G : GH} {h : JH} (g : Gd G h) {a1 : Int} (la1 : 0 ≤ a1) (ua1 : a1 ≤ 3) {a2 : Int} (la2 : 1 ≤ a2) (ua2 : a2 ≤ 99) {a3 : Int} (la3 : 1 ≤ a3) (ua3 : a3 ≤ 99) {w0 : Int} (ew0 : h.2.2 42 1 = w0) (lw0 : 0 ≤ w0) (uw0 : w0 ≤ 4) (F0 : (a1 + (-w0)) ≤ (-1)) : jOk 4 0 0 323 [(2, 42), (0, a1), (0, a2), (0, a3)] h (PI G [(45, 0)] h 0 0 1) := by
  refine ⟨by decide, by rw [ml323]; exact Nat.le_of_ble_eq_true rfl, ?_⟩
  rw [ml323, pp323]
  show jEv _ none _ c323_0 0 0 _ (c323_0, [(2, 42), (0, a1), (0, a2), (0, a3), (9, 0), (9, 0), (9, 0)], [], h, 0, 0)
  have k0 := Kp.rf [(45, 0)] h
  refine ev_aload_n rfl ?_
  refine g_getp (r := 42) (c := 45) g ad42 (by decide) (by decide) rf42_4 ft12_4 ?_
  refine ev_bipush ?_
  refine ev_iload_n rfl ?_
  refine ev_imul (r := (9 * a1)) (by unfold w32; omega) ?_
  refine g_iald g ad45 rt45 (by omega) (by omega) (fun v61223 ev61223 lv61223 uv61223 => ?_)
  have xv61223 := (g.ex.2.2.1 ((9 * a1) : Int).toNat (by rw [(ew0)]; omega))
  rw [ev61223] at xv61223
  refine ev_istore (L' := [(2, 42), (0, a1), (0, a2), (0, a3), (0, v61223), (9, 0), (9, 0)]) (Nat.le_of_ble_eq_true rfl) rfl ?_
  refine ev_iconst ?_
  refine ev_istore (L' := [(2, 42), (0, a1), (0, a2), (0, a3), (0, v61223), (0, 1), (9, 0)]) (Nat.le_of_ble_eq_true rfl) rfl ?_
  refine ev_iload_n rfl ?_
  refine ev_istore (L' := [(2, 42), (0, a1), (0, a2), (0, a3), (0, v61223), (0, 1), (0, a2)]) (Nat.le_of_ble_eq_true rfl) rfl ?_
  exact (s323_l la1 ua1 la2 ua2 la3 ua3 ew0 lw0 uw0 F0 200) _ _ _ _ g k0 (by omega) (by omega) (by omega) (by omega) (by omega) (by omega) (by omega) (by omega) (by omega) (by omega) (by omega) (by omega) (by omega)
set_option maxHeartbeats 4000000 in
theorem s324_l {G : GH} {h : JH} {a1 : Int} (la1 : 0 ≤ a1) (ua1 : a1 ≤ 5) {a2 : Int} (la2 : 0 ≤ a2) (ua2 : a2 ≤ 3) {a3 : Int} (la3 : 1 ≤ a3) (ua3 : a3 ≤ 99) {a4 : Int} (la4 : 1 ≤ a4) (ua4 : a4 ≤ 99) {w0 : Int} (ew0 : h.2.2 42 9 = w0) (lw0 : 0 ≤ w0) (uw0 : w0 ≤ 6) {w1 : Int} (ew1 : h.2.2 48 (a1).toNat = w1) (lw1 : 1 ≤ w1) (uw1 : w1 ≤ 100) {w2 : Int} (ew2 : h.2.2 42 1 = w2) (lw2 : 0 ≤ w2) (uw2 : w2 ≤ 4) (F0 : (a1 + (-w0)) ≤ (-1)) (F1 : (a2 + (-w2)) ≤ (-1)) : ∀ N : Nat, (∀ (h1 : JH) (x5 x6 x7 : Int), Gd G h1 → Kp [(46, 0), (47, 0), (42, 6), (42, 9), (42, 37), (42, 38), (42, 39), (42, 40), (64, 0), (65, 0), (45, 0)] h h1 → 0 ≤ a1 → a1 ≤ 5 → 0 ≤ a2 → a2 ≤ 3 → 1 ≤ a3 → a3 ≤ 99 → 1 ≤ a4 → a4 ≤ 99 → 1 ≤ x5 → x5 ≤ 99 → (-2147483648) ≤ x6 → x6 ≤ 2147483647 → 1 ≤ x7 → x7 ≤ 100 → ((-x7) + 100) < N → jEv (jOk 204) none (fun _ => 0) c324_0 0 0 (PI G [(46, 0), (47, 0), (42, 6), (42, 9), (42, 37), (42, 38), (42, 39), (42, 40), (64, 0), (65, 0), (45, 0)] h 0 (-2147483648) 2147483647) (c324_17, [(2, 42), (0, a1), (0, a2), (0, a3), (0, a4), (0, x5), (0, x6), (0, x7)], [], h1, 0, 0)) := by
  intro N
  induction N with
  | zero => exact fun h1 x5 x6 x7 g1 k1 b0 b1 b2 b3 b4 b5 b6 b7 b8 b9 b10 b11 b12 b13 hm => absurd hm (by omega)
  | succ N ih =>
    show _
    intro h1 x5 x6 x7 g1 k1 b0 b1 b2 b3 b4 b5 b6 b7 b8 b9 b10 b11 b12 b13 hm
    refine ev_iload rfl ?_
    refine ev_iload rfl ?_
    refine ev_icmpgt f324_76 (fun c61979 => ?_) (fun c61979 => ?_)
    · refine ev_aload_n rfl ?_
      refine g_getp (r := 42) (c := 45) g1 ad42 (by decide) (by decide) rf42_4 ft12_4 ?_
      refine ev_bipush ?_
      refine ev_iload_n rfl ?_
      refine ev_imul (r := (9 * a2)) (by unfold w32; omega) ?_
      refine ev_iload rfl ?_
      refine ev_iastG (r := 45) (j := ((9 * a2)).toNat) (g1.lt ad45) (g1.tg ad45) (by omega) (by rw [g1.ln ad45]; omega) (fun h61980 e61980 => ?_)
      have g61980 := g1.s45 e61980 (by omega) (by omega)
      have k61980 := k1.wr e61980 rfl
      refine ev_iload rfl ?_
      exact ev_ret rfl (by decide) (by decide) ⟨_, rfl, by omega, by omega, g61980, k61980⟩
    · refine ev_aload_n rfl ?_
      refine g_getp (r := 42) (c := 45) g1 ad42 (by decide) (by decide) rf42_4 ft12_4 ?_
      refine ev_bipush ?_
      refine ev_iload_n rfl ?_
      refine ev_imul (r := (9 * a2)) (by unfold w32; omega) ?_
      refine ev_iload rfl ?_
      refine ev_iastG (r := 45) (j := ((9 * a2)).toNat) (g1.lt ad45) (g1.tg ad45) (by omega) (by rw [g1.ln ad45]; omega) (fun h61981 e61981 => ?_)
      have g61981 := g1.s45 e61981 (by omega) (by omega)
      have k61981 := k1.wr e61981 rfl
      refine ev_aload_n rfl ?_
      refine ev_call (jcall_v (A := []) (S' := []) (r := 42) rfl (g61981.lt ad42) (g61981.tg ad42) (Nat.le_of_ble_eq_true rfl)) (jOk_le (by decide) (s256 g61981 )) (by decide) (by decide) (fun w61982 h61982 q61982 => ?_)
      obtain ⟨v61983, rfl, lv61983, uv61983, g61982, kk61982⟩ := q61982
      have k61982 := k61981.tr kk61982 (by decide)
      show jEv _ _ _ _ _ _ _ (_, [(2, 42), (0, a1), (0, a2), (0, a3), (0, a4), (0, x5), (0, x6), (0, x7)], [(0, v61983)], _, _, _)
      refine ev_pop (by decide) ?_
      refine ev_iload rfl ?_
      refine ev_aload_n rfl ?_
      refine ev_iload_n rfl ?_
      refine ev_iconst ?_
      refine ev_iconst ?_
      refine ev_iconst ?_
      refine ev_call (jcall_v (A := [(0, 1), (0, 0), (0, 0), (0, a1)]) (S' := [(0, x6)]) (r := 42) rfl (g61982.lt ad42) (g61982.tg ad42) (Nat.le_of_ble_eq_true rfl)) (jOk_le (by decide) (s298 g61982 (by omega) (by omega) (by omega) (by omega) (by omega) (by omega) (by omega) (by omega) (((kk61982.v (by decide)).trans ((jw_ne e61981 (Or.inl (by decide))).trans ((k1.v (by decide)).trans ew0)))) (by omega) (by omega) (((kk61982.v rfl).trans ((jw_ne e61981 (Or.inl (by decide))).trans ((k1.v rfl).trans ew1)))) (by omega) (by omega) (by omega))) (by decide) (by decide) (fun w61984 h61984 q61984 => ?_)
      obtain ⟨q61984, qn61984, bk61984⟩ := q61984
      obtain ⟨v61985, rfl, lv61985, uv61985, g61984, kk61984⟩ := q61984
      have k61984 := k61982.tr kk61984 (by decide)
      show jEv _ _ _ _ _ _ _ (_, [(2, 42), (0, a1), (0, a2), (0, a3), (0, a4), (0, x5), (0, x6), (0, x7)], [(1, v61985), (0, x6)], _, _, _)
      refine ev_aload_n rfl ?_
      refine ev_iload_n rfl ?_
      refine ev_iconst ?_
      refine ev_iconst ?_
      refine ev_iconst ?_
      refine ev_call (jcall_v (A := [(0, 0), (0, 0), (0, 0), (0, a1)]) (S' := [(1, v61985), (0, x6)]) (r := 42) rfl (g61984.lt ad42) (g61984.tg ad42) (Nat.le_of_ble_eq_true rfl)) (jOk_le (by decide) (s298 g61984 (by omega) (by omega) (by omega) (by omega) (by omega) (by omega) (by omega) (by omega) (((kk61984.v (by decide)).trans ((kk61982.v (by decide)).trans ((jw_ne e61981 (Or.inl (by decide))).trans ((k1.v (by decide)).trans ew0))))) (by omega) (by omega) (((kk61984.v rfl).trans ((kk61982.v rfl).trans ((jw_ne e61981 (Or.inl (by decide))).trans ((k1.v rfl).trans ew1))))) (by omega) (by omega) (by omega))) (by decide) (by decide) (fun w61986 h61986 q61986 => ?_)
      obtain ⟨q61986, qn61986, bk61986⟩ := q61986
      obtain ⟨v61987, rfl, lv61987, uv61987, g61986, kk61986⟩ := q61986
      have k61986 := k61984.tr kk61986 (by decide)
      show jEv _ _ _ _ _ _ _ (_, [(2, 42), (0, a1), (0, a2), (0, a3), (0, a4), (0, x5), (0, x6), (0, x7)], [(1, v61987), (1, v61985), (0, x6)], _, _, _)
      refine ev_lcmp ?_
      refine ev_ifne f324_66 (fun c61988 => ?_) (fun c61988 => ?_)
      · have c61988b := jcmpL_ne c61988
        refine ev_iconst ?_
        refine ev_iadd (r := x6) (by unfold w32; omega) ?_
        refine ev_istore (L' := [(2, 42), (0, a1), (0, a2), (0, a3), (0, a4), (0, x5), (0, x6), (0, x7)]) (Nat.le_of_ble_eq_true rfl) rfl ?_
        refine ev_iinc (w := (x7 + 1)) (L' := [(2, 42), (0, a1), (0, a2), (0, a3), (0, a4), (0, x5), (0, x6), (0, (x7 + 1))]) rfl (by unfold w32; omega) rfl ?_
        refine ev_goto f324_17 ?_
        exact ih _ _ _ _ g61986 k61986 (by omega) (by omega) (by omega) (by omega) (by omega) (by omega) (by omega) (by omega) (by omega) (by omega) (by omega) (by omega) (by omega) (by omega) (by omega)
      · have c61988b := jcmpL_neN c61988
        refine ev_iconst ?_
        refine ev_goto f324_67 ?_
        refine g_iaddG (fun v61989 ev61989 lv61989 uv61989 => ?_)
        refine ev_istore (L' := [(2, 42), (0, a1), (0, a2), (0, a3), (0, a4), (0, x5), (0, v61989), (0, x7)]) (Nat.le_of_ble_eq_true rfl) rfl ?_
        refine ev_iinc (w := (x7 + 1)) (L' := [(2, 42), (0, a1), (0, a2), (0, a3), (0, a4), (0, x5), (0, v61989), (0, (x7 + 1))]) rfl (by unfold w32; omega) rfl ?_
        refine ev_goto f324_17 ?_
        exact ih _ _ _ _ g61986 k61986 (by omega) (by omega) (by omega) (by omega) (by omega) (by omega) (by omega) (by omega) (by omega) (by omega) (by omega) (by omega) (by omega) (by omega) (by omega)
set_option maxHeartbeats 4000000 in
theorem s324 {G : GH} {h : JH} (g : Gd G h) {a1 : Int} (la1 : 0 ≤ a1) (ua1 : a1 ≤ 5) {a2 : Int} (la2 : 0 ≤ a2) (ua2 : a2 ≤ 3) {a3 : Int} (la3 : 1 ≤ a3) (ua3 : a3 ≤ 99) {a4 : Int} (la4 : 1 ≤ a4) (ua4 : a4 ≤ 99) {w0 : Int} (ew0 : h.2.2 42 9 = w0) (lw0 : 0 ≤ w0) (uw0 : w0 ≤ 6) {w1 : Int} (ew1 : h.2.2 48 (a1).toNat = w1) (lw1 : 1 ≤ w1) (uw1 : w1 ≤ 100) {w2 : Int} (ew2 : h.2.2 42 1 = w2) (lw2 : 0 ≤ w2) (uw2 : w2 ≤ 4) (F0 : (a1 + (-w0)) ≤ (-1)) (F1 : (a2 + (-w2)) ≤ (-1)) : jOk 205 0 0 324 [(2, 42), (0, a1), (0, a2), (0, a3), (0, a4)] h (PI G [(46, 0), (47, 0), (42, 6), (42, 9), (42, 37), (42, 38), (42, 39), (42, 40), (64, 0), (65, 0), (45, 0)] h 0 (-2147483648) 2147483647) := by
  refine ⟨by decide, by rw [ml324]; exact Nat.le_of_ble_eq_true rfl, ?_⟩
  rw [ml324, pp324]
  show jEv _ none _ c324_0 0 0 _ (c324_0, [(2, 42), (0, a1), (0, a2), (0, a3), (0, a4), (9, 0), (9, 0), (9, 0)], [], h, 0, 0)
  have k0 := Kp.rf [(46, 0), (47, 0), (42, 6), (42, 9), (42, 37), (42, 38), (42, 39), (42, 40), (64, 0), (65, 0), (45, 0)] h
  refine ev_aload_n rfl ?_
  refine g_getp (r := 42) (c := 45) g ad42 (by decide) (by decide) rf42_4 ft12_4 ?_
  refine ev_bipush ?_
  refine ev_iload_n rfl ?_
  refine ev_imul (r := (9 * a2)) (by unfold w32; omega) ?_
  refine g_iald g ad45 rt45 (by omega) (by omega) (fun v61990 ev61990 lv61990 uv61990 => ?_)
  have xv61990 := (g.ex.2.2.1 ((9 * a2) : Int).toNat (by rw [(ew2)]; omega))
  rw [ev61990] at xv61990
  refine ev_istore (L' := [(2, 42), (0, a1), (0, a2), (0, a3), (0, a4), (0, v61990), (9, 0), (9, 0)]) (Nat.le_of_ble_eq_true rfl) rfl ?_
  refine ev_iconst ?_
  refine ev_istore (L' := [(2, 42), (0, a1), (0, a2), (0, a3), (0, a4), (0, v61990), (0, 0), (9, 0)]) (Nat.le_of_ble_eq_true rfl) rfl ?_
  refine ev_iload_n rfl ?_
  refine ev_istore (L' := [(2, 42), (0, a1), (0, a2), (0, a3), (0, a4), (0, v61990), (0, 0), (0, a3)]) (Nat.le_of_ble_eq_true rfl) rfl ?_
  exact (s324_l la1 ua1 la2 ua2 la3 ua3 la4 ua4 ew0 lw0 uw0 ew1 lw1 uw1 ew2 lw2 uw2 F0 F1 200) _ _ _ _ g k0 (by omega) (by omega) (by omega) (by omega) (by omega) (by omega) (by omega) (by omega) (by omega) (by omega) (by omega) (by omega) (by omega) (by omega) (by omega)
