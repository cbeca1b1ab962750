def dyF (k o c p : Int) : Int := if 0 ≤ k ∧ k ≤ 19 ∧ 0 ≤ o ∧ o ≤ 999 ∧ 0 ≤ c ∧ c ≤ 100 ∧ 0 ≤ p ∧ p ≤ 99 then 1 else -1
set_option maxHeartbeats 4000000 in
theorem t206 {G : GH} {h : JH} (g : Gd G h) {a1 : Int} (la1 : (-2147483648) ≤ a1) (ua1 : a1 ≤ 2147483647) {a2 : Int} (la2 : (-2147483648) ≤ a2) (ua2 : a2 ≤ 2147483647) {a3 : Int} (la3 : (-2147483648) ≤ a3) (ua3 : a3 ≤ 2147483647) {a4 : Int} (la4 : (-2147483648) ≤ a4) (ua4 : a4 ≤ 2147483647) : jOk 2 0 0 206 [(2, 0), (0, a1), (0, a2), (0, a3), (0, a4)] h (fun v h' => ∃ r : Int, v = some (0, r) ∧ Gd G h' ∧ Kp [(34, 0), (35, 0), (36, 0)] h h' ∧ r = dyF a1 a2 a3 a4) := by
  refine ⟨by decide, by rw [ml206]; exact Nat.le_of_ble_eq_true rfl, ?_⟩
  rw [ml206, pp206]
  show jEv _ none _ c206_0 0 0 _ (c206_0, [(2, 0), (0, a1), (0, a2), (0, a3), (0, a4)], [], h, 0, 0)
  have k0 := Kp.rf [(34, 0), (35, 0), (36, 0)] h
  refine ev_iload_n rfl ?_
  refine ev_iflt f206_20 (fun c75142 => ?_) (fun c75142 => ?_)
  · refine ev_iconst ?_
    exact ev_ret rfl (by decide) (by decide) ⟨_, rfl, g, k0, by unfold dyF; (repeat' split) <;> omega⟩
  · refine ev_iload_n rfl ?_
    refine ev_bipush ?_
    refine ev_icmpge f206_20 (fun c75143 => ?_) (fun c75143 => ?_)
    · refine ev_iconst ?_
      exact ev_ret rfl (by decide) (by decide) ⟨_, rfl, g, k0, by unfold dyF; (repeat' split) <;> omega⟩
    · refine ev_iload_n rfl ?_
      refine ev_iload_n rfl ?_
      refine ev_iload rfl ?_
      refine ev_in (d := 0) (a := 0) (b := 0) (cd' := c134_0) (m := 3) (L0 := [(0, a2), (0, a3), (0, a4)]) (jcall_s (A := [(0, a4), (0, a3), (0, a2)]) (S' := []) (by decide) rfl (Nat.le_of_ble_eq_true rfl)) (by decide) ml134 pp134 (Nat.le_of_ble_eq_true rfl) rfl (by decide) (by decide) ?_
      refine ev_iload_n rfl ?_
      refine ev_iflt f134_35 (fun c75144 => ?_) (fun c75144 => ?_)
      · refine ev_iconst ?_
        refine ev_ret rfl (by decide) (by decide) ?_
        show jEv _ _ _ _ _ _ _ (_, [(2, 0), (0, a1), (0, a2), (0, a3), (0, a4)], [(0, 0)], _, _, _)
        refine ev_ifne f206_22 (fun c75145 => absurd c75145 (by omega)) (fun c75145 => ?_)
        refine ev_iconst ?_
        exact ev_ret rfl (by decide) (by decide) ⟨_, rfl, g, k0, by unfold dyF; (repeat' split) <;> omega⟩
      · refine ev_iload_n rfl ?_
        refine ev_sipush ?_
        refine ev_icmpgt f134_35 (fun c75146 => ?_) (fun c75146 => ?_)
        · refine ev_iconst ?_
          refine ev_ret rfl (by decide) (by decide) ?_
          show jEv _ _ _ _ _ _ _ (_, [(2, 0), (0, a1), (0, a2), (0, a3), (0, a4)], [(0, 0)], _, _, _)
          refine ev_ifne f206_22 (fun c75147 => absurd c75147 (by omega)) (fun c75147 => ?_)
          refine ev_iconst ?_
          exact ev_ret rfl (by decide) (by decide) ⟨_, rfl, g, k0, by unfold dyF; (repeat' split) <;> omega⟩
        · refine ev_iload_n rfl ?_
          refine ev_iflt f134_35 (fun c75148 => ?_) (fun c75148 => ?_)
          · refine ev_iconst ?_
            refine ev_ret rfl (by decide) (by decide) ?_
            show jEv _ _ _ _ _ _ _ (_, [(2, 0), (0, a1), (0, a2), (0, a3), (0, a4)], [(0, 0)], _, _, _)
            refine ev_ifne f206_22 (fun c75149 => absurd c75149 (by omega)) (fun c75149 => ?_)
            refine ev_iconst ?_
            exact ev_ret rfl (by decide) (by decide) ⟨_, rfl, g, k0, by unfold dyF; (repeat' split) <;> omega⟩
          · refine ev_iload_n rfl ?_
            refine ev_bipush ?_
            refine ev_icmpgt f134_35 (fun c75150 => ?_) (fun c75150 => ?_)
            · refine ev_iconst ?_
              refine ev_ret rfl (by decide) (by decide) ?_
              show jEv _ _ _ _ _ _ _ (_, [(2, 0), (0, a1), (0, a2), (0, a3), (0, a4)], [(0, 0)], _, _, _)
              refine ev_ifne f206_22 (fun c75151 => absurd c75151 (by omega)) (fun c75151 => ?_)
              refine ev_iconst ?_
              exact ev_ret rfl (by decide) (by decide) ⟨_, rfl, g, k0, by unfold dyF; (repeat' split) <;> omega⟩
            · refine ev_iload_n rfl ?_
              refine ev_iflt f134_35 (fun c75152 => ?_) (fun c75152 => ?_)
              · refine ev_iconst ?_
                refine ev_ret rfl (by decide) (by decide) ?_
                show jEv _ _ _ _ _ _ _ (_, [(2, 0), (0, a1), (0, a2), (0, a3), (0, a4)], [(0, 0)], _, _, _)
                refine ev_ifne f206_22 (fun c75153 => absurd c75153 (by omega)) (fun c75153 => ?_)
                refine ev_iconst ?_
                exact ev_ret rfl (by decide) (by decide) ⟨_, rfl, g, k0, by unfold dyF; (repeat' split) <;> omega⟩
              · refine ev_iload_n rfl ?_
                refine ev_bipush ?_
                refine ev_icmpgt f134_35 (fun c75154 => ?_) (fun c75154 => ?_)
                · refine ev_iconst ?_
                  refine ev_ret rfl (by decide) (by decide) ?_
                  show jEv _ _ _ _ _ _ _ (_, [(2, 0), (0, a1), (0, a2), (0, a3), (0, a4)], [(0, 0)], _, _, _)
                  refine ev_ifne f206_22 (fun c75155 => absurd c75155 (by omega)) (fun c75155 => ?_)
                  refine ev_iconst ?_
                  exact ev_ret rfl (by decide) (by decide) ⟨_, rfl, g, k0, by unfold dyF; (repeat' split) <;> omega⟩
                · refine ev_iconst ?_
                  refine ev_goto f134_36 ?_
                  refine ev_ret rfl (by decide) (by decide) ?_
                  show jEv _ _ _ _ _ _ _ (_, [(2, 0), (0, a1), (0, a2), (0, a3), (0, a4)], [(0, 1)], _, _, _)
                  refine ev_ifne f206_22 (fun c75156 => ?_) (fun c75156 => absurd c75156 (by omega))
                  refine ev_aload_n rfl ?_
                  refine g_getp (r := 0) (c := 26) g ad0 (by decide) (by decide) rf0_11 ft11_11 ?_
                  refine ev_iload_n rfl ?_
                  refine ev_iload_n rfl ?_
                  refine ev_iload_n rfl ?_
                  refine ev_iload rfl ?_
                  refine ev_in (d := 0) (a := 0) (b := 0) (cd' := c135_0) (m := 5) (L0 := [(2, 26), (0, a1), (0, a2), (0, a3), (0, a4)]) (jcall_v (A := [(0, a4), (0, a3), (0, a2), (0, a1)]) (S' := []) (r := 26) rfl (g.lt ad26) (g.tg ad26) (Nat.le_of_ble_eq_true rfl)) (by decide) ml135 pp135 (Nat.le_of_ble_eq_true rfl) rfl (by decide) (by decide) ?_
                  refine ev_iload_n rfl ?_
                  refine ev_iflt f135_32 (fun c75157 => absurd c75157 (by omega)) (fun c75157 => ?_)
                  refine ev_iload_n rfl ?_
                  refine ev_bipush ?_
                  refine ev_icmpge f135_32 (fun c75158 => absurd c75158 (by omega)) (fun c75158 => ?_)
                  refine ev_aload_n rfl ?_
                  refine g_getp (r := 26) (c := 34) g ad26 (by decide) (by decide) rf26_12 ft9_12 ?_
                  refine ev_iload_n rfl ?_
                  refine ev_iload_n rfl ?_
                  refine g_iast g ad34 rt34 (fun _ => rfl) (by omega) (by omega) (by omega) (by omega) (fun h75159 e75159 g75159 => ?_)
                  have k75159 := k0.wr e75159 rfl
                  refine ev_aload_n rfl ?_
                  refine g_getp (r := 26) (c := 35) g75159 ad26 (by decide) (by decide) rf26_13 ft9_13 ?_
                  refine ev_iload_n rfl ?_
                  refine ev_iload_n rfl ?_
                  refine g_iast g75159 ad35 rt35 (fun _ => rfl) (by omega) (by omega) (by omega) (by omega) (fun h75160 e75160 g75160 => ?_)
                  have k75160 := k75159.wr e75160 rfl
                  refine ev_aload_n rfl ?_
                  refine g_getp (r := 26) (c := 36) g75160 ad26 (by decide) (by decide) rf26_14 ft9_14 ?_
                  refine ev_iload_n rfl ?_
                  refine ev_iload rfl ?_
                  refine g_iast g75160 ad36 rt36 (fun _ => rfl) (by omega) (by omega) (by omega) (by omega) (fun h75161 e75161 g75161 => ?_)
                  have k75161 := k75160.wr e75161 rfl
                  refine ev_ret rfl (by decide) (by decide) ?_
                  show jEv _ _ _ _ _ _ _ (_, [(2, 0), (0, a1), (0, a2), (0, a3), (0, a4)], [], _, _, _)
                  refine ev_iconst ?_
                  exact ev_ret rfl (by decide) (by decide) ⟨_, rfl, g75161, k75161, by unfold dyF; (repeat' split) <;> omega⟩
set_option maxHeartbeats 4000000 in
theorem t351 {G : GH} {h : JH} (g : Gd G h) {a1 : Int} (la1 : (-2147483648) ≤ a1) (ua1 : a1 ≤ 2147483647) {a2 : Int} (la2 : (-2147483648) ≤ a2) (ua2 : a2 ≤ 2147483647) {a3 : Int} (la3 : (-2147483648) ≤ a3) (ua3 : a3 ≤ 2147483647) {a4 : Int} (la4 : (-2147483648) ≤ a4) (ua4 : a4 ≤ 2147483647) : jOk 3 0 0 351 [(2, 42), (0, a1), (0, a2), (0, a3), (0, a4)] h (fun v h' => ∃ r : Int, v = some (0, r) ∧ Gd G h' ∧ Kp [(74, 0), (75, 0), (76, 0)] h h' ∧ r = dyF a1 a2 a3 a4) := by
  refine ⟨by decide, by rw [ml351]; exact Nat.le_of_ble_eq_true rfl, ?_⟩
  rw [ml351, pp351]
  show jEv _ none _ c351_0 0 0 _ (c351_0, [(2, 42), (0, a1), (0, a2), (0, a3), (0, a4)], [], h, 0, 0)
  have k0 := Kp.rf [(74, 0), (75, 0), (76, 0)] h
  refine ev_iload_n rfl ?_
  refine ev_iconst ?_
  refine ev_bipush ?_
  refine ev_in (d := 1) (a := 0) (b := 0) (cd' := c242_0) (m := 3) (L0 := [(0, a1), (0, 0), (0, 19)]) (jcall_s (A := [(0, 19), (0, 0), (0, a1)]) (S' := []) (by decide) rfl (Nat.le_of_ble_eq_true rfl)) (by decide) ml242 pp242 (Nat.le_of_ble_eq_true rfl) rfl (by decide) (by decide) ?_
  refine ev_iload_n rfl ?_
  refine ev_iload_n rfl ?_
  refine ev_icmplt f242_14 (fun c75222 => ?_) (fun c75222 => ?_)
  · refine ev_iconst ?_
    refine ev_ret rfl (by decide) (by decide) ?_
    show jEv _ _ _ _ _ _ _ (_, [(2, 42), (0, a1), (0, a2), (0, a3), (0, a4)], [(0, 0)], _, _, _)
    refine ev_ifeq f351_20 (fun c75223 => ?_) (fun c75223 => absurd c75223 (by omega))
    refine ev_iconst ?_
    exact ev_ret rfl (by decide) (by decide) ⟨_, rfl, g, k0, by unfold dyF; (repeat' split) <;> omega⟩
  · refine ev_iload_n rfl ?_
    refine ev_iload_n rfl ?_
    refine ev_icmpgt f242_14 (fun c75224 => ?_) (fun c75224 => ?_)
    · refine ev_iconst ?_
      refine ev_ret rfl (by decide) (by decide) ?_
      show jEv _ _ _ _ _ _ _ (_, [(2, 42), (0, a1), (0, a2), (0, a3), (0, a4)], [(0, 0)], _, _, _)
      refine ev_ifeq f351_20 (fun c75225 => ?_) (fun c75225 => absurd c75225 (by omega))
      refine ev_iconst ?_
      exact ev_ret rfl (by decide) (by decide) ⟨_, rfl, g, k0, by unfold dyF; (repeat' split) <;> omega⟩
    · refine ev_iconst ?_
      refine ev_goto f242_15 ?_
      refine ev_ret rfl (by decide) (by decide) ?_
      show jEv _ _ _ _ _ _ _ (_, [(2, 42), (0, a1), (0, a2), (0, a3), (0, a4)], [(0, 1)], _, _, _)
      refine ev_ifeq f351_20 (fun c75226 => absurd c75226 (by omega)) (fun c75226 => ?_)
      refine ev_iload_n rfl ?_
      refine ev_iload_n rfl ?_
      refine ev_iload rfl ?_
      refine ev_in (d := 1) (a := 0) (b := 0) (cd' := c350_0) (m := 3) (L0 := [(0, a2), (0, a3), (0, a4)]) (jcall_s (A := [(0, a4), (0, a3), (0, a2)]) (S' := []) (by decide) rfl (Nat.le_of_ble_eq_true rfl)) (by decide) ml350 pp350 (Nat.le_of_ble_eq_true rfl) rfl (by decide) (by decide) ?_
      refine ev_iload_n rfl ?_
      refine ev_iconst ?_
      refine ev_sipush ?_
      refine ev_in (d := 0) (a := 0) (b := 0) (cd' := c242_0) (m := 3) (L0 := [(0, a2), (0, 0), (0, 999)]) (jcall_s (A := [(0, 999), (0, 0), (0, a2)]) (S' := []) (by decide) rfl (Nat.le_of_ble_eq_true rfl)) (by decide) ml242 pp242 (Nat.le_of_ble_eq_true rfl) rfl (by decide) (by decide) ?_
      refine ev_iload_n rfl ?_
      refine ev_iload_n rfl ?_
      refine ev_icmplt f242_14 (fun c75227 => ?_) (fun c75227 => ?_)
      · refine ev_iconst ?_
        refine ev_ret rfl (by decide) (by decide) ?_
        show jEv _ _ _ _ _ _ _ (_, [(0, a2), (0, a3), (0, a4)], [(0, 0)], _, _, _)
        refine ev_ifeq f350_35 (fun c75228 => ?_) (fun c75228 => absurd c75228 (by omega))
        refine ev_iconst ?_
        refine ev_ret rfl (by decide) (by decide) ?_
        show jEv _ _ _ _ _ _ _ (_, [(2, 42), (0, a1), (0, a2), (0, a3), (0, a4)], [(0, 0)], _, _, _)
        refine ev_ifne f351_22 (fun c75229 => absurd c75229 (by omega)) (fun c75229 => ?_)
        refine ev_iconst ?_
        exact ev_ret rfl (by decide) (by decide) ⟨_, rfl, g, k0, by unfold dyF; (repeat' split) <;> omega⟩
      · refine ev_iload_n rfl ?_
        refine ev_iload_n rfl ?_
        refine ev_icmpgt f242_14 (fun c75230 => ?_) (fun c75230 => ?_)
        · refine ev_iconst ?_
          refine ev_ret rfl (by decide) (by decide) ?_
          show jEv _ _ _ _ _ _ _ (_, [(0, a2), (0, a3), (0, a4)], [(0, 0)], _, _, _)
          refine ev_ifeq f350_35 (fun c75231 => ?_) (fun c75231 => absurd c75231 (by omega))
          refine ev_iconst ?_
          refine ev_ret rfl (by decide) (by decide) ?_
          show jEv _ _ _ _ _ _ _ (_, [(2, 42), (0, a1), (0, a2), (0, a3), (0, a4)], [(0, 0)], _, _, _)
          refine ev_ifne f351_22 (fun c75232 => absurd c75232 (by omega)) (fun c75232 => ?_)
          refine ev_iconst ?_
          exact ev_ret rfl (by decide) (by decide) ⟨_, rfl, g, k0, by unfold dyF; (repeat' split) <;> omega⟩
        · refine ev_iconst ?_
          refine ev_goto f242_15 ?_
          refine ev_ret rfl (by decide) (by decide) ?_
          show jEv _ _ _ _ _ _ _ (_, [(0, a2), (0, a3), (0, a4)], [(0, 1)], _, _, _)
          refine ev_ifeq f350_35 (fun c75233 => absurd c75233 (by omega)) (fun c75233 => ?_)
          refine ev_iload_n rfl ?_
          refine ev_iconst ?_
          refine ev_bipush ?_
          refine ev_in (d := 0) (a := 0) (b := 0) (cd' := c242_0) (m := 3) (L0 := [(0, a3), (0, 0), (0, 100)]) (jcall_s (A := [(0, 100), (0, 0), (0, a3)]) (S' := []) (by decide) rfl (Nat.le_of_ble_eq_true rfl)) (by decide) ml242 pp242 (Nat.le_of_ble_eq_true rfl) rfl (by decide) (by decide) ?_
          refine ev_iload_n rfl ?_
          refine ev_iload_n rfl ?_
          refine ev_icmplt f242_14 (fun c75234 => ?_) (fun c75234 => ?_)
          · refine ev_iconst ?_
            refine ev_ret rfl (by decide) (by decide) ?_
            show jEv _ _ _ _ _ _ _ (_, [(0, a2), (0, a3), (0, a4)], [(0, 0)], _, _, _)
            refine ev_ifeq f350_35 (fun c75235 => ?_) (fun c75235 => absurd c75235 (by omega))
            refine ev_iconst ?_
            refine ev_ret rfl (by decide) (by decide) ?_
            show jEv _ _ _ _ _ _ _ (_, [(2, 42), (0, a1), (0, a2), (0, a3), (0, a4)], [(0, 0)], _, _, _)
            refine ev_ifne f351_22 (fun c75236 => absurd c75236 (by omega)) (fun c75236 => ?_)
            refine ev_iconst ?_
            exact ev_ret rfl (by decide) (by decide) ⟨_, rfl, g, k0, by unfold dyF; (repeat' split) <;> omega⟩
          · refine ev_iload_n rfl ?_
            refine ev_iload_n rfl ?_
            refine ev_icmpgt f242_14 (fun c75237 => ?_) (fun c75237 => ?_)
            · refine ev_iconst ?_
              refine ev_ret rfl (by decide) (by decide) ?_
              show jEv _ _ _ _ _ _ _ (_, [(0, a2), (0, a3), (0, a4)], [(0, 0)], _, _, _)
              refine ev_ifeq f350_35 (fun c75238 => ?_) (fun c75238 => absurd c75238 (by omega))
              refine ev_iconst ?_
              refine ev_ret rfl (by decide) (by decide) ?_
              show jEv _ _ _ _ _ _ _ (_, [(2, 42), (0, a1), (0, a2), (0, a3), (0, a4)], [(0, 0)], _, _, _)
              refine ev_ifne f351_22 (fun c75239 => absurd c75239 (by omega)) (fun c75239 => ?_)
              refine ev_iconst ?_
              exact ev_ret rfl (by decide) (by decide) ⟨_, rfl, g, k0, by unfold dyF; (repeat' split) <;> omega⟩
            · refine ev_iconst ?_
              refine ev_goto f242_15 ?_
              refine ev_ret rfl (by decide) (by decide) ?_
              show jEv _ _ _ _ _ _ _ (_, [(0, a2), (0, a3), (0, a4)], [(0, 1)], _, _, _)
              refine ev_ifeq f350_35 (fun c75240 => absurd c75240 (by omega)) (fun c75240 => ?_)
              refine ev_iload_n rfl ?_
              refine ev_iconst ?_
              refine ev_bipush ?_
              refine ev_in (d := 0) (a := 0) (b := 0) (cd' := c242_0) (m := 3) (L0 := [(0, a4), (0, 0), (0, 99)]) (jcall_s (A := [(0, 99), (0, 0), (0, a4)]) (S' := []) (by decide) rfl (Nat.le_of_ble_eq_true rfl)) (by decide) ml242 pp242 (Nat.le_of_ble_eq_true rfl) rfl (by decide) (by decide) ?_
              refine ev_iload_n rfl ?_
              refine ev_iload_n rfl ?_
              refine ev_icmplt f242_14 (fun c75241 => ?_) (fun c75241 => ?_)
              · refine ev_iconst ?_
                refine ev_ret rfl (by decide) (by decide) ?_
                show jEv _ _ _ _ _ _ _ (_, [(0, a2), (0, a3), (0, a4)], [(0, 0)], _, _, _)
                refine ev_ifeq f350_35 (fun c75242 => ?_) (fun c75242 => absurd c75242 (by omega))
                refine ev_iconst ?_
                refine ev_ret rfl (by decide) (by decide) ?_
                show jEv _ _ _ _ _ _ _ (_, [(2, 42), (0, a1), (0, a2), (0, a3), (0, a4)], [(0, 0)], _, _, _)
                refine ev_ifne f351_22 (fun c75243 => absurd c75243 (by omega)) (fun c75243 => ?_)
                refine ev_iconst ?_
                exact ev_ret rfl (by decide) (by decide) ⟨_, rfl, g, k0, by unfold dyF; (repeat' split) <;> omega⟩
              · refine ev_iload_n rfl ?_
                refine ev_iload_n rfl ?_
                refine ev_icmpgt f242_14 (fun c75244 => ?_) (fun c75244 => ?_)
                · refine ev_iconst ?_
                  refine ev_ret rfl (by decide) (by decide) ?_
                  show jEv _ _ _ _ _ _ _ (_, [(0, a2), (0, a3), (0, a4)], [(0, 0)], _, _, _)
                  refine ev_ifeq f350_35 (fun c75245 => ?_) (fun c75245 => absurd c75245 (by omega))
                  refine ev_iconst ?_
                  refine ev_ret rfl (by decide) (by decide) ?_
                  show jEv _ _ _ _ _ _ _ (_, [(2, 42), (0, a1), (0, a2), (0, a3), (0, a4)], [(0, 0)], _, _, _)
                  refine ev_ifne f351_22 (fun c75246 => absurd c75246 (by omega)) (fun c75246 => ?_)
                  refine ev_iconst ?_
                  exact ev_ret rfl (by decide) (by decide) ⟨_, rfl, g, k0, by unfold dyF; (repeat' split) <;> omega⟩
                · refine ev_iconst ?_
                  refine ev_goto f242_15 ?_
                  refine ev_ret rfl (by decide) (by decide) ?_
                  show jEv _ _ _ _ _ _ _ (_, [(0, a2), (0, a3), (0, a4)], [(0, 1)], _, _, _)
                  refine ev_ifeq f350_35 (fun c75247 => absurd c75247 (by omega)) (fun c75247 => ?_)
                  refine ev_iconst ?_
                  refine ev_goto f350_36 ?_
                  refine ev_ret rfl (by decide) (by decide) ?_
                  show jEv _ _ _ _ _ _ _ (_, [(2, 42), (0, a1), (0, a2), (0, a3), (0, a4)], [(0, 1)], _, _, _)
                  refine ev_ifne f351_22 (fun c75248 => ?_) (fun c75248 => absurd c75248 (by omega))
                  refine ev_aload_n rfl ?_
                  refine g_getp (r := 42) (c := 74) g ad42 (by decide) (by decide) rf42_56 ft12_56 ?_
                  refine ev_iload_n rfl ?_
                  refine ev_iload_n rfl ?_
                  refine g_iast g ad74 rt74 (fun _ => rfl) (by omega) (by omega) (by omega) (by omega) (fun h75249 e75249 g75249 => ?_)
                  have k75249 := k0.wr e75249 rfl
                  refine ev_aload_n rfl ?_
                  refine g_getp (r := 42) (c := 75) g75249 ad42 (by decide) (by decide) rf42_57 ft12_57 ?_
                  refine ev_iload_n rfl ?_
                  refine ev_iload_n rfl ?_
                  refine g_iast g75249 ad75 rt75 (fun _ => rfl) (by omega) (by omega) (by omega) (by omega) (fun h75250 e75250 g75250 => ?_)
                  have k75250 := k75249.wr e75250 rfl
                  refine ev_aload_n rfl ?_
                  refine g_getp (r := 42) (c := 76) g75250 ad42 (by decide) (by decide) rf42_58 ft12_58 ?_
                  refine ev_iload_n rfl ?_
                  refine ev_iload rfl ?_
                  refine g_iast g75250 ad76 rt76 (fun _ => rfl) (by omega) (by omega) (by omega) (by omega) (fun h75251 e75251 g75251 => ?_)
                  have k75251 := k75250.wr e75251 rfl
                  refine ev_iconst ?_
                  exact ev_ret rfl (by decide) (by decide) ⟨_, rfl, g75251, k75251, by unfold dyF; (repeat' split) <;> omega⟩
theorem jn11 : jN 11 = 17 := by decide +kernel
theorem jn12 : jN 12 = 66 := by decide +kernel
theorem ml384 : jML jnM = 4 := by decide +kernel
theorem pp384 : jP jnM = c384_0 := rfl
set_option maxRecDepth 100000 in
theorem jlawN : jchkN jnM = true := by decide +kernel
set_option maxRecDepth 100000 in
theorem f384_18 : jfind c384_0 18 = some c384_18 := rfl
set_option maxRecDepth 100000 in
theorem f384_260 : jfind c384_0 260 = some c384_260 := rfl
set_option maxRecDepth 100000 in
theorem f384_283 : jfind c384_0 283 = some c384_283 := rfl
set_option maxRecDepth 100000 in
theorem f384_316 : jfind c384_0 316 = some c384_316 := rfl
set_option maxRecDepth 100000 in
theorem f384_369 : jfind c384_0 369 = some c384_369 := rfl
set_option maxRecDepth 100000 in
theorem f384_382 : jfind c384_0 382 = some c384_382 := rfl
set_option maxRecDepth 100000 in
theorem f384_405 : jfind c384_0 405 = some c384_405 := rfl
set_option maxRecDepth 100000 in
theorem f384_448 : jfind c384_0 448 = some c384_448 := rfl
set_option maxRecDepth 100000 in
theorem f384_481 : jfind c384_0 481 = some c384_481 := rfl
set_option maxRecDepth 100000 in
theorem f384_494 : jfind c384_0 494 = some c384_494 := rfl
set_option maxRecDepth 100000 in
theorem f384_537 : jfind c384_0 537 = some c384_537 := rfl
set_option maxRecDepth 100000 in
theorem f384_590 : jfind c384_0 590 = some c384_590 := rfl
set_option maxRecDepth 100000 in
theorem f384_603 : jfind c384_0 603 = some c384_603 := rfl
set_option maxRecDepth 100000 in
theorem f384_616 : jfind c384_0 616 = some c384_616 := rfl
set_option maxRecDepth 100000 in
theorem f384_649 : jfind c384_0 649 = some c384_649 := rfl
set_option maxRecDepth 100000 in
theorem f384_682 : jfind c384_0 682 = some c384_682 := rfl
set_option maxRecDepth 100000 in
theorem f384_715 : jfind c384_0 715 = some c384_715 := rfl
set_option maxRecDepth 100000 in
theorem f384_758 : jfind c384_0 758 = some c384_758 := rfl
set_option maxRecDepth 100000 in
theorem f384_801 : jfind c384_0 801 = some c384_801 := rfl
set_option maxRecDepth 100000 in
theorem f384_844 : jfind c384_0 844 = some c384_844 := rfl
set_option maxRecDepth 100000 in
theorem f384_877 : jfind c384_0 877 = some c384_877 := rfl
set_option maxRecDepth 100000 in
theorem f384_930 : jfind c384_0 930 = some c384_930 := rfl
set_option maxRecDepth 100000 in
theorem f384_963 : jfind c384_0 963 = some c384_963 := rfl
set_option maxRecDepth 100000 in
theorem f384_1006 : jfind c384_0 1006 = some c384_1006 := rfl
set_option maxRecDepth 100000 in
theorem f384_1059 : jfind c384_0 1059 = some c384_1059 := rfl
set_option maxRecDepth 100000 in
theorem f384_1082 : jfind c384_0 1082 = some c384_1082 := rfl
set_option maxRecDepth 100000 in
theorem f384_1125 : jfind c384_0 1125 = some c384_1125 := rfl
set_option maxRecDepth 100000 in
theorem f384_1178 : jfind c384_0 1178 = some c384_1178 := rfl
set_option maxRecDepth 100000 in
theorem f384_1201 : jfind c384_0 1201 = some c384_1201 := rfl
set_option maxRecDepth 100000 in
theorem f384_1254 : jfind c384_0 1254 = some c384_1254 := rfl
set_option maxRecDepth 100000 in
theorem f384_1307 : jfind c384_0 1307 = some c384_1307 := rfl
set_option maxRecDepth 100000 in
theorem f384_1340 : jfind c384_0 1340 = some c384_1340 := rfl
set_option maxRecDepth 100000 in
theorem f384_1383 : jfind c384_0 1383 = some c384_1383 := rfl
set_option maxRecDepth 100000 in
theorem f384_1406 : jfind c384_0 1406 = some c384_1406 := rfl
set_option maxRecDepth 100000 in
theorem f384_1429 : jfind c384_0 1429 = some c384_1429 := rfl
set_option maxRecDepth 100000 in
theorem f384_1452 : jfind c384_0 1452 = some c384_1452 := rfl
set_option maxRecDepth 100000 in
theorem f384_1495 : jfind c384_0 1495 = some c384_1495 := rfl
set_option maxRecDepth 100000 in
theorem f384_1518 : jfind c384_0 1518 = some c384_1518 := rfl
set_option maxRecDepth 100000 in
theorem f384_1551 : jfind c384_0 1551 = some c384_1551 := rfl
set_option maxRecDepth 100000 in
theorem f384_1564 : jfind c384_0 1564 = some c384_1564 := rfl
set_option maxRecDepth 100000 in
theorem f384_1597 : jfind c384_0 1597 = some c384_1597 := rfl
set_option maxRecDepth 100000 in
theorem f384_1630 : jfind c384_0 1630 = some c384_1630 := rfl
set_option maxRecDepth 100000 in
theorem f384_1683 : jfind c384_0 1683 = some c384_1683 := rfl
set_option maxRecDepth 100000 in
theorem f384_1726 : jfind c384_0 1726 = some c384_1726 := rfl
set_option maxRecDepth 100000 in
theorem f384_1769 : jfind c384_0 1769 = some c384_1769 := rfl
set_option maxRecDepth 100000 in
theorem f384_1812 : jfind c384_0 1812 = some c384_1812 := rfl
set_option maxRecDepth 100000 in
theorem f384_1855 : jfind c384_0 1855 = some c384_1855 := rfl
set_option maxRecDepth 100000 in
theorem f384_1878 : jfind c384_0 1878 = some c384_1878 := rfl
set_option maxRecDepth 100000 in
theorem f384_1911 : jfind c384_0 1911 = some c384_1911 := rfl
set_option maxRecDepth 100000 in
theorem f384_1954 : jfind c384_0 1954 = some c384_1954 := rfl
set_option maxRecDepth 100000 in
theorem f384_2027 : jfind c384_0 2027 = some c384_2027 := rfl
set_option maxRecDepth 100000 in
theorem f384_2060 : jfind c384_0 2060 = some c384_2060 := rfl
set_option maxRecDepth 100000 in
theorem f384_2123 : jfind c384_0 2123 = some c384_2123 := rfl
set_option maxRecDepth 100000 in
theorem f384_2156 : jfind c384_0 2156 = some c384_2156 := rfl
set_option maxRecDepth 100000 in
theorem f384_2179 : jfind c384_0 2179 = some c384_2179 := rfl
set_option maxRecDepth 100000 in
theorem f384_2185 : jfind c384_0 2185 = some c384_2185 := rfl
