def soF (w c p n : Int) : Int := if 1 ≤ w ∧ w ≤ 9 ∧ 0 ≤ c ∧ c ≤ 99 ∧ 0 ≤ p ∧ p ≤ 99 then (if n = 3 then -3 else n + 1) else -1
def soG (w c p n : Int) : Int := if 1 ≤ w ∧ w ≤ 9 ∧ 0 ≤ c ∧ c ≤ 99 ∧ 0 ≤ p ∧ p ≤ 99 ∧ n ≠ 3 then n + 1 else n
def Cc : List (Nat × Nat) := [(26, 4), (42, 48)]
def Rl (h : JH) : Prop := h.2.2 26 3 = h.2.2 42 47 ∧ True
theorem Rl.fr {h h' : JH} (x : Rl h) (e : ∀ a i, inW Cc a i = true → h'.2.2 a i = h.2.2 a i) : Rl h' := by
  unfold Rl at x ⊢
  rw [e 26 3 rfl, e 42 47 rfl]
  exact x
def dsj (C W : List (Nat × Nat)) : Bool := C.all (fun c => decide (c.1 < 83) && W.all (fun w => w.1 != c.1 || (w.2 != 0 && c.2 != 0 && w.2 != c.2)))
theorem dsj_at {C W : List (Nat × Nat)} (h : dsj C W = true) {a i : Nat} (hc : inW C a i = true) : a < 83 ∧ inW W a i = false := by
  unfold inW at hc
  obtain ⟨c, hm, hq⟩ := List.any_eq_true.mp hc
  have h1 := List.all_eq_true.mp h c hm
  rw [Bool.and_eq_true, decide_eq_true_eq] at h1
  simp only [Bool.or_eq_true, Bool.and_eq_true, beq_iff_eq, decide_eq_true_eq] at hq
  have ha : a < 83 := by omega
  refine ⟨ha, ?_⟩
  unfold inW
  rw [List.any_eq_false]
  intro w hw hx
  have h2 := List.all_eq_true.mp h1.2 w hw
  simp only [Bool.or_eq_true, Bool.and_eq_true, bne_iff_ne] at h2
  simp only [Bool.or_eq_true, Bool.and_eq_true, beq_iff_eq, decide_eq_true_eq] at hx
  omega
theorem Rl.kp {W : List (Nat × Nat)} {h h' : JH} (x : Rl h) (k : Kp W h h') (hd : dsj Cc W = true) : Rl h' := x.fr (fun a i hc => k.v (dsj_at hd hc).2)
theorem Rl.kx {W : List (Nat × Nat)} {h h' : JH} (x : Rl h) (k : Kx W h h') (hd : dsj Cc W = true) (h83 : 83 ≤ h.1) : Rl h' := x.fr (fun a i hc => k.2.2 a i (Nat.lt_of_lt_of_le (dsj_at hd hc).1 h83) (dsj_at hd hc).2)
set_option maxHeartbeats 4000000 in
theorem t200 {G : GH} {h : JH} (g : Gd G h) {a1 : Int} (la1 : (-2147483648) ≤ a1) (ua1 : a1 ≤ 2147483647) {a2 : Int} (la2 : (-2147483648) ≤ a2) (ua2 : a2 ≤ 2147483647) {a3 : Int} (la3 : (-2147483648) ≤ a3) (ua3 : a3 ≤ 2147483647) {w0 : Int} (ew0 : h.2.2 26 3 = w0) (lw0 : 0 ≤ w0) (uw0 : w0 ≤ 3) : jOk 2 0 0 200 [(2, 0), (0, a1), (0, a2), (0, a3)] h (fun v h' => ∃ r : Int, v = some (0, r) ∧ Gd G h' ∧ Kp [(26, 4), (28, 0), (29, 0), (30, 0)] h h' ∧ r = soF a1 a2 a3 w0 ∧ h'.2.2 26 3 = soG a1 a2 a3 w0) := by
  refine ⟨by decide, by rw [ml200]; exact Nat.le_of_ble_eq_true rfl, ?_⟩
  rw [ml200, pp200]
  show jEv _ none _ c200_0 0 0 _ (c200_0, [(2, 0), (0, a1), (0, a2), (0, a3)], [], h, 0, 0)
  have k0 := Kp.rf [(26, 4), (28, 0), (29, 0), (30, 0)] h
  refine ev_iload_n rfl ?_
  refine ev_iconst ?_
  refine ev_icmplt f200_31 (fun c75124 => ?_) (fun c75124 => ?_)
  · refine ev_iconst ?_
    exact ev_ret rfl (by decide) (by decide) ⟨_, rfl, g, k0, by (try unfold soF); (try unfold soG); (repeat' split) <;> omega, ((ew0)).trans (by (try unfold soF); (try unfold soG); (repeat' split) <;> omega)⟩
  · refine ev_iload_n rfl ?_
    refine ev_bipush ?_
    refine ev_icmpgt f200_31 (fun c75125 => ?_) (fun c75125 => ?_)
    · refine ev_iconst ?_
      exact ev_ret rfl (by decide) (by decide) ⟨_, rfl, g, k0, by (try unfold soF); (try unfold soG); (repeat' split) <;> omega, ((ew0)).trans (by (try unfold soF); (try unfold soG); (repeat' split) <;> omega)⟩
    · refine ev_iload_n rfl ?_
      refine ev_iflt f200_31 (fun c75126 => ?_) (fun c75126 => ?_)
      · refine ev_iconst ?_
        exact ev_ret rfl (by decide) (by decide) ⟨_, rfl, g, k0, by (try unfold soF); (try unfold soG); (repeat' split) <;> omega, ((ew0)).trans (by (try unfold soF); (try unfold soG); (repeat' split) <;> omega)⟩
      · refine ev_iload_n rfl ?_
        refine ev_bipush ?_
        refine ev_icmpgt f200_31 (fun c75127 => ?_) (fun c75127 => ?_)
        · refine ev_iconst ?_
          exact ev_ret rfl (by decide) (by decide) ⟨_, rfl, g, k0, by (try unfold soF); (try unfold soG); (repeat' split) <;> omega, ((ew0)).trans (by (try unfold soF); (try unfold soG); (repeat' split) <;> omega)⟩
        · refine ev_iload_n rfl ?_
          refine ev_iflt f200_31 (fun c75128 => ?_) (fun c75128 => ?_)
          · refine ev_iconst ?_
            exact ev_ret rfl (by decide) (by decide) ⟨_, rfl, g, k0, by (try unfold soF); (try unfold soG); (repeat' split) <;> omega, ((ew0)).trans (by (try unfold soF); (try unfold soG); (repeat' split) <;> omega)⟩
          · refine ev_iload_n rfl ?_
            refine ev_bipush ?_
            refine ev_icmple f200_33 (fun c75129 => ?_) (fun c75129 => ?_)
            · refine ev_aload_n rfl ?_
              refine g_getp (r := 0) (c := 26) g ad0 (by decide) (by decide) rf0_11 ft11_11 ?_
              refine ev_iload_n rfl ?_
              refine ev_iload_n rfl ?_
              refine ev_iload_n rfl ?_
              refine ev_in (d := 0) (a := 0) (b := 0) (cd' := c119_0) (m := 4) (L0 := [(2, 26), (0, a1), (0, a2), (0, a3)]) (jcall_v (A := [(0, a3), (0, a2), (0, a1)]) (S' := []) (r := 26) rfl (g.lt ad26) (g.tg ad26) (Nat.le_of_ble_eq_true rfl)) (by decide) ml119 pp119 (Nat.le_of_ble_eq_true rfl) rfl (by decide) (by decide) ?_
              refine ev_aload_n rfl ?_
              refine g_getv (r := 26) (v := w0) g ad26 (by decide) ft9_3 (ew0) ?_
              refine ev_iconst ?_
              refine ev_icmplt f119_11 (fun c75130 => ?_) (fun c75130 => ?_)
              · refine ev_aload_n rfl ?_
                refine g_getp (r := 26) (c := 28) g ad26 (by decide) (by decide) rf26_4 ft9_4 ?_
                refine ev_aload_n rfl ?_
                refine g_getv (r := 26) (v := w0) g ad26 (by decide) ft9_3 (ew0) ?_
                refine ev_iload_n rfl ?_
                refine g_iast g ad28 rt28 (fun _ => rfl) (by omega) (by omega) (by omega) (by omega) (fun h75131 e75131 g75131 => ?_)
                have k75131 := k0.wr e75131 rfl
                refine ev_aload_n rfl ?_
                refine g_getp (r := 26) (c := 29) g75131 ad26 (by decide) (by decide) rf26_5 ft9_5 ?_
                refine ev_aload_n rfl ?_
                refine g_getv (r := 26) (v := w0) g75131 ad26 (by decide) ft9_3 (((jw_ne e75131 (Or.inl (by decide))).trans ew0)) ?_
                refine ev_iload_n rfl ?_
                refine g_iast g75131 ad29 rt29 (fun _ => rfl) (by omega) (by omega) (by omega) (by omega) (fun h75132 e75132 g75132 => ?_)
                have k75132 := k75131.wr e75132 rfl
                refine ev_aload_n rfl ?_
                refine g_getp (r := 26) (c := 30) g75132 ad26 (by decide) (by decide) rf26_6 ft9_6 ?_
                refine ev_aload_n rfl ?_
                refine g_getv (r := 26) (v := w0) g75132 ad26 (by decide) ft9_3 (((jw_ne e75132 (Or.inl (by decide))).trans ((jw_ne e75131 (Or.inl (by decide))).trans ew0))) ?_
                refine ev_iload_n rfl ?_
                refine g_iast g75132 ad30 rt30 (fun _ => rfl) (by omega) (by omega) (by omega) (by omega) (fun h75133 e75133 g75133 => ?_)
                have k75133 := k75132.wr e75133 rfl
                refine ev_aload_n rfl ?_
                refine ev_dup (by decide) ?_
                refine g_getv (r := 26) (v := w0) g75133 ad26 (by decide) ft9_3 (((jw_ne e75133 (Or.inl (by decide))).trans ((jw_ne e75132 (Or.inl (by decide))).trans ((jw_ne e75131 (Or.inl (by decide))).trans ew0)))) ?_
                refine ev_iconst ?_
                refine ev_iadd (r := (w0 + 1)) (by unfold w32; omega) ?_
                refine g_putf (r := 26) g75133 ad26 (by decide) ft9_3 (by decide) (fun e => absurd e nz9_3) rf26_3 (by decide) (by omega) (by omega) (fun h75134 e75134 g75134 => ?_)
                have k75134 := k75133.wr e75134 rfl
                refine ev_aload_n rfl ?_
                refine g_getv (r := 26) (v := (w0 + 1)) g75134 ad26 (by decide) ft9_3 ((jw_eq e75134)) ?_
                refine ev_ret rfl (by decide) (by decide) ?_
                show jEv _ _ _ _ _ _ _ (_, [(2, 0), (0, a1), (0, a2), (0, a3)], [(0, (w0 + 1))], _, _, _)
                exact ev_ret rfl (by decide) (by decide) ⟨_, rfl, g75134, k75134, by (try unfold soF); (try unfold soG); (repeat' split) <;> omega, (((jw_eq e75134))).trans (by (try unfold soF); (try unfold soG); (repeat' split) <;> omega)⟩
              · refine ev_bipush ?_
                refine ev_ret rfl (by decide) (by decide) ?_
                show jEv _ _ _ _ _ _ _ (_, [(2, 0), (0, a1), (0, a2), (0, a3)], [(0, (-3))], _, _, _)
                exact ev_ret rfl (by decide) (by decide) ⟨_, rfl, g, k0, by (try unfold soF); (try unfold soG); (repeat' split) <;> omega, ((ew0)).trans (by (try unfold soF); (try unfold soG); (repeat' split) <;> omega)⟩
            · refine ev_iconst ?_
              exact ev_ret rfl (by decide) (by decide) ⟨_, rfl, g, k0, by (try unfold soF); (try unfold soG); (repeat' split) <;> omega, ((ew0)).trans (by (try unfold soF); (try unfold soG); (repeat' split) <;> omega)⟩
set_option maxHeartbeats 4000000 in
theorem t339 {G : GH} {h : JH} (g : Gd G h) {a1 : Int} (la1 : (-2147483648) ≤ a1) (ua1 : a1 ≤ 2147483647) {a2 : Int} (la2 : (-2147483648) ≤ a2) (ua2 : a2 ≤ 2147483647) {a3 : Int} (la3 : (-2147483648) ≤ a3) (ua3 : a3 ≤ 2147483647) {w0 : Int} (ew0 : h.2.2 42 47 = w0) (lw0 : 0 ≤ w0) (uw0 : w0 ≤ 3) : jOk 2 0 0 339 [(2, 42), (0, a1), (0, a2), (0, a3)] h (fun v h' => ∃ r : Int, v = some (0, r) ∧ Gd G h' ∧ Kp [(42, 48), (68, 0), (69, 0), (70, 0)] h h' ∧ r = soF a1 a2 a3 w0 ∧ h'.2.2 42 47 = soG a1 a2 a3 w0) := by
  refine ⟨by decide, by rw [ml339]; exact Nat.le_of_ble_eq_true rfl, ?_⟩
  rw [ml339, pp339]
  show jEv _ none _ c339_0 0 0 _ (c339_0, [(2, 42), (0, a1), (0, a2), (0, a3)], [], h, 0, 0)
  have k0 := Kp.rf [(42, 48), (68, 0), (69, 0), (70, 0)] h
  refine ev_iload_n rfl ?_
  refine ev_iconst ?_
  refine ev_bipush ?_
  refine ev_in (d := 0) (a := 0) (b := 0) (cd' := c242_0) (m := 3) (L0 := [(0, a1), (0, 1), (0, 9)]) (jcall_s (A := [(0, 9), (0, 1), (0, a1)]) (S' := []) (by decide) rfl (Nat.le_of_ble_eq_true rfl)) (by decide) ml242 pp242 (Nat.le_of_ble_eq_true rfl) rfl (by decide) (by decide) ?_
  refine ev_iload_n rfl ?_
  refine ev_iload_n rfl ?_
  refine ev_icmplt f242_14 (fun c75175 => ?_) (fun c75175 => ?_)
  · refine ev_iconst ?_
    refine ev_ret rfl (by decide) (by decide) ?_
    show jEv _ _ _ _ _ _ _ (_, [(2, 42), (0, a1), (0, a2), (0, a3)], [(0, 0)], _, _, _)
    refine ev_ifeq f339_30 (fun c75176 => ?_) (fun c75176 => absurd c75176 (by omega))
    refine ev_iconst ?_
    exact ev_ret rfl (by decide) (by decide) ⟨_, rfl, g, k0, by (try unfold soF); (try unfold soG); (repeat' split) <;> omega, ((ew0)).trans (by (try unfold soF); (try unfold soG); (repeat' split) <;> omega)⟩
  · refine ev_iload_n rfl ?_
    refine ev_iload_n rfl ?_
    refine ev_icmpgt f242_14 (fun c75177 => ?_) (fun c75177 => ?_)
    · refine ev_iconst ?_
      refine ev_ret rfl (by decide) (by decide) ?_
      show jEv _ _ _ _ _ _ _ (_, [(2, 42), (0, a1), (0, a2), (0, a3)], [(0, 0)], _, _, _)
      refine ev_ifeq f339_30 (fun c75178 => ?_) (fun c75178 => absurd c75178 (by omega))
      refine ev_iconst ?_
      exact ev_ret rfl (by decide) (by decide) ⟨_, rfl, g, k0, by (try unfold soF); (try unfold soG); (repeat' split) <;> omega, ((ew0)).trans (by (try unfold soF); (try unfold soG); (repeat' split) <;> omega)⟩
    · refine ev_iconst ?_
      refine ev_goto f242_15 ?_
      refine ev_ret rfl (by decide) (by decide) ?_
      show jEv _ _ _ _ _ _ _ (_, [(2, 42), (0, a1), (0, a2), (0, a3)], [(0, 1)], _, _, _)
      refine ev_ifeq f339_30 (fun c75179 => absurd c75179 (by omega)) (fun c75179 => ?_)
      refine ev_iload_n rfl ?_
      refine ev_iconst ?_
      refine ev_bipush ?_
      refine ev_in (d := 0) (a := 0) (b := 0) (cd' := c242_0) (m := 3) (L0 := [(0, a2), (0, 0), (0, 99)]) (jcall_s (A := [(0, 99), (0, 0), (0, a2)]) (S' := []) (by decide) rfl (Nat.le_of_ble_eq_true rfl)) (by decide) ml242 pp242 (Nat.le_of_ble_eq_true rfl) rfl (by decide) (by decide) ?_
      refine ev_iload_n rfl ?_
      refine ev_iload_n rfl ?_
      refine ev_icmplt f242_14 (fun c75180 => ?_) (fun c75180 => ?_)
      · refine ev_iconst ?_
        refine ev_ret rfl (by decide) (by decide) ?_
        show jEv _ _ _ _ _ _ _ (_, [(2, 42), (0, a1), (0, a2), (0, a3)], [(0, 0)], _, _, _)
        refine ev_ifeq f339_30 (fun c75181 => ?_) (fun c75181 => absurd c75181 (by omega))
        refine ev_iconst ?_
        exact ev_ret rfl (by decide) (by decide) ⟨_, rfl, g, k0, by (try unfold soF); (try unfold soG); (repeat' split) <;> omega, ((ew0)).trans (by (try unfold soF); (try unfold soG); (repeat' split) <;> omega)⟩
      · refine ev_iload_n rfl ?_
        refine ev_iload_n rfl ?_
        refine ev_icmpgt f242_14 (fun c75182 => ?_) (fun c75182 => ?_)
        · refine ev_iconst ?_
          refine ev_ret rfl (by decide) (by decide) ?_
          show jEv _ _ _ _ _ _ _ (_, [(2, 42), (0, a1), (0, a2), (0, a3)], [(0, 0)], _, _, _)
          refine ev_ifeq f339_30 (fun c75183 => ?_) (fun c75183 => absurd c75183 (by omega))
          refine ev_iconst ?_
          exact ev_ret rfl (by decide) (by decide) ⟨_, rfl, g, k0, by (try unfold soF); (try unfold soG); (repeat' split) <;> omega, ((ew0)).trans (by (try unfold soF); (try unfold soG); (repeat' split) <;> omega)⟩
        · refine ev_iconst ?_
          refine ev_goto f242_15 ?_
          refine ev_ret rfl (by decide) (by decide) ?_
          show jEv _ _ _ _ _ _ _ (_, [(2, 42), (0, a1), (0, a2), (0, a3)], [(0, 1)], _, _, _)
          refine ev_ifeq f339_30 (fun c75184 => absurd c75184 (by omega)) (fun c75184 => ?_)
          refine ev_iload_n rfl ?_
          refine ev_iconst ?_
          refine ev_bipush ?_
          refine ev_in (d := 0) (a := 0) (b := 0) (cd' := c242_0) (m := 3) (L0 := [(0, a3), (0, 0), (0, 99)]) (jcall_s (A := [(0, 99), (0, 0), (0, a3)]) (S' := []) (by decide) rfl (Nat.le_of_ble_eq_true rfl)) (by decide) ml242 pp242 (Nat.le_of_ble_eq_true rfl) rfl (by decide) (by decide) ?_
          refine ev_iload_n rfl ?_
          refine ev_iload_n rfl ?_
          refine ev_icmplt f242_14 (fun c75185 => ?_) (fun c75185 => ?_)
          · refine ev_iconst ?_
            refine ev_ret rfl (by decide) (by decide) ?_
            show jEv _ _ _ _ _ _ _ (_, [(2, 42), (0, a1), (0, a2), (0, a3)], [(0, 0)], _, _, _)
            refine ev_ifne f339_32 (fun c75186 => absurd c75186 (by omega)) (fun c75186 => ?_)
            refine ev_iconst ?_
            exact ev_ret rfl (by decide) (by decide) ⟨_, rfl, g, k0, by (try unfold soF); (try unfold soG); (repeat' split) <;> omega, ((ew0)).trans (by (try unfold soF); (try unfold soG); (repeat' split) <;> omega)⟩
          · refine ev_iload_n rfl ?_
            refine ev_iload_n rfl ?_
            refine ev_icmpgt f242_14 (fun c75187 => ?_) (fun c75187 => ?_)
            · refine ev_iconst ?_
              refine ev_ret rfl (by decide) (by decide) ?_
              show jEv _ _ _ _ _ _ _ (_, [(2, 42), (0, a1), (0, a2), (0, a3)], [(0, 0)], _, _, _)
              refine ev_ifne f339_32 (fun c75188 => absurd c75188 (by omega)) (fun c75188 => ?_)
              refine ev_iconst ?_
              exact ev_ret rfl (by decide) (by decide) ⟨_, rfl, g, k0, by (try unfold soF); (try unfold soG); (repeat' split) <;> omega, ((ew0)).trans (by (try unfold soF); (try unfold soG); (repeat' split) <;> omega)⟩
            · refine ev_iconst ?_
              refine ev_goto f242_15 ?_
              refine ev_ret rfl (by decide) (by decide) ?_
              show jEv _ _ _ _ _ _ _ (_, [(2, 42), (0, a1), (0, a2), (0, a3)], [(0, 1)], _, _, _)
              refine ev_ifne f339_32 (fun c75189 => ?_) (fun c75189 => absurd c75189 (by omega))
              refine ev_aload_n rfl ?_
              refine g_getv (r := 42) (v := w0) g ad42 (by decide) ft12_47 (ew0) ?_
              refine ev_iconst ?_
              refine ev_icmpne f339_43 (fun c75190 => ?_) (fun c75190 => ?_)
              · refine ev_aload_n rfl ?_
                refine g_getp (r := 42) (c := 68) g ad42 (by decide) (by decide) rf42_48 ft12_48 ?_
                refine ev_aload_n rfl ?_
                refine g_getv (r := 42) (v := w0) g ad42 (by decide) ft12_47 (ew0) ?_
                refine ev_iload_n rfl ?_
                refine g_iast g ad68 rt68 (fun _ => rfl) (by omega) (by omega) (by omega) (by omega) (fun h75191 e75191 g75191 => ?_)
                have k75191 := k0.wr e75191 rfl
                refine ev_aload_n rfl ?_
                refine g_getp (r := 42) (c := 69) g75191 ad42 (by decide) (by decide) rf42_49 ft12_49 ?_
                refine ev_aload_n rfl ?_
                refine g_getv (r := 42) (v := w0) g75191 ad42 (by decide) ft12_47 (((jw_ne e75191 (Or.inl (by decide))).trans ew0)) ?_
                refine ev_iload_n rfl ?_
                refine g_iast g75191 ad69 rt69 (fun _ => rfl) (by omega) (by omega) (by omega) (by omega) (fun h75192 e75192 g75192 => ?_)
                have k75192 := k75191.wr e75192 rfl
                refine ev_aload_n rfl ?_
                refine g_getp (r := 42) (c := 70) g75192 ad42 (by decide) (by decide) rf42_50 ft12_50 ?_
                refine ev_aload_n rfl ?_
                refine g_getv (r := 42) (v := w0) g75192 ad42 (by decide) ft12_47 (((jw_ne e75192 (Or.inl (by decide))).trans ((jw_ne e75191 (Or.inl (by decide))).trans ew0))) ?_
                refine ev_iload_n rfl ?_
                refine g_iast g75192 ad70 rt70 (fun _ => rfl) (by omega) (by omega) (by omega) (by omega) (fun h75193 e75193 g75193 => ?_)
                have k75193 := k75192.wr e75193 rfl
                refine ev_aload_n rfl ?_
                refine ev_dup (by decide) ?_
                refine g_getv (r := 42) (v := w0) g75193 ad42 (by decide) ft12_47 (((jw_ne e75193 (Or.inl (by decide))).trans ((jw_ne e75192 (Or.inl (by decide))).trans ((jw_ne e75191 (Or.inl (by decide))).trans ew0)))) ?_
                refine ev_iconst ?_
                refine ev_iadd (r := (w0 + 1)) (by unfold w32; omega) ?_
                refine g_putf (r := 42) g75193 ad42 (by decide) ft12_47 (by decide) (fun e => absurd e nz12_47) rf42_47 (by decide) (by omega) (by omega) (fun h75194 e75194 g75194 => ?_)
                have k75194 := k75193.wr e75194 rfl
                refine ev_aload_n rfl ?_
                refine g_getv (r := 42) (v := (w0 + 1)) g75194 ad42 (by decide) ft12_47 ((jw_eq e75194)) ?_
                exact ev_ret rfl (by decide) (by decide) ⟨_, rfl, g75194, k75194, by (try unfold soF); (try unfold soG); (repeat' split) <;> omega, (((jw_eq e75194))).trans (by (try unfold soF); (try unfold soG); (repeat' split) <;> omega)⟩
              · refine ev_bipush ?_
                exact ev_ret rfl (by decide) (by decide) ⟨_, rfl, g, k0, by (try unfold soF); (try unfold soG); (repeat' split) <;> omega, ((ew0)).trans (by (try unfold soF); (try unfold soG); (repeat' split) <;> omega)⟩
set_option maxHeartbeats 4000000 in
theorem t203 {G : GH} {h : JH} (g : Gd G h) {w0 : Int} (ew0 : h.2.2 26 3 = w0) (lw0 : 0 ≤ w0) (uw0 : w0 ≤ 3) : jOk 2 0 0 203 [(2, 0)] h (fun v h' => ∃ r : Int, v = some (0, r) ∧ Gd G h' ∧ Kp [(26, 4), (26, 8)] h h' ∧ r = w0 ∧ h'.2.2 26 3 = 0) := by
  refine ⟨by decide, by rw [ml203]; exact Nat.le_of_ble_eq_true rfl, ?_⟩
  rw [ml203, pp203]
  show jEv _ none _ c203_0 0 0 _ (c203_0, [(2, 0)], [], h, 0, 0)
  have k0 := Kp.rf [(26, 4), (26, 8)] h
  refine ev_aload_n rfl ?_
  refine g_getp (r := 0) (c := 26) g ad0 (by decide) (by decide) rf0_11 ft11_11 ?_
  refine ev_in (d := 0) (a := 0) (b := 0) (cd' := c121_0) (m := 2) (L0 := [(2, 26), (9, 0)]) (jcall_v (A := []) (S' := []) (r := 26) rfl (g.lt ad26) (g.tg ad26) (Nat.le_of_ble_eq_true rfl)) (by decide) ml121 pp121 (Nat.le_of_ble_eq_true rfl) rfl (by decide) (by decide) ?_
  refine ev_aload_n rfl ?_
  refine g_getv (r := 26) (v := w0) g ad26 (by decide) ft9_3 (ew0) ?_
  refine ev_istore_n (L' := [(2, 26), (0, w0)]) (Nat.le_of_ble_eq_true rfl) rfl ?_
  refine ev_aload_n rfl ?_
  refine ev_iconst ?_
  refine g_putf (r := 26) g ad26 (by decide) ft9_3 (by decide) (fun e => absurd e nz9_3) rf26_3 (by decide) (by omega) (by omega) (fun h75199 e75199 g75199 => ?_)
  have k75199 := k0.wr e75199 rfl
  refine ev_aload_n rfl ?_
  refine ev_iconst ?_
  refine g_putf (r := 26) g75199 ad26 (by decide) ft9_7 (by decide) (fun e => absurd e nz9_7) rf26_7 (by decide) (by omega) (by omega) (fun h75200 e75200 g75200 => ?_)
  have k75200 := k75199.wr e75200 rfl
  refine ev_iload_n rfl ?_
  refine ev_ret rfl (by decide) (by decide) ?_
  show jEv _ _ _ _ _ _ _ (_, [(2, 0)], [(0, w0)], _, _, _)
  exact ev_ret rfl (by decide) (by decide) ⟨_, rfl, g75200, k75200, by (try unfold soF); (try unfold soG); (repeat' split) <;> omega, ((((jw_ne e75200 (Or.inr (by decide))).trans (jw_eq e75199)))).trans (by (try unfold soF); (try unfold soG); (repeat' split) <;> omega)⟩
set_option maxHeartbeats 4000000 in
theorem t346 {G : GH} {h : JH} (g : Gd G h) {w0 : Int} (ew0 : h.2.2 42 47 = w0) (lw0 : 0 ≤ w0) (uw0 : w0 ≤ 3) : jOk 1 0 0 346 [(2, 42)] h (fun v h' => ∃ r : Int, v = some (0, r) ∧ Gd G h' ∧ Kp [(42, 48), (42, 52)] h h' ∧ r = w0 ∧ h'.2.2 42 47 = 0) := by
  refine ⟨by decide, by rw [ml346]; exact Nat.le_of_ble_eq_true rfl, ?_⟩
  rw [ml346, pp346]
  show jEv _ none _ c346_0 0 0 _ (c346_0, [(2, 42), (9, 0)], [], h, 0, 0)
  have k0 := Kp.rf [(42, 48), (42, 52)] h
  refine ev_aload_n rfl ?_
  refine g_getv (r := 42) (v := w0) g ad42 (by decide) ft12_47 (ew0) ?_
  refine ev_istore_n (L' := [(2, 42), (0, w0)]) (Nat.le_of_ble_eq_true rfl) rfl ?_
  refine ev_aload_n rfl ?_
  refine ev_iconst ?_
  refine g_putf (r := 42) g ad42 (by decide) ft12_47 (by decide) (fun e => absurd e nz12_47) rf42_47 (by decide) (by omega) (by omega) (fun h75205 e75205 g75205 => ?_)
  have k75205 := k0.wr e75205 rfl
  refine ev_aload_n rfl ?_
  refine ev_iconst ?_
  refine g_putf (r := 42) g75205 ad42 (by decide) ft12_51 (by decide) (fun e => absurd e nz12_51) rf42_51 (by decide) (by omega) (by omega) (fun h75206 e75206 g75206 => ?_)
  have k75206 := k75205.wr e75206 rfl
  refine ev_iload_n rfl ?_
  exact ev_ret rfl (by decide) (by decide) ⟨_, rfl, g75206, k75206, by (try unfold soF); (try unfold soG); (repeat' split) <;> omega, ((((jw_ne e75206 (Or.inr (by decide))).trans (jw_eq e75205)))).trans (by (try unfold soF); (try unfold soG); (repeat' split) <;> omega)⟩
theorem jn11 : jN 11 = 17 := by decide +kernel
theorem jn12 : jN 12 = 66 := by decide +kernel
theorem ml384 : jML jnM = 4 := by decide +kernel
theorem pp384 : jP jnM = c384_0 := rfl
set_option maxRecDepth 100000 in
theorem jlawN : jchkN jnM = true := by decide +kernel
set_option maxRecDepth 100000 in
theorem f384_18 : jfind c384_0 18 = some c384_18 := rfl
set_option maxRecDepth 100000 in
theorem f384_260 : jfind c384_0 260 = some c384_260 := rfl
set_option maxRecDepth 100000 in
theorem f384_283 : jfind c384_0 283 = some c384_283 := rfl
set_option maxRecDepth 100000 in
theorem f384_316 : jfind c384_0 316 = some c384_316 := rfl
set_option maxRecDepth 100000 in
theorem f384_369 : jfind c384_0 369 = some c384_369 := rfl
set_option maxRecDepth 100000 in
theorem f384_382 : jfind c384_0 382 = some c384_382 := rfl
set_option maxRecDepth 100000 in
theorem f384_405 : jfind c384_0 405 = some c384_405 := rfl
set_option maxRecDepth 100000 in
theorem f384_448 : jfind c384_0 448 = some c384_448 := rfl
set_option maxRecDepth 100000 in
theorem f384_481 : jfind c384_0 481 = some c384_481 := rfl
set_option maxRecDepth 100000 in
theorem f384_494 : jfind c384_0 494 = some c384_494 := rfl
set_option maxRecDepth 100000 in
theorem f384_537 : jfind c384_0 537 = some c384_537 := rfl
set_option maxRecDepth 100000 in
theorem f384_590 : jfind c384_0 590 = some c384_590 := rfl
set_option maxRecDepth 100000 in
theorem f384_603 : jfind c384_0 603 = some c384_603 := rfl
set_option maxRecDepth 100000 in
theorem f384_616 : jfind c384_0 616 = some c384_616 := rfl
set_option maxRecDepth 100000 in
theorem f384_649 : jfind c384_0 649 = some c384_649 := rfl
set_option maxRecDepth 100000 in
theorem f384_682 : jfind c384_0 682 = some c384_682 := rfl
set_option maxRecDepth 100000 in
theorem f384_715 : jfind c384_0 715 = some c384_715 := rfl
set_option maxRecDepth 100000 in
theorem f384_758 : jfind c384_0 758 = some c384_758 := rfl
set_option maxRecDepth 100000 in
theorem f384_801 : jfind c384_0 801 = some c384_801 := rfl
set_option maxRecDepth 100000 in
theorem f384_844 : jfind c384_0 844 = some c384_844 := rfl
set_option maxRecDepth 100000 in
theorem f384_877 : jfind c384_0 877 = some c384_877 := rfl
set_option maxRecDepth 100000 in
theorem f384_930 : jfind c384_0 930 = some c384_930 := rfl
set_option maxRecDepth 100000 in
theorem f384_963 : jfind c384_0 963 = some c384_963 := rfl
set_option maxRecDepth 100000 in
theorem f384_1006 : jfind c384_0 1006 = some c384_1006 := rfl
set_option maxRecDepth 100000 in
theorem f384_1059 : jfind c384_0 1059 = some c384_1059 := rfl
set_option maxRecDepth 100000 in
theorem f384_1082 : jfind c384_0 1082 = some c384_1082 := rfl
set_option maxRecDepth 100000 in
theorem f384_1125 : jfind c384_0 1125 = some c384_1125 := rfl
set_option maxRecDepth 100000 in
theorem f384_1178 : jfind c384_0 1178 = some c384_1178 := rfl
set_option maxRecDepth 100000 in
theorem f384_1201 : jfind c384_0 1201 = some c384_1201 := rfl
set_option maxRecDepth 100000 in
theorem f384_1254 : jfind c384_0 1254 = some c384_1254 := rfl
set_option maxRecDepth 100000 in
theorem f384_1307 : jfind c384_0 1307 = some c384_1307 := rfl
set_option maxRecDepth 100000 in
theorem f384_1340 : jfind c384_0 1340 = some c384_1340 := rfl
set_option maxRecDepth 100000 in
theorem f384_1383 : jfind c384_0 1383 = some c384_1383 := rfl
set_option maxRecDepth 100000 in
theorem f384_1406 : jfind c384_0 1406 = some c384_1406 := rfl
set_option maxRecDepth 100000 in
theorem f384_1429 : jfind c384_0 1429 = some c384_1429 := rfl
set_option maxRecDepth 100000 in
theorem f384_1452 : jfind c384_0 1452 = some c384_1452 := rfl
set_option maxRecDepth 100000 in
theorem f384_1495 : jfind c384_0 1495 = some c384_1495 := rfl
set_option maxRecDepth 100000 in
theorem f384_1518 : jfind c384_0 1518 = some c384_1518 := rfl
set_option maxRecDepth 100000 in
theorem f384_1551 : jfind c384_0 1551 = some c384_1551 := rfl
set_option maxRecDepth 100000 in
theorem f384_1564 : jfind c384_0 1564 = some c384_1564 := rfl
set_option maxRecDepth 100000 in
theorem f384_1597 : jfind c384_0 1597 = some c384_1597 := rfl
set_option maxRecDepth 100000 in
theorem f384_1630 : jfind c384_0 1630 = some c384_1630 := rfl
set_option maxRecDepth 100000 in
theorem f384_1683 : jfind c384_0 1683 = some c384_1683 := rfl
set_option maxRecDepth 100000 in
theorem f384_1726 : jfind c384_0 1726 = some c384_1726 := rfl
set_option maxRecDepth 100000 in
theorem f384_1769 : jfind c384_0 1769 = some c384_1769 := rfl
set_option maxRecDepth 100000 in
theorem f384_1812 : jfind c384_0 1812 = some c384_1812 := rfl
set_option maxRecDepth 100000 in
theorem f384_1855 : jfind c384_0 1855 = some c384_1855 := rfl
set_option maxRecDepth 100000 in
theorem f384_1878 : jfind c384_0 1878 = some c384_1878 := rfl
set_option maxRecDepth 100000 in
theorem f384_1911 : jfind c384_0 1911 = some c384_1911 := rfl
set_option maxRecDepth 100000 in
theorem f384_1954 : jfind c384_0 1954 = some c384_1954 := rfl
set_option maxRecDepth 100000 in
theorem f384_2027 : jfind c384_0 2027 = some c384_2027 := rfl
set_option maxRecDepth 100000 in
theorem f384_2060 : jfind c384_0 2060 = some c384_2060 := rfl
set_option maxRecDepth 100000 in
theorem f384_2123 : jfind c384_0 2123 = some c384_2123 := rfl
set_option maxRecDepth 100000 in
theorem f384_2156 : jfind c384_0 2156 = some c384_2156 := rfl
set_option maxRecDepth 100000 in
theorem f384_2179 : jfind c384_0 2179 = some c384_2179 := rfl
set_option maxRecDepth 100000 in
theorem f384_2185 : jfind c384_0 2185 = some c384_2185 := rfl
