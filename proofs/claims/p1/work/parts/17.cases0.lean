/-! number -/
set_option maxHeartbeats 4000000 in
theorem case_4 {xs : Nat → Int} (hr : ∀ j, -2147483648 ≤ xs j ∧ xs j < 2147483648) {h : JH} (hF : Fresh h) : jEv (jOk 8) (some 6) xs c384_0 600000 7302250 (fun v _ => v = some (0, 1)) (c384_383, [(2, -2), (2, 0), (2, 42), (0, 0)], [], h, 83, 23761) := by
  have r1 := hr 1
  have r2 := hr 2
  have r3 := hr 3
  have r4 := hr 4
  have r5 := hr 5
  refine ev_aload_n rfl ?_
  refine ev_aload_n rfl ?_
  refine ev_iload_n rfl ?_
  refine ev_iconst ?_
  refine ev_iadd (r := 1) (by decide) ?_
  refine ev_sald (j := 1) (v := (xs 1)) rfl rfl rfl ?_
  refine ev_in (d := 7) (a := 0) (b := 0) (cd' := c170_0) (m := 2) (L0 := [(2, 0), (0, (xs 1))]) (jcall_v (A := [(0, (xs 1))]) (S' := []) (r := 0) rfl (hF.1.lt (by decide)) (hF.1.sh (by decide) rfl).1 (Nat.le_of_ble_eq_true rfl)) (by decide) ml170 pp170 (Nat.le_of_ble_eq_true rfl) rfl (by decide) (by decide) ?_
  refine ev_aload_n rfl ?_
  refine ev_getf (r := 0) (v := 1) (hF.1.lt (by decide)) (hF.1.fam (by decide) (by decide)) ft11_0 ((hF.v rfl)) ?_
  refine ev_iload_n rfl ?_
  refine ev_in (d := 6) (a := 0) (b := 0) (cd' := c159_0) (m := 3) (L0 := [(2, 1), (0, (xs 1)), (9, 0)]) (jcall_v (A := [(0, (xs 1))]) (S' := []) (r := 1) rfl (hF.1.lt (by decide)) (hF.1.sh (by decide) rfl).1 (Nat.le_of_ble_eq_true rfl)) (by decide) ml159 pp159 (Nat.le_of_ble_eq_true rfl) rfl (by decide) (by decide) ?_
  refine ev_iload_n rfl ?_
  refine ev_iflt f159_12 (fun c1 => ?_) (fun c1 => ?_)
  · refine ev_iconst ?_
    refine ev_ret rfl (by decide) (by decide) ?_
    show jEv _ _ _ _ _ _ _ (_, [(2, 0), (0, (xs 1))], [(0, 0)], _, _, _)
    refine ev_ifne f170_15 (fun c2 => absurd c2 (by omega)) (fun c2 => ?_)
    refine ev_ldc2_w ?_
    refine ev_ret rfl (by decide) (by decide) ?_
    show jEv _ _ _ _ _ _ _ (_, [(2, (-2)), (2, 0), (2, 42), (0, 0)], [(1, (-1))], _, _, _)
    refine ev_aload_n rfl ?_
    refine ev_aload_n rfl ?_
    refine ev_iload_n rfl ?_
    refine ev_iconst ?_
    refine ev_iadd (r := 1) (by decide) ?_
    refine ev_sald (j := 1) (v := (xs 1)) rfl rfl rfl ?_
    refine ev_in (d := 7) (a := 0) (b := 0) (cd' := c257_0) (m := 6) (L0 := [(2, 42), (0, (xs 1)), (9, 0), (9, 0), (9, 0), (9, 0)]) (jcall_v (A := [(0, (xs 1))]) (S' := [(1, (-1))]) (r := 42) rfl (hF.1.lt (by decide)) (hF.1.sh (by decide) rfl).1 (Nat.le_of_ble_eq_true rfl)) (by decide) ml257 pp257 (Nat.le_of_ble_eq_true rfl) rfl (by decide) (by decide) ?_
    refine ev_iload_n rfl ?_
    refine ev_iflt f257_15 (fun c3 => ?_) (fun c3 => absurd c3 (by omega))
    refine ev_ldc2_w ?_
    refine ev_ret rfl (by decide) (by decide) ?_
    show jEv _ _ _ _ _ _ _ (_, [(2, (-2)), (2, 0), (2, 42), (0, 0)], [(1, (-1)), (1, (-1))], _, _, _)
    refine ev_lcmp ?_
    refine ev_ifeq f384_2190 (fun c4 => ?_) (fun c4 => absurd (show _ from by unfold jcmpL; (repeat' split) <;> omega) c4)
    exact law_tail _
  · refine ev_iload_n rfl ?_
    refine ev_aload_n rfl ?_
    refine ev_in (d := 5) (a := 0) (b := 0) (cd' := c157_0) (m := 1) (L0 := [(2, 1)]) (jcall_v (A := []) (S' := [(0, (xs 1))]) (r := 1) rfl (hF.1.lt (by decide)) (hF.1.sh (by decide) rfl).1 (Nat.le_of_ble_eq_true rfl)) (by decide) ml157 pp157 (Nat.le_of_ble_eq_true rfl) rfl (by decide) (by decide) ?_
    refine ev_iconst ?_
    refine ev_iconst ?_
    refine ev_aload_n rfl ?_
    refine ev_getf (r := 1) (v := 0) (hF.1.lt (by decide)) (hF.1.fam (by decide) (by decide)) ft10_0 ((hF.v rfl)) ?_
    refine ev_imul (r := 0) (by decide) ?_
    refine ev_ishl (r := 1) (by decide) ?_
    refine ev_ret rfl (by decide) (by decide) ?_
    show jEv _ _ _ _ _ _ _ (_, [(2, 1), (0, (xs 1)), (9, 0)], [(0, 1), (0, (xs 1))], _, _, _)
    refine ev_icmplt f159_14 (fun c5 => ?_) (fun c5 => ?_)
    · refine ev_iconst ?_
      refine ev_istore_n (L' := [(2, 1), (0, (xs 1)), (0, 0)]) (Nat.le_of_ble_eq_true rfl) rfl ?_
      refine ev_iload_n rfl ?_
      refine ev_aload_n rfl ?_
      refine ev_getf (r := 1) (v := 0) (hF.1.lt (by decide)) (hF.1.fam (by decide) (by decide)) ft10_0 ((hF.v rfl)) ?_
      refine ev_icmpge f159_48 (fun c6 => ?_) (fun c6 => absurd c6 (by omega))
      refine ev_iconst ?_
      refine ev_ret rfl (by decide) (by decide) ?_
      show jEv _ _ _ _ _ _ _ (_, [(2, 0), (0, (xs 1))], [(0, 1)], _, _, _)
      refine ev_ifne f170_15 (fun c7 => ?_) (fun c7 => absurd c7 (by omega))
      refine ev_aload_n rfl ?_
      refine ev_getf (r := 0) (v := 1) (hF.1.lt (by decide)) (hF.1.fam (by decide) (by decide)) ft11_0 ((hF.v rfl)) ?_
      refine ev_in (d := 6) (a := 0) (b := 0) (cd' := c153_0) (m := 1) (L0 := [(2, 1)]) (jcall_v (A := []) (S' := []) (r := 1) rfl (hF.1.lt (by decide)) (hF.1.sh (by decide) rfl).1 (Nat.le_of_ble_eq_true rfl)) (by decide) ml153 pp153 (Nat.le_of_ble_eq_true rfl) rfl (by decide) (by decide) ?_
      refine ev_aload_n rfl ?_
      refine ev_getf (r := 1) (v := 0) (hF.1.lt (by decide)) (hF.1.fam (by decide) (by decide)) ft10_2 ((hF.v rfl)) ?_
      refine ev_ifne f153_33 (fun c8 => absurd c8 (by omega)) (fun c8 => ?_)
      refine ev_aload_n rfl ?_
      refine ev_iconst ?_
      refine ev_putfG (r := 1) (hF.1.lt (by decide)) (hF.1.fam (by decide) (by decide)) ft10_2 (fun _ => by decide) (fun e => absurd e (by decide)) (fun h28 e28 => ?_)
      have hS28 := hF.1.wr e28
      refine ev_aload_n rfl ?_
      refine ev_aload_n rfl ?_
      refine ev_in (d := 5) (a := 0) (b := 0) (cd' := c152_0) (m := 6) (L0 := [(2, 1), (9, 0), (9, 0), (9, 0), (9, 0), (9, 0)]) (jcall_v (A := []) (S' := [(2, 1)]) (r := 1) rfl (hS28.lt (by decide)) (hS28.sh (by decide) rfl).1 (Nat.le_of_ble_eq_true rfl)) (by decide) ml152 pp152 (Nat.le_of_ble_eq_true rfl) rfl (by decide) (by decide) ?_
      refine ev_lconst ?_
      refine ev_lstore_n (L' := [(2, 1), (1, 1), (9, 0), (9, 0), (9, 0), (9, 0)]) (Nat.le_of_ble_eq_true rfl) rfl ?_
      refine ev_iconst ?_
      refine ev_istore_n (L' := [(2, 1), (1, 1), (9, 0), (0, 0), (9, 0), (9, 0)]) (Nat.le_of_ble_eq_true rfl) rfl ?_
      refine ev_iload_n rfl ?_
      refine ev_aload_n rfl ?_
      refine ev_getf (r := 1) (v := 0) (hS28.lt (by decide)) (hS28.fam (by decide) (by decide)) ft10_0 ((jw_ne e28 (Or.inr (by decide))).trans ((hF.v rfl))) ?_
      refine ev_icmpge f152_50 (fun c9 => ?_) (fun c9 => absurd c9 (by omega))
      refine ev_lload_n rfl ?_
      refine ev_ret rfl (by decide) (by decide) ?_
      show jEv _ _ _ _ _ _ _ (_, [(2, 1)], [(1, 1), (2, 1)], _, _, _)
      refine ev_putfG (r := 1) (hS28.lt (by decide)) (hS28.fam (by decide) (by decide)) ft10_1 (fun e => absurd e nz10_1) (fun e => absurd e (by decide)) (fun h29 e29 => ?_)
      have hS29 := hS28.wr e29
      refine ev_aload_n rfl ?_
      refine ev_getf (r := 1) (v := 1) (hS29.lt (by decide)) (hS29.fam (by decide) (by decide)) ft10_1 (jw_eq e29) ?_
      refine ev_lconst ?_
      refine ev_lcmp ?_
      refine ev_ifle f153_33 (fun c10 => absurd c10 (by unfold jcmpL; (repeat' split) <;> omega)) (fun c10 => ?_)
      refine ev_aload_n rfl ?_
      refine ev_in (d := 5) (a := 0) (b := 0) (cd' := c154_0) (m := 6) (L0 := [(2, 1), (9, 0), (9, 0), (9, 0), (9, 0), (9, 0)]) (jcall_v (A := []) (S' := []) (r := 1) rfl (hS29.lt (by decide)) (hS29.sh (by decide) rfl).1 (Nat.le_of_ble_eq_true rfl)) (by decide) ml154 pp154 (Nat.le_of_ble_eq_true rfl) rfl (by decide) (by decide) ?_
      refine ev_iconst ?_
      refine ev_istore_n (L' := [(2, 1), (0, 0), (9, 0), (9, 0), (9, 0), (9, 0)]) (Nat.le_of_ble_eq_true rfl) rfl ?_
      refine ev_iload_n rfl ?_
      refine ev_aload_n rfl ?_
      refine ev_getf (r := 1) (v := 0) (hS29.lt (by decide)) (hS29.fam (by decide) (by decide)) ft10_0 ((jw_ne e29 (Or.inr (by decide))).trans ((jw_ne e28 (Or.inr (by decide))).trans ((hF.v rfl)))) ?_
      refine ev_icmpge f154_76 (fun c11 => ?_) (fun c11 => absurd c11 (by omega))
      refine ev_aload_n rfl ?_
      refine ev_getf (r := 1) (v := 6) (hS29.lt (by decide)) (hS29.fam (by decide) (by decide)) ft10_7 ((jw_ne e29 (Or.inr (by decide))).trans ((jw_ne e28 (Or.inr (by decide))).trans ((hF.v rfl)))) ?_
      refine ev_iconst ?_
      refine ev_lconst ?_
      refine ev_lastG (r := 6) (j := 0) (hS29.lt (by decide)) (hS29.sh (by decide) rfl).1 rfl (hS29.inb (by decide) (by decide)) (fun h30 e30 => ?_)
      have hS30 := hS29.wr e30
      refine ev_iconst ?_
      refine ev_istore_n (L' := [(2, 1), (0, 0), (9, 0), (9, 0), (9, 0), (9, 0)]) (Nat.le_of_ble_eq_true rfl) rfl ?_
      refine ev_iload_n rfl ?_
      refine ev_aload_n rfl ?_
      refine ev_getf (r := 1) (v := 0) (hS30.lt (by decide)) (hS30.fam (by decide) (by decide)) ft10_0 ((jw_ne e30 (Or.inl (by decide))).trans ((jw_ne e29 (Or.inr (by decide))).trans ((jw_ne e28 (Or.inr (by decide))).trans ((hF.v rfl))))) ?_
      refine ev_icmpge f154_104 (fun c12 => ?_) (fun c12 => absurd c12 (by omega))
      refine ev_iconst ?_
      refine ev_istore_n (L' := [(2, 1), (0, 0), (9, 0), (9, 0), (9, 0), (9, 0)]) (Nat.le_of_ble_eq_true rfl) rfl ?_
      refine ev_iload_n rfl ?_
      refine ev_aload_n rfl ?_
      refine ev_getf (r := 1) (v := 0) (hS30.lt (by decide)) (hS30.fam (by decide) (by decide)) ft10_0 ((jw_ne e30 (Or.inl (by decide))).trans ((jw_ne e29 (Or.inr (by decide))).trans ((jw_ne e28 (Or.inr (by decide))).trans ((hF.v rfl))))) ?_
      refine ev_icmpge f154_125 (fun c13 => ?_) (fun c13 => absurd c13 (by omega))
      refine ev_ret rfl (by decide) (by decide) ?_
      show jEv _ _ _ _ _ _ _ (_, [(2, 1)], [], _, _, _)
      refine ev_aload_n rfl ?_
      refine ev_getf (r := 1) (v := 1) (hS30.lt (by decide)) (hS30.fam (by decide) (by decide)) ft10_1 ((jw_ne e30 (Or.inl (by decide))).trans (jw_eq e29)) ?_
      refine ev_lconst ?_
      refine ev_lcmp ?_
      refine ev_ifle f153_46 (fun c14 => absurd c14 (by unfold jcmpL; (repeat' split) <;> omega)) (fun c14 => ?_)
      refine ev_iconst ?_
      refine ev_goto f153_47 ?_
      refine ev_ret rfl (by decide) (by decide) ?_
      show jEv _ _ _ _ _ _ _ (_, [(2, 0), (0, (xs 1))], [(0, 1)], _, _, _)
      refine ev_ifeq f170_43 (fun c15 => absurd c15 (by omega)) (fun c15 => ?_)
      refine ev_aload_n rfl ?_
      refine ev_getf (r := 0) (v := 1) (hS30.lt (by decide)) (hS30.fam (by decide) (by decide)) ft11_0 ((jw_ne e30 (Or.inl (by decide))).trans ((jw_ne e29 (Or.inl (by decide))).trans ((jw_ne e28 (Or.inl (by decide))).trans ((hF.v rfl))))) ?_
      refine ev_aload_n rfl ?_
      refine ev_getf (r := 0) (v := 1) (hS30.lt (by decide)) (hS30.fam (by decide) (by decide)) ft11_0 ((jw_ne e30 (Or.inl (by decide))).trans ((jw_ne e29 (Or.inl (by decide))).trans ((jw_ne e28 (Or.inl (by decide))).trans ((hF.v rfl))))) ?_
      refine ev_iload_n rfl ?_
      refine ev_in (d := 6) (a := 0) (b := 0) (cd' := c160_0) (m := 2) (L0 := [(2, 1), (0, (xs 1))]) (jcall_v (A := [(0, (xs 1))]) (S' := [(2, 1)]) (r := 1) rfl (hS30.lt (by decide)) (hS30.sh (by decide) rfl).1 (Nat.le_of_ble_eq_true rfl)) (by decide) ml160 pp160 (Nat.le_of_ble_eq_true rfl) rfl (by decide) (by decide) ?_
      refine ev_iload_n rfl ?_
      refine ev_aload_n rfl ?_
      refine ev_in (d := 5) (a := 0) (b := 0) (cd' := c157_0) (m := 1) (L0 := [(2, 1)]) (jcall_v (A := []) (S' := [(0, (xs 1))]) (r := 1) rfl (hS30.lt (by decide)) (hS30.sh (by decide) rfl).1 (Nat.le_of_ble_eq_true rfl)) (by decide) ml157 pp157 (Nat.le_of_ble_eq_true rfl) rfl (by decide) (by decide) ?_
      refine ev_iconst ?_
      refine ev_iconst ?_
      refine ev_aload_n rfl ?_
      refine ev_getf (r := 1) (v := 0) (hS30.lt (by decide)) (hS30.fam (by decide) (by decide)) ft10_0 ((jw_ne e30 (Or.inl (by decide))).trans ((jw_ne e29 (Or.inr (by decide))).trans ((jw_ne e28 (Or.inr (by decide))).trans ((hF.v rfl))))) ?_
      refine ev_imul (r := 0) (by decide) ?_
      refine ev_ishl (r := 1) (by decide) ?_
      refine ev_ret rfl (by decide) (by decide) ?_
      show jEv _ _ _ _ _ _ _ (_, [(2, 1), (0, (xs 1))], [(0, 1), (0, (xs 1))], _, _, _)
      refine ev_iconst ?_
      refine ev_isub (r := 0) (by decide) ?_
      refine ev_iconst ?_
      refine ev_idiv (r := 0) (by decide) (by decide) ?_
      refine ev_iadd (r := (xs 1)) (by unfold w32; omega) ?_
      refine ev_ret rfl (by decide) (by decide) ?_
      show jEv _ _ _ _ _ _ _ (_, [(2, 0), (0, (xs 1))], [(0, (xs 1)), (2, 1)], _, _, _)
      refine ev_in (d := 6) (a := 0) (b := 0) (cd' := c161_0) (m := 2) (L0 := [(2, 1), (0, (xs 1))]) (jcall_v (A := [(0, (xs 1))]) (S' := []) (r := 1) rfl (hS30.lt (by decide)) (hS30.sh (by decide) rfl).1 (Nat.le_of_ble_eq_true rfl)) (by decide) ml161 pp161 (Nat.le_of_ble_eq_true rfl) rfl (by decide) (by decide) ?_
      refine ev_iload_n rfl ?_
      refine ev_iflt f161_12 (fun c16 => absurd c16 (by omega)) (fun c16 => ?_)
      refine ev_iload_n rfl ?_
      refine ev_aload_n rfl ?_
      refine ev_in (d := 5) (a := 0) (b := 0) (cd' := c157_0) (m := 1) (L0 := [(2, 1)]) (jcall_v (A := []) (S' := [(0, (xs 1))]) (r := 1) rfl (hS30.lt (by decide)) (hS30.sh (by decide) rfl).1 (Nat.le_of_ble_eq_true rfl)) (by decide) ml157 pp157 (Nat.le_of_ble_eq_true rfl) rfl (by decide) (by decide) ?_
      refine ev_iconst ?_
      refine ev_iconst ?_
      refine ev_aload_n rfl ?_
      refine ev_getf (r := 1) (v := 0) (hS30.lt (by decide)) (hS30.fam (by decide) (by decide)) ft10_0 ((jw_ne e30 (Or.inl (by decide))).trans ((jw_ne e29 (Or.inr (by decide))).trans ((jw_ne e28 (Or.inr (by decide))).trans ((hF.v rfl))))) ?_
      refine ev_imul (r := 0) (by decide) ?_
      refine ev_ishl (r := 1) (by decide) ?_
      refine ev_ret rfl (by decide) (by decide) ?_
      show jEv _ _ _ _ _ _ _ (_, [(2, 1), (0, (xs 1))], [(0, 1), (0, (xs 1))], _, _, _)
      refine ev_icmplt f161_16 (fun c17 => ?_) (fun c17 => absurd c17 (by omega))
      refine ev_aload_n rfl ?_
      refine ev_getf (r := 1) (v := 6) (hS30.lt (by decide)) (hS30.fam (by decide) (by decide)) ft10_7 ((jw_ne e30 (Or.inl (by decide))).trans ((jw_ne e29 (Or.inr (by decide))).trans ((jw_ne e28 (Or.inr (by decide))).trans ((hF.v rfl))))) ?_
      refine ev_iload_n rfl ?_
      refine ev_lald (r := 6) (j := 0) (v := 1) (hS30.lt (by decide)) (hS30.sh (by decide) rfl).1 (by omega) (hS30.inb (by decide) (by decide)) (jw_eq e30) ?_
      refine ev_ret rfl (by decide) (by decide) ?_
      show jEv _ _ _ _ _ _ _ (_, [(2, 0), (0, (xs 1))], [(1, 1)], _, _, _)
      refine ev_goto f170_46 ?_
      refine ev_ret rfl (by decide) (by decide) ?_
      show jEv _ _ _ _ _ _ _ (_, [(2, (-2)), (2, 0), (2, 42), (0, 0)], [(1, 1)], _, _, _)
      refine ev_aload_n rfl ?_
      refine ev_aload_n rfl ?_
      refine ev_iload_n rfl ?_
      refine ev_iconst ?_
      refine ev_iadd (r := 1) (by decide) ?_
      refine ev_sald (j := 1) (v := (xs 1)) rfl rfl rfl ?_
      refine ev_in (d := 7) (a := 0) (b := 0) (cd' := c257_0) (m := 6) (L0 := [(2, 42), (0, (xs 1)), (9, 0), (9, 0), (9, 0), (9, 0)]) (jcall_v (A := [(0, (xs 1))]) (S' := [(1, 1)]) (r := 42) rfl (hS30.lt (by decide)) (hS30.sh (by decide) rfl).1 (Nat.le_of_ble_eq_true rfl)) (by decide) ml257 pp257 (Nat.le_of_ble_eq_true rfl) rfl (by decide) (by decide) ?_
      refine ev_iload_n rfl ?_
      refine ev_iflt f257_15 (fun c18 => absurd c18 (by omega)) (fun c18 => ?_)
      refine ev_iload_n rfl ?_
      refine ev_iconst ?_
      refine ev_aload_n rfl ?_
      refine ev_getf (r := 42) (v := 0) (hS30.lt (by decide)) (hS30.fam (by decide) (by decide)) ft12_1 ((jw_ne e30 (Or.inl (by decide))).trans ((jw_ne e29 (Or.inl (by decide))).trans ((jw_ne e28 (Or.inl (by decide))).trans ((hF.v rfl))))) ?_
      refine ev_imul (r := 0) (by decide) ?_
      refine ev_ishr (r := 0) (by rw [show (xs 1) = 0 by omega]; decide) ?_
      refine ev_ifeq f257_19 (fun c19 => ?_) (fun c19 => absurd c19 (by omega))
      refine ev_iconst ?_
      refine ev_istore_n (L' := [(2, 42), (0, (xs 1)), (0, 0), (9, 0), (9, 0), (9, 0)]) (Nat.le_of_ble_eq_true rfl) rfl ?_
      refine ev_iconst ?_
      refine ev_istore_n (L' := [(2, 42), (0, (xs 1)), (0, 0), (0, 1), (9, 0), (9, 0)]) (Nat.le_of_ble_eq_true rfl) rfl ?_
      refine ev_iconst ?_
      refine ev_istore (L' := [(2, 42), (0, (xs 1)), (0, 0), (0, 1), (0, 0), (9, 0)]) (Nat.le_of_ble_eq_true rfl) rfl ?_
      refine ev_iload rfl ?_
      refine ev_aload_n rfl ?_
      refine ev_getf (r := 42) (v := 0) (hS30.lt (by decide)) (hS30.fam (by decide) (by decide)) ft12_1 ((jw_ne e30 (Or.inl (by decide))).trans ((jw_ne e29 (Or.inl (by decide))).trans ((jw_ne e28 (Or.inl (by decide))).trans ((hF.v rfl))))) ?_
      refine ev_icmpge f257_84 (fun c20 => ?_) (fun c20 => absurd c20 (by omega))
      refine ev_aload_n rfl ?_
      refine ev_in (d := 6) (a := 0) (b := 0) (cd' := c256_0) (m := 4) (L0 := [(2, 42), (9, 0), (9, 0), (9, 0)]) (jcall_v (A := []) (S' := []) (r := 42) rfl (hS30.lt (by decide)) (hS30.sh (by decide) rfl).1 (Nat.le_of_ble_eq_true rfl)) (by decide) ml256 pp256 (Nat.le_of_ble_eq_true rfl) rfl (by decide) (by decide) ?_
      refine ev_aload_n rfl ?_
      refine ev_aload_n rfl ?_
      refine ev_in (d := 5) (a := 0) (b := 0) (cd' := c253_0) (m := 6) (L0 := [(2, 42), (9, 0), (9, 0), (9, 0), (9, 0), (9, 0)]) (jcall_v (A := []) (S' := [(2, 42)]) (r := 42) rfl (hS30.lt (by decide)) (hS30.sh (by decide) rfl).1 (Nat.le_of_ble_eq_true rfl)) (by decide) ml253 pp253 (Nat.le_of_ble_eq_true rfl) rfl (by decide) (by decide) ?_
      refine ev_lconst ?_
      refine ev_lstore_n (L' := [(2, 42), (1, 1), (9, 0), (9, 0), (9, 0), (9, 0)]) (Nat.le_of_ble_eq_true rfl) rfl ?_
      refine ev_iconst ?_
      refine ev_istore_n (L' := [(2, 42), (1, 1), (9, 0), (0, 0), (9, 0), (9, 0)]) (Nat.le_of_ble_eq_true rfl) rfl ?_
      refine ev_iload_n rfl ?_
      refine ev_aload_n rfl ?_
      refine ev_getf (r := 42) (v := 0) (hS30.lt (by decide)) (hS30.fam (by decide) (by decide)) ft12_1 ((jw_ne e30 (Or.inl (by decide))).trans ((jw_ne e29 (Or.inl (by decide))).trans ((jw_ne e28 (Or.inl (by decide))).trans ((hF.v rfl))))) ?_
      refine ev_icmpge f253_45 (fun c21 => ?_) (fun c21 => absurd c21 (by omega))
      refine ev_lload_n rfl ?_
      refine ev_ret rfl (by decide) (by decide) ?_
      show jEv _ _ _ _ _ _ _ (_, [(2, 42), (9, 0), (9, 0), (9, 0)], [(1, 1), (2, 42)], _, _, _)
      refine ev_putfG (r := 42) (hS30.lt (by decide)) (hS30.fam (by decide) (by decide)) ft12_8 (fun e => absurd e nz12_8) (fun e => absurd e (by decide)) (fun h31 e31 => ?_)
      have hS31 := hS30.wr e31
      refine ev_aload_n rfl ?_
      refine ev_getf (r := 42) (v := 1) (hS31.lt (by decide)) (hS31.fam (by decide) (by decide)) ft12_8 (jw_eq e31) ?_
      refine ev_lconst ?_
      refine ev_lcmp ?_
      refine ev_ifge f256_19 (fun c22 => ?_) (fun c22 => absurd (show _ from by unfold jcmpL; (repeat' split) <;> omega) c22)
      refine ev_aload_n rfl ?_
      refine ev_iconst ?_
      refine ev_putfG (r := 42) (hS31.lt (by decide)) (hS31.fam (by decide) (by decide)) ft12_5 (fun e => absurd e nz12_5) (fun e => absurd e (by decide)) (fun h32 e32 => ?_)
      have hS32 := hS31.wr e32
      refine ev_iconst ?_
      refine ev_istore_n (L' := [(2, 42), (0, 0), (9, 0), (9, 0)]) (Nat.le_of_ble_eq_true rfl) rfl ?_
      refine ev_iload_n rfl ?_
      refine ev_aload_n rfl ?_
      refine ev_getf (r := 42) (v := 0) (hS32.lt (by decide)) (hS32.fam (by decide) (by decide)) ft12_1 ((jw_ne e32 (Or.inr (by decide))).trans ((jw_ne e31 (Or.inr (by decide))).trans ((jw_ne e30 (Or.inl (by decide))).trans ((jw_ne e29 (Or.inl (by decide))).trans ((jw_ne e28 (Or.inl (by decide))).trans ((hF.v rfl))))))) ?_
      refine ev_icmpge f256_55 (fun c23 => ?_) (fun c23 => absurd c23 (by omega))
      refine ev_iconst ?_
      refine ev_istore_n (L' := [(2, 42), (0, 0), (9, 0), (9, 0)]) (Nat.le_of_ble_eq_true rfl) rfl ?_
      refine ev_iload_n rfl ?_
      refine ev_aload_n rfl ?_
      refine ev_getf (r := 42) (v := 1) (hS32.lt (by decide)) (hS32.fam (by decide) (by decide)) ft12_5 (jw_eq e32) ?_
      refine ev_icmpge f256_127 (fun c24 => absurd c24 (by omega)) (fun c24 => ?_)
      refine ev_iload_n rfl ?_
      refine ev_istore_n (L' := [(2, 42), (0, 0), (0, 0), (9, 0)]) (Nat.le_of_ble_eq_true rfl) rfl ?_
      refine ev_iconst ?_
      refine ev_istore_n (L' := [(2, 42), (0, 0), (0, 0), (0, 0)]) (Nat.le_of_ble_eq_true rfl) rfl ?_
      refine ev_iload_n rfl ?_
      refine ev_aload_n rfl ?_
      refine ev_getf (r := 42) (v := 0) (hS32.lt (by decide)) (hS32.fam (by decide) (by decide)) ft12_1 ((jw_ne e32 (Or.inr (by decide))).trans ((jw_ne e31 (Or.inr (by decide))).trans ((jw_ne e30 (Or.inl (by decide))).trans ((jw_ne e29 (Or.inl (by decide))).trans ((jw_ne e28 (Or.inl (by decide))).trans ((hF.v rfl))))))) ?_
      refine ev_icmpge f256_110 (fun c25 => ?_) (fun c25 => absurd c25 (by omega))
      refine ev_aload_n rfl ?_
      refine ev_getf (r := 42) (v := 47) (hS32.lt (by decide)) (hS32.fam (by decide) (by decide)) ft12_7 ((jw_ne e32 (Or.inr (by decide))).trans ((jw_ne e31 (Or.inr (by decide))).trans ((jw_ne e30 (Or.inl (by decide))).trans ((jw_ne e29 (Or.inl (by decide))).trans ((jw_ne e28 (Or.inl (by decide))).trans ((hF.v rfl))))))) ?_
      refine ev_iload_n rfl ?_
      refine ev_aload_n rfl ?_
      refine ev_iload_n rfl ?_
      refine ev_in (d := 5) (a := 0) (b := 0) (cd' := c255_0) (m := 6) (L0 := [(2, 42), (0, 0), (9, 0), (9, 0), (9, 0), (9, 0)]) (jcall_v (A := [(0, 0)]) (S' := [(0, 0), (2, 47)]) (r := 42) rfl (hS32.lt (by decide)) (hS32.sh (by decide) rfl).1 (Nat.le_of_ble_eq_true rfl)) (by decide) ml255 pp255 (Nat.le_of_ble_eq_true rfl) rfl (by decide) (by decide) ?_
      refine ev_lconst ?_
      refine ev_lstore_n (L' := [(2, 42), (0, 0), (1, 1), (9, 0), (9, 0), (9, 0)]) (Nat.le_of_ble_eq_true rfl) rfl ?_
      refine ev_iconst ?_
      refine ev_istore (L' := [(2, 42), (0, 0), (1, 1), (9, 0), (0, 0), (9, 0)]) (Nat.le_of_ble_eq_true rfl) rfl ?_
      refine ev_iload rfl ?_
      refine ev_aload_n rfl ?_
      refine ev_getf (r := 42) (v := 0) (hS32.lt (by decide)) (hS32.fam (by decide) (by decide)) ft12_1 ((jw_ne e32 (Or.inr (by decide))).trans ((jw_ne e31 (Or.inr (by decide))).trans ((jw_ne e30 (Or.inl (by decide))).trans ((jw_ne e29 (Or.inl (by decide))).trans ((jw_ne e28 (Or.inl (by decide))).trans ((hF.v rfl))))))) ?_
      refine ev_icmpge f255_100 (fun c26 => ?_) (fun c26 => absurd c26 (by omega))
      refine ev_lload_n rfl ?_
      refine ev_ret rfl (by decide) (by decide) ?_
      show jEv _ _ _ _ _ _ _ (_, [(2, 42), (0, 0), (0, 0), (0, 0)], [(1, 1), (0, 0), (2, 47)], _, _, _)
      refine ev_lastG (r := 47) (j := 0) (hS32.lt (by decide)) (hS32.sh (by decide) rfl).1 rfl (hS32.inb (by decide) (by decide)) (fun h33 e33 => ?_)
      have hS33 := hS32.wr e33
      refine ev_iinc (w := 1) (L' := [(2, 42), (0, 1), (0, 0), (0, 0)]) rfl (by decide) rfl ?_
      refine ev_goto f256_57 ?_
      refine ev_iload_n rfl ?_
      refine ev_aload_n rfl ?_
      refine ev_getf (r := 42) (v := 1) (hS33.lt (by decide)) (hS33.fam (by decide) (by decide)) ft12_5 ((jw_ne e33 (Or.inl (by decide))).trans (jw_eq e32)) ?_
      refine ev_icmpge f256_127 (fun c27 => ?_) (fun c27 => absurd c27 (by omega))
      refine ev_iconst ?_
      refine ev_ret rfl (by decide) (by decide) ?_
      show jEv _ _ _ _ _ _ _ (_, [(2, 42), (0, (xs 1)), (0, 0), (0, 1), (0, 0), (9, 0)], [(0, 1)], _, _, _)
      refine ev_ifeq f257_100 (fun c28 => absurd c28 (by omega)) (fun c28 => ?_)
      refine ev_aload_n rfl ?_
      refine ev_getf (r := 42) (v := 47) (hS33.lt (by decide)) (hS33.fam (by decide) (by decide)) ft12_7 ((jw_ne e33 (Or.inl (by decide))).trans ((jw_ne e32 (Or.inr (by decide))).trans ((jw_ne e31 (Or.inr (by decide))).trans ((jw_ne e30 (Or.inl (by decide))).trans ((jw_ne e29 (Or.inl (by decide))).trans ((jw_ne e28 (Or.inl (by decide))).trans ((hF.v rfl)))))))) ?_
      refine ev_iload_n rfl ?_
      refine ev_lald (r := 47) (j := 0) (v := 1) (hS33.lt (by decide)) (hS33.sh (by decide) rfl).1 rfl (hS33.inb (by decide) (by decide)) (jw_eq e33) ?_
      refine ev_goto f257_103 ?_
      refine ev_ret rfl (by decide) (by decide) ?_
      show jEv _ _ _ _ _ _ _ (_, [(2, (-2)), (2, 0), (2, 42), (0, 0)], [(1, 1), (1, 1)], _, _, _)
      refine ev_lcmp ?_
      refine ev_ifeq f384_2190 (fun c29 => ?_) (fun c29 => absurd (show _ from by unfold jcmpL; (repeat' split) <;> omega) c29)
      exact law_tail _
    · refine ev_iconst ?_
      refine ev_ret rfl (by decide) (by decide) ?_
      show jEv _ _ _ _ _ _ _ (_, [(2, 0), (0, (xs 1))], [(0, 0)], _, _, _)
      refine ev_ifne f170_15 (fun c30 => absurd c30 (by omega)) (fun c30 => ?_)
      refine ev_ldc2_w ?_
      refine ev_ret rfl (by decide) (by decide) ?_
      show jEv _ _ _ _ _ _ _ (_, [(2, (-2)), (2, 0), (2, 42), (0, 0)], [(1, (-1))], _, _, _)
      refine ev_aload_n rfl ?_
      refine ev_aload_n rfl ?_
      refine ev_iload_n rfl ?_
      refine ev_iconst ?_
      refine ev_iadd (r := 1) (by decide) ?_
      refine ev_sald (j := 1) (v := (xs 1)) rfl rfl rfl ?_
      refine ev_in (d := 7) (a := 0) (b := 0) (cd' := c257_0) (m := 6) (L0 := [(2, 42), (0, (xs 1)), (9, 0), (9, 0), (9, 0), (9, 0)]) (jcall_v (A := [(0, (xs 1))]) (S' := [(1, (-1))]) (r := 42) rfl (hF.1.lt (by decide)) (hF.1.sh (by decide) rfl).1 (Nat.le_of_ble_eq_true rfl)) (by decide) ml257 pp257 (Nat.le_of_ble_eq_true rfl) rfl (by decide) (by decide) ?_
      refine ev_iload_n rfl ?_
      refine ev_iflt f257_15 (fun c31 => absurd c31 (by omega)) (fun c31 => ?_)
      refine ev_iload_n rfl ?_
      refine ev_iconst ?_
      refine ev_aload_n rfl ?_
      refine ev_getf (r := 42) (v := 0) (hF.1.lt (by decide)) (hF.1.fam (by decide) (by decide)) ft12_1 ((hF.v rfl)) ?_
      refine ev_imul (r := 0) (by decide) ?_
      refine ev_ishr (r := (xs 1)) (jshr_0 (by omega) (by omega)) ?_
      refine ev_ifeq f257_19 (fun c32 => absurd c32 (by omega)) (fun c32 => ?_)
      refine ev_ldc2_w ?_
      refine ev_ret rfl (by decide) (by decide) ?_
      show jEv _ _ _ _ _ _ _ (_, [(2, (-2)), (2, 0), (2, 42), (0, 0)], [(1, (-1)), (1, (-1))], _, _, _)
      refine ev_lcmp ?_
      refine ev_ifeq f384_2190 (fun c33 => ?_) (fun c33 => absurd (show _ from by unfold jcmpL; (repeat' split) <;> omega) c33)
      exact law_tail _

/-! chance -/
set_option maxHeartbeats 4000000 in
theorem case_5 {xs : Nat → Int} (hr : ∀ j, -2147483648 ≤ xs j ∧ xs j < 2147483648) {h : JH} (hF : Fresh h) : jEv (jOk 8) (some 6) xs c384_0 600000 7302250 (fun v _ => v = some (0, 1)) (c384_407, [(2, -2), (2, 0), (2, 42), (0, 0)], [], h, 83, 23761) := by
  have r1 := hr 1
  have r2 := hr 2
  have r3 := hr 3
  have r4 := hr 4
  have r5 := hr 5
  refine ev_aload_n rfl ?_
  refine ev_aload_n rfl ?_
  refine ev_iload_n rfl ?_
  refine ev_iconst ?_
  refine ev_iadd (r := 1) (by decide) ?_
  refine ev_sald (j := 1) (v := (xs 1)) rfl rfl rfl ?_
  refine ev_aload_n rfl ?_
  refine ev_iload_n rfl ?_
  refine ev_iconst ?_
  refine ev_iadd (r := 2) (by decide) ?_
  refine ev_sald (j := 2) (v := (xs 2)) rfl rfl rfl ?_
  refine ev_aload_n rfl ?_
  refine ev_iload_n rfl ?_
  refine ev_iconst ?_
  refine ev_iadd (r := 3) (by decide) ?_
  refine ev_sald (j := 3) (v := (xs 3)) rfl rfl rfl ?_
  refine ev_in (d := 7) (a := 0) (b := 0) (cd' := c171_0) (m := 4) (L0 := [(2, 0), (0, (xs 1)), (0, (xs 2)), (0, (xs 3))]) (jcall_v (A := [(0, (xs 3)), (0, (xs 2)), (0, (xs 1))]) (S' := []) (r := 0) rfl (hF.1.lt (by decide)) (hF.1.sh (by decide) rfl).1 (Nat.le_of_ble_eq_true rfl)) (by decide) ml171 pp171 (Nat.le_of_ble_eq_true rfl) rfl (by decide) (by decide) ?_
  refine ev_aload_n rfl ?_
  refine ev_getf (r := 0) (v := 1) (hF.1.lt (by decide)) (hF.1.fam (by decide) (by decide)) ft11_0 ((hF.v rfl)) ?_
  refine ev_iload_n rfl ?_
  refine ev_in (d := 6) (a := 0) (b := 0) (cd' := c158_0) (m := 3) (L0 := [(2, 1), (0, (xs 1)), (9, 0)]) (jcall_v (A := [(0, (xs 1))]) (S' := []) (r := 1) rfl (hF.1.lt (by decide)) (hF.1.sh (by decide) rfl).1 (Nat.le_of_ble_eq_true rfl)) (by decide) ml158 pp158 (Nat.le_of_ble_eq_true rfl) rfl (by decide) (by decide) ?_
  refine ev_iload_n rfl ?_
  refine ev_iflt f158_12 (fun c1 => ?_) (fun c1 => ?_)
  · refine ev_iconst ?_
    refine ev_ret rfl (by decide) (by decide) ?_
    show jEv _ _ _ _ _ _ _ (_, [(2, 0), (0, (xs 1)), (0, (xs 2)), (0, (xs 3))], [(0, 0)], _, _, _)
    refine ev_ifeq f171_29 (fun c2 => ?_) (fun c2 => absurd c2 (by omega))
    refine ev_ldc2_w ?_
    refine ev_ret rfl (by decide) (by decide) ?_
    show jEv _ _ _ _ _ _ _ (_, [(2, (-2)), (2, 0), (2, 42), (0, 0)], [(1, (-1))], _, _, _)
    refine ev_aload_n rfl ?_
    refine ev_aload_n rfl ?_
    refine ev_iload_n rfl ?_
    refine ev_iconst ?_
    refine ev_iadd (r := 1) (by decide) ?_
    refine ev_sald (j := 1) (v := (xs 1)) rfl rfl rfl ?_
    refine ev_aload_n rfl ?_
    refine ev_iload_n rfl ?_
    refine ev_iconst ?_
    refine ev_iadd (r := 2) (by decide) ?_
    refine ev_sald (j := 2) (v := (xs 2)) rfl rfl rfl ?_
    refine ev_aload_n rfl ?_
    refine ev_iload_n rfl ?_
    refine ev_iconst ?_
    refine ev_iadd (r := 3) (by decide) ?_
    refine ev_sald (j := 3) (v := (xs 3)) rfl rfl rfl ?_
    refine ev_in (d := 7) (a := 0) (b := 0) (cd' := c260_0) (m := 9) (L0 := [(2, 42), (0, (xs 1)), (0, (xs 2)), (0, (xs 3)), (9, 0), (9, 0), (9, 0), (9, 0), (9, 0)]) (jcall_v (A := [(0, (xs 3)), (0, (xs 2)), (0, (xs 1))]) (S' := [(1, (-1))]) (r := 42) rfl (hF.1.lt (by decide)) (hF.1.sh (by decide) rfl).1 (Nat.le_of_ble_eq_true rfl)) (by decide) ml260 pp260 (Nat.le_of_ble_eq_true rfl) rfl (by decide) (by decide) ?_
    refine ev_aload_n rfl ?_
    refine ev_iload_n rfl ?_
    refine ev_in (d := 6) (a := 0) (b := 0) (cd' := c258_0) (m := 3) (L0 := [(2, 42), (0, (xs 1)), (9, 0)]) (jcall_v (A := [(0, (xs 1))]) (S' := []) (r := 42) rfl (hF.1.lt (by decide)) (hF.1.sh (by decide) rfl).1 (Nat.le_of_ble_eq_true rfl)) (by decide) ml258 pp258 (Nat.le_of_ble_eq_true rfl) rfl (by decide) (by decide) ?_
    refine ev_iload_n rfl ?_
    refine ev_iflt f258_15 (fun c3 => ?_) (fun c3 => absurd c3 (by omega))
    refine ev_iconst ?_
    refine ev_ret rfl (by decide) (by decide) ?_
    show jEv _ _ _ _ _ _ _ (_, [(2, 42), (0, (xs 1)), (0, (xs 2)), (0, (xs 3)), (9, 0), (9, 0), (9, 0), (9, 0), (9, 0)], [(0, 0)], _, _, _)
    refine ev_ifeq f260_25 (fun c4 => ?_) (fun c4 => absurd c4 (by omega))
    refine ev_ldc2_w ?_
    refine ev_ret rfl (by decide) (by decide) ?_
    show jEv _ _ _ _ _ _ _ (_, [(2, (-2)), (2, 0), (2, 42), (0, 0)], [(1, (-1)), (1, (-1))], _, _, _)
    refine ev_lcmp ?_
    refine ev_ifeq f384_2190 (fun c5 => ?_) (fun c5 => absurd (show _ from by unfold jcmpL; (repeat' split) <;> omega) c5)
    exact law_tail _
  · refine ev_iload_n rfl ?_
    refine ev_aload_n rfl ?_
    refine ev_in (d := 5) (a := 0) (b := 0) (cd' := c157_0) (m := 1) (L0 := [(2, 1)]) (jcall_v (A := []) (S' := [(0, (xs 1))]) (r := 1) rfl (hF.1.lt (by decide)) (hF.1.sh (by decide) rfl).1 (Nat.le_of_ble_eq_true rfl)) (by decide) ml157 pp157 (Nat.le_of_ble_eq_true rfl) rfl (by decide) (by decide) ?_
    refine ev_iconst ?_
    refine ev_iconst ?_
    refine ev_aload_n rfl ?_
    refine ev_getf (r := 1) (v := 0) (hF.1.lt (by decide)) (hF.1.fam (by decide) (by decide)) ft10_0 ((hF.v rfl)) ?_
    refine ev_imul (r := 0) (by decide) ?_
    refine ev_ishl (r := 1) (by decide) ?_
    refine ev_ret rfl (by decide) (by decide) ?_
    show jEv _ _ _ _ _ _ _ (_, [(2, 1), (0, (xs 1)), (9, 0)], [(0, 1), (0, (xs 1))], _, _, _)
    refine ev_icmplt f158_14 (fun c6 => ?_) (fun c6 => ?_)
    · refine ev_iconst ?_
      refine ev_istore_n (L' := [(2, 1), (0, (xs 1)), (0, 0)]) (Nat.le_of_ble_eq_true rfl) rfl ?_
      refine ev_iload_n rfl ?_
      refine ev_aload_n rfl ?_
      refine ev_getf (r := 1) (v := 0) (hF.1.lt (by decide)) (hF.1.fam (by decide) (by decide)) ft10_0 ((hF.v rfl)) ?_
      refine ev_icmpge f158_48 (fun c7 => ?_) (fun c7 => absurd c7 (by omega))
      refine ev_iconst ?_
      refine ev_ret rfl (by decide) (by decide) ?_
      show jEv _ _ _ _ _ _ _ (_, [(2, 0), (0, (xs 1)), (0, (xs 2)), (0, (xs 3))], [(0, 1)], _, _, _)
      refine ev_ifeq f171_29 (fun c8 => absurd c8 (by omega)) (fun c8 => ?_)
      refine ev_aload_n rfl ?_
      refine ev_getf (r := 0) (v := 1) (hF.1.lt (by decide)) (hF.1.fam (by decide) (by decide)) ft11_0 ((hF.v rfl)) ?_
      refine ev_iload_n rfl ?_
      refine ev_in (d := 6) (a := 0) (b := 0) (cd' := c158_0) (m := 3) (L0 := [(2, 1), (0, (xs 2)), (9, 0)]) (jcall_v (A := [(0, (xs 2))]) (S' := []) (r := 1) rfl (hF.1.lt (by decide)) (hF.1.sh (by decide) rfl).1 (Nat.le_of_ble_eq_true rfl)) (by decide) ml158 pp158 (Nat.le_of_ble_eq_true rfl) rfl (by decide) (by decide) ?_
      refine ev_iload_n rfl ?_
      refine ev_iflt f158_12 (fun c9 => ?_) (fun c9 => ?_)
      · refine ev_iconst ?_
        refine ev_ret rfl (by decide) (by decide) ?_
        show jEv _ _ _ _ _ _ _ (_, [(2, 0), (0, (xs 1)), (0, (xs 2)), (0, (xs 3))], [(0, 0)], _, _, _)
        refine ev_ifeq f171_29 (fun c10 => ?_) (fun c10 => absurd c10 (by omega))
        refine ev_ldc2_w ?_
        refine ev_ret rfl (by decide) (by decide) ?_
        show jEv _ _ _ _ _ _ _ (_, [(2, (-2)), (2, 0), (2, 42), (0, 0)], [(1, (-1))], _, _, _)
        refine ev_aload_n rfl ?_
        refine ev_aload_n rfl ?_
        refine ev_iload_n rfl ?_
        refine ev_iconst ?_
        refine ev_iadd (r := 1) (by decide) ?_
        refine ev_sald (j := 1) (v := (xs 1)) rfl rfl rfl ?_
        refine ev_aload_n rfl ?_
        refine ev_iload_n rfl ?_
        refine ev_iconst ?_
        refine ev_iadd (r := 2) (by decide) ?_
        refine ev_sald (j := 2) (v := (xs 2)) rfl rfl rfl ?_
        refine ev_aload_n rfl ?_
        refine ev_iload_n rfl ?_
        refine ev_iconst ?_
        refine ev_iadd (r := 3) (by decide) ?_
        refine ev_sald (j := 3) (v := (xs 3)) rfl rfl rfl ?_
        refine ev_in (d := 7) (a := 0) (b := 0) (cd' := c260_0) (m := 9) (L0 := [(2, 42), (0, (xs 1)), (0, (xs 2)), (0, (xs 3)), (9, 0), (9, 0), (9, 0), (9, 0), (9, 0)]) (jcall_v (A := [(0, (xs 3)), (0, (xs 2)), (0, (xs 1))]) (S' := [(1, (-1))]) (r := 42) rfl (hF.1.lt (by decide)) (hF.1.sh (by decide) rfl).1 (Nat.le_of_ble_eq_true rfl)) (by decide) ml260 pp260 (Nat.le_of_ble_eq_true rfl) rfl (by decide) (by decide) ?_
        refine ev_aload_n rfl ?_
        refine ev_iload_n rfl ?_
        refine ev_in (d := 6) (a := 0) (b := 0) (cd' := c258_0) (m := 3) (L0 := [(2, 42), (0, (xs 1)), (9, 0)]) (jcall_v (A := [(0, (xs 1))]) (S' := []) (r := 42) rfl (hF.1.lt (by decide)) (hF.1.sh (by decide) rfl).1 (Nat.le_of_ble_eq_true rfl)) (by decide) ml258 pp258 (Nat.le_of_ble_eq_true rfl) rfl (by decide) (by decide) ?_
        refine ev_iload_n rfl ?_
        refine ev_iflt f258_15 (fun c11 => absurd c11 (by omega)) (fun c11 => ?_)
        refine ev_iload_n rfl ?_
        refine ev_iconst ?_
        refine ev_aload_n rfl ?_
        refine ev_getf (r := 42) (v := 0) (hF.1.lt (by decide)) (hF.1.fam (by decide) (by decide)) ft12_1 ((hF.v rfl)) ?_
        refine ev_imul (r := 0) (by decide) ?_
        refine ev_ishr (r := 0) (by rw [show (xs 1) = 0 by omega]; decide) ?_
        refine ev_ifeq f258_17 (fun c12 => ?_) (fun c12 => absurd c12 (by omega))
        refine ev_iconst ?_
        refine ev_istore_n (L' := [(2, 42), (0, (xs 1)), (0, 0)]) (Nat.le_of_ble_eq_true rfl) rfl ?_
        refine ev_iload_n rfl ?_
        refine ev_aload_n rfl ?_
        refine ev_getf (r := 42) (v := 0) (hF.1.lt (by decide)) (hF.1.fam (by decide) (by decide)) ft12_1 ((hF.v rfl)) ?_
        refine ev_icmpge f258_51 (fun c13 => ?_) (fun c13 => absurd c13 (by omega))
        refine ev_iconst ?_
        refine ev_ret rfl (by decide) (by decide) ?_
        show jEv _ _ _ _ _ _ _ (_, [(2, 42), (0, (xs 1)), (0, (xs 2)), (0, (xs 3)), (9, 0), (9, 0), (9, 0), (9, 0), (9, 0)], [(0, 1)], _, _, _)
        refine ev_ifeq f260_25 (fun c14 => absurd c14 (by omega)) (fun c14 => ?_)
        refine ev_aload_n rfl ?_
        refine ev_iload_n rfl ?_
        refine ev_in (d := 6) (a := 0) (b := 0) (cd' := c258_0) (m := 3) (L0 := [(2, 42), (0, (xs 2)), (9, 0)]) (jcall_v (A := [(0, (xs 2))]) (S' := []) (r := 42) rfl (hF.1.lt (by decide)) (hF.1.sh (by decide) rfl).1 (Nat.le_of_ble_eq_true rfl)) (by decide) ml258 pp258 (Nat.le_of_ble_eq_true rfl) rfl (by decide) (by decide) ?_
        refine ev_iload_n rfl ?_
        refine ev_iflt f258_15 (fun c15 => ?_) (fun c15 => absurd c15 (by omega))
        refine ev_iconst ?_
        refine ev_ret rfl (by decide) (by decide) ?_
        show jEv _ _ _ _ _ _ _ (_, [(2, 42), (0, (xs 1)), (0, (xs 2)), (0, (xs 3)), (9, 0), (9, 0), (9, 0), (9, 0), (9, 0)], [(0, 0)], _, _, _)
        refine ev_ifeq f260_25 (fun c16 => ?_) (fun c16 => absurd c16 (by omega))
        refine ev_ldc2_w ?_
        refine ev_ret rfl (by decide) (by decide) ?_
        show jEv _ _ _ _ _ _ _ (_, [(2, (-2)), (2, 0), (2, 42), (0, 0)], [(1, (-1)), (1, (-1))], _, _, _)
        refine ev_lcmp ?_
        refine ev_ifeq f384_2190 (fun c17 => ?_) (fun c17 => absurd (show _ from by unfold jcmpL; (repeat' split) <;> omega) c17)
        exact law_tail _
      · refine ev_iload_n rfl ?_
        refine ev_aload_n rfl ?_
        refine ev_in (d := 5) (a := 0) (b := 0) (cd' := c157_0) (m := 1) (L0 := [(2, 1)]) (jcall_v (A := []) (S' := [(0, (xs 2))]) (r := 1) rfl (hF.1.lt (by decide)) (hF.1.sh (by decide) rfl).1 (Nat.le_of_ble_eq_true rfl)) (by decide) ml157 pp157 (Nat.le_of_ble_eq_true rfl) rfl (by decide) (by decide) ?_
        refine ev_iconst ?_
        refine ev_iconst ?_
        refine ev_aload_n rfl ?_
        refine ev_getf (r := 1) (v := 0) (hF.1.lt (by decide)) (hF.1.fam (by decide) (by decide)) ft10_0 ((hF.v rfl)) ?_
        refine ev_imul (r := 0) (by decide) ?_
        refine ev_ishl (r := 1) (by decide) ?_
        refine ev_ret rfl (by decide) (by decide) ?_
        show jEv _ _ _ _ _ _ _ (_, [(2, 1), (0, (xs 2)), (9, 0)], [(0, 1), (0, (xs 2))], _, _, _)
        refine ev_icmplt f158_14 (fun c18 => ?_) (fun c18 => ?_)
        · refine ev_iconst ?_
          refine ev_istore_n (L' := [(2, 1), (0, (xs 2)), (0, 0)]) (Nat.le_of_ble_eq_true rfl) rfl ?_
          refine ev_iload_n rfl ?_
          refine ev_aload_n rfl ?_
          refine ev_getf (r := 1) (v := 0) (hF.1.lt (by decide)) (hF.1.fam (by decide) (by decide)) ft10_0 ((hF.v rfl)) ?_
          refine ev_icmpge f158_48 (fun c19 => ?_) (fun c19 => absurd c19 (by omega))
          refine ev_iconst ?_
          refine ev_ret rfl (by decide) (by decide) ?_
          show jEv _ _ _ _ _ _ _ (_, [(2, 0), (0, (xs 1)), (0, (xs 2)), (0, (xs 3))], [(0, 1)], _, _, _)
          refine ev_ifeq f171_29 (fun c20 => absurd c20 (by omega)) (fun c20 => ?_)
          refine ev_iload_n rfl ?_
          refine ev_in (d := 6) (a := 0) (b := 0) (cd' := c221_0) (m := 1) (L0 := [(0, (xs 3))]) (jcall_s (A := [(0, (xs 3))]) (S' := []) (by decide) rfl (Nat.le_of_ble_eq_true rfl)) (by decide) ml221 pp221 (Nat.le_of_ble_eq_true rfl) rfl (by decide) (by decide) ?_
          refine ev_iload_n rfl ?_
          refine ev_ifeq f221_9 (fun c21 => ?_) (fun c21 => ?_)
          · refine ev_iconst ?_
            refine ev_goto f221_14 ?_
            refine ev_ret rfl (by decide) (by decide) ?_
            show jEv _ _ _ _ _ _ _ (_, [(2, 0), (0, (xs 1)), (0, (xs 2)), (0, (xs 3))], [(0, 1)], _, _, _)
            refine ev_ifne f171_33 (fun c22 => ?_) (fun c22 => absurd c22 (by omega))
            refine ev_aload_n rfl ?_
            refine ev_getf (r := 0) (v := 1) (hF.1.lt (by decide)) (hF.1.fam (by decide) (by decide)) ft11_0 ((hF.v rfl)) ?_
            refine ev_in (d := 6) (a := 0) (b := 0) (cd' := c153_0) (m := 1) (L0 := [(2, 1)]) (jcall_v (A := []) (S' := []) (r := 1) rfl (hF.1.lt (by decide)) (hF.1.sh (by decide) rfl).1 (Nat.le_of_ble_eq_true rfl)) (by decide) ml153 pp153 (Nat.le_of_ble_eq_true rfl) rfl (by decide) (by decide) ?_
            refine ev_aload_n rfl ?_
            refine ev_getf (r := 1) (v := 0) (hF.1.lt (by decide)) (hF.1.fam (by decide) (by decide)) ft10_2 ((hF.v rfl)) ?_
            refine ev_ifne f153_33 (fun c23 => absurd c23 (by omega)) (fun c23 => ?_)
            refine ev_aload_n rfl ?_
            refine ev_iconst ?_
            refine ev_putfG (r := 1) (hF.1.lt (by decide)) (hF.1.fam (by decide) (by decide)) ft10_2 (fun _ => by decide) (fun e => absurd e (by decide)) (fun h34 e34 => ?_)
            have hS34 := hF.1.wr e34
            refine ev_aload_n rfl ?_
            refine ev_aload_n rfl ?_
            refine ev_in (d := 5) (a := 0) (b := 0) (cd' := c152_0) (m := 6) (L0 := [(2, 1), (9, 0), (9, 0), (9, 0), (9, 0), (9, 0)]) (jcall_v (A := []) (S' := [(2, 1)]) (r := 1) rfl (hS34.lt (by decide)) (hS34.sh (by decide) rfl).1 (Nat.le_of_ble_eq_true rfl)) (by decide) ml152 pp152 (Nat.le_of_ble_eq_true rfl) rfl (by decide) (by decide) ?_
            refine ev_lconst ?_
            refine ev_lstore_n (L' := [(2, 1), (1, 1), (9, 0), (9, 0), (9, 0), (9, 0)]) (Nat.le_of_ble_eq_true rfl) rfl ?_
            refine ev_iconst ?_
            refine ev_istore_n (L' := [(2, 1), (1, 1), (9, 0), (0, 0), (9, 0), (9, 0)]) (Nat.le_of_ble_eq_true rfl) rfl ?_
            refine ev_iload_n rfl ?_
            refine ev_aload_n rfl ?_
            refine ev_getf (r := 1) (v := 0) (hS34.lt (by decide)) (hS34.fam (by decide) (by decide)) ft10_0 ((jw_ne e34 (Or.inr (by decide))).trans ((hF.v rfl))) ?_
            refine ev_icmpge f152_50 (fun c24 => ?_) (fun c24 => absurd c24 (by omega))
            refine ev_lload_n rfl ?_
            refine ev_ret rfl (by decide) (by decide) ?_
            show jEv _ _ _ _ _ _ _ (_, [(2, 1)], [(1, 1), (2, 1)], _, _, _)
            refine ev_putfG (r := 1) (hS34.lt (by decide)) (hS34.fam (by decide) (by decide)) ft10_1 (fun e => absurd e nz10_1) (fun e => absurd e (by decide)) (fun h35 e35 => ?_)
            have hS35 := hS34.wr e35
            refine ev_aload_n rfl ?_
            refine ev_getf (r := 1) (v := 1) (hS35.lt (by decide)) (hS35.fam (by decide) (by decide)) ft10_1 (jw_eq e35) ?_
            refine ev_lconst ?_
            refine ev_lcmp ?_
            refine ev_ifle f153_33 (fun c25 => absurd c25 (by unfold jcmpL; (repeat' split) <;> omega)) (fun c25 => ?_)
            refine ev_aload_n rfl ?_
            refine ev_in (d := 5) (a := 0) (b := 0) (cd' := c154_0) (m := 6) (L0 := [(2, 1), (9, 0), (9, 0), (9, 0), (9, 0), (9, 0)]) (jcall_v (A := []) (S' := []) (r := 1) rfl (hS35.lt (by decide)) (hS35.sh (by decide) rfl).1 (Nat.le_of_ble_eq_true rfl)) (by decide) ml154 pp154 (Nat.le_of_ble_eq_true rfl) rfl (by decide) (by decide) ?_
            refine ev_iconst ?_
            refine ev_istore_n (L' := [(2, 1), (0, 0), (9, 0), (9, 0), (9, 0), (9, 0)]) (Nat.le_of_ble_eq_true rfl) rfl ?_
            refine ev_iload_n rfl ?_
            refine ev_aload_n rfl ?_
            refine ev_getf (r := 1) (v := 0) (hS35.lt (by decide)) (hS35.fam (by decide) (by decide)) ft10_0 ((jw_ne e35 (Or.inr (by decide))).trans ((jw_ne e34 (Or.inr (by decide))).trans ((hF.v rfl)))) ?_
            refine ev_icmpge f154_76 (fun c26 => ?_) (fun c26 => absurd c26 (by omega))
            refine ev_aload_n rfl ?_
            refine ev_getf (r := 1) (v := 6) (hS35.lt (by decide)) (hS35.fam (by decide) (by decide)) ft10_7 ((jw_ne e35 (Or.inr (by decide))).trans ((jw_ne e34 (Or.inr (by decide))).trans ((hF.v rfl)))) ?_
            refine ev_iconst ?_
            refine ev_lconst ?_
            refine ev_lastG (r := 6) (j := 0) (hS35.lt (by decide)) (hS35.sh (by decide) rfl).1 rfl (hS35.inb (by decide) (by decide)) (fun h36 e36 => ?_)
            have hS36 := hS35.wr e36
            refine ev_iconst ?_
            refine ev_istore_n (L' := [(2, 1), (0, 0), (9, 0), (9, 0), (9, 0), (9, 0)]) (Nat.le_of_ble_eq_true rfl) rfl ?_
            refine ev_iload_n rfl ?_
            refine ev_aload_n rfl ?_
            refine ev_getf (r := 1) (v := 0) (hS36.lt (by decide)) (hS36.fam (by decide) (by decide)) ft10_0 ((jw_ne e36 (Or.inl (by decide))).trans ((jw_ne e35 (Or.inr (by decide))).trans ((jw_ne e34 (Or.inr (by decide))).trans ((hF.v rfl))))) ?_
            refine ev_icmpge f154_104 (fun c27 => ?_) (fun c27 => absurd c27 (by omega))
            refine ev_iconst ?_
            refine ev_istore_n (L' := [(2, 1), (0, 0), (9, 0), (9, 0), (9, 0), (9, 0)]) (Nat.le_of_ble_eq_true rfl) rfl ?_
            refine ev_iload_n rfl ?_
            refine ev_aload_n rfl ?_
            refine ev_getf (r := 1) (v := 0) (hS36.lt (by decide)) (hS36.fam (by decide) (by decide)) ft10_0 ((jw_ne e36 (Or.inl (by decide))).trans ((jw_ne e35 (Or.inr (by decide))).trans ((jw_ne e34 (Or.inr (by decide))).trans ((hF.v rfl))))) ?_
            refine ev_icmpge f154_125 (fun c28 => ?_) (fun c28 => absurd c28 (by omega))
            refine ev_ret rfl (by decide) (by decide) ?_
            show jEv _ _ _ _ _ _ _ (_, [(2, 1)], [], _, _, _)
            refine ev_aload_n rfl ?_
            refine ev_getf (r := 1) (v := 1) (hS36.lt (by decide)) (hS36.fam (by decide) (by decide)) ft10_1 ((jw_ne e36 (Or.inl (by decide))).trans (jw_eq e35)) ?_
            refine ev_lconst ?_
            refine ev_lcmp ?_
            refine ev_ifle f153_46 (fun c29 => absurd c29 (by unfold jcmpL; (repeat' split) <;> omega)) (fun c29 => ?_)
            refine ev_iconst ?_
            refine ev_goto f153_47 ?_
            refine ev_ret rfl (by decide) (by decide) ?_
            show jEv _ _ _ _ _ _ _ (_, [(2, 0), (0, (xs 1)), (0, (xs 2)), (0, (xs 3))], [(0, 1)], _, _, _)
            refine ev_ifne f171_47 (fun c30 => ?_) (fun c30 => absurd c30 (by omega))
            refine ev_aload_n rfl ?_
            refine ev_getf (r := 0) (v := 1) (hS36.lt (by decide)) (hS36.fam (by decide) (by decide)) ft11_0 ((jw_ne e36 (Or.inl (by decide))).trans ((jw_ne e35 (Or.inl (by decide))).trans ((jw_ne e34 (Or.inl (by decide))).trans ((hF.v rfl))))) ?_
            refine ev_iload_n rfl ?_
            refine ev_iload_n rfl ?_
            refine ev_in (d := 6) (a := 0) (b := 0) (cd' := c163_0) (m := 3) (L0 := [(2, 1), (0, (xs 1)), (0, (xs 2))]) (jcall_v (A := [(0, (xs 2)), (0, (xs 1))]) (S' := []) (r := 1) rfl (hS36.lt (by decide)) (hS36.sh (by decide) rfl).1 (Nat.le_of_ble_eq_true rfl)) (by decide) ml163 pp163 (Nat.le_of_ble_eq_true rfl) rfl (by decide) (by decide) ?_
            refine ev_iload_n rfl ?_
            refine ev_iload_n rfl ?_
            refine ev_ixor (r := 0) (by rw [show (xs 1) = 0 by omega, show (xs 2) = 0 by omega]; decide) ?_
            refine ev_iload_n rfl ?_
            refine ev_in (d := 5) (a := 0) (b := 0) (cd' := c162_0) (m := 1) (L0 := [(0, (xs 1))]) (jcall_s (A := [(0, (xs 1))]) (S' := [(0, 0)]) (by decide) rfl (Nat.le_of_ble_eq_true rfl)) (by decide) ml162 pp162 (Nat.le_of_ble_eq_true rfl) rfl (by decide) (by decide) ?_
            refine ev_iload_n rfl ?_
            refine ev_iload_n rfl ?_
            refine ev_iconst ?_
            refine ev_ishr (r := 0) (by rw [show (xs 1) = 0 by omega]; decide) ?_
            refine ev_ior (r := 0) (by rw [show (xs 1) = 0 by omega]; decide) ?_
            refine ev_bipush ?_
            refine ev_iand (r := 0) (by decide) ?_
            refine ev_iconst ?_
            refine ev_imul (r := 0) (by decide) ?_
            refine ev_ret rfl (by decide) (by decide) ?_
            show jEv _ _ _ _ _ _ _ (_, [(2, 1), (0, (xs 1)), (0, (xs 2))], [(0, 0), (0, 0)], _, _, _)
            refine ev_iand (r := 0) (by decide) ?_
            refine ev_iload_n rfl ?_
            refine ev_in (d := 5) (a := 0) (b := 0) (cd' := c162_0) (m := 1) (L0 := [(0, (xs 2))]) (jcall_s (A := [(0, (xs 2))]) (S' := [(0, 0)]) (by decide) rfl (Nat.le_of_ble_eq_true rfl)) (by decide) ml162 pp162 (Nat.le_of_ble_eq_true rfl) rfl (by decide) (by decide) ?_
            refine ev_iload_n rfl ?_
            refine ev_iload_n rfl ?_
            refine ev_iconst ?_
            refine ev_ishr (r := 0) (by rw [show (xs 2) = 0 by omega]; decide) ?_
            refine ev_ior (r := 0) (by rw [show (xs 2) = 0 by omega]; decide) ?_
            refine ev_bipush ?_
            refine ev_iand (r := 0) (by decide) ?_
            refine ev_iconst ?_
            refine ev_imul (r := 0) (by decide) ?_
            refine ev_ret rfl (by decide) (by decide) ?_
            show jEv _ _ _ _ _ _ _ (_, [(2, 1), (0, (xs 1)), (0, (xs 2))], [(0, 0), (0, 0)], _, _, _)
            refine ev_iand (r := 0) (by decide) ?_
            refine ev_ifeq f163_20 (fun c31 => ?_) (fun c31 => absurd c31 (by omega))
            refine ev_aload_n rfl ?_
            refine ev_iload_n rfl ?_
            refine ev_iload_n rfl ?_
            refine ev_ior (r := 0) (by rw [show (xs 1) = 0 by omega, show (xs 2) = 0 by omega]; decide) ?_
            refine ev_in (d := 5) (a := 0) (b := 0) (cd' := c161_0) (m := 2) (L0 := [(2, 1), (0, 0)]) (jcall_v (A := [(0, 0)]) (S' := []) (r := 1) rfl (hS36.lt (by decide)) (hS36.sh (by decide) rfl).1 (Nat.le_of_ble_eq_true rfl)) (by decide) ml161 pp161 (Nat.le_of_ble_eq_true rfl) rfl (by decide) (by decide) ?_
            refine ev_iload_n rfl ?_
            refine ev_iflt f161_12 (fun c32 => absurd c32 (by omega)) (fun c32 => ?_)
            refine ev_iload_n rfl ?_
            refine ev_aload_n rfl ?_
            refine ev_in (d := 4) (a := 0) (b := 0) (cd' := c157_0) (m := 1) (L0 := [(2, 1)]) (jcall_v (A := []) (S' := [(0, 0)]) (r := 1) rfl (hS36.lt (by decide)) (hS36.sh (by decide) rfl).1 (Nat.le_of_ble_eq_true rfl)) (by decide) ml157 pp157 (Nat.le_of_ble_eq_true rfl) rfl (by decide) (by decide) ?_
            refine ev_iconst ?_
            refine ev_iconst ?_
            refine ev_aload_n rfl ?_
            refine ev_getf (r := 1) (v := 0) (hS36.lt (by decide)) (hS36.fam (by decide) (by decide)) ft10_0 ((jw_ne e36 (Or.inl (by decide))).trans ((jw_ne e35 (Or.inr (by decide))).trans ((jw_ne e34 (Or.inr (by decide))).trans ((hF.v rfl))))) ?_
            refine ev_imul (r := 0) (by decide) ?_
            refine ev_ishl (r := 1) (by decide) ?_
            refine ev_ret rfl (by decide) (by decide) ?_
            show jEv _ _ _ _ _ _ _ (_, [(2, 1), (0, 0)], [(0, 1), (0, 0)], _, _, _)
            refine ev_icmplt f161_16 (fun c33 => ?_) (fun c33 => absurd c33 (by omega))
            refine ev_aload_n rfl ?_
            refine ev_getf (r := 1) (v := 6) (hS36.lt (by decide)) (hS36.fam (by decide) (by decide)) ft10_7 ((jw_ne e36 (Or.inl (by decide))).trans ((jw_ne e35 (Or.inr (by decide))).trans ((jw_ne e34 (Or.inr (by decide))).trans ((hF.v rfl))))) ?_
            refine ev_iload_n rfl ?_
            refine ev_lald (r := 6) (j := 0) (v := 1) (hS36.lt (by decide)) (hS36.sh (by decide) rfl).1 rfl (hS36.inb (by decide) (by decide)) (jw_eq e36) ?_
            refine ev_ret rfl (by decide) (by decide) ?_
            show jEv _ _ _ _ _ _ _ (_, [(2, 1), (0, (xs 1)), (0, (xs 2))], [(1, 1)], _, _, _)
            refine ev_ret rfl (by decide) (by decide) ?_
            show jEv _ _ _ _ _ _ _ (_, [(2, 0), (0, (xs 1)), (0, (xs 2)), (0, (xs 3))], [(1, 1)], _, _, _)
            refine ev_aload_n rfl ?_
            refine ev_getf (r := 0) (v := 1) (hS36.lt (by decide)) (hS36.fam (by decide) (by decide)) ft11_0 ((jw_ne e36 (Or.inl (by decide))).trans ((jw_ne e35 (Or.inl (by decide))).trans ((jw_ne e34 (Or.inl (by decide))).trans ((hF.v rfl))))) ?_
            refine ev_iload_n rfl ?_
            refine ev_in (d := 6) (a := 0) (b := 0) (cd' := c161_0) (m := 2) (L0 := [(2, 1), (0, (xs 2))]) (jcall_v (A := [(0, (xs 2))]) (S' := [(1, 1)]) (r := 1) rfl (hS36.lt (by decide)) (hS36.sh (by decide) rfl).1 (Nat.le_of_ble_eq_true rfl)) (by decide) ml161 pp161 (Nat.le_of_ble_eq_true rfl) rfl (by decide) (by decide) ?_
            refine ev_iload_n rfl ?_
            refine ev_iflt f161_12 (fun c34 => absurd c34 (by omega)) (fun c34 => ?_)
            refine ev_iload_n rfl ?_
            refine ev_aload_n rfl ?_
            refine ev_in (d := 5) (a := 0) (b := 0) (cd' := c157_0) (m := 1) (L0 := [(2, 1)]) (jcall_v (A := []) (S' := [(0, (xs 2))]) (r := 1) rfl (hS36.lt (by decide)) (hS36.sh (by decide) rfl).1 (Nat.le_of_ble_eq_true rfl)) (by decide) ml157 pp157 (Nat.le_of_ble_eq_true rfl) rfl (by decide) (by decide) ?_
            refine ev_iconst ?_
            refine ev_iconst ?_
            refine ev_aload_n rfl ?_
            refine ev_getf (r := 1) (v := 0) (hS36.lt (by decide)) (hS36.fam (by decide) (by decide)) ft10_0 ((jw_ne e36 (Or.inl (by decide))).trans ((jw_ne e35 (Or.inr (by decide))).trans ((jw_ne e34 (Or.inr (by decide))).trans ((hF.v rfl))))) ?_
            refine ev_imul (r := 0) (by decide) ?_
            refine ev_ishl (r := 1) (by decide) ?_
            refine ev_ret rfl (by decide) (by decide) ?_
            show jEv _ _ _ _ _ _ _ (_, [(2, 1), (0, (xs 2))], [(0, 1), (0, (xs 2))], _, _, _)
            refine ev_icmplt f161_16 (fun c35 => ?_) (fun c35 => absurd c35 (by omega))
            refine ev_aload_n rfl ?_
            refine ev_getf (r := 1) (v := 6) (hS36.lt (by decide)) (hS36.fam (by decide) (by decide)) ft10_7 ((jw_ne e36 (Or.inl (by decide))).trans ((jw_ne e35 (Or.inr (by decide))).trans ((jw_ne e34 (Or.inr (by decide))).trans ((hF.v rfl))))) ?_
            refine ev_iload_n rfl ?_
            refine ev_lald (r := 6) (j := 0) (v := 1) (hS36.lt (by decide)) (hS36.sh (by decide) rfl).1 (by omega) (hS36.inb (by decide) (by decide)) (jw_eq e36) ?_
            refine ev_ret rfl (by decide) (by decide) ?_
            show jEv _ _ _ _ _ _ _ (_, [(2, 0), (0, (xs 1)), (0, (xs 2)), (0, (xs 3))], [(1, 1), (1, 1)], _, _, _)
            refine ev_iload_n rfl ?_
            refine ev_in (d := 6) (a := 0) (b := 0) (cd' := c223_0) (m := 9) (L0 := [(1, 1), (9, 0), (1, 1), (9, 0), (0, (xs 3)), (9, 0), (9, 0), (9, 0), (9, 0)]) (jcall_s (A := [(0, (xs 3)), (1, 1), (1, 1)]) (S' := []) (by decide) rfl (Nat.le_of_ble_eq_true rfl)) (by decide) ml223 pp223 (Nat.le_of_ble_eq_true rfl) rfl (by decide) (by decide) ?_
            refine ev_lload_n rfl ?_
            refine ev_lconst ?_
            refine ev_lcmp ?_
            refine ev_ifge f223_11 (fun c36 => ?_) (fun c36 => absurd (show _ from by unfold jcmpL; (repeat' split) <;> omega) c36)
            refine ev_lload_n rfl ?_
            refine ev_lload_n rfl ?_
            refine ev_in (d := 5) (a := 0) (b := 0) (cd' := c224_0) (m := 11) (L0 := [(1, 1), (9, 0), (1, 1), (9, 0), (9, 0), (9, 0), (9, 0), (9, 0), (9, 0), (9, 0), (9, 0)]) (jcall_s (A := [(1, 1), (1, 1)]) (S' := []) (by decide) rfl (Nat.le_of_ble_eq_true rfl)) (by decide) ml224 pp224 (Nat.le_of_ble_eq_true rfl) rfl (by decide) (by decide) ?_
            refine ev_lload_n rfl ?_
            refine ev_lstore (L' := [(1, 1), (9, 0), (1, 1), (9, 0), (1, 1), (9, 0), (9, 0), (9, 0), (9, 0), (9, 0), (9, 0)]) (Nat.le_of_ble_eq_true rfl) rfl ?_
            refine ev_lload_n rfl ?_
            refine ev_lstore (L' := [(1, 1), (9, 0), (1, 1), (9, 0), (1, 1), (9, 0), (1, 1), (9, 0), (9, 0), (9, 0), (9, 0)]) (Nat.le_of_ble_eq_true rfl) rfl ?_
            refine ev_iconst ?_
            refine ev_istore (L' := [(1, 1), (9, 0), (1, 1), (9, 0), (1, 1), (9, 0), (1, 1), (9, 0), (0, 0), (9, 0), (9, 0)]) (Nat.le_of_ble_eq_true rfl) rfl ?_
            refine ev_iload rfl ?_
            refine ev_sipush ?_
            refine ev_icmpge f224_45 (fun c37 => absurd c37 (by omega)) (fun c37 => ?_)
            refine ev_lload rfl ?_
            refine ev_lconst ?_
            refine ev_lcmp ?_
            refine ev_ifeq f224_45 (fun c38 => absurd c38 (by unfold jcmpL; (repeat' split) <;> omega)) (fun c38 => ?_)
            refine ev_lload rfl ?_
            refine ev_lload rfl ?_
            refine ev_lrem (r := 0) (by decide) (by decide) ?_
            refine ev_lstore (L' := [(1, 1), (9, 0), (1, 1), (9, 0), (1, 1), (9, 0), (1, 1), (9, 0), (0, 0), (1, 0), (9, 0)]) (Nat.le_of_ble_eq_true rfl) rfl ?_
            refine ev_lload rfl ?_
            refine ev_lstore (L' := [(1, 1), (9, 0), (1, 1), (9, 0), (1, 1), (9, 0), (1, 1), (9, 0), (0, 0), (1, 0), (9, 0)]) (Nat.le_of_ble_eq_true rfl) rfl ?_
            refine ev_lload rfl ?_
            refine ev_lstore (L' := [(1, 1), (9, 0), (1, 1), (9, 0), (1, 1), (9, 0), (1, 0), (9, 0), (0, 0), (1, 0), (9, 0)]) (Nat.le_of_ble_eq_true rfl) rfl ?_
            refine ev_iinc (w := 1) (L' := [(1, 1), (9, 0), (1, 1), (9, 0), (1, 1), (9, 0), (1, 0), (9, 0), (0, 1), (1, 0), (9, 0)]) rfl (by decide) rfl ?_
            refine ev_goto f224_9 ?_
            refine ev_iload rfl ?_
            refine ev_sipush ?_
            refine ev_icmpge f224_45 (fun c39 => absurd c39 (by omega)) (fun c39 => ?_)
            refine ev_lload rfl ?_
            refine ev_lconst ?_
            refine ev_lcmp ?_
            refine ev_ifeq f224_45 (fun c40 => ?_) (fun c40 => absurd (show _ from by unfold jcmpL; (repeat' split) <;> omega) c40)
            refine ev_lload rfl ?_
            refine ev_ret rfl (by decide) (by decide) ?_
            show jEv _ _ _ _ _ _ _ (_, [(1, 1), (9, 0), (1, 1), (9, 0), (0, (xs 3)), (9, 0), (9, 0), (9, 0), (9, 0)], [(1, 1)], _, _, _)
            refine ev_lstore (L' := [(1, 1), (9, 0), (1, 1), (9, 0), (0, (xs 3)), (1, 1), (9, 0), (9, 0), (9, 0)]) (Nat.le_of_ble_eq_true rfl) rfl ?_
            refine ev_iload rfl ?_
            refine ev_ifne f223_27 (fun c41 => absurd c41 (by omega)) (fun c41 => ?_)
            refine ev_lload_n rfl ?_
            refine ev_goto f223_28 ?_
            refine ev_lstore (L' := [(1, 1), (9, 0), (1, 1), (9, 0), (0, (xs 3)), (1, 1), (9, 0), (1, 1), (9, 0)]) (Nat.le_of_ble_eq_true rfl) rfl ?_
            refine ev_lload rfl ?_
            refine ev_lconst ?_
            refine ev_lcmp ?_
            refine ev_ifgt f223_42 (fun c42 => absurd c42 (by unfold jcmpL; (repeat' split) <;> omega)) (fun c42 => ?_)
            refine ev_lload rfl ?_
            refine ev_goto f223_47 ?_
            refine ev_ret rfl (by decide) (by decide) ?_
            show jEv _ _ _ _ _ _ _ (_, [(2, 0), (0, (xs 1)), (0, (xs 2)), (0, (xs 3))], [(1, 1)], _, _, _)
            refine ev_ret rfl (by decide) (by decide) ?_
            show jEv _ _ _ _ _ _ _ (_, [(2, (-2)), (2, 0), (2, 42), (0, 0)], [(1, 1)], _, _, _)
            refine ev_aload_n rfl ?_
            refine ev_aload_n rfl ?_
            refine ev_iload_n rfl ?_
            refine ev_iconst ?_
            refine ev_iadd (r := 1) (by decide) ?_
            refine ev_sald (j := 1) (v := (xs 1)) rfl rfl rfl ?_
            refine ev_aload_n rfl ?_
            refine ev_iload_n rfl ?_
            refine ev_iconst ?_
            refine ev_iadd (r := 2) (by decide) ?_
            refine ev_sald (j := 2) (v := (xs 2)) rfl rfl rfl ?_
            refine ev_aload_n rfl ?_
            refine ev_iload_n rfl ?_
            refine ev_iconst ?_
            refine ev_iadd (r := 3) (by decide) ?_
            refine ev_sald (j := 3) (v := (xs 3)) rfl rfl rfl ?_
            refine ev_in (d := 7) (a := 0) (b := 0) (cd' := c260_0) (m := 9) (L0 := [(2, 42), (0, (xs 1)), (0, (xs 2)), (0, (xs 3)), (9, 0), (9, 0), (9, 0), (9, 0), (9, 0)]) (jcall_v (A := [(0, (xs 3)), (0, (xs 2)), (0, (xs 1))]) (S' := [(1, 1)]) (r := 42) rfl (hS36.lt (by decide)) (hS36.sh (by decide) rfl).1 (Nat.le_of_ble_eq_true rfl)) (by decide) ml260 pp260 (Nat.le_of_ble_eq_true rfl) rfl (by decide) (by decide) ?_
            refine ev_aload_n rfl ?_
            refine ev_iload_n rfl ?_
            refine ev_in (d := 6) (a := 0) (b := 0) (cd' := c258_0) (m := 3) (L0 := [(2, 42), (0, (xs 1)), (9, 0)]) (jcall_v (A := [(0, (xs 1))]) (S' := []) (r := 42) rfl (hS36.lt (by decide)) (hS36.sh (by decide) rfl).1 (Nat.le_of_ble_eq_true rfl)) (by decide) ml258 pp258 (Nat.le_of_ble_eq_true rfl) rfl (by decide) (by decide) ?_
            refine ev_iload_n rfl ?_
            refine ev_iflt f258_15 (fun c43 => absurd c43 (by omega)) (fun c43 => ?_)
            refine ev_iload_n rfl ?_
            refine ev_iconst ?_
            refine ev_aload_n rfl ?_
            refine ev_getf (r := 42) (v := 0) (hS36.lt (by decide)) (hS36.fam (by decide) (by decide)) ft12_1 ((jw_ne e36 (Or.inl (by decide))).trans ((jw_ne e35 (Or.inl (by decide))).trans ((jw_ne e34 (Or.inl (by decide))).trans ((hF.v rfl))))) ?_
            refine ev_imul (r := 0) (by decide) ?_
            refine ev_ishr (r := 0) (by rw [show (xs 1) = 0 by omega]; decide) ?_
            refine ev_ifeq f258_17 (fun c44 => ?_) (fun c44 => absurd c44 (by omega))
            refine ev_iconst ?_
            refine ev_istore_n (L' := [(2, 42), (0, (xs 1)), (0, 0)]) (Nat.le_of_ble_eq_true rfl) rfl ?_
            refine ev_iload_n rfl ?_
            refine ev_aload_n rfl ?_
            refine ev_getf (r := 42) (v := 0) (hS36.lt (by decide)) (hS36.fam (by decide) (by decide)) ft12_1 ((jw_ne e36 (Or.inl (by decide))).trans ((jw_ne e35 (Or.inl (by decide))).trans ((jw_ne e34 (Or.inl (by decide))).trans ((hF.v rfl))))) ?_
            refine ev_icmpge f258_51 (fun c45 => ?_) (fun c45 => absurd c45 (by omega))
            refine ev_iconst ?_
            refine ev_ret rfl (by decide) (by decide) ?_
            show jEv _ _ _ _ _ _ _ (_, [(2, 42), (0, (xs 1)), (0, (xs 2)), (0, (xs 3)), (9, 0), (9, 0), (9, 0), (9, 0), (9, 0)], [(0, 1)], _, _, _)
            refine ev_ifeq f260_25 (fun c46 => absurd c46 (by omega)) (fun c46 => ?_)
            refine ev_aload_n rfl ?_
            refine ev_iload_n rfl ?_
            refine ev_in (d := 6) (a := 0) (b := 0) (cd' := c258_0) (m := 3) (L0 := [(2, 42), (0, (xs 2)), (9, 0)]) (jcall_v (A := [(0, (xs 2))]) (S' := []) (r := 42) rfl (hS36.lt (by decide)) (hS36.sh (by decide) rfl).1 (Nat.le_of_ble_eq_true rfl)) (by decide) ml258 pp258 (Nat.le_of_ble_eq_true rfl) rfl (by decide) (by decide) ?_
            refine ev_iload_n rfl ?_
            refine ev_iflt f258_15 (fun c47 => absurd c47 (by omega)) (fun c47 => ?_)
            refine ev_iload_n rfl ?_
            refine ev_iconst ?_
            refine ev_aload_n rfl ?_
            refine ev_getf (r := 42) (v := 0) (hS36.lt (by decide)) (hS36.fam (by decide) (by decide)) ft12_1 ((jw_ne e36 (Or.inl (by decide))).trans ((jw_ne e35 (Or.inl (by decide))).trans ((jw_ne e34 (Or.inl (by decide))).trans ((hF.v rfl))))) ?_
            refine ev_imul (r := 0) (by decide) ?_
            refine ev_ishr (r := 0) (by rw [show (xs 2) = 0 by omega]; decide) ?_
            refine ev_ifeq f258_17 (fun c48 => ?_) (fun c48 => absurd c48 (by omega))
            refine ev_iconst ?_
            refine ev_istore_n (L' := [(2, 42), (0, (xs 2)), (0, 0)]) (Nat.le_of_ble_eq_true rfl) rfl ?_
            refine ev_iload_n rfl ?_
            refine ev_aload_n rfl ?_
            refine ev_getf (r := 42) (v := 0) (hS36.lt (by decide)) (hS36.fam (by decide) (by decide)) ft12_1 ((jw_ne e36 (Or.inl (by decide))).trans ((jw_ne e35 (Or.inl (by decide))).trans ((jw_ne e34 (Or.inl (by decide))).trans ((hF.v rfl))))) ?_
            refine ev_icmpge f258_51 (fun c49 => ?_) (fun c49 => absurd c49 (by omega))
            refine ev_iconst ?_
            refine ev_ret rfl (by decide) (by decide) ?_
            show jEv _ _ _ _ _ _ _ (_, [(2, 42), (0, (xs 1)), (0, (xs 2)), (0, (xs 3)), (9, 0), (9, 0), (9, 0), (9, 0), (9, 0)], [(0, 1)], _, _, _)
            refine ev_ifeq f260_25 (fun c50 => absurd c50 (by omega)) (fun c50 => ?_)
            refine ev_iload_n rfl ?_
            refine ev_iconst ?_
            refine ev_iconst ?_
            refine ev_in (d := 6) (a := 0) (b := 0) (cd' := c242_0) (m := 3) (L0 := [(0, (xs 3)), (0, 0), (0, 1)]) (jcall_s (A := [(0, 1), (0, 0), (0, (xs 3))]) (S' := []) (by decide) rfl (Nat.le_of_ble_eq_true rfl)) (by decide) ml242 pp242 (Nat.le_of_ble_eq_true rfl) rfl (by decide) (by decide) ?_
            refine ev_iload_n rfl ?_
            refine ev_iload_n rfl ?_
            refine ev_icmplt f242_14 (fun c51 => absurd c51 (by omega)) (fun c51 => ?_)
            refine ev_iload_n rfl ?_
            refine ev_iload_n rfl ?_
            refine ev_icmpgt f242_14 (fun c52 => absurd c52 (by omega)) (fun c52 => ?_)
            refine ev_iconst ?_
            refine ev_goto f242_15 ?_
            refine ev_ret rfl (by decide) (by decide) ?_
            show jEv _ _ _ _ _ _ _ (_, [(2, 42), (0, (xs 1)), (0, (xs 2)), (0, (xs 3)), (9, 0), (9, 0), (9, 0), (9, 0), (9, 0)], [(0, 1)], _, _, _)
            refine ev_ifne f260_29 (fun c53 => ?_) (fun c53 => absurd c53 (by omega))
            refine ev_aload_n rfl ?_
            refine ev_in (d := 6) (a := 0) (b := 0) (cd' := c256_0) (m := 4) (L0 := [(2, 42), (9, 0), (9, 0), (9, 0)]) (jcall_v (A := []) (S' := []) (r := 42) rfl (hS36.lt (by decide)) (hS36.sh (by decide) rfl).1 (Nat.le_of_ble_eq_true rfl)) (by decide) ml256 pp256 (Nat.le_of_ble_eq_true rfl) rfl (by decide) (by decide) ?_
            refine ev_aload_n rfl ?_
            refine ev_aload_n rfl ?_
            refine ev_in (d := 5) (a := 0) (b := 0) (cd' := c253_0) (m := 6) (L0 := [(2, 42), (9, 0), (9, 0), (9, 0), (9, 0), (9, 0)]) (jcall_v (A := []) (S' := [(2, 42)]) (r := 42) rfl (hS36.lt (by decide)) (hS36.sh (by decide) rfl).1 (Nat.le_of_ble_eq_true rfl)) (by decide) ml253 pp253 (Nat.le_of_ble_eq_true rfl) rfl (by decide) (by decide) ?_
            refine ev_lconst ?_
            refine ev_lstore_n (L' := [(2, 42), (1, 1), (9, 0), (9, 0), (9, 0), (9, 0)]) (Nat.le_of_ble_eq_true rfl) rfl ?_
            refine ev_iconst ?_
            refine ev_istore_n (L' := [(2, 42), (1, 1), (9, 0), (0, 0), (9, 0), (9, 0)]) (Nat.le_of_ble_eq_true rfl) rfl ?_
            refine ev_iload_n rfl ?_
            refine ev_aload_n rfl ?_
            refine ev_getf (r := 42) (v := 0) (hS36.lt (by decide)) (hS36.fam (by decide) (by decide)) ft12_1 ((jw_ne e36 (Or.inl (by decide))).trans ((jw_ne e35 (Or.inl (by decide))).trans ((jw_ne e34 (Or.inl (by decide))).trans ((hF.v rfl))))) ?_
            refine ev_icmpge f253_45 (fun c54 => ?_) (fun c54 => absurd c54 (by omega))
            refine ev_lload_n rfl ?_
            refine ev_ret rfl (by decide) (by decide) ?_
            show jEv _ _ _ _ _ _ _ (_, [(2, 42), (9, 0), (9, 0), (9, 0)], [(1, 1), (2, 42)], _, _, _)
            refine ev_putfG (r := 42) (hS36.lt (by decide)) (hS36.fam (by decide) (by decide)) ft12_8 (fun e => absurd e nz12_8) (fun e => absurd e (by decide)) (fun h37 e37 => ?_)
            have hS37 := hS36.wr e37
            refine ev_aload_n rfl ?_
            refine ev_getf (r := 42) (v := 1) (hS37.lt (by decide)) (hS37.fam (by decide) (by decide)) ft12_8 (jw_eq e37) ?_
            refine ev_lconst ?_
            refine ev_lcmp ?_
            refine ev_ifge f256_19 (fun c55 => ?_) (fun c55 => absurd (show _ from by unfold jcmpL; (repeat' split) <;> omega) c55)
            refine ev_aload_n rfl ?_
            refine ev_iconst ?_
            refine ev_putfG (r := 42) (hS37.lt (by decide)) (hS37.fam (by decide) (by decide)) ft12_5 (fun e => absurd e nz12_5) (fun e => absurd e (by decide)) (fun h38 e38 => ?_)
            have hS38 := hS37.wr e38
            refine ev_iconst ?_
            refine ev_istore_n (L' := [(2, 42), (0, 0), (9, 0), (9, 0)]) (Nat.le_of_ble_eq_true rfl) rfl ?_
            refine ev_iload_n rfl ?_
            refine ev_aload_n rfl ?_
            refine ev_getf (r := 42) (v := 0) (hS38.lt (by decide)) (hS38.fam (by decide) (by decide)) ft12_1 ((jw_ne e38 (Or.inr (by decide))).trans ((jw_ne e37 (Or.inr (by decide))).trans ((jw_ne e36 (Or.inl (by decide))).trans ((jw_ne e35 (Or.inl (by decide))).trans ((jw_ne e34 (Or.inl (by decide))).trans ((hF.v rfl))))))) ?_
            refine ev_icmpge f256_55 (fun c56 => ?_) (fun c56 => absurd c56 (by omega))
            refine ev_iconst ?_
            refine ev_istore_n (L' := [(2, 42), (0, 0), (9, 0), (9, 0)]) (Nat.le_of_ble_eq_true rfl) rfl ?_
            refine ev_iload_n rfl ?_
            refine ev_aload_n rfl ?_
            refine ev_getf (r := 42) (v := 1) (hS38.lt (by decide)) (hS38.fam (by decide) (by decide)) ft12_5 (jw_eq e38) ?_
            refine ev_icmpge f256_127 (fun c57 => absurd c57 (by omega)) (fun c57 => ?_)
            refine ev_iload_n rfl ?_
            refine ev_istore_n (L' := [(2, 42), (0, 0), (0, 0), (9, 0)]) (Nat.le_of_ble_eq_true rfl) rfl ?_
            refine ev_iconst ?_
            refine ev_istore_n (L' := [(2, 42), (0, 0), (0, 0), (0, 0)]) (Nat.le_of_ble_eq_true rfl) rfl ?_
            refine ev_iload_n rfl ?_
            refine ev_aload_n rfl ?_
            refine ev_getf (r := 42) (v := 0) (hS38.lt (by decide)) (hS38.fam (by decide) (by decide)) ft12_1 ((jw_ne e38 (Or.inr (by decide))).trans ((jw_ne e37 (Or.inr (by decide))).trans ((jw_ne e36 (Or.inl (by decide))).trans ((jw_ne e35 (Or.inl (by decide))).trans ((jw_ne e34 (Or.inl (by decide))).trans ((hF.v rfl))))))) ?_
            refine ev_icmpge f256_110 (fun c58 => ?_) (fun c58 => absurd c58 (by omega))
            refine ev_aload_n rfl ?_
            refine ev_getf (r := 42) (v := 47) (hS38.lt (by decide)) (hS38.fam (by decide) (by decide)) ft12_7 ((jw_ne e38 (Or.inr (by decide))).trans ((jw_ne e37 (Or.inr (by decide))).trans ((jw_ne e36 (Or.inl (by decide))).trans ((jw_ne e35 (Or.inl (by decide))).trans ((jw_ne e34 (Or.inl (by decide))).trans ((hF.v rfl))))))) ?_
            refine ev_iload_n rfl ?_
            refine ev_aload_n rfl ?_
            refine ev_iload_n rfl ?_
            refine ev_in (d := 5) (a := 0) (b := 0) (cd' := c255_0) (m := 6) (L0 := [(2, 42), (0, 0), (9, 0), (9, 0), (9, 0), (9, 0)]) (jcall_v (A := [(0, 0)]) (S' := [(0, 0), (2, 47)]) (r := 42) rfl (hS38.lt (by decide)) (hS38.sh (by decide) rfl).1 (Nat.le_of_ble_eq_true rfl)) (by decide) ml255 pp255 (Nat.le_of_ble_eq_true rfl) rfl (by decide) (by decide) ?_
            refine ev_lconst ?_
            refine ev_lstore_n (L' := [(2, 42), (0, 0), (1, 1), (9, 0), (9, 0), (9, 0)]) (Nat.le_of_ble_eq_true rfl) rfl ?_
            refine ev_iconst ?_
            refine ev_istore (L' := [(2, 42), (0, 0), (1, 1), (9, 0), (0, 0), (9, 0)]) (Nat.le_of_ble_eq_true rfl) rfl ?_
            refine ev_iload rfl ?_
            refine ev_aload_n rfl ?_
            refine ev_getf (r := 42) (v := 0) (hS38.lt (by decide)) (hS38.fam (by decide) (by decide)) ft12_1 ((jw_ne e38 (Or.inr (by decide))).trans ((jw_ne e37 (Or.inr (by decide))).trans ((jw_ne e36 (Or.inl (by decide))).trans ((jw_ne e35 (Or.inl (by decide))).trans ((jw_ne e34 (Or.inl (by decide))).trans ((hF.v rfl))))))) ?_
            refine ev_icmpge f255_100 (fun c59 => ?_) (fun c59 => absurd c59 (by omega))
            refine ev_lload_n rfl ?_
            refine ev_ret rfl (by decide) (by decide) ?_
            show jEv _ _ _ _ _ _ _ (_, [(2, 42), (0, 0), (0, 0), (0, 0)], [(1, 1), (0, 0), (2, 47)], _, _, _)
            refine ev_lastG (r := 47) (j := 0) (hS38.lt (by decide)) (hS38.sh (by decide) rfl).1 rfl (hS38.inb (by decide) (by decide)) (fun h39 e39 => ?_)
            have hS39 := hS38.wr e39
            refine ev_iinc (w := 1) (L' := [(2, 42), (0, 1), (0, 0), (0, 0)]) rfl (by decide) rfl ?_
            refine ev_goto f256_57 ?_
            refine ev_iload_n rfl ?_
            refine ev_aload_n rfl ?_
            refine ev_getf (r := 42) (v := 1) (hS39.lt (by decide)) (hS39.fam (by decide) (by decide)) ft12_5 ((jw_ne e39 (Or.inl (by decide))).trans (jw_eq e38)) ?_
            refine ev_icmpge f256_127 (fun c60 => ?_) (fun c60 => absurd c60 (by omega))
            refine ev_iconst ?_
            refine ev_ret rfl (by decide) (by decide) ?_
            show jEv _ _ _ _ _ _ _ (_, [(2, 42), (0, (xs 1)), (0, (xs 2)), (0, (xs 3)), (9, 0), (9, 0), (9, 0), (9, 0), (9, 0)], [(0, 1)], _, _, _)
            refine ev_ifne f260_40 (fun c61 => ?_) (fun c61 => absurd c61 (by omega))
            refine ev_lconst ?_
            refine ev_lstore (L' := [(2, 42), (0, (xs 1)), (0, (xs 2)), (0, (xs 3)), (1, 0), (9, 0), (9, 0), (9, 0), (9, 0)]) (Nat.le_of_ble_eq_true rfl) rfl ?_
            refine ev_lconst ?_
            refine ev_lstore (L' := [(2, 42), (0, (xs 1)), (0, (xs 2)), (0, (xs 3)), (1, 0), (9, 0), (1, 0), (9, 0), (9, 0)]) (Nat.le_of_ble_eq_true rfl) rfl ?_
            refine ev_iconst ?_
            refine ev_istore (L' := [(2, 42), (0, (xs 1)), (0, (xs 2)), (0, (xs 3)), (1, 0), (9, 0), (1, 0), (9, 0), (0, 0)]) (Nat.le_of_ble_eq_true rfl) rfl ?_
            refine ev_iload rfl ?_
            refine ev_aload_n rfl ?_
            refine ev_getf (r := 42) (v := 1) (hS39.lt (by decide)) (hS39.fam (by decide) (by decide)) ft12_5 ((jw_ne e39 (Or.inl (by decide))).trans (jw_eq e38)) ?_
            refine ev_icmpge f260_111 (fun c62 => absurd c62 (by omega)) (fun c62 => ?_)
            refine ev_aload_n rfl ?_
            refine ev_iload rfl ?_
            refine ev_iload_n rfl ?_
            refine ev_in (d := 6) (a := 0) (b := 0) (cd' := c259_0) (m := 5) (L0 := [(2, 42), (0, 0), (0, (xs 2)), (9, 0), (9, 0)]) (jcall_v (A := [(0, (xs 2)), (0, 0)]) (S' := []) (r := 42) rfl (hS39.lt (by decide)) (hS39.sh (by decide) rfl).1 (Nat.le_of_ble_eq_true rfl)) (by decide) ml259 pp259 (Nat.le_of_ble_eq_true rfl) rfl (by decide) (by decide) ?_
            refine ev_iconst ?_
            refine ev_istore_n (L' := [(2, 42), (0, 0), (0, (xs 2)), (0, 0), (9, 0)]) (Nat.le_of_ble_eq_true rfl) rfl ?_
            refine ev_iload_n rfl ?_
            refine ev_aload_n rfl ?_
            refine ev_getf (r := 42) (v := 0) (hS39.lt (by decide)) (hS39.fam (by decide) (by decide)) ft12_1 ((jw_ne e39 (Or.inl (by decide))).trans ((jw_ne e38 (Or.inr (by decide))).trans ((jw_ne e37 (Or.inr (by decide))).trans ((jw_ne e36 (Or.inl (by decide))).trans ((jw_ne e35 (Or.inl (by decide))).trans ((jw_ne e34 (Or.inl (by decide))).trans ((hF.v rfl)))))))) ?_
            refine ev_icmpge f259_49 (fun c63 => ?_) (fun c63 => absurd c63 (by omega))
            refine ev_iconst ?_
            refine ev_ret rfl (by decide) (by decide) ?_
            show jEv _ _ _ _ _ _ _ (_, [(2, 42), (0, (xs 1)), (0, (xs 2)), (0, (xs 3)), (1, 0), (9, 0), (1, 0), (9, 0), (0, 0)], [(0, 1)], _, _, _)
            refine ev_ifne f260_71 (fun c64 => ?_) (fun c64 => absurd c64 (by omega))
            refine ev_lload rfl ?_
            refine ev_aload_n rfl ?_
            refine ev_getf (r := 42) (v := 47) (hS39.lt (by decide)) (hS39.fam (by decide) (by decide)) ft12_7 ((jw_ne e39 (Or.inl (by decide))).trans ((jw_ne e38 (Or.inr (by decide))).trans ((jw_ne e37 (Or.inr (by decide))).trans ((jw_ne e36 (Or.inl (by decide))).trans ((jw_ne e35 (Or.inl (by decide))).trans ((jw_ne e34 (Or.inl (by decide))).trans ((hF.v rfl)))))))) ?_
            refine ev_iload rfl ?_
            refine ev_lald (r := 47) (j := 0) (v := 1) (hS39.lt (by decide)) (hS39.sh (by decide) rfl).1 rfl (hS39.inb (by decide) (by decide)) (jw_eq e39) ?_
            refine ev_ladd (r := 1) (by decide) ?_
            refine ev_lstore (L' := [(2, 42), (0, (xs 1)), (0, (xs 2)), (0, (xs 3)), (1, 0), (9, 0), (1, 1), (9, 0), (0, 0)]) (Nat.le_of_ble_eq_true rfl) rfl ?_
            refine ev_aload_n rfl ?_
            refine ev_iload rfl ?_
            refine ev_iload_n rfl ?_
            refine ev_in (d := 6) (a := 0) (b := 0) (cd' := c259_0) (m := 5) (L0 := [(2, 42), (0, 0), (0, (xs 1)), (9, 0), (9, 0)]) (jcall_v (A := [(0, (xs 1)), (0, 0)]) (S' := []) (r := 42) rfl (hS39.lt (by decide)) (hS39.sh (by decide) rfl).1 (Nat.le_of_ble_eq_true rfl)) (by decide) ml259 pp259 (Nat.le_of_ble_eq_true rfl) rfl (by decide) (by decide) ?_
            refine ev_iconst ?_
            refine ev_istore_n (L' := [(2, 42), (0, 0), (0, (xs 1)), (0, 0), (9, 0)]) (Nat.le_of_ble_eq_true rfl) rfl ?_
            refine ev_iload_n rfl ?_
            refine ev_aload_n rfl ?_
            refine ev_getf (r := 42) (v := 0) (hS39.lt (by decide)) (hS39.fam (by decide) (by decide)) ft12_1 ((jw_ne e39 (Or.inl (by decide))).trans ((jw_ne e38 (Or.inr (by decide))).trans ((jw_ne e37 (Or.inr (by decide))).trans ((jw_ne e36 (Or.inl (by decide))).trans ((jw_ne e35 (Or.inl (by decide))).trans ((jw_ne e34 (Or.inl (by decide))).trans ((hF.v rfl)))))))) ?_
            refine ev_icmpge f259_49 (fun c65 => ?_) (fun c65 => absurd c65 (by omega))
            refine ev_iconst ?_
            refine ev_ret rfl (by decide) (by decide) ?_
            show jEv _ _ _ _ _ _ _ (_, [(2, 42), (0, (xs 1)), (0, (xs 2)), (0, (xs 3)), (1, 0), (9, 0), (1, 1), (9, 0), (0, 0)], [(0, 1)], _, _, _)
            refine ev_ifeq f260_105 (fun c66 => absurd c66 (by omega)) (fun c66 => ?_)
            refine ev_lload rfl ?_
            refine ev_aload_n rfl ?_
            refine ev_getf (r := 42) (v := 47) (hS39.lt (by decide)) (hS39.fam (by decide) (by decide)) ft12_7 ((jw_ne e39 (Or.inl (by decide))).trans ((jw_ne e38 (Or.inr (by decide))).trans ((jw_ne e37 (Or.inr (by decide))).trans ((jw_ne e36 (Or.inl (by decide))).trans ((jw_ne e35 (Or.inl (by decide))).trans ((jw_ne e34 (Or.inl (by decide))).trans ((hF.v rfl)))))))) ?_
            refine ev_iload rfl ?_
            refine ev_lald (r := 47) (j := 0) (v := 1) (hS39.lt (by decide)) (hS39.sh (by decide) rfl).1 rfl (hS39.inb (by decide) (by decide)) (jw_eq e39) ?_
            refine ev_ladd (r := 1) (by decide) ?_
            refine ev_lstore (L' := [(2, 42), (0, (xs 1)), (0, (xs 2)), (0, (xs 3)), (1, 1), (9, 0), (1, 1), (9, 0), (0, 0)]) (Nat.le_of_ble_eq_true rfl) rfl ?_
            refine ev_iinc (w := 1) (L' := [(2, 42), (0, (xs 1)), (0, (xs 2)), (0, (xs 3)), (1, 1), (9, 0), (1, 1), (9, 0), (0, 1)]) rfl (by decide) rfl ?_
            refine ev_goto f260_49 ?_
            refine ev_iload rfl ?_
            refine ev_aload_n rfl ?_
            refine ev_getf (r := 42) (v := 1) (hS39.lt (by decide)) (hS39.fam (by decide) (by decide)) ft12_5 ((jw_ne e39 (Or.inl (by decide))).trans (jw_eq e38)) ?_
            refine ev_icmpge f260_111 (fun c67 => ?_) (fun c67 => absurd c67 (by omega))
            refine ev_lload rfl ?_
            refine ev_lload rfl ?_
            refine ev_iload_n rfl ?_
            refine ev_in (d := 6) (a := 0) (b := 0) (cd' := c244_0) (m := 7) (L0 := [(1, 1), (9, 0), (1, 1), (9, 0), (0, (xs 3)), (9, 0), (9, 0)]) (jcall_s (A := [(0, (xs 3)), (1, 1), (1, 1)]) (S' := []) (by decide) rfl (Nat.le_of_ble_eq_true rfl)) (by decide) ml244 pp244 (Nat.le_of_ble_eq_true rfl) rfl (by decide) (by decide) ?_
            refine ev_lload_n rfl ?_
            refine ev_lload_n rfl ?_
            refine ev_in (d := 5) (a := 0) (b := 0) (cd' := c243_0) (m := 10) (L0 := [(1, 1), (9, 0), (1, 1), (9, 0), (9, 0), (9, 0), (9, 0), (9, 0), (9, 0), (9, 0)]) (jcall_s (A := [(1, 1), (1, 1)]) (S' := []) (by decide) rfl (Nat.le_of_ble_eq_true rfl)) (by decide) ml243 pp243 (Nat.le_of_ble_eq_true rfl) rfl (by decide) (by decide) ?_
            refine ev_lload_n rfl ?_
            refine ev_lconst ?_
            refine ev_lcmp ?_
            refine ev_ifge f243_11 (fun c68 => ?_) (fun c68 => absurd (show _ from by unfold jcmpL; (repeat' split) <;> omega) c68)
            refine ev_lload_n rfl ?_
            refine ev_lstore (L' := [(1, 1), (9, 0), (1, 1), (9, 0), (1, 1), (9, 0), (9, 0), (9, 0), (9, 0), (9, 0)]) (Nat.le_of_ble_eq_true rfl) rfl ?_
            refine ev_lload_n rfl ?_
            refine ev_lstore (L' := [(1, 1), (9, 0), (1, 1), (9, 0), (1, 1), (9, 0), (1, 1), (9, 0), (9, 0), (9, 0)]) (Nat.le_of_ble_eq_true rfl) rfl ?_
            refine ev_lload rfl ?_
            refine ev_lconst ?_
            refine ev_lcmp ?_
            refine ev_ifeq f243_42 (fun c69 => absurd c69 (by unfold jcmpL; (repeat' split) <;> omega)) (fun c69 => ?_)
            refine ev_lload rfl ?_
            refine ev_lload rfl ?_
            refine ev_lrem (r := 0) (by decide) (by decide) ?_
            refine ev_lstore (L' := [(1, 1), (9, 0), (1, 1), (9, 0), (1, 1), (9, 0), (1, 1), (9, 0), (1, 0), (9, 0)]) (Nat.le_of_ble_eq_true rfl) rfl ?_
            refine ev_lload rfl ?_
            refine ev_lstore (L' := [(1, 1), (9, 0), (1, 1), (9, 0), (1, 1), (9, 0), (1, 1), (9, 0), (1, 0), (9, 0)]) (Nat.le_of_ble_eq_true rfl) rfl ?_
            refine ev_lload rfl ?_
            refine ev_lstore (L' := [(1, 1), (9, 0), (1, 1), (9, 0), (1, 1), (9, 0), (1, 0), (9, 0), (1, 0), (9, 0)]) (Nat.le_of_ble_eq_true rfl) rfl ?_
            refine ev_goto f243_17 ?_
            refine ev_lload rfl ?_
            refine ev_lconst ?_
            refine ev_lcmp ?_
            refine ev_ifeq f243_42 (fun c70 => ?_) (fun c70 => absurd (show _ from by unfold jcmpL; (repeat' split) <;> omega) c70)
            refine ev_lload rfl ?_
            refine ev_lconst ?_
            refine ev_lcmp ?_
            refine ev_ifne f243_53 (fun c71 => ?_) (fun c71 => absurd (show _ from by unfold jcmpL; (repeat' split) <;> omega) c71)
            refine ev_lload rfl ?_
            refine ev_ret rfl (by decide) (by decide) ?_
            show jEv _ _ _ _ _ _ _ (_, [(1, 1), (9, 0), (1, 1), (9, 0), (0, (xs 3)), (9, 0), (9, 0)], [(1, 1)], _, _, _)
            refine ev_lstore (L' := [(1, 1), (9, 0), (1, 1), (9, 0), (0, (xs 3)), (1, 1), (9, 0)]) (Nat.le_of_ble_eq_true rfl) rfl ?_
            refine ev_iload rfl ?_
            refine ev_ifne f244_19 (fun c72 => absurd c72 (by omega)) (fun c72 => ?_)
            refine ev_lload_n rfl ?_
            refine ev_lload rfl ?_
            refine ev_ldiv (r := 1) (by decide) (by decide) ?_
            refine ev_goto f244_23 ?_
            refine ev_ret rfl (by decide) (by decide) ?_
            show jEv _ _ _ _ _ _ _ (_, [(2, 42), (0, (xs 1)), (0, (xs 2)), (0, (xs 3)), (1, 1), (9, 0), (1, 1), (9, 0), (0, 1)], [(1, 1)], _, _, _)
            refine ev_ret rfl (by decide) (by decide) ?_
            show jEv _ _ _ _ _ _ _ (_, [(2, (-2)), (2, 0), (2, 42), (0, 0)], [(1, 1), (1, 1)], _, _, _)
            refine ev_lcmp ?_
            refine ev_ifeq f384_2190 (fun c73 => ?_) (fun c73 => absurd (show _ from by unfold jcmpL; (repeat' split) <;> omega) c73)
            exact law_tail _
          · refine ev_iload_n rfl ?_
            refine ev_iconst ?_
            refine ev_icmpne f221_13 (fun c74 => ?_) (fun c74 => ?_)
            · refine ev_iconst ?_
              refine ev_ret rfl (by decide) (by decide) ?_
              show jEv _ _ _ _ _ _ _ (_, [(2, 0), (0, (xs 1)), (0, (xs 2)), (0, (xs 3))], [(0, 0)], _, _, _)
              refine ev_ifne f171_33 (fun c75 => absurd c75 (by omega)) (fun c75 => ?_)
              refine ev_ldc2_w ?_
              refine ev_ret rfl (by decide) (by decide) ?_
              show jEv _ _ _ _ _ _ _ (_, [(2, (-2)), (2, 0), (2, 42), (0, 0)], [(1, (-1))], _, _, _)
              refine ev_aload_n rfl ?_
              refine ev_aload_n rfl ?_
              refine ev_iload_n rfl ?_
              refine ev_iconst ?_
              refine ev_iadd (r := 1) (by decide) ?_
              refine ev_sald (j := 1) (v := (xs 1)) rfl rfl rfl ?_
              refine ev_aload_n rfl ?_
              refine ev_iload_n rfl ?_
              refine ev_iconst ?_
              refine ev_iadd (r := 2) (by decide) ?_
              refine ev_sald (j := 2) (v := (xs 2)) rfl rfl rfl ?_
              refine ev_aload_n rfl ?_
              refine ev_iload_n rfl ?_
              refine ev_iconst ?_
              refine ev_iadd (r := 3) (by decide) ?_
              refine ev_sald (j := 3) (v := (xs 3)) rfl rfl rfl ?_
              refine ev_in (d := 7) (a := 0) (b := 0) (cd' := c260_0) (m := 9) (L0 := [(2, 42), (0, (xs 1)), (0, (xs 2)), (0, (xs 3)), (9, 0), (9, 0), (9, 0), (9, 0), (9, 0)]) (jcall_v (A := [(0, (xs 3)), (0, (xs 2)), (0, (xs 1))]) (S' := [(1, (-1))]) (r := 42) rfl (hF.1.lt (by decide)) (hF.1.sh (by decide) rfl).1 (Nat.le_of_ble_eq_true rfl)) (by decide) ml260 pp260 (Nat.le_of_ble_eq_true rfl) rfl (by decide) (by decide) ?_
              refine ev_aload_n rfl ?_
              refine ev_iload_n rfl ?_
              refine ev_in (d := 6) (a := 0) (b := 0) (cd' := c258_0) (m := 3) (L0 := [(2, 42), (0, (xs 1)), (9, 0)]) (jcall_v (A := [(0, (xs 1))]) (S' := []) (r := 42) rfl (hF.1.lt (by decide)) (hF.1.sh (by decide) rfl).1 (Nat.le_of_ble_eq_true rfl)) (by decide) ml258 pp258 (Nat.le_of_ble_eq_true rfl) rfl (by decide) (by decide) ?_
              refine ev_iload_n rfl ?_
              refine ev_iflt f258_15 (fun c76 => absurd c76 (by omega)) (fun c76 => ?_)
              refine ev_iload_n rfl ?_
              refine ev_iconst ?_
              refine ev_aload_n rfl ?_
              refine ev_getf (r := 42) (v := 0) (hF.1.lt (by decide)) (hF.1.fam (by decide) (by decide)) ft12_1 ((hF.v rfl)) ?_
              refine ev_imul (r := 0) (by decide) ?_
              refine ev_ishr (r := 0) (by rw [show (xs 1) = 0 by omega]; decide) ?_
              refine ev_ifeq f258_17 (fun c77 => ?_) (fun c77 => absurd c77 (by omega))
              refine ev_iconst ?_
              refine ev_istore_n (L' := [(2, 42), (0, (xs 1)), (0, 0)]) (Nat.le_of_ble_eq_true rfl) rfl ?_
              refine ev_iload_n rfl ?_
              refine ev_aload_n rfl ?_
              refine ev_getf (r := 42) (v := 0) (hF.1.lt (by decide)) (hF.1.fam (by decide) (by decide)) ft12_1 ((hF.v rfl)) ?_
              refine ev_icmpge f258_51 (fun c78 => ?_) (fun c78 => absurd c78 (by omega))
              refine ev_iconst ?_
              refine ev_ret rfl (by decide) (by decide) ?_
              show jEv _ _ _ _ _ _ _ (_, [(2, 42), (0, (xs 1)), (0, (xs 2)), (0, (xs 3)), (9, 0), (9, 0), (9, 0), (9, 0), (9, 0)], [(0, 1)], _, _, _)
              refine ev_ifeq f260_25 (fun c79 => absurd c79 (by omega)) (fun c79 => ?_)
              refine ev_aload_n rfl ?_
              refine ev_iload_n rfl ?_
              refine ev_in (d := 6) (a := 0) (b := 0) (cd' := c258_0) (m := 3) (L0 := [(2, 42), (0, (xs 2)), (9, 0)]) (jcall_v (A := [(0, (xs 2))]) (S' := []) (r := 42) rfl (hF.1.lt (by decide)) (hF.1.sh (by decide) rfl).1 (Nat.le_of_ble_eq_true rfl)) (by decide) ml258 pp258 (Nat.le_of_ble_eq_true rfl) rfl (by decide) (by decide) ?_
              refine ev_iload_n rfl ?_
              refine ev_iflt f258_15 (fun c80 => absurd c80 (by omega)) (fun c80 => ?_)
              refine ev_iload_n rfl ?_
              refine ev_iconst ?_
              refine ev_aload_n rfl ?_
              refine ev_getf (r := 42) (v := 0) (hF.1.lt (by decide)) (hF.1.fam (by decide) (by decide)) ft12_1 ((hF.v rfl)) ?_
              refine ev_imul (r := 0) (by decide) ?_
              refine ev_ishr (r := 0) (by rw [show (xs 2) = 0 by omega]; decide) ?_
              refine ev_ifeq f258_17 (fun c81 => ?_) (fun c81 => absurd c81 (by omega))
              refine ev_iconst ?_
              refine ev_istore_n (L' := [(2, 42), (0, (xs 2)), (0, 0)]) (Nat.le_of_ble_eq_true rfl) rfl ?_
              refine ev_iload_n rfl ?_
              refine ev_aload_n rfl ?_
              refine ev_getf (r := 42) (v := 0) (hF.1.lt (by decide)) (hF.1.fam (by decide) (by decide)) ft12_1 ((hF.v rfl)) ?_
              refine ev_icmpge f258_51 (fun c82 => ?_) (fun c82 => absurd c82 (by omega))
              refine ev_iconst ?_
              refine ev_ret rfl (by decide) (by decide) ?_
              show jEv _ _ _ _ _ _ _ (_, [(2, 42), (0, (xs 1)), (0, (xs 2)), (0, (xs 3)), (9, 0), (9, 0), (9, 0), (9, 0), (9, 0)], [(0, 1)], _, _, _)
              refine ev_ifeq f260_25 (fun c83 => absurd c83 (by omega)) (fun c83 => ?_)
              refine ev_iload_n rfl ?_
              refine ev_iconst ?_
              refine ev_iconst ?_
              refine ev_in (d := 6) (a := 0) (b := 0) (cd' := c242_0) (m := 3) (L0 := [(0, (xs 3)), (0, 0), (0, 1)]) (jcall_s (A := [(0, 1), (0, 0), (0, (xs 3))]) (S' := []) (by decide) rfl (Nat.le_of_ble_eq_true rfl)) (by decide) ml242 pp242 (Nat.le_of_ble_eq_true rfl) rfl (by decide) (by decide) ?_
              refine ev_iload_n rfl ?_
              refine ev_iload_n rfl ?_
              refine ev_icmplt f242_14 (fun c84 => ?_) (fun c84 => ?_)
              · refine ev_iconst ?_
                refine ev_ret rfl (by decide) (by decide) ?_
                show jEv _ _ _ _ _ _ _ (_, [(2, 42), (0, (xs 1)), (0, (xs 2)), (0, (xs 3)), (9, 0), (9, 0), (9, 0), (9, 0), (9, 0)], [(0, 0)], _, _, _)
                refine ev_ifne f260_29 (fun c85 => absurd c85 (by omega)) (fun c85 => ?_)
                refine ev_ldc2_w ?_
                refine ev_ret rfl (by decide) (by decide) ?_
                show jEv _ _ _ _ _ _ _ (_, [(2, (-2)), (2, 0), (2, 42), (0, 0)], [(1, (-1)), (1, (-1))], _, _, _)
                refine ev_lcmp ?_
                refine ev_ifeq f384_2190 (fun c86 => ?_) (fun c86 => absurd (show _ from by unfold jcmpL; (repeat' split) <;> omega) c86)
                exact law_tail _
              · refine ev_iload_n rfl ?_
                refine ev_iload_n rfl ?_
                refine ev_icmpgt f242_14 (fun c87 => ?_) (fun c87 => absurd c87 (by omega))
                refine ev_iconst ?_
                refine ev_ret rfl (by decide) (by decide) ?_
                show jEv _ _ _ _ _ _ _ (_, [(2, 42), (0, (xs 1)), (0, (xs 2)), (0, (xs 3)), (9, 0), (9, 0), (9, 0), (9, 0), (9, 0)], [(0, 0)], _, _, _)
                refine ev_ifne f260_29 (fun c88 => absurd c88 (by omega)) (fun c88 => ?_)
                refine ev_ldc2_w ?_
                refine ev_ret rfl (by decide) (by decide) ?_
                show jEv _ _ _ _ _ _ _ (_, [(2, (-2)), (2, 0), (2, 42), (0, 0)], [(1, (-1)), (1, (-1))], _, _, _)
                refine ev_lcmp ?_
                refine ev_ifeq f384_2190 (fun c89 => ?_) (fun c89 => absurd (show _ from by unfold jcmpL; (repeat' split) <;> omega) c89)
                exact law_tail _
            · refine ev_iconst ?_
              refine ev_goto f221_14 ?_
              refine ev_ret rfl (by decide) (by decide) ?_
              show jEv _ _ _ _ _ _ _ (_, [(2, 0), (0, (xs 1)), (0, (xs 2)), (0, (xs 3))], [(0, 1)], _, _, _)
              refine ev_ifne f171_33 (fun c90 => ?_) (fun c90 => absurd c90 (by omega))
              refine ev_aload_n rfl ?_
              refine ev_getf (r := 0) (v := 1) (hF.1.lt (by decide)) (hF.1.fam (by decide) (by decide)) ft11_0 ((hF.v rfl)) ?_
              refine ev_in (d := 6) (a := 0) (b := 0) (cd' := c153_0) (m := 1) (L0 := [(2, 1)]) (jcall_v (A := []) (S' := []) (r := 1) rfl (hF.1.lt (by decide)) (hF.1.sh (by decide) rfl).1 (Nat.le_of_ble_eq_true rfl)) (by decide) ml153 pp153 (Nat.le_of_ble_eq_true rfl) rfl (by decide) (by decide) ?_
              refine ev_aload_n rfl ?_
              refine ev_getf (r := 1) (v := 0) (hF.1.lt (by decide)) (hF.1.fam (by decide) (by decide)) ft10_2 ((hF.v rfl)) ?_
              refine ev_ifne f153_33 (fun c91 => absurd c91 (by omega)) (fun c91 => ?_)
              refine ev_aload_n rfl ?_
              refine ev_iconst ?_
              refine ev_putfG (r := 1) (hF.1.lt (by decide)) (hF.1.fam (by decide) (by decide)) ft10_2 (fun _ => by decide) (fun e => absurd e (by decide)) (fun h40 e40 => ?_)
              have hS40 := hF.1.wr e40
              refine ev_aload_n rfl ?_
              refine ev_aload_n rfl ?_
              refine ev_in (d := 5) (a := 0) (b := 0) (cd' := c152_0) (m := 6) (L0 := [(2, 1), (9, 0), (9, 0), (9, 0), (9, 0), (9, 0)]) (jcall_v (A := []) (S' := [(2, 1)]) (r := 1) rfl (hS40.lt (by decide)) (hS40.sh (by decide) rfl).1 (Nat.le_of_ble_eq_true rfl)) (by decide) ml152 pp152 (Nat.le_of_ble_eq_true rfl) rfl (by decide) (by decide) ?_
              refine ev_lconst ?_
              refine ev_lstore_n (L' := [(2, 1), (1, 1), (9, 0), (9, 0), (9, 0), (9, 0)]) (Nat.le_of_ble_eq_true rfl) rfl ?_
              refine ev_iconst ?_
              refine ev_istore_n (L' := [(2, 1), (1, 1), (9, 0), (0, 0), (9, 0), (9, 0)]) (Nat.le_of_ble_eq_true rfl) rfl ?_
              refine ev_iload_n rfl ?_
              refine ev_aload_n rfl ?_
              refine ev_getf (r := 1) (v := 0) (hS40.lt (by decide)) (hS40.fam (by decide) (by decide)) ft10_0 ((jw_ne e40 (Or.inr (by decide))).trans ((hF.v rfl))) ?_
              refine ev_icmpge f152_50 (fun c92 => ?_) (fun c92 => absurd c92 (by omega))
              refine ev_lload_n rfl ?_
              refine ev_ret rfl (by decide) (by decide) ?_
              show jEv _ _ _ _ _ _ _ (_, [(2, 1)], [(1, 1), (2, 1)], _, _, _)
              refine ev_putfG (r := 1) (hS40.lt (by decide)) (hS40.fam (by decide) (by decide)) ft10_1 (fun e => absurd e nz10_1) (fun e => absurd e (by decide)) (fun h41 e41 => ?_)
              have hS41 := hS40.wr e41
              refine ev_aload_n rfl ?_
              refine ev_getf (r := 1) (v := 1) (hS41.lt (by decide)) (hS41.fam (by decide) (by decide)) ft10_1 (jw_eq e41) ?_
              refine ev_lconst ?_
              refine ev_lcmp ?_
              refine ev_ifle f153_33 (fun c93 => absurd c93 (by unfold jcmpL; (repeat' split) <;> omega)) (fun c93 => ?_)
              refine ev_aload_n rfl ?_
              refine ev_in (d := 5) (a := 0) (b := 0) (cd' := c154_0) (m := 6) (L0 := [(2, 1), (9, 0), (9, 0), (9, 0), (9, 0), (9, 0)]) (jcall_v (A := []) (S' := []) (r := 1) rfl (hS41.lt (by decide)) (hS41.sh (by decide) rfl).1 (Nat.le_of_ble_eq_true rfl)) (by decide) ml154 pp154 (Nat.le_of_ble_eq_true rfl) rfl (by decide) (by decide) ?_
              refine ev_iconst ?_
              refine ev_istore_n (L' := [(2, 1), (0, 0), (9, 0), (9, 0), (9, 0), (9, 0)]) (Nat.le_of_ble_eq_true rfl) rfl ?_
              refine ev_iload_n rfl ?_
              refine ev_aload_n rfl ?_
              refine ev_getf (r := 1) (v := 0) (hS41.lt (by decide)) (hS41.fam (by decide) (by decide)) ft10_0 ((jw_ne e41 (Or.inr (by decide))).trans ((jw_ne e40 (Or.inr (by decide))).trans ((hF.v rfl)))) ?_
              refine ev_icmpge f154_76 (fun c94 => ?_) (fun c94 => absurd c94 (by omega))
              refine ev_aload_n rfl ?_
              refine ev_getf (r := 1) (v := 6) (hS41.lt (by decide)) (hS41.fam (by decide) (by decide)) ft10_7 ((jw_ne e41 (Or.inr (by decide))).trans ((jw_ne e40 (Or.inr (by decide))).trans ((hF.v rfl)))) ?_
              refine ev_iconst ?_
              refine ev_lconst ?_
              refine ev_lastG (r := 6) (j := 0) (hS41.lt (by decide)) (hS41.sh (by decide) rfl).1 rfl (hS41.inb (by decide) (by decide)) (fun h42 e42 => ?_)
              have hS42 := hS41.wr e42
              refine ev_iconst ?_
              refine ev_istore_n (L' := [(2, 1), (0, 0), (9, 0), (9, 0), (9, 0), (9, 0)]) (Nat.le_of_ble_eq_true rfl) rfl ?_
              refine ev_iload_n rfl ?_
              refine ev_aload_n rfl ?_
              refine ev_getf (r := 1) (v := 0) (hS42.lt (by decide)) (hS42.fam (by decide) (by decide)) ft10_0 ((jw_ne e42 (Or.inl (by decide))).trans ((jw_ne e41 (Or.inr (by decide))).trans ((jw_ne e40 (Or.inr (by decide))).trans ((hF.v rfl))))) ?_
              refine ev_icmpge f154_104 (fun c95 => ?_) (fun c95 => absurd c95 (by omega))
              refine ev_iconst ?_
              refine ev_istore_n (L' := [(2, 1), (0, 0), (9, 0), (9, 0), (9, 0), (9, 0)]) (Nat.le_of_ble_eq_true rfl) rfl ?_
              refine ev_iload_n rfl ?_
              refine ev_aload_n rfl ?_
              refine ev_getf (r := 1) (v := 0) (hS42.lt (by decide)) (hS42.fam (by decide) (by decide)) ft10_0 ((jw_ne e42 (Or.inl (by decide))).trans ((jw_ne e41 (Or.inr (by decide))).trans ((jw_ne e40 (Or.inr (by decide))).trans ((hF.v rfl))))) ?_
              refine ev_icmpge f154_125 (fun c96 => ?_) (fun c96 => absurd c96 (by omega))
              refine ev_ret rfl (by decide) (by decide) ?_
              show jEv _ _ _ _ _ _ _ (_, [(2, 1)], [], _, _, _)
              refine ev_aload_n rfl ?_
              refine ev_getf (r := 1) (v := 1) (hS42.lt (by decide)) (hS42.fam (by decide) (by decide)) ft10_1 ((jw_ne e42 (Or.inl (by decide))).trans (jw_eq e41)) ?_
              refine ev_lconst ?_
              refine ev_lcmp ?_
              refine ev_ifle f153_46 (fun c97 => absurd c97 (by unfold jcmpL; (repeat' split) <;> omega)) (fun c97 => ?_)
              refine ev_iconst ?_
              refine ev_goto f153_47 ?_
              refine ev_ret rfl (by decide) (by decide) ?_
              show jEv _ _ _ _ _ _ _ (_, [(2, 0), (0, (xs 1)), (0, (xs 2)), (0, (xs 3))], [(0, 1)], _, _, _)
              refine ev_ifne f171_47 (fun c98 => ?_) (fun c98 => absurd c98 (by omega))
              refine ev_aload_n rfl ?_
              refine ev_getf (r := 0) (v := 1) (hS42.lt (by decide)) (hS42.fam (by decide) (by decide)) ft11_0 ((jw_ne e42 (Or.inl (by decide))).trans ((jw_ne e41 (Or.inl (by decide))).trans ((jw_ne e40 (Or.inl (by decide))).trans ((hF.v rfl))))) ?_
              refine ev_iload_n rfl ?_
              refine ev_iload_n rfl ?_
              refine ev_in (d := 6) (a := 0) (b := 0) (cd' := c163_0) (m := 3) (L0 := [(2, 1), (0, (xs 1)), (0, (xs 2))]) (jcall_v (A := [(0, (xs 2)), (0, (xs 1))]) (S' := []) (r := 1) rfl (hS42.lt (by decide)) (hS42.sh (by decide) rfl).1 (Nat.le_of_ble_eq_true rfl)) (by decide) ml163 pp163 (Nat.le_of_ble_eq_true rfl) rfl (by decide) (by decide) ?_
              refine ev_iload_n rfl ?_
              refine ev_iload_n rfl ?_
              refine ev_ixor (r := 0) (by rw [show (xs 1) = 0 by omega, show (xs 2) = 0 by omega]; decide) ?_
              refine ev_iload_n rfl ?_
              refine ev_in (d := 5) (a := 0) (b := 0) (cd' := c162_0) (m := 1) (L0 := [(0, (xs 1))]) (jcall_s (A := [(0, (xs 1))]) (S' := [(0, 0)]) (by decide) rfl (Nat.le_of_ble_eq_true rfl)) (by decide) ml162 pp162 (Nat.le_of_ble_eq_true rfl) rfl (by decide) (by decide) ?_
              refine ev_iload_n rfl ?_
              refine ev_iload_n rfl ?_
              refine ev_iconst ?_
              refine ev_ishr (r := 0) (by rw [show (xs 1) = 0 by omega]; decide) ?_
              refine ev_ior (r := 0) (by rw [show (xs 1) = 0 by omega]; decide) ?_
              refine ev_bipush ?_
              refine ev_iand (r := 0) (by decide) ?_
              refine ev_iconst ?_
              refine ev_imul (r := 0) (by decide) ?_
              refine ev_ret rfl (by decide) (by decide) ?_
              show jEv _ _ _ _ _ _ _ (_, [(2, 1), (0, (xs 1)), (0, (xs 2))], [(0, 0), (0, 0)], _, _, _)
              refine ev_iand (r := 0) (by decide) ?_
              refine ev_iload_n rfl ?_
              refine ev_in (d := 5) (a := 0) (b := 0) (cd' := c162_0) (m := 1) (L0 := [(0, (xs 2))]) (jcall_s (A := [(0, (xs 2))]) (S' := [(0, 0)]) (by decide) rfl (Nat.le_of_ble_eq_true rfl)) (by decide) ml162 pp162 (Nat.le_of_ble_eq_true rfl) rfl (by decide) (by decide) ?_
              refine ev_iload_n rfl ?_
              refine ev_iload_n rfl ?_
              refine ev_iconst ?_
              refine ev_ishr (r := 0) (by rw [show (xs 2) = 0 by omega]; decide) ?_
              refine ev_ior (r := 0) (by rw [show (xs 2) = 0 by omega]; decide) ?_
              refine ev_bipush ?_
              refine ev_iand (r := 0) (by decide) ?_
              refine ev_iconst ?_
              refine ev_imul (r := 0) (by decide) ?_
              refine ev_ret rfl (by decide) (by decide) ?_
              show jEv _ _ _ _ _ _ _ (_, [(2, 1), (0, (xs 1)), (0, (xs 2))], [(0, 0), (0, 0)], _, _, _)
              refine ev_iand (r := 0) (by decide) ?_
              refine ev_ifeq f163_20 (fun c99 => ?_) (fun c99 => absurd c99 (by omega))
              refine ev_aload_n rfl ?_
              refine ev_iload_n rfl ?_
              refine ev_iload_n rfl ?_
              refine ev_ior (r := 0) (by rw [show (xs 1) = 0 by omega, show (xs 2) = 0 by omega]; decide) ?_
              refine ev_in (d := 5) (a := 0) (b := 0) (cd' := c161_0) (m := 2) (L0 := [(2, 1), (0, 0)]) (jcall_v (A := [(0, 0)]) (S' := []) (r := 1) rfl (hS42.lt (by decide)) (hS42.sh (by decide) rfl).1 (Nat.le_of_ble_eq_true rfl)) (by decide) ml161 pp161 (Nat.le_of_ble_eq_true rfl) rfl (by decide) (by decide) ?_
              refine ev_iload_n rfl ?_
              refine ev_iflt f161_12 (fun c100 => absurd c100 (by omega)) (fun c100 => ?_)
              refine ev_iload_n rfl ?_
              refine ev_aload_n rfl ?_
              refine ev_in (d := 4) (a := 0) (b := 0) (cd' := c157_0) (m := 1) (L0 := [(2, 1)]) (jcall_v (A := []) (S' := [(0, 0)]) (r := 1) rfl (hS42.lt (by decide)) (hS42.sh (by decide) rfl).1 (Nat.le_of_ble_eq_true rfl)) (by decide) ml157 pp157 (Nat.le_of_ble_eq_true rfl) rfl (by decide) (by decide) ?_
              refine ev_iconst ?_
              refine ev_iconst ?_
              refine ev_aload_n rfl ?_
              refine ev_getf (r := 1) (v := 0) (hS42.lt (by decide)) (hS42.fam (by decide) (by decide)) ft10_0 ((jw_ne e42 (Or.inl (by decide))).trans ((jw_ne e41 (Or.inr (by decide))).trans ((jw_ne e40 (Or.inr (by decide))).trans ((hF.v rfl))))) ?_
              refine ev_imul (r := 0) (by decide) ?_
              refine ev_ishl (r := 1) (by decide) ?_
              refine ev_ret rfl (by decide) (by decide) ?_
              show jEv _ _ _ _ _ _ _ (_, [(2, 1), (0, 0)], [(0, 1), (0, 0)], _, _, _)
              refine ev_icmplt f161_16 (fun c101 => ?_) (fun c101 => absurd c101 (by omega))
              refine ev_aload_n rfl ?_
              refine ev_getf (r := 1) (v := 6) (hS42.lt (by decide)) (hS42.fam (by decide) (by decide)) ft10_7 ((jw_ne e42 (Or.inl (by decide))).trans ((jw_ne e41 (Or.inr (by decide))).trans ((jw_ne e40 (Or.inr (by decide))).trans ((hF.v rfl))))) ?_
              refine ev_iload_n rfl ?_
              refine ev_lald (r := 6) (j := 0) (v := 1) (hS42.lt (by decide)) (hS42.sh (by decide) rfl).1 rfl (hS42.inb (by decide) (by decide)) (jw_eq e42) ?_
              refine ev_ret rfl (by decide) (by decide) ?_
              show jEv _ _ _ _ _ _ _ (_, [(2, 1), (0, (xs 1)), (0, (xs 2))], [(1, 1)], _, _, _)
              refine ev_ret rfl (by decide) (by decide) ?_
              show jEv _ _ _ _ _ _ _ (_, [(2, 0), (0, (xs 1)), (0, (xs 2)), (0, (xs 3))], [(1, 1)], _, _, _)
              refine ev_aload_n rfl ?_
              refine ev_getf (r := 0) (v := 1) (hS42.lt (by decide)) (hS42.fam (by decide) (by decide)) ft11_0 ((jw_ne e42 (Or.inl (by decide))).trans ((jw_ne e41 (Or.inl (by decide))).trans ((jw_ne e40 (Or.inl (by decide))).trans ((hF.v rfl))))) ?_
              refine ev_iload_n rfl ?_
              refine ev_in (d := 6) (a := 0) (b := 0) (cd' := c161_0) (m := 2) (L0 := [(2, 1), (0, (xs 2))]) (jcall_v (A := [(0, (xs 2))]) (S' := [(1, 1)]) (r := 1) rfl (hS42.lt (by decide)) (hS42.sh (by decide) rfl).1 (Nat.le_of_ble_eq_true rfl)) (by decide) ml161 pp161 (Nat.le_of_ble_eq_true rfl) rfl (by decide) (by decide) ?_
              refine ev_iload_n rfl ?_
              refine ev_iflt f161_12 (fun c102 => absurd c102 (by omega)) (fun c102 => ?_)
              refine ev_iload_n rfl ?_
              refine ev_aload_n rfl ?_
              refine ev_in (d := 5) (a := 0) (b := 0) (cd' := c157_0) (m := 1) (L0 := [(2, 1)]) (jcall_v (A := []) (S' := [(0, (xs 2))]) (r := 1) rfl (hS42.lt (by decide)) (hS42.sh (by decide) rfl).1 (Nat.le_of_ble_eq_true rfl)) (by decide) ml157 pp157 (Nat.le_of_ble_eq_true rfl) rfl (by decide) (by decide) ?_
              refine ev_iconst ?_
              refine ev_iconst ?_
              refine ev_aload_n rfl ?_
              refine ev_getf (r := 1) (v := 0) (hS42.lt (by decide)) (hS42.fam (by decide) (by decide)) ft10_0 ((jw_ne e42 (Or.inl (by decide))).trans ((jw_ne e41 (Or.inr (by decide))).trans ((jw_ne e40 (Or.inr (by decide))).trans ((hF.v rfl))))) ?_
              refine ev_imul (r := 0) (by decide) ?_
              refine ev_ishl (r := 1) (by decide) ?_
              refine ev_ret rfl (by decide) (by decide) ?_
              show jEv _ _ _ _ _ _ _ (_, [(2, 1), (0, (xs 2))], [(0, 1), (0, (xs 2))], _, _, _)
              refine ev_icmplt f161_16 (fun c103 => ?_) (fun c103 => absurd c103 (by omega))
              refine ev_aload_n rfl ?_
              refine ev_getf (r := 1) (v := 6) (hS42.lt (by decide)) (hS42.fam (by decide) (by decide)) ft10_7 ((jw_ne e42 (Or.inl (by decide))).trans ((jw_ne e41 (Or.inr (by decide))).trans ((jw_ne e40 (Or.inr (by decide))).trans ((hF.v rfl))))) ?_
              refine ev_iload_n rfl ?_
              refine ev_lald (r := 6) (j := 0) (v := 1) (hS42.lt (by decide)) (hS42.sh (by decide) rfl).1 (by omega) (hS42.inb (by decide) (by decide)) (jw_eq e42) ?_
              refine ev_ret rfl (by decide) (by decide) ?_
              show jEv _ _ _ _ _ _ _ (_, [(2, 0), (0, (xs 1)), (0, (xs 2)), (0, (xs 3))], [(1, 1), (1, 1)], _, _, _)
              refine ev_iload_n rfl ?_
              refine ev_in (d := 6) (a := 0) (b := 0) (cd' := c223_0) (m := 9) (L0 := [(1, 1), (9, 0), (1, 1), (9, 0), (0, (xs 3)), (9, 0), (9, 0), (9, 0), (9, 0)]) (jcall_s (A := [(0, (xs 3)), (1, 1), (1, 1)]) (S' := []) (by decide) rfl (Nat.le_of_ble_eq_true rfl)) (by decide) ml223 pp223 (Nat.le_of_ble_eq_true rfl) rfl (by decide) (by decide) ?_
              refine ev_lload_n rfl ?_
              refine ev_lconst ?_
              refine ev_lcmp ?_
              refine ev_ifge f223_11 (fun c104 => ?_) (fun c104 => absurd (show _ from by unfold jcmpL; (repeat' split) <;> omega) c104)
              refine ev_lload_n rfl ?_
              refine ev_lload_n rfl ?_
              refine ev_in (d := 5) (a := 0) (b := 0) (cd' := c224_0) (m := 11) (L0 := [(1, 1), (9, 0), (1, 1), (9, 0), (9, 0), (9, 0), (9, 0), (9, 0), (9, 0), (9, 0), (9, 0)]) (jcall_s (A := [(1, 1), (1, 1)]) (S' := []) (by decide) rfl (Nat.le_of_ble_eq_true rfl)) (by decide) ml224 pp224 (Nat.le_of_ble_eq_true rfl) rfl (by decide) (by decide) ?_
              refine ev_lload_n rfl ?_
              refine ev_lstore (L' := [(1, 1), (9, 0), (1, 1), (9, 0), (1, 1), (9, 0), (9, 0), (9, 0), (9, 0), (9, 0), (9, 0)]) (Nat.le_of_ble_eq_true rfl) rfl ?_
              refine ev_lload_n rfl ?_
              refine ev_lstore (L' := [(1, 1), (9, 0), (1, 1), (9, 0), (1, 1), (9, 0), (1, 1), (9, 0), (9, 0), (9, 0), (9, 0)]) (Nat.le_of_ble_eq_true rfl) rfl ?_
              refine ev_iconst ?_
              refine ev_istore (L' := [(1, 1), (9, 0), (1, 1), (9, 0), (1, 1), (9, 0), (1, 1), (9, 0), (0, 0), (9, 0), (9, 0)]) (Nat.le_of_ble_eq_true rfl) rfl ?_
              refine ev_iload rfl ?_
              refine ev_sipush ?_
              refine ev_icmpge f224_45 (fun c105 => absurd c105 (by omega)) (fun c105 => ?_)
              refine ev_lload rfl ?_
              refine ev_lconst ?_
              refine ev_lcmp ?_
              refine ev_ifeq f224_45 (fun c106 => absurd c106 (by unfold jcmpL; (repeat' split) <;> omega)) (fun c106 => ?_)
              refine ev_lload rfl ?_
              refine ev_lload rfl ?_
              refine ev_lrem (r := 0) (by decide) (by decide) ?_
              refine ev_lstore (L' := [(1, 1), (9, 0), (1, 1), (9, 0), (1, 1), (9, 0), (1, 1), (9, 0), (0, 0), (1, 0), (9, 0)]) (Nat.le_of_ble_eq_true rfl) rfl ?_
              refine ev_lload rfl ?_
              refine ev_lstore (L' := [(1, 1), (9, 0), (1, 1), (9, 0), (1, 1), (9, 0), (1, 1), (9, 0), (0, 0), (1, 0), (9, 0)]) (Nat.le_of_ble_eq_true rfl) rfl ?_
              refine ev_lload rfl ?_
              refine ev_lstore (L' := [(1, 1), (9, 0), (1, 1), (9, 0), (1, 1), (9, 0), (1, 0), (9, 0), (0, 0), (1, 0), (9, 0)]) (Nat.le_of_ble_eq_true rfl) rfl ?_
              refine ev_iinc (w := 1) (L' := [(1, 1), (9, 0), (1, 1), (9, 0), (1, 1), (9, 0), (1, 0), (9, 0), (0, 1), (1, 0), (9, 0)]) rfl (by decide) rfl ?_
              refine ev_goto f224_9 ?_
              refine ev_iload rfl ?_
              refine ev_sipush ?_
              refine ev_icmpge f224_45 (fun c107 => absurd c107 (by omega)) (fun c107 => ?_)
              refine ev_lload rfl ?_
              refine ev_lconst ?_
              refine ev_lcmp ?_
              refine ev_ifeq f224_45 (fun c108 => ?_) (fun c108 => absurd (show _ from by unfold jcmpL; (repeat' split) <;> omega) c108)
              refine ev_lload rfl ?_
              refine ev_ret rfl (by decide) (by decide) ?_
              show jEv _ _ _ _ _ _ _ (_, [(1, 1), (9, 0), (1, 1), (9, 0), (0, (xs 3)), (9, 0), (9, 0), (9, 0), (9, 0)], [(1, 1)], _, _, _)
              refine ev_lstore (L' := [(1, 1), (9, 0), (1, 1), (9, 0), (0, (xs 3)), (1, 1), (9, 0), (9, 0), (9, 0)]) (Nat.le_of_ble_eq_true rfl) rfl ?_
              refine ev_iload rfl ?_
              refine ev_ifne f223_27 (fun c109 => ?_) (fun c109 => absurd c109 (by omega))
              refine ev_lload_n rfl ?_
              refine ev_lstore (L' := [(1, 1), (9, 0), (1, 1), (9, 0), (0, (xs 3)), (1, 1), (9, 0), (1, 1), (9, 0)]) (Nat.le_of_ble_eq_true rfl) rfl ?_
              refine ev_lload rfl ?_
              refine ev_lconst ?_
              refine ev_lcmp ?_
              refine ev_ifgt f223_42 (fun c110 => absurd c110 (by unfold jcmpL; (repeat' split) <;> omega)) (fun c110 => ?_)
              refine ev_lload rfl ?_
              refine ev_goto f223_47 ?_
              refine ev_ret rfl (by decide) (by decide) ?_
              show jEv _ _ _ _ _ _ _ (_, [(2, 0), (0, (xs 1)), (0, (xs 2)), (0, (xs 3))], [(1, 1)], _, _, _)
              refine ev_ret rfl (by decide) (by decide) ?_
              show jEv _ _ _ _ _ _ _ (_, [(2, (-2)), (2, 0), (2, 42), (0, 0)], [(1, 1)], _, _, _)
              refine ev_aload_n rfl ?_
              refine ev_aload_n rfl ?_
              refine ev_iload_n rfl ?_
              refine ev_iconst ?_
              refine ev_iadd (r := 1) (by decide) ?_
              refine ev_sald (j := 1) (v := (xs 1)) rfl rfl rfl ?_
              refine ev_aload_n rfl ?_
              refine ev_iload_n rfl ?_
              refine ev_iconst ?_
              refine ev_iadd (r := 2) (by decide) ?_
              refine ev_sald (j := 2) (v := (xs 2)) rfl rfl rfl ?_
              refine ev_aload_n rfl ?_
              refine ev_iload_n rfl ?_
              refine ev_iconst ?_
              refine ev_iadd (r := 3) (by decide) ?_
              refine ev_sald (j := 3) (v := (xs 3)) rfl rfl rfl ?_
              refine ev_in (d := 7) (a := 0) (b := 0) (cd' := c260_0) (m := 9) (L0 := [(2, 42), (0, (xs 1)), (0, (xs 2)), (0, (xs 3)), (9, 0), (9, 0), (9, 0), (9, 0), (9, 0)]) (jcall_v (A := [(0, (xs 3)), (0, (xs 2)), (0, (xs 1))]) (S' := [(1, 1)]) (r := 42) rfl (hS42.lt (by decide)) (hS42.sh (by decide) rfl).1 (Nat.le_of_ble_eq_true rfl)) (by decide) ml260 pp260 (Nat.le_of_ble_eq_true rfl) rfl (by decide) (by decide) ?_
              refine ev_aload_n rfl ?_
              refine ev_iload_n rfl ?_
              refine ev_in (d := 6) (a := 0) (b := 0) (cd' := c258_0) (m := 3) (L0 := [(2, 42), (0, (xs 1)), (9, 0)]) (jcall_v (A := [(0, (xs 1))]) (S' := []) (r := 42) rfl (hS42.lt (by decide)) (hS42.sh (by decide) rfl).1 (Nat.le_of_ble_eq_true rfl)) (by decide) ml258 pp258 (Nat.le_of_ble_eq_true rfl) rfl (by decide) (by decide) ?_
              refine ev_iload_n rfl ?_
              refine ev_iflt f258_15 (fun c111 => absurd c111 (by omega)) (fun c111 => ?_)
              refine ev_iload_n rfl ?_
              refine ev_iconst ?_
              refine ev_aload_n rfl ?_
              refine ev_getf (r := 42) (v := 0) (hS42.lt (by decide)) (hS42.fam (by decide) (by decide)) ft12_1 ((jw_ne e42 (Or.inl (by decide))).trans ((jw_ne e41 (Or.inl (by decide))).trans ((jw_ne e40 (Or.inl (by decide))).trans ((hF.v rfl))))) ?_
              refine ev_imul (r := 0) (by decide) ?_
              refine ev_ishr (r := 0) (by rw [show (xs 1) = 0 by omega]; decide) ?_
              refine ev_ifeq f258_17 (fun c112 => ?_) (fun c112 => absurd c112 (by omega))
              refine ev_iconst ?_
              refine ev_istore_n (L' := [(2, 42), (0, (xs 1)), (0, 0)]) (Nat.le_of_ble_eq_true rfl) rfl ?_
              refine ev_iload_n rfl ?_
              refine ev_aload_n rfl ?_
              refine ev_getf (r := 42) (v := 0) (hS42.lt (by decide)) (hS42.fam (by decide) (by decide)) ft12_1 ((jw_ne e42 (Or.inl (by decide))).trans ((jw_ne e41 (Or.inl (by decide))).trans ((jw_ne e40 (Or.inl (by decide))).trans ((hF.v rfl))))) ?_
              refine ev_icmpge f258_51 (fun c113 => ?_) (fun c113 => absurd c113 (by omega))
              refine ev_iconst ?_
              refine ev_ret rfl (by decide) (by decide) ?_
              show jEv _ _ _ _ _ _ _ (_, [(2, 42), (0, (xs 1)), (0, (xs 2)), (0, (xs 3)), (9, 0), (9, 0), (9, 0), (9, 0), (9, 0)], [(0, 1)], _, _, _)
              refine ev_ifeq f260_25 (fun c114 => absurd c114 (by omega)) (fun c114 => ?_)
              refine ev_aload_n rfl ?_
              refine ev_iload_n rfl ?_
              refine ev_in (d := 6) (a := 0) (b := 0) (cd' := c258_0) (m := 3) (L0 := [(2, 42), (0, (xs 2)), (9, 0)]) (jcall_v (A := [(0, (xs 2))]) (S' := []) (r := 42) rfl (hS42.lt (by decide)) (hS42.sh (by decide) rfl).1 (Nat.le_of_ble_eq_true rfl)) (by decide) ml258 pp258 (Nat.le_of_ble_eq_true rfl) rfl (by decide) (by decide) ?_
              refine ev_iload_n rfl ?_
              refine ev_iflt f258_15 (fun c115 => absurd c115 (by omega)) (fun c115 => ?_)
              refine ev_iload_n rfl ?_
              refine ev_iconst ?_
              refine ev_aload_n rfl ?_
              refine ev_getf (r := 42) (v := 0) (hS42.lt (by decide)) (hS42.fam (by decide) (by decide)) ft12_1 ((jw_ne e42 (Or.inl (by decide))).trans ((jw_ne e41 (Or.inl (by decide))).trans ((jw_ne e40 (Or.inl (by decide))).trans ((hF.v rfl))))) ?_
              refine ev_imul (r := 0) (by decide) ?_
              refine ev_ishr (r := 0) (by rw [show (xs 2) = 0 by omega]; decide) ?_
              refine ev_ifeq f258_17 (fun c116 => ?_) (fun c116 => absurd c116 (by omega))
              refine ev_iconst ?_
              refine ev_istore_n (L' := [(2, 42), (0, (xs 2)), (0, 0)]) (Nat.le_of_ble_eq_true rfl) rfl ?_
              refine ev_iload_n rfl ?_
              refine ev_aload_n rfl ?_
              refine ev_getf (r := 42) (v := 0) (hS42.lt (by decide)) (hS42.fam (by decide) (by decide)) ft12_1 ((jw_ne e42 (Or.inl (by decide))).trans ((jw_ne e41 (Or.inl (by decide))).trans ((jw_ne e40 (Or.inl (by decide))).trans ((hF.v rfl))))) ?_
              refine ev_icmpge f258_51 (fun c117 => ?_) (fun c117 => absurd c117 (by omega))
              refine ev_iconst ?_
              refine ev_ret rfl (by decide) (by decide) ?_
              show jEv _ _ _ _ _ _ _ (_, [(2, 42), (0, (xs 1)), (0, (xs 2)), (0, (xs 3)), (9, 0), (9, 0), (9, 0), (9, 0), (9, 0)], [(0, 1)], _, _, _)
              refine ev_ifeq f260_25 (fun c118 => absurd c118 (by omega)) (fun c118 => ?_)
              refine ev_iload_n rfl ?_
              refine ev_iconst ?_
              refine ev_iconst ?_
              refine ev_in (d := 6) (a := 0) (b := 0) (cd' := c242_0) (m := 3) (L0 := [(0, (xs 3)), (0, 0), (0, 1)]) (jcall_s (A := [(0, 1), (0, 0), (0, (xs 3))]) (S' := []) (by decide) rfl (Nat.le_of_ble_eq_true rfl)) (by decide) ml242 pp242 (Nat.le_of_ble_eq_true rfl) rfl (by decide) (by decide) ?_
              refine ev_iload_n rfl ?_
              refine ev_iload_n rfl ?_
              refine ev_icmplt f242_14 (fun c119 => absurd c119 (by omega)) (fun c119 => ?_)
              refine ev_iload_n rfl ?_
              refine ev_iload_n rfl ?_
              refine ev_icmpgt f242_14 (fun c120 => absurd c120 (by omega)) (fun c120 => ?_)
              refine ev_iconst ?_
              refine ev_goto f242_15 ?_
              refine ev_ret rfl (by decide) (by decide) ?_
              show jEv _ _ _ _ _ _ _ (_, [(2, 42), (0, (xs 1)), (0, (xs 2)), (0, (xs 3)), (9, 0), (9, 0), (9, 0), (9, 0), (9, 0)], [(0, 1)], _, _, _)
              refine ev_ifne f260_29 (fun c121 => ?_) (fun c121 => absurd c121 (by omega))
              refine ev_aload_n rfl ?_
              refine ev_in (d := 6) (a := 0) (b := 0) (cd' := c256_0) (m := 4) (L0 := [(2, 42), (9, 0), (9, 0), (9, 0)]) (jcall_v (A := []) (S' := []) (r := 42) rfl (hS42.lt (by decide)) (hS42.sh (by decide) rfl).1 (Nat.le_of_ble_eq_true rfl)) (by decide) ml256 pp256 (Nat.le_of_ble_eq_true rfl) rfl (by decide) (by decide) ?_
              refine ev_aload_n rfl ?_
              refine ev_aload_n rfl ?_
              refine ev_in (d := 5) (a := 0) (b := 0) (cd' := c253_0) (m := 6) (L0 := [(2, 42), (9, 0), (9, 0), (9, 0), (9, 0), (9, 0)]) (jcall_v (A := []) (S' := [(2, 42)]) (r := 42) rfl (hS42.lt (by decide)) (hS42.sh (by decide) rfl).1 (Nat.le_of_ble_eq_true rfl)) (by decide) ml253 pp253 (Nat.le_of_ble_eq_true rfl) rfl (by decide) (by decide) ?_
              refine ev_lconst ?_
              refine ev_lstore_n (L' := [(2, 42), (1, 1), (9, 0), (9, 0), (9, 0), (9, 0)]) (Nat.le_of_ble_eq_true rfl) rfl ?_
              refine ev_iconst ?_
              refine ev_istore_n (L' := [(2, 42), (1, 1), (9, 0), (0, 0), (9, 0), (9, 0)]) (Nat.le_of_ble_eq_true rfl) rfl ?_
              refine ev_iload_n rfl ?_
              refine ev_aload_n rfl ?_
              refine ev_getf (r := 42) (v := 0) (hS42.lt (by decide)) (hS42.fam (by decide) (by decide)) ft12_1 ((jw_ne e42 (Or.inl (by decide))).trans ((jw_ne e41 (Or.inl (by decide))).trans ((jw_ne e40 (Or.inl (by decide))).trans ((hF.v rfl))))) ?_
              refine ev_icmpge f253_45 (fun c122 => ?_) (fun c122 => absurd c122 (by omega))
              refine ev_lload_n rfl ?_
              refine ev_ret rfl (by decide) (by decide) ?_
              show jEv _ _ _ _ _ _ _ (_, [(2, 42), (9, 0), (9, 0), (9, 0)], [(1, 1), (2, 42)], _, _, _)
              refine ev_putfG (r := 42) (hS42.lt (by decide)) (hS42.fam (by decide) (by decide)) ft12_8 (fun e => absurd e nz12_8) (fun e => absurd e (by decide)) (fun h43 e43 => ?_)
              have hS43 := hS42.wr e43
              refine ev_aload_n rfl ?_
              refine ev_getf (r := 42) (v := 1) (hS43.lt (by decide)) (hS43.fam (by decide) (by decide)) ft12_8 (jw_eq e43) ?_
              refine ev_lconst ?_
              refine ev_lcmp ?_
              refine ev_ifge f256_19 (fun c123 => ?_) (fun c123 => absurd (show _ from by unfold jcmpL; (repeat' split) <;> omega) c123)
              refine ev_aload_n rfl ?_
              refine ev_iconst ?_
              refine ev_putfG (r := 42) (hS43.lt (by decide)) (hS43.fam (by decide) (by decide)) ft12_5 (fun e => absurd e nz12_5) (fun e => absurd e (by decide)) (fun h44 e44 => ?_)
              have hS44 := hS43.wr e44
              refine ev_iconst ?_
              refine ev_istore_n (L' := [(2, 42), (0, 0), (9, 0), (9, 0)]) (Nat.le_of_ble_eq_true rfl) rfl ?_
              refine ev_iload_n rfl ?_
              refine ev_aload_n rfl ?_
              refine ev_getf (r := 42) (v := 0) (hS44.lt (by decide)) (hS44.fam (by decide) (by decide)) ft12_1 ((jw_ne e44 (Or.inr (by decide))).trans ((jw_ne e43 (Or.inr (by decide))).trans ((jw_ne e42 (Or.inl (by decide))).trans ((jw_ne e41 (Or.inl (by decide))).trans ((jw_ne e40 (Or.inl (by decide))).trans ((hF.v rfl))))))) ?_
              refine ev_icmpge f256_55 (fun c124 => ?_) (fun c124 => absurd c124 (by omega))
              refine ev_iconst ?_
              refine ev_istore_n (L' := [(2, 42), (0, 0), (9, 0), (9, 0)]) (Nat.le_of_ble_eq_true rfl) rfl ?_
              refine ev_iload_n rfl ?_
              refine ev_aload_n rfl ?_
              refine ev_getf (r := 42) (v := 1) (hS44.lt (by decide)) (hS44.fam (by decide) (by decide)) ft12_5 (jw_eq e44) ?_
              refine ev_icmpge f256_127 (fun c125 => absurd c125 (by omega)) (fun c125 => ?_)
              refine ev_iload_n rfl ?_
              refine ev_istore_n (L' := [(2, 42), (0, 0), (0, 0), (9, 0)]) (Nat.le_of_ble_eq_true rfl) rfl ?_
              refine ev_iconst ?_
              refine ev_istore_n (L' := [(2, 42), (0, 0), (0, 0), (0, 0)]) (Nat.le_of_ble_eq_true rfl) rfl ?_
              refine ev_iload_n rfl ?_
              refine ev_aload_n rfl ?_
              refine ev_getf (r := 42) (v := 0) (hS44.lt (by decide)) (hS44.fam (by decide) (by decide)) ft12_1 ((jw_ne e44 (Or.inr (by decide))).trans ((jw_ne e43 (Or.inr (by decide))).trans ((jw_ne e42 (Or.inl (by decide))).trans ((jw_ne e41 (Or.inl (by decide))).trans ((jw_ne e40 (Or.inl (by decide))).trans ((hF.v rfl))))))) ?_
              refine ev_icmpge f256_110 (fun c126 => ?_) (fun c126 => absurd c126 (by omega))
              refine ev_aload_n rfl ?_
              refine ev_getf (r := 42) (v := 47) (hS44.lt (by decide)) (hS44.fam (by decide) (by decide)) ft12_7 ((jw_ne e44 (Or.inr (by decide))).trans ((jw_ne e43 (Or.inr (by decide))).trans ((jw_ne e42 (Or.inl (by decide))).trans ((jw_ne e41 (Or.inl (by decide))).trans ((jw_ne e40 (Or.inl (by decide))).trans ((hF.v rfl))))))) ?_
              refine ev_iload_n rfl ?_
              refine ev_aload_n rfl ?_
              refine ev_iload_n rfl ?_
              refine ev_in (d := 5) (a := 0) (b := 0) (cd' := c255_0) (m := 6) (L0 := [(2, 42), (0, 0), (9, 0), (9, 0), (9, 0), (9, 0)]) (jcall_v (A := [(0, 0)]) (S' := [(0, 0), (2, 47)]) (r := 42) rfl (hS44.lt (by decide)) (hS44.sh (by decide) rfl).1 (Nat.le_of_ble_eq_true rfl)) (by decide) ml255 pp255 (Nat.le_of_ble_eq_true rfl) rfl (by decide) (by decide) ?_
              refine ev_lconst ?_
              refine ev_lstore_n (L' := [(2, 42), (0, 0), (1, 1), (9, 0), (9, 0), (9, 0)]) (Nat.le_of_ble_eq_true rfl) rfl ?_
              refine ev_iconst ?_
              refine ev_istore (L' := [(2, 42), (0, 0), (1, 1), (9, 0), (0, 0), (9, 0)]) (Nat.le_of_ble_eq_true rfl) rfl ?_
              refine ev_iload rfl ?_
              refine ev_aload_n rfl ?_
              refine ev_getf (r := 42) (v := 0) (hS44.lt (by decide)) (hS44.fam (by decide) (by decide)) ft12_1 ((jw_ne e44 (Or.inr (by decide))).trans ((jw_ne e43 (Or.inr (by decide))).trans ((jw_ne e42 (Or.inl (by decide))).trans ((jw_ne e41 (Or.inl (by decide))).trans ((jw_ne e40 (Or.inl (by decide))).trans ((hF.v rfl))))))) ?_
              refine ev_icmpge f255_100 (fun c127 => ?_) (fun c127 => absurd c127 (by omega))
              refine ev_lload_n rfl ?_
              refine ev_ret rfl (by decide) (by decide) ?_
              show jEv _ _ _ _ _ _ _ (_, [(2, 42), (0, 0), (0, 0), (0, 0)], [(1, 1), (0, 0), (2, 47)], _, _, _)
              refine ev_lastG (r := 47) (j := 0) (hS44.lt (by decide)) (hS44.sh (by decide) rfl).1 rfl (hS44.inb (by decide) (by decide)) (fun h45 e45 => ?_)
              have hS45 := hS44.wr e45
              refine ev_iinc (w := 1) (L' := [(2, 42), (0, 1), (0, 0), (0, 0)]) rfl (by decide) rfl ?_
              refine ev_goto f256_57 ?_
              refine ev_iload_n rfl ?_
              refine ev_aload_n rfl ?_
              refine ev_getf (r := 42) (v := 1) (hS45.lt (by decide)) (hS45.fam (by decide) (by decide)) ft12_5 ((jw_ne e45 (Or.inl (by decide))).trans (jw_eq e44)) ?_
              refine ev_icmpge f256_127 (fun c128 => ?_) (fun c128 => absurd c128 (by omega))
              refine ev_iconst ?_
              refine ev_ret rfl (by decide) (by decide) ?_
              show jEv _ _ _ _ _ _ _ (_, [(2, 42), (0, (xs 1)), (0, (xs 2)), (0, (xs 3)), (9, 0), (9, 0), (9, 0), (9, 0), (9, 0)], [(0, 1)], _, _, _)
              refine ev_ifne f260_40 (fun c129 => ?_) (fun c129 => absurd c129 (by omega))
              refine ev_lconst ?_
              refine ev_lstore (L' := [(2, 42), (0, (xs 1)), (0, (xs 2)), (0, (xs 3)), (1, 0), (9, 0), (9, 0), (9, 0), (9, 0)]) (Nat.le_of_ble_eq_true rfl) rfl ?_
              refine ev_lconst ?_
              refine ev_lstore (L' := [(2, 42), (0, (xs 1)), (0, (xs 2)), (0, (xs 3)), (1, 0), (9, 0), (1, 0), (9, 0), (9, 0)]) (Nat.le_of_ble_eq_true rfl) rfl ?_
              refine ev_iconst ?_
              refine ev_istore (L' := [(2, 42), (0, (xs 1)), (0, (xs 2)), (0, (xs 3)), (1, 0), (9, 0), (1, 0), (9, 0), (0, 0)]) (Nat.le_of_ble_eq_true rfl) rfl ?_
              refine ev_iload rfl ?_
              refine ev_aload_n rfl ?_
              refine ev_getf (r := 42) (v := 1) (hS45.lt (by decide)) (hS45.fam (by decide) (by decide)) ft12_5 ((jw_ne e45 (Or.inl (by decide))).trans (jw_eq e44)) ?_
              refine ev_icmpge f260_111 (fun c130 => absurd c130 (by omega)) (fun c130 => ?_)
              refine ev_aload_n rfl ?_
              refine ev_iload rfl ?_
              refine ev_iload_n rfl ?_
              refine ev_in (d := 6) (a := 0) (b := 0) (cd' := c259_0) (m := 5) (L0 := [(2, 42), (0, 0), (0, (xs 2)), (9, 0), (9, 0)]) (jcall_v (A := [(0, (xs 2)), (0, 0)]) (S' := []) (r := 42) rfl (hS45.lt (by decide)) (hS45.sh (by decide) rfl).1 (Nat.le_of_ble_eq_true rfl)) (by decide) ml259 pp259 (Nat.le_of_ble_eq_true rfl) rfl (by decide) (by decide) ?_
              refine ev_iconst ?_
              refine ev_istore_n (L' := [(2, 42), (0, 0), (0, (xs 2)), (0, 0), (9, 0)]) (Nat.le_of_ble_eq_true rfl) rfl ?_
              refine ev_iload_n rfl ?_
              refine ev_aload_n rfl ?_
              refine ev_getf (r := 42) (v := 0) (hS45.lt (by decide)) (hS45.fam (by decide) (by decide)) ft12_1 ((jw_ne e45 (Or.inl (by decide))).trans ((jw_ne e44 (Or.inr (by decide))).trans ((jw_ne e43 (Or.inr (by decide))).trans ((jw_ne e42 (Or.inl (by decide))).trans ((jw_ne e41 (Or.inl (by decide))).trans ((jw_ne e40 (Or.inl (by decide))).trans ((hF.v rfl)))))))) ?_
              refine ev_icmpge f259_49 (fun c131 => ?_) (fun c131 => absurd c131 (by omega))
              refine ev_iconst ?_
              refine ev_ret rfl (by decide) (by decide) ?_
              show jEv _ _ _ _ _ _ _ (_, [(2, 42), (0, (xs 1)), (0, (xs 2)), (0, (xs 3)), (1, 0), (9, 0), (1, 0), (9, 0), (0, 0)], [(0, 1)], _, _, _)
              refine ev_ifne f260_71 (fun c132 => ?_) (fun c132 => absurd c132 (by omega))
              refine ev_lload rfl ?_
              refine ev_aload_n rfl ?_
              refine ev_getf (r := 42) (v := 47) (hS45.lt (by decide)) (hS45.fam (by decide) (by decide)) ft12_7 ((jw_ne e45 (Or.inl (by decide))).trans ((jw_ne e44 (Or.inr (by decide))).trans ((jw_ne e43 (Or.inr (by decide))).trans ((jw_ne e42 (Or.inl (by decide))).trans ((jw_ne e41 (Or.inl (by decide))).trans ((jw_ne e40 (Or.inl (by decide))).trans ((hF.v rfl)))))))) ?_
              refine ev_iload rfl ?_
              refine ev_lald (r := 47) (j := 0) (v := 1) (hS45.lt (by decide)) (hS45.sh (by decide) rfl).1 rfl (hS45.inb (by decide) (by decide)) (jw_eq e45) ?_
              refine ev_ladd (r := 1) (by decide) ?_
              refine ev_lstore (L' := [(2, 42), (0, (xs 1)), (0, (xs 2)), (0, (xs 3)), (1, 0), (9, 0), (1, 1), (9, 0), (0, 0)]) (Nat.le_of_ble_eq_true rfl) rfl ?_
              refine ev_aload_n rfl ?_
              refine ev_iload rfl ?_
              refine ev_iload_n rfl ?_
              refine ev_in (d := 6) (a := 0) (b := 0) (cd' := c259_0) (m := 5) (L0 := [(2, 42), (0, 0), (0, (xs 1)), (9, 0), (9, 0)]) (jcall_v (A := [(0, (xs 1)), (0, 0)]) (S' := []) (r := 42) rfl (hS45.lt (by decide)) (hS45.sh (by decide) rfl).1 (Nat.le_of_ble_eq_true rfl)) (by decide) ml259 pp259 (Nat.le_of_ble_eq_true rfl) rfl (by decide) (by decide) ?_
              refine ev_iconst ?_
              refine ev_istore_n (L' := [(2, 42), (0, 0), (0, (xs 1)), (0, 0), (9, 0)]) (Nat.le_of_ble_eq_true rfl) rfl ?_
              refine ev_iload_n rfl ?_
              refine ev_aload_n rfl ?_
              refine ev_getf (r := 42) (v := 0) (hS45.lt (by decide)) (hS45.fam (by decide) (by decide)) ft12_1 ((jw_ne e45 (Or.inl (by decide))).trans ((jw_ne e44 (Or.inr (by decide))).trans ((jw_ne e43 (Or.inr (by decide))).trans ((jw_ne e42 (Or.inl (by decide))).trans ((jw_ne e41 (Or.inl (by decide))).trans ((jw_ne e40 (Or.inl (by decide))).trans ((hF.v rfl)))))))) ?_
              refine ev_icmpge f259_49 (fun c133 => ?_) (fun c133 => absurd c133 (by omega))
              refine ev_iconst ?_
              refine ev_ret rfl (by decide) (by decide) ?_
              show jEv _ _ _ _ _ _ _ (_, [(2, 42), (0, (xs 1)), (0, (xs 2)), (0, (xs 3)), (1, 0), (9, 0), (1, 1), (9, 0), (0, 0)], [(0, 1)], _, _, _)
              refine ev_ifeq f260_105 (fun c134 => absurd c134 (by omega)) (fun c134 => ?_)
              refine ev_lload rfl ?_
              refine ev_aload_n rfl ?_
              refine ev_getf (r := 42) (v := 47) (hS45.lt (by decide)) (hS45.fam (by decide) (by decide)) ft12_7 ((jw_ne e45 (Or.inl (by decide))).trans ((jw_ne e44 (Or.inr (by decide))).trans ((jw_ne e43 (Or.inr (by decide))).trans ((jw_ne e42 (Or.inl (by decide))).trans ((jw_ne e41 (Or.inl (by decide))).trans ((jw_ne e40 (Or.inl (by decide))).trans ((hF.v rfl)))))))) ?_
              refine ev_iload rfl ?_
              refine ev_lald (r := 47) (j := 0) (v := 1) (hS45.lt (by decide)) (hS45.sh (by decide) rfl).1 rfl (hS45.inb (by decide) (by decide)) (jw_eq e45) ?_
              refine ev_ladd (r := 1) (by decide) ?_
              refine ev_lstore (L' := [(2, 42), (0, (xs 1)), (0, (xs 2)), (0, (xs 3)), (1, 1), (9, 0), (1, 1), (9, 0), (0, 0)]) (Nat.le_of_ble_eq_true rfl) rfl ?_
              refine ev_iinc (w := 1) (L' := [(2, 42), (0, (xs 1)), (0, (xs 2)), (0, (xs 3)), (1, 1), (9, 0), (1, 1), (9, 0), (0, 1)]) rfl (by decide) rfl ?_
              refine ev_goto f260_49 ?_
              refine ev_iload rfl ?_
              refine ev_aload_n rfl ?_
              refine ev_getf (r := 42) (v := 1) (hS45.lt (by decide)) (hS45.fam (by decide) (by decide)) ft12_5 ((jw_ne e45 (Or.inl (by decide))).trans (jw_eq e44)) ?_
              refine ev_icmpge f260_111 (fun c135 => ?_) (fun c135 => absurd c135 (by omega))
              refine ev_lload rfl ?_
              refine ev_lload rfl ?_
              refine ev_iload_n rfl ?_
              refine ev_in (d := 6) (a := 0) (b := 0) (cd' := c244_0) (m := 7) (L0 := [(1, 1), (9, 0), (1, 1), (9, 0), (0, (xs 3)), (9, 0), (9, 0)]) (jcall_s (A := [(0, (xs 3)), (1, 1), (1, 1)]) (S' := []) (by decide) rfl (Nat.le_of_ble_eq_true rfl)) (by decide) ml244 pp244 (Nat.le_of_ble_eq_true rfl) rfl (by decide) (by decide) ?_
              refine ev_lload_n rfl ?_
              refine ev_lload_n rfl ?_
              refine ev_in (d := 5) (a := 0) (b := 0) (cd' := c243_0) (m := 10) (L0 := [(1, 1), (9, 0), (1, 1), (9, 0), (9, 0), (9, 0), (9, 0), (9, 0), (9, 0), (9, 0)]) (jcall_s (A := [(1, 1), (1, 1)]) (S' := []) (by decide) rfl (Nat.le_of_ble_eq_true rfl)) (by decide) ml243 pp243 (Nat.le_of_ble_eq_true rfl) rfl (by decide) (by decide) ?_
              refine ev_lload_n rfl ?_
              refine ev_lconst ?_
              refine ev_lcmp ?_
              refine ev_ifge f243_11 (fun c136 => ?_) (fun c136 => absurd (show _ from by unfold jcmpL; (repeat' split) <;> omega) c136)
              refine ev_lload_n rfl ?_
              refine ev_lstore (L' := [(1, 1), (9, 0), (1, 1), (9, 0), (1, 1), (9, 0), (9, 0), (9, 0), (9, 0), (9, 0)]) (Nat.le_of_ble_eq_true rfl) rfl ?_
              refine ev_lload_n rfl ?_
              refine ev_lstore (L' := [(1, 1), (9, 0), (1, 1), (9, 0), (1, 1), (9, 0), (1, 1), (9, 0), (9, 0), (9, 0)]) (Nat.le_of_ble_eq_true rfl) rfl ?_
              refine ev_lload rfl ?_
              refine ev_lconst ?_
              refine ev_lcmp ?_
              refine ev_ifeq f243_42 (fun c137 => absurd c137 (by unfold jcmpL; (repeat' split) <;> omega)) (fun c137 => ?_)
              refine ev_lload rfl ?_
              refine ev_lload rfl ?_
              refine ev_lrem (r := 0) (by decide) (by decide) ?_
              refine ev_lstore (L' := [(1, 1), (9, 0), (1, 1), (9, 0), (1, 1), (9, 0), (1, 1), (9, 0), (1, 0), (9, 0)]) (Nat.le_of_ble_eq_true rfl) rfl ?_
              refine ev_lload rfl ?_
              refine ev_lstore (L' := [(1, 1), (9, 0), (1, 1), (9, 0), (1, 1), (9, 0), (1, 1), (9, 0), (1, 0), (9, 0)]) (Nat.le_of_ble_eq_true rfl) rfl ?_
              refine ev_lload rfl ?_
              refine ev_lstore (L' := [(1, 1), (9, 0), (1, 1), (9, 0), (1, 1), (9, 0), (1, 0), (9, 0), (1, 0), (9, 0)]) (Nat.le_of_ble_eq_true rfl) rfl ?_
              refine ev_goto f243_17 ?_
              refine ev_lload rfl ?_
              refine ev_lconst ?_
              refine ev_lcmp ?_
              refine ev_ifeq f243_42 (fun c138 => ?_) (fun c138 => absurd (show _ from by unfold jcmpL; (repeat' split) <;> omega) c138)
              refine ev_lload rfl ?_
              refine ev_lconst ?_
              refine ev_lcmp ?_
              refine ev_ifne f243_53 (fun c139 => ?_) (fun c139 => absurd (show _ from by unfold jcmpL; (repeat' split) <;> omega) c139)
              refine ev_lload rfl ?_
              refine ev_ret rfl (by decide) (by decide) ?_
              show jEv _ _ _ _ _ _ _ (_, [(1, 1), (9, 0), (1, 1), (9, 0), (0, (xs 3)), (9, 0), (9, 0)], [(1, 1)], _, _, _)
              refine ev_lstore (L' := [(1, 1), (9, 0), (1, 1), (9, 0), (0, (xs 3)), (1, 1), (9, 0)]) (Nat.le_of_ble_eq_true rfl) rfl ?_
              refine ev_iload rfl ?_
              refine ev_ifne f244_19 (fun c140 => ?_) (fun c140 => absurd c140 (by omega))
              refine ev_lload_n rfl ?_
              refine ev_lload rfl ?_
              refine ev_ldiv (r := 1) (by decide) (by decide) ?_
              refine ev_ret rfl (by decide) (by decide) ?_
              show jEv _ _ _ _ _ _ _ (_, [(2, 42), (0, (xs 1)), (0, (xs 2)), (0, (xs 3)), (1, 1), (9, 0), (1, 1), (9, 0), (0, 1)], [(1, 1)], _, _, _)
              refine ev_ret rfl (by decide) (by decide) ?_
              show jEv _ _ _ _ _ _ _ (_, [(2, (-2)), (2, 0), (2, 42), (0, 0)], [(1, 1), (1, 1)], _, _, _)
              refine ev_lcmp ?_
              refine ev_ifeq f384_2190 (fun c141 => ?_) (fun c141 => absurd (show _ from by unfold jcmpL; (repeat' split) <;> omega) c141)
              exact law_tail _
        · refine ev_iconst ?_
          refine ev_ret rfl (by decide) (by decide) ?_
          show jEv _ _ _ _ _ _ _ (_, [(2, 0), (0, (xs 1)), (0, (xs 2)), (0, (xs 3))], [(0, 0)], _, _, _)
          refine ev_ifeq f171_29 (fun c142 => ?_) (fun c142 => absurd c142 (by omega))
          refine ev_ldc2_w ?_
          refine ev_ret rfl (by decide) (by decide) ?_
          show jEv _ _ _ _ _ _ _ (_, [(2, (-2)), (2, 0), (2, 42), (0, 0)], [(1, (-1))], _, _, _)
          refine ev_aload_n rfl ?_
          refine ev_aload_n rfl ?_
          refine ev_iload_n rfl ?_
          refine ev_iconst ?_
          refine ev_iadd (r := 1) (by decide) ?_
          refine ev_sald (j := 1) (v := (xs 1)) rfl rfl rfl ?_
          refine ev_aload_n rfl ?_
          refine ev_iload_n rfl ?_
          refine ev_iconst ?_
          refine ev_iadd (r := 2) (by decide) ?_
          refine ev_sald (j := 2) (v := (xs 2)) rfl rfl rfl ?_
          refine ev_aload_n rfl ?_
          refine ev_iload_n rfl ?_
          refine ev_iconst ?_
          refine ev_iadd (r := 3) (by decide) ?_
          refine ev_sald (j := 3) (v := (xs 3)) rfl rfl rfl ?_
          refine ev_in (d := 7) (a := 0) (b := 0) (cd' := c260_0) (m := 9) (L0 := [(2, 42), (0, (xs 1)), (0, (xs 2)), (0, (xs 3)), (9, 0), (9, 0), (9, 0), (9, 0), (9, 0)]) (jcall_v (A := [(0, (xs 3)), (0, (xs 2)), (0, (xs 1))]) (S' := [(1, (-1))]) (r := 42) rfl (hF.1.lt (by decide)) (hF.1.sh (by decide) rfl).1 (Nat.le_of_ble_eq_true rfl)) (by decide) ml260 pp260 (Nat.le_of_ble_eq_true rfl) rfl (by decide) (by decide) ?_
          refine ev_aload_n rfl ?_
          refine ev_iload_n rfl ?_
          refine ev_in (d := 6) (a := 0) (b := 0) (cd' := c258_0) (m := 3) (L0 := [(2, 42), (0, (xs 1)), (9, 0)]) (jcall_v (A := [(0, (xs 1))]) (S' := []) (r := 42) rfl (hF.1.lt (by decide)) (hF.1.sh (by decide) rfl).1 (Nat.le_of_ble_eq_true rfl)) (by decide) ml258 pp258 (Nat.le_of_ble_eq_true rfl) rfl (by decide) (by decide) ?_
          refine ev_iload_n rfl ?_
          refine ev_iflt f258_15 (fun c143 => absurd c143 (by omega)) (fun c143 => ?_)
          refine ev_iload_n rfl ?_
          refine ev_iconst ?_
          refine ev_aload_n rfl ?_
          refine ev_getf (r := 42) (v := 0) (hF.1.lt (by decide)) (hF.1.fam (by decide) (by decide)) ft12_1 ((hF.v rfl)) ?_
          refine ev_imul (r := 0) (by decide) ?_
          refine ev_ishr (r := 0) (by rw [show (xs 1) = 0 by omega]; decide) ?_
          refine ev_ifeq f258_17 (fun c144 => ?_) (fun c144 => absurd c144 (by omega))
          refine ev_iconst ?_
          refine ev_istore_n (L' := [(2, 42), (0, (xs 1)), (0, 0)]) (Nat.le_of_ble_eq_true rfl) rfl ?_
          refine ev_iload_n rfl ?_
          refine ev_aload_n rfl ?_
          refine ev_getf (r := 42) (v := 0) (hF.1.lt (by decide)) (hF.1.fam (by decide) (by decide)) ft12_1 ((hF.v rfl)) ?_
          refine ev_icmpge f258_51 (fun c145 => ?_) (fun c145 => absurd c145 (by omega))
          refine ev_iconst ?_
          refine ev_ret rfl (by decide) (by decide) ?_
          show jEv _ _ _ _ _ _ _ (_, [(2, 42), (0, (xs 1)), (0, (xs 2)), (0, (xs 3)), (9, 0), (9, 0), (9, 0), (9, 0), (9, 0)], [(0, 1)], _, _, _)
          refine ev_ifeq f260_25 (fun c146 => absurd c146 (by omega)) (fun c146 => ?_)
          refine ev_aload_n rfl ?_
          refine ev_iload_n rfl ?_
          refine ev_in (d := 6) (a := 0) (b := 0) (cd' := c258_0) (m := 3) (L0 := [(2, 42), (0, (xs 2)), (9, 0)]) (jcall_v (A := [(0, (xs 2))]) (S' := []) (r := 42) rfl (hF.1.lt (by decide)) (hF.1.sh (by decide) rfl).1 (Nat.le_of_ble_eq_true rfl)) (by decide) ml258 pp258 (Nat.le_of_ble_eq_true rfl) rfl (by decide) (by decide) ?_
          refine ev_iload_n rfl ?_
          refine ev_iflt f258_15 (fun c147 => absurd c147 (by omega)) (fun c147 => ?_)
          refine ev_iload_n rfl ?_
          refine ev_iconst ?_
          refine ev_aload_n rfl ?_
          refine ev_getf (r := 42) (v := 0) (hF.1.lt (by decide)) (hF.1.fam (by decide) (by decide)) ft12_1 ((hF.v rfl)) ?_
          refine ev_imul (r := 0) (by decide) ?_
          refine ev_ishr (r := (xs 2)) (jshr_0 (by omega) (by omega)) ?_
          refine ev_ifeq f258_17 (fun c148 => absurd c148 (by omega)) (fun c148 => ?_)
          refine ev_iconst ?_
          refine ev_ret rfl (by decide) (by decide) ?_
          show jEv _ _ _ _ _ _ _ (_, [(2, 42), (0, (xs 1)), (0, (xs 2)), (0, (xs 3)), (9, 0), (9, 0), (9, 0), (9, 0), (9, 0)], [(0, 0)], _, _, _)
          refine ev_ifeq f260_25 (fun c149 => ?_) (fun c149 => absurd c149 (by omega))
          refine ev_ldc2_w ?_
          refine ev_ret rfl (by decide) (by decide) ?_
          show jEv _ _ _ _ _ _ _ (_, [(2, (-2)), (2, 0), (2, 42), (0, 0)], [(1, (-1)), (1, (-1))], _, _, _)
          refine ev_lcmp ?_
          refine ev_ifeq f384_2190 (fun c150 => ?_) (fun c150 => absurd (show _ from by unfold jcmpL; (repeat' split) <;> omega) c150)
          exact law_tail _
    · refine ev_iconst ?_
      refine ev_ret rfl (by decide) (by decide) ?_
      show jEv _ _ _ _ _ _ _ (_, [(2, 0), (0, (xs 1)), (0, (xs 2)), (0, (xs 3))], [(0, 0)], _, _, _)
      refine ev_ifeq f171_29 (fun c151 => ?_) (fun c151 => absurd c151 (by omega))
      refine ev_ldc2_w ?_
      refine ev_ret rfl (by decide) (by decide) ?_
      show jEv _ _ _ _ _ _ _ (_, [(2, (-2)), (2, 0), (2, 42), (0, 0)], [(1, (-1))], _, _, _)
      refine ev_aload_n rfl ?_
      refine ev_aload_n rfl ?_
      refine ev_iload_n rfl ?_
      refine ev_iconst ?_
      refine ev_iadd (r := 1) (by decide) ?_
      refine ev_sald (j := 1) (v := (xs 1)) rfl rfl rfl ?_
      refine ev_aload_n rfl ?_
      refine ev_iload_n rfl ?_
      refine ev_iconst ?_
      refine ev_iadd (r := 2) (by decide) ?_
      refine ev_sald (j := 2) (v := (xs 2)) rfl rfl rfl ?_
      refine ev_aload_n rfl ?_
      refine ev_iload_n rfl ?_
      refine ev_iconst ?_
      refine ev_iadd (r := 3) (by decide) ?_
      refine ev_sald (j := 3) (v := (xs 3)) rfl rfl rfl ?_
      refine ev_in (d := 7) (a := 0) (b := 0) (cd' := c260_0) (m := 9) (L0 := [(2, 42), (0, (xs 1)), (0, (xs 2)), (0, (xs 3)), (9, 0), (9, 0), (9, 0), (9, 0), (9, 0)]) (jcall_v (A := [(0, (xs 3)), (0, (xs 2)), (0, (xs 1))]) (S' := [(1, (-1))]) (r := 42) rfl (hF.1.lt (by decide)) (hF.1.sh (by decide) rfl).1 (Nat.le_of_ble_eq_true rfl)) (by decide) ml260 pp260 (Nat.le_of_ble_eq_true rfl) rfl (by decide) (by decide) ?_
      refine ev_aload_n rfl ?_
      refine ev_iload_n rfl ?_
      refine ev_in (d := 6) (a := 0) (b := 0) (cd' := c258_0) (m := 3) (L0 := [(2, 42), (0, (xs 1)), (9, 0)]) (jcall_v (A := [(0, (xs 1))]) (S' := []) (r := 42) rfl (hF.1.lt (by decide)) (hF.1.sh (by decide) rfl).1 (Nat.le_of_ble_eq_true rfl)) (by decide) ml258 pp258 (Nat.le_of_ble_eq_true rfl) rfl (by decide) (by decide) ?_
      refine ev_iload_n rfl ?_
      refine ev_iflt f258_15 (fun c152 => absurd c152 (by omega)) (fun c152 => ?_)
      refine ev_iload_n rfl ?_
      refine ev_iconst ?_
      refine ev_aload_n rfl ?_
      refine ev_getf (r := 42) (v := 0) (hF.1.lt (by decide)) (hF.1.fam (by decide) (by decide)) ft12_1 ((hF.v rfl)) ?_
      refine ev_imul (r := 0) (by decide) ?_
      refine ev_ishr (r := (xs 1)) (jshr_0 (by omega) (by omega)) ?_
      refine ev_ifeq f258_17 (fun c153 => absurd c153 (by omega)) (fun c153 => ?_)
      refine ev_iconst ?_
      refine ev_ret rfl (by decide) (by decide) ?_
      show jEv _ _ _ _ _ _ _ (_, [(2, 42), (0, (xs 1)), (0, (xs 2)), (0, (xs 3)), (9, 0), (9, 0), (9, 0), (9, 0), (9, 0)], [(0, 0)], _, _, _)
      refine ev_ifeq f260_25 (fun c154 => ?_) (fun c154 => absurd c154 (by omega))
      refine ev_ldc2_w ?_
      refine ev_ret rfl (by decide) (by decide) ?_
      show jEv _ _ _ _ _ _ _ (_, [(2, (-2)), (2, 0), (2, 42), (0, 0)], [(1, (-1)), (1, (-1))], _, _, _)
      refine ev_lcmp ?_
      refine ev_ifeq f384_2190 (fun c155 => ?_) (fun c155 => absurd (show _ from by unfold jcmpL; (repeat' split) <;> omega) c155)
      exact law_tail _

/-! table -/
set_option maxHeartbeats 4000000 in
theorem case_29 {xs : Nat → Int} (hr : ∀ j, -2147483648 ≤ xs j ∧ xs j < 2147483648) {h : JH} (hF : Fresh h) : jEv (jOk 8) (some 6) xs c384_0 600000 7302250 (fun v _ => v = some (0, 1)) (c384_1316, [(2, -2), (2, 0), (2, 42), (0, 0)], [], h, 83, 23761) := by
  have r1 := hr 1
  have r2 := hr 2
  have r3 := hr 3
  have r4 := hr 4
  have r5 := hr 5
  refine ev_aload_n rfl ?_
  refine ev_aload_n rfl ?_
  refine ev_iload_n rfl ?_
  refine ev_iconst ?_
  refine ev_iadd (r := 1) (by decide) ?_
  refine ev_sald (j := 1) (v := (xs 1)) rfl rfl rfl ?_
  refine ev_aload_n rfl ?_
  refine ev_iload_n rfl ?_
  refine ev_iconst ?_
  refine ev_iadd (r := 2) (by decide) ?_
  refine ev_sald (j := 2) (v := (xs 2)) rfl rfl rfl ?_
  refine ev_in (d := 7) (a := 0) (b := 0) (cd' := c195_0) (m := 3) (L0 := [(2, 0), (0, (xs 1)), (0, (xs 2))]) (jcall_v (A := [(0, (xs 2)), (0, (xs 1))]) (S' := []) (r := 0) rfl (hF.1.lt (by decide)) (hF.1.sh (by decide) rfl).1 (Nat.le_of_ble_eq_true rfl)) (by decide) ml195 pp195 (Nat.le_of_ble_eq_true rfl) rfl (by decide) (by decide) ?_
  refine ev_iload_n rfl ?_
  refine ev_iconst ?_
  refine ev_icmplt f195_20 (fun c1 => ?_) (fun c1 => ?_)
  · refine ev_iconst ?_
    refine ev_ret rfl (by decide) (by decide) ?_
    show jEv _ _ _ _ _ _ _ (_, [(2, (-2)), (2, 0), (2, 42), (0, 0)], [(0, (-1))], _, _, _)
    refine ev_aload_n rfl ?_
    refine ev_aload_n rfl ?_
    refine ev_iload_n rfl ?_
    refine ev_iconst ?_
    refine ev_iadd (r := 1) (by decide) ?_
    refine ev_sald (j := 1) (v := (xs 1)) rfl rfl rfl ?_
    refine ev_aload_n rfl ?_
    refine ev_iload_n rfl ?_
    refine ev_iconst ?_
    refine ev_iadd (r := 2) (by decide) ?_
    refine ev_sald (j := 2) (v := (xs 2)) rfl rfl rfl ?_
    refine ev_in (d := 7) (a := 0) (b := 0) (cd' := c330_0) (m := 4) (L0 := [(2, 42), (0, (xs 1)), (0, (xs 2)), (9, 0)]) (jcall_v (A := [(0, (xs 2)), (0, (xs 1))]) (S' := [(0, (-1))]) (r := 42) rfl (hF.1.lt (by decide)) (hF.1.sh (by decide) rfl).1 (Nat.le_of_ble_eq_true rfl)) (by decide) ml330 pp330 (Nat.le_of_ble_eq_true rfl) rfl (by decide) (by decide) ?_
    refine ev_iload_n rfl ?_
    refine ev_iconst ?_
    refine ev_iconst ?_
    refine ev_in (d := 6) (a := 0) (b := 0) (cd' := c242_0) (m := 3) (L0 := [(0, (xs 1)), (0, 1), (0, 4)]) (jcall_s (A := [(0, 4), (0, 1), (0, (xs 1))]) (S' := []) (by decide) rfl (Nat.le_of_ble_eq_true rfl)) (by decide) ml242 pp242 (Nat.le_of_ble_eq_true rfl) rfl (by decide) (by decide) ?_
    refine ev_iload_n rfl ?_
    refine ev_iload_n rfl ?_
    refine ev_icmplt f242_14 (fun c2 => ?_) (fun c2 => absurd c2 (by omega))
    refine ev_iconst ?_
    refine ev_ret rfl (by decide) (by decide) ?_
    show jEv _ _ _ _ _ _ _ (_, [(2, 42), (0, (xs 1)), (0, (xs 2)), (9, 0)], [(0, 0)], _, _, _)
    refine ev_ifeq f330_18 (fun c3 => ?_) (fun c3 => absurd c3 (by omega))
    refine ev_iconst ?_
    refine ev_ret rfl (by decide) (by decide) ?_
    show jEv _ _ _ _ _ _ _ (_, [(2, (-2)), (2, 0), (2, 42), (0, 0)], [(0, (-1)), (0, (-1))], _, _, _)
    refine ev_icmpeq f384_2190 (fun c4 => ?_) (fun c4 => absurd c4 (by omega))
    exact law_tail _
  · refine ev_iload_n rfl ?_
    refine ev_iconst ?_
    refine ev_icmpgt f195_20 (fun c5 => ?_) (fun c5 => ?_)
    · refine ev_iconst ?_
      refine ev_ret rfl (by decide) (by decide) ?_
      show jEv _ _ _ _ _ _ _ (_, [(2, (-2)), (2, 0), (2, 42), (0, 0)], [(0, (-1))], _, _, _)
      refine ev_aload_n rfl ?_
      refine ev_aload_n rfl ?_
      refine ev_iload_n rfl ?_
      refine ev_iconst ?_
      refine ev_iadd (r := 1) (by decide) ?_
      refine ev_sald (j := 1) (v := (xs 1)) rfl rfl rfl ?_
      refine ev_aload_n rfl ?_
      refine ev_iload_n rfl ?_
      refine ev_iconst ?_
      refine ev_iadd (r := 2) (by decide) ?_
      refine ev_sald (j := 2) (v := (xs 2)) rfl rfl rfl ?_
      refine ev_in (d := 7) (a := 0) (b := 0) (cd' := c330_0) (m := 4) (L0 := [(2, 42), (0, (xs 1)), (0, (xs 2)), (9, 0)]) (jcall_v (A := [(0, (xs 2)), (0, (xs 1))]) (S' := [(0, (-1))]) (r := 42) rfl (hF.1.lt (by decide)) (hF.1.sh (by decide) rfl).1 (Nat.le_of_ble_eq_true rfl)) (by decide) ml330 pp330 (Nat.le_of_ble_eq_true rfl) rfl (by decide) (by decide) ?_
      refine ev_iload_n rfl ?_
      refine ev_iconst ?_
      refine ev_iconst ?_
      refine ev_in (d := 6) (a := 0) (b := 0) (cd' := c242_0) (m := 3) (L0 := [(0, (xs 1)), (0, 1), (0, 4)]) (jcall_s (A := [(0, 4), (0, 1), (0, (xs 1))]) (S' := []) (by decide) rfl (Nat.le_of_ble_eq_true rfl)) (by decide) ml242 pp242 (Nat.le_of_ble_eq_true rfl) rfl (by decide) (by decide) ?_
      refine ev_iload_n rfl ?_
      refine ev_iload_n rfl ?_
      refine ev_icmplt f242_14 (fun c6 => absurd c6 (by omega)) (fun c6 => ?_)
      refine ev_iload_n rfl ?_
      refine ev_iload_n rfl ?_
      refine ev_icmpgt f242_14 (fun c7 => ?_) (fun c7 => absurd c7 (by omega))
      refine ev_iconst ?_
      refine ev_ret rfl (by decide) (by decide) ?_
      show jEv _ _ _ _ _ _ _ (_, [(2, 42), (0, (xs 1)), (0, (xs 2)), (9, 0)], [(0, 0)], _, _, _)
      refine ev_ifeq f330_18 (fun c8 => ?_) (fun c8 => absurd c8 (by omega))
      refine ev_iconst ?_
      refine ev_ret rfl (by decide) (by decide) ?_
      show jEv _ _ _ _ _ _ _ (_, [(2, (-2)), (2, 0), (2, 42), (0, 0)], [(0, (-1)), (0, (-1))], _, _, _)
      refine ev_icmpeq f384_2190 (fun c9 => ?_) (fun c9 => absurd c9 (by omega))
      exact law_tail _
    · refine ev_iload_n rfl ?_
      refine ev_iconst ?_
      refine ev_icmplt f195_20 (fun c10 => ?_) (fun c10 => ?_)
      · refine ev_iconst ?_
        refine ev_ret rfl (by decide) (by decide) ?_
        show jEv _ _ _ _ _ _ _ (_, [(2, (-2)), (2, 0), (2, 42), (0, 0)], [(0, (-1))], _, _, _)
        refine ev_aload_n rfl ?_
        refine ev_aload_n rfl ?_
        refine ev_iload_n rfl ?_
        refine ev_iconst ?_
        refine ev_iadd (r := 1) (by decide) ?_
        refine ev_sald (j := 1) (v := (xs 1)) rfl rfl rfl ?_
        refine ev_aload_n rfl ?_
        refine ev_iload_n rfl ?_
        refine ev_iconst ?_
        refine ev_iadd (r := 2) (by decide) ?_
        refine ev_sald (j := 2) (v := (xs 2)) rfl rfl rfl ?_
        refine ev_in (d := 7) (a := 0) (b := 0) (cd' := c330_0) (m := 4) (L0 := [(2, 42), (0, (xs 1)), (0, (xs 2)), (9, 0)]) (jcall_v (A := [(0, (xs 2)), (0, (xs 1))]) (S' := [(0, (-1))]) (r := 42) rfl (hF.1.lt (by decide)) (hF.1.sh (by decide) rfl).1 (Nat.le_of_ble_eq_true rfl)) (by decide) ml330 pp330 (Nat.le_of_ble_eq_true rfl) rfl (by decide) (by decide) ?_
        refine ev_iload_n rfl ?_
        refine ev_iconst ?_
        refine ev_iconst ?_
        refine ev_in (d := 6) (a := 0) (b := 0) (cd' := c242_0) (m := 3) (L0 := [(0, (xs 1)), (0, 1), (0, 4)]) (jcall_s (A := [(0, 4), (0, 1), (0, (xs 1))]) (S' := []) (by decide) rfl (Nat.le_of_ble_eq_true rfl)) (by decide) ml242 pp242 (Nat.le_of_ble_eq_true rfl) rfl (by decide) (by decide) ?_
        refine ev_iload_n rfl ?_
        refine ev_iload_n rfl ?_
        refine ev_icmplt f242_14 (fun c11 => absurd c11 (by omega)) (fun c11 => ?_)
        refine ev_iload_n rfl ?_
        refine ev_iload_n rfl ?_
        refine ev_icmpgt f242_14 (fun c12 => absurd c12 (by omega)) (fun c12 => ?_)
        refine ev_iconst ?_
        refine ev_goto f242_15 ?_
        refine ev_ret rfl (by decide) (by decide) ?_
        show jEv _ _ _ _ _ _ _ (_, [(2, 42), (0, (xs 1)), (0, (xs 2)), (9, 0)], [(0, 1)], _, _, _)
        refine ev_ifeq f330_18 (fun c13 => absurd c13 (by omega)) (fun c13 => ?_)
        refine ev_iload_n rfl ?_
        refine ev_iconst ?_
        refine ev_iconst ?_
        refine ev_in (d := 6) (a := 0) (b := 0) (cd' := c242_0) (m := 3) (L0 := [(0, (xs 2)), (0, 1), (0, 4)]) (jcall_s (A := [(0, 4), (0, 1), (0, (xs 2))]) (S' := []) (by decide) rfl (Nat.le_of_ble_eq_true rfl)) (by decide) ml242 pp242 (Nat.le_of_ble_eq_true rfl) rfl (by decide) (by decide) ?_
        refine ev_iload_n rfl ?_
        refine ev_iload_n rfl ?_
        refine ev_icmplt f242_14 (fun c14 => ?_) (fun c14 => absurd c14 (by omega))
        refine ev_iconst ?_
        refine ev_ret rfl (by decide) (by decide) ?_
        show jEv _ _ _ _ _ _ _ (_, [(2, 42), (0, (xs 1)), (0, (xs 2)), (9, 0)], [(0, 0)], _, _, _)
        refine ev_ifne f330_20 (fun c15 => absurd c15 (by omega)) (fun c15 => ?_)
        refine ev_iconst ?_
        refine ev_ret rfl (by decide) (by decide) ?_
        show jEv _ _ _ _ _ _ _ (_, [(2, (-2)), (2, 0), (2, 42), (0, 0)], [(0, (-1)), (0, (-1))], _, _, _)
        refine ev_icmpeq f384_2190 (fun c16 => ?_) (fun c16 => absurd c16 (by omega))
        exact law_tail _
      · refine ev_iload_n rfl ?_
        refine ev_iconst ?_
        refine ev_icmple f195_22 (fun c17 => ?_) (fun c17 => ?_)
        · refine ev_aload_n rfl ?_
          refine ev_getf (r := 0) (v := 26) (hF.1.lt (by decide)) (hF.1.fam (by decide) (by decide)) ft11_11 ((hF.v rfl)) ?_
          refine ev_iload_n rfl ?_
          refine ev_iload_n rfl ?_
          refine ev_in (d := 6) (a := 0) (b := 0) (cd' := c103_0) (m := 3) (L0 := [(2, 26), (0, (xs 1)), (0, (xs 2))]) (jcall_v (A := [(0, (xs 2)), (0, (xs 1))]) (S' := []) (r := 26) rfl (hF.1.lt (by decide)) (hF.1.sh (by decide) rfl).1 (Nat.le_of_ble_eq_true rfl)) (by decide) ml103 pp103 (Nat.le_of_ble_eq_true rfl) rfl (by decide) (by decide) ?_
          refine ev_aload_n rfl ?_
          refine ev_iload_n rfl ?_
          refine ev_putfG (r := 26) (hF.1.lt (by decide)) (hF.1.fam (by decide) (by decide)) ft9_0 (fun e => absurd e nz9_0) (fun e => absurd e (by decide)) (fun h99 e99 => ?_)
          have hS99 := hF.1.wr e99
          refine ev_aload_n rfl ?_
          refine ev_iload_n rfl ?_
          refine ev_putfG (r := 26) (hS99.lt (by decide)) (hS99.fam (by decide) (by decide)) ft9_1 (fun e => absurd e nz9_1) (fun e => absurd e (by decide)) (fun h100 e100 => ?_)
          have hS100 := hS99.wr e100
          refine ev_aload_n rfl ?_
          refine ev_getf (r := 26) (v := 27) (hS100.lt (by decide)) (hS100.fam (by decide) (by decide)) ft9_2 ((jw_ne e100 (Or.inr (by decide))).trans ((jw_ne e99 (Or.inr (by decide))).trans ((hF.v rfl)))) ?_
          refine ev_iconst ?_
          refine ev_in (d := 5) (a := 0) (b := 0) (cd' := c383_0) (m := 4) (L0 := [(2, 27), (0, 0), (9, 0), (9, 0)]) (jcall_s (A := [(0, 0), (2, 27)]) (S' := []) (by decide) rfl (Nat.le_of_ble_eq_true rfl)) (by decide) ml383 pp383 (Nat.le_of_ble_eq_true rfl) rfl (by decide) (by decide) ?_
          refine ev_iconst ?_
          refine ev_istore_n (L' := [(2, 27), (0, 0), (0, 0), (9, 0)]) (Nat.le_of_ble_eq_true rfl) rfl ?_
          refine ev_aload_n rfl ?_
          refine ev_aln (r := 27) (m := 32) (hS100.lt (by decide)) (by rw [(hS100.sh (by decide) rfl).1]; decide) (by rw [(hS100.sh (by decide) rfl).1]; decide) (hS100.sh (by decide) rfl).2 (by decide) ?_
          refine ev_istore_n (L' := [(2, 27), (0, 0), (0, 0), (0, 32)]) (Nat.le_of_ble_eq_true rfl) rfl ?_
          refine ev_iload_n rfl ?_
          refine ev_iload_n rfl ?_
          refine ev_icmpge f383_20 (fun c18 => absurd c18 (by omega)) (fun c18 => ?_)
          refine ev_aload_n rfl ?_
          refine ev_iload_n rfl ?_
          refine ev_iload_n rfl ?_
          refine ev_iastG (r := 27) (j := 0) (hS100.lt (by decide)) (hS100.sh (by decide) rfl).1 rfl (hS100.inb (by decide) (by decide)) (fun h101 e101 => ?_)
          have hS101 := hS100.wr e101
          refine ev_iinc (w := 1) (L' := [(2, 27), (0, 0), (0, 1), (0, 32)]) rfl (by decide) rfl ?_
          refine ev_goto f383_5 ?_
          refine ev_iload_n rfl ?_
          refine ev_iload_n rfl ?_
          refine ev_icmpge f383_20 (fun c19 => absurd c19 (by omega)) (fun c19 => ?_)
          refine ev_aload_n rfl ?_
          refine ev_iload_n rfl ?_
          refine ev_iload_n rfl ?_
          refine ev_iastG (r := 27) (j := 1) (hS101.lt (by decide)) (hS101.sh (by decide) rfl).1 rfl (hS101.inb (by decide) (by decide)) (fun h102 e102 => ?_)
          have hS102 := hS101.wr e102
          refine ev_iinc (w := 2) (L' := [(2, 27), (0, 0), (0, 2), (0, 32)]) rfl (by decide) rfl ?_
          refine ev_goto f383_5 ?_
          refine ev_iload_n rfl ?_
          refine ev_iload_n rfl ?_
          refine ev_icmpge f383_20 (fun c20 => absurd c20 (by omega)) (fun c20 => ?_)
          refine ev_aload_n rfl ?_
          refine ev_iload_n rfl ?_
          refine ev_iload_n rfl ?_
          refine ev_iastG (r := 27) (j := 2) (hS102.lt (by decide)) (hS102.sh (by decide) rfl).1 rfl (hS102.inb (by decide) (by decide)) (fun h103 e103 => ?_)
          have hS103 := hS102.wr e103
          refine ev_iinc (w := 3) (L' := [(2, 27), (0, 0), (0, 3), (0, 32)]) rfl (by decide) rfl ?_
          refine ev_goto f383_5 ?_
          refine ev_iload_n rfl ?_
          refine ev_iload_n rfl ?_
          refine ev_icmpge f383_20 (fun c21 => absurd c21 (by omega)) (fun c21 => ?_)
          refine ev_aload_n rfl ?_
          refine ev_iload_n rfl ?_
          refine ev_iload_n rfl ?_
          refine ev_iastG (r := 27) (j := 3) (hS103.lt (by decide)) (hS103.sh (by decide) rfl).1 rfl (hS103.inb (by decide) (by decide)) (fun h104 e104 => ?_)
          have hS104 := hS103.wr e104
          refine ev_iinc (w := 4) (L' := [(2, 27), (0, 0), (0, 4), (0, 32)]) rfl (by decide) rfl ?_
          refine ev_goto f383_5 ?_
          refine ev_iload_n rfl ?_
          refine ev_iload_n rfl ?_
          refine ev_icmpge f383_20 (fun c22 => absurd c22 (by omega)) (fun c22 => ?_)
          refine ev_aload_n rfl ?_
          refine ev_iload_n rfl ?_
          refine ev_iload_n rfl ?_
          refine ev_iastG (r := 27) (j := 4) (hS104.lt (by decide)) (hS104.sh (by decide) rfl).1 rfl (hS104.inb (by decide) (by decide)) (fun h105 e105 => ?_)
          have hS105 := hS104.wr e105
          refine ev_iinc (w := 5) (L' := [(2, 27), (0, 0), (0, 5), (0, 32)]) rfl (by decide) rfl ?_
          refine ev_goto f383_5 ?_
          refine ev_iload_n rfl ?_
          refine ev_iload_n rfl ?_
          refine ev_icmpge f383_20 (fun c23 => absurd c23 (by omega)) (fun c23 => ?_)
          refine ev_aload_n rfl ?_
          refine ev_iload_n rfl ?_
          refine ev_iload_n rfl ?_
          refine ev_iastG (r := 27) (j := 5) (hS105.lt (by decide)) (hS105.sh (by decide) rfl).1 rfl (hS105.inb (by decide) (by decide)) (fun h106 e106 => ?_)
          have hS106 := hS105.wr e106
          refine ev_iinc (w := 6) (L' := [(2, 27), (0, 0), (0, 6), (0, 32)]) rfl (by decide) rfl ?_
          refine ev_goto f383_5 ?_
          refine ev_iload_n rfl ?_
          refine ev_iload_n rfl ?_
          refine ev_icmpge f383_20 (fun c24 => absurd c24 (by omega)) (fun c24 => ?_)
          refine ev_aload_n rfl ?_
          refine ev_iload_n rfl ?_
          refine ev_iload_n rfl ?_
          refine ev_iastG (r := 27) (j := 6) (hS106.lt (by decide)) (hS106.sh (by decide) rfl).1 rfl (hS106.inb (by decide) (by decide)) (fun h107 e107 => ?_)
          have hS107 := hS106.wr e107
          refine ev_iinc (w := 7) (L' := [(2, 27), (0, 0), (0, 7), (0, 32)]) rfl (by decide) rfl ?_
          refine ev_goto f383_5 ?_
          refine ev_iload_n rfl ?_
          refine ev_iload_n rfl ?_
          refine ev_icmpge f383_20 (fun c25 => absurd c25 (by omega)) (fun c25 => ?_)
          refine ev_aload_n rfl ?_
          refine ev_iload_n rfl ?_
          refine ev_iload_n rfl ?_
          refine ev_iastG (r := 27) (j := 7) (hS107.lt (by decide)) (hS107.sh (by decide) rfl).1 rfl (hS107.inb (by decide) (by decide)) (fun h108 e108 => ?_)
          have hS108 := hS107.wr e108
          refine ev_iinc (w := 8) (L' := [(2, 27), (0, 0), (0, 8), (0, 32)]) rfl (by decide) rfl ?_
          refine ev_goto f383_5 ?_
          refine ev_iload_n rfl ?_
          refine ev_iload_n rfl ?_
          refine ev_icmpge f383_20 (fun c26 => absurd c26 (by omega)) (fun c26 => ?_)
          refine ev_aload_n rfl ?_
          refine ev_iload_n rfl ?_
          refine ev_iload_n rfl ?_
          refine ev_iastG (r := 27) (j := 8) (hS108.lt (by decide)) (hS108.sh (by decide) rfl).1 rfl (hS108.inb (by decide) (by decide)) (fun h109 e109 => ?_)
          have hS109 := hS108.wr e109
          refine ev_iinc (w := 9) (L' := [(2, 27), (0, 0), (0, 9), (0, 32)]) rfl (by decide) rfl ?_
          refine ev_goto f383_5 ?_
          refine ev_iload_n rfl ?_
          refine ev_iload_n rfl ?_
          refine ev_icmpge f383_20 (fun c27 => absurd c27 (by omega)) (fun c27 => ?_)
          refine ev_aload_n rfl ?_
          refine ev_iload_n rfl ?_
          refine ev_iload_n rfl ?_
          refine ev_iastG (r := 27) (j := 9) (hS109.lt (by decide)) (hS109.sh (by decide) rfl).1 rfl (hS109.inb (by decide) (by decide)) (fun h110 e110 => ?_)
          have hS110 := hS109.wr e110
          refine ev_iinc (w := 10) (L' := [(2, 27), (0, 0), (0, 10), (0, 32)]) rfl (by decide) rfl ?_
          refine ev_goto f383_5 ?_
          refine ev_iload_n rfl ?_
          refine ev_iload_n rfl ?_
          refine ev_icmpge f383_20 (fun c28 => absurd c28 (by omega)) (fun c28 => ?_)
          refine ev_aload_n rfl ?_
          refine ev_iload_n rfl ?_
          refine ev_iload_n rfl ?_
          refine ev_iastG (r := 27) (j := 10) (hS110.lt (by decide)) (hS110.sh (by decide) rfl).1 rfl (hS110.inb (by decide) (by decide)) (fun h111 e111 => ?_)
          have hS111 := hS110.wr e111
          refine ev_iinc (w := 11) (L' := [(2, 27), (0, 0), (0, 11), (0, 32)]) rfl (by decide) rfl ?_
          refine ev_goto f383_5 ?_
          refine ev_iload_n rfl ?_
          refine ev_iload_n rfl ?_
          refine ev_icmpge f383_20 (fun c29 => absurd c29 (by omega)) (fun c29 => ?_)
          refine ev_aload_n rfl ?_
          refine ev_iload_n rfl ?_
          refine ev_iload_n rfl ?_
          refine ev_iastG (r := 27) (j := 11) (hS111.lt (by decide)) (hS111.sh (by decide) rfl).1 rfl (hS111.inb (by decide) (by decide)) (fun h112 e112 => ?_)
          have hS112 := hS111.wr e112
          refine ev_iinc (w := 12) (L' := [(2, 27), (0, 0), (0, 12), (0, 32)]) rfl (by decide) rfl ?_
          refine ev_goto f383_5 ?_
          refine ev_iload_n rfl ?_
          refine ev_iload_n rfl ?_
          refine ev_icmpge f383_20 (fun c30 => absurd c30 (by omega)) (fun c30 => ?_)
          refine ev_aload_n rfl ?_
          refine ev_iload_n rfl ?_
          refine ev_iload_n rfl ?_
          refine ev_iastG (r := 27) (j := 12) (hS112.lt (by decide)) (hS112.sh (by decide) rfl).1 rfl (hS112.inb (by decide) (by decide)) (fun h113 e113 => ?_)
          have hS113 := hS112.wr e113
          refine ev_iinc (w := 13) (L' := [(2, 27), (0, 0), (0, 13), (0, 32)]) rfl (by decide) rfl ?_
          refine ev_goto f383_5 ?_
          refine ev_iload_n rfl ?_
          refine ev_iload_n rfl ?_
          refine ev_icmpge f383_20 (fun c31 => absurd c31 (by omega)) (fun c31 => ?_)
          refine ev_aload_n rfl ?_
          refine ev_iload_n rfl ?_
          refine ev_iload_n rfl ?_
          refine ev_iastG (r := 27) (j := 13) (hS113.lt (by decide)) (hS113.sh (by decide) rfl).1 rfl (hS113.inb (by decide) (by decide)) (fun h114 e114 => ?_)
          have hS114 := hS113.wr e114
          refine ev_iinc (w := 14) (L' := [(2, 27), (0, 0), (0, 14), (0, 32)]) rfl (by decide) rfl ?_
          refine ev_goto f383_5 ?_
          refine ev_iload_n rfl ?_
          refine ev_iload_n rfl ?_
          refine ev_icmpge f383_20 (fun c32 => absurd c32 (by omega)) (fun c32 => ?_)
          refine ev_aload_n rfl ?_
          refine ev_iload_n rfl ?_
          refine ev_iload_n rfl ?_
          refine ev_iastG (r := 27) (j := 14) (hS114.lt (by decide)) (hS114.sh (by decide) rfl).1 rfl (hS114.inb (by decide) (by decide)) (fun h115 e115 => ?_)
          have hS115 := hS114.wr e115
          refine ev_iinc (w := 15) (L' := [(2, 27), (0, 0), (0, 15), (0, 32)]) rfl (by decide) rfl ?_
          refine ev_goto f383_5 ?_
          refine ev_iload_n rfl ?_
          refine ev_iload_n rfl ?_
          refine ev_icmpge f383_20 (fun c33 => absurd c33 (by omega)) (fun c33 => ?_)
          refine ev_aload_n rfl ?_
          refine ev_iload_n rfl ?_
          refine ev_iload_n rfl ?_
          refine ev_iastG (r := 27) (j := 15) (hS115.lt (by decide)) (hS115.sh (by decide) rfl).1 rfl (hS115.inb (by decide) (by decide)) (fun h116 e116 => ?_)
          have hS116 := hS115.wr e116
          refine ev_iinc (w := 16) (L' := [(2, 27), (0, 0), (0, 16), (0, 32)]) rfl (by decide) rfl ?_
          refine ev_goto f383_5 ?_
          refine ev_iload_n rfl ?_
          refine ev_iload_n rfl ?_
          refine ev_icmpge f383_20 (fun c34 => absurd c34 (by omega)) (fun c34 => ?_)
          refine ev_aload_n rfl ?_
          refine ev_iload_n rfl ?_
          refine ev_iload_n rfl ?_
          refine ev_iastG (r := 27) (j := 16) (hS116.lt (by decide)) (hS116.sh (by decide) rfl).1 rfl (hS116.inb (by decide) (by decide)) (fun h117 e117 => ?_)
          have hS117 := hS116.wr e117
          refine ev_iinc (w := 17) (L' := [(2, 27), (0, 0), (0, 17), (0, 32)]) rfl (by decide) rfl ?_
          refine ev_goto f383_5 ?_
          refine ev_iload_n rfl ?_
          refine ev_iload_n rfl ?_
          refine ev_icmpge f383_20 (fun c35 => absurd c35 (by omega)) (fun c35 => ?_)
          refine ev_aload_n rfl ?_
          refine ev_iload_n rfl ?_
          refine ev_iload_n rfl ?_
          refine ev_iastG (r := 27) (j := 17) (hS117.lt (by decide)) (hS117.sh (by decide) rfl).1 rfl (hS117.inb (by decide) (by decide)) (fun h118 e118 => ?_)
          have hS118 := hS117.wr e118
          refine ev_iinc (w := 18) (L' := [(2, 27), (0, 0), (0, 18), (0, 32)]) rfl (by decide) rfl ?_
          refine ev_goto f383_5 ?_
          refine ev_iload_n rfl ?_
          refine ev_iload_n rfl ?_
          refine ev_icmpge f383_20 (fun c36 => absurd c36 (by omega)) (fun c36 => ?_)
          refine ev_aload_n rfl ?_
          refine ev_iload_n rfl ?_
          refine ev_iload_n rfl ?_
          refine ev_iastG (r := 27) (j := 18) (hS118.lt (by decide)) (hS118.sh (by decide) rfl).1 rfl (hS118.inb (by decide) (by decide)) (fun h119 e119 => ?_)
          have hS119 := hS118.wr e119
          refine ev_iinc (w := 19) (L' := [(2, 27), (0, 0), (0, 19), (0, 32)]) rfl (by decide) rfl ?_
          refine ev_goto f383_5 ?_
          refine ev_iload_n rfl ?_
          refine ev_iload_n rfl ?_
          refine ev_icmpge f383_20 (fun c37 => absurd c37 (by omega)) (fun c37 => ?_)
          refine ev_aload_n rfl ?_
          refine ev_iload_n rfl ?_
          refine ev_iload_n rfl ?_
          refine ev_iastG (r := 27) (j := 19) (hS119.lt (by decide)) (hS119.sh (by decide) rfl).1 rfl (hS119.inb (by decide) (by decide)) (fun h120 e120 => ?_)
          have hS120 := hS119.wr e120
          refine ev_iinc (w := 20) (L' := [(2, 27), (0, 0), (0, 20), (0, 32)]) rfl (by decide) rfl ?_
          refine ev_goto f383_5 ?_
          refine ev_iload_n rfl ?_
          refine ev_iload_n rfl ?_
          refine ev_icmpge f383_20 (fun c38 => absurd c38 (by omega)) (fun c38 => ?_)
          refine ev_aload_n rfl ?_
          refine ev_iload_n rfl ?_
          refine ev_iload_n rfl ?_
          refine ev_iastG (r := 27) (j := 20) (hS120.lt (by decide)) (hS120.sh (by decide) rfl).1 rfl (hS120.inb (by decide) (by decide)) (fun h121 e121 => ?_)
          have hS121 := hS120.wr e121
          refine ev_iinc (w := 21) (L' := [(2, 27), (0, 0), (0, 21), (0, 32)]) rfl (by decide) rfl ?_
          refine ev_goto f383_5 ?_
          refine ev_iload_n rfl ?_
          refine ev_iload_n rfl ?_
          refine ev_icmpge f383_20 (fun c39 => absurd c39 (by omega)) (fun c39 => ?_)
          refine ev_aload_n rfl ?_
          refine ev_iload_n rfl ?_
          refine ev_iload_n rfl ?_
          refine ev_iastG (r := 27) (j := 21) (hS121.lt (by decide)) (hS121.sh (by decide) rfl).1 rfl (hS121.inb (by decide) (by decide)) (fun h122 e122 => ?_)
          have hS122 := hS121.wr e122
          refine ev_iinc (w := 22) (L' := [(2, 27), (0, 0), (0, 22), (0, 32)]) rfl (by decide) rfl ?_
          refine ev_goto f383_5 ?_
          refine ev_iload_n rfl ?_
          refine ev_iload_n rfl ?_
          refine ev_icmpge f383_20 (fun c40 => absurd c40 (by omega)) (fun c40 => ?_)
          refine ev_aload_n rfl ?_
          refine ev_iload_n rfl ?_
          refine ev_iload_n rfl ?_
          refine ev_iastG (r := 27) (j := 22) (hS122.lt (by decide)) (hS122.sh (by decide) rfl).1 rfl (hS122.inb (by decide) (by decide)) (fun h123 e123 => ?_)
          have hS123 := hS122.wr e123
          refine ev_iinc (w := 23) (L' := [(2, 27), (0, 0), (0, 23), (0, 32)]) rfl (by decide) rfl ?_
          refine ev_goto f383_5 ?_
          refine ev_iload_n rfl ?_
          refine ev_iload_n rfl ?_
          refine ev_icmpge f383_20 (fun c41 => absurd c41 (by omega)) (fun c41 => ?_)
          refine ev_aload_n rfl ?_
          refine ev_iload_n rfl ?_
          refine ev_iload_n rfl ?_
          refine ev_iastG (r := 27) (j := 23) (hS123.lt (by decide)) (hS123.sh (by decide) rfl).1 rfl (hS123.inb (by decide) (by decide)) (fun h124 e124 => ?_)
          have hS124 := hS123.wr e124
          refine ev_iinc (w := 24) (L' := [(2, 27), (0, 0), (0, 24), (0, 32)]) rfl (by decide) rfl ?_
          refine ev_goto f383_5 ?_
          refine ev_iload_n rfl ?_
          refine ev_iload_n rfl ?_
          refine ev_icmpge f383_20 (fun c42 => absurd c42 (by omega)) (fun c42 => ?_)
          refine ev_aload_n rfl ?_
          refine ev_iload_n rfl ?_
          refine ev_iload_n rfl ?_
          refine ev_iastG (r := 27) (j := 24) (hS124.lt (by decide)) (hS124.sh (by decide) rfl).1 rfl (hS124.inb (by decide) (by decide)) (fun h125 e125 => ?_)
          have hS125 := hS124.wr e125
          refine ev_iinc (w := 25) (L' := [(2, 27), (0, 0), (0, 25), (0, 32)]) rfl (by decide) rfl ?_
          refine ev_goto f383_5 ?_
          refine ev_iload_n rfl ?_
          refine ev_iload_n rfl ?_
          refine ev_icmpge f383_20 (fun c43 => absurd c43 (by omega)) (fun c43 => ?_)
          refine ev_aload_n rfl ?_
          refine ev_iload_n rfl ?_
          refine ev_iload_n rfl ?_
          refine ev_iastG (r := 27) (j := 25) (hS125.lt (by decide)) (hS125.sh (by decide) rfl).1 rfl (hS125.inb (by decide) (by decide)) (fun h126 e126 => ?_)
          have hS126 := hS125.wr e126
          refine ev_iinc (w := 26) (L' := [(2, 27), (0, 0), (0, 26), (0, 32)]) rfl (by decide) rfl ?_
          refine ev_goto f383_5 ?_
          refine ev_iload_n rfl ?_
          refine ev_iload_n rfl ?_
          refine ev_icmpge f383_20 (fun c44 => absurd c44 (by omega)) (fun c44 => ?_)
          refine ev_aload_n rfl ?_
          refine ev_iload_n rfl ?_
          refine ev_iload_n rfl ?_
          refine ev_iastG (r := 27) (j := 26) (hS126.lt (by decide)) (hS126.sh (by decide) rfl).1 rfl (hS126.inb (by decide) (by decide)) (fun h127 e127 => ?_)
          have hS127 := hS126.wr e127
          refine ev_iinc (w := 27) (L' := [(2, 27), (0, 0), (0, 27), (0, 32)]) rfl (by decide) rfl ?_
          refine ev_goto f383_5 ?_
          refine ev_iload_n rfl ?_
          refine ev_iload_n rfl ?_
          refine ev_icmpge f383_20 (fun c45 => absurd c45 (by omega)) (fun c45 => ?_)
          refine ev_aload_n rfl ?_
          refine ev_iload_n rfl ?_
          refine ev_iload_n rfl ?_
          refine ev_iastG (r := 27) (j := 27) (hS127.lt (by decide)) (hS127.sh (by decide) rfl).1 rfl (hS127.inb (by decide) (by decide)) (fun h128 e128 => ?_)
          have hS128 := hS127.wr e128
          refine ev_iinc (w := 28) (L' := [(2, 27), (0, 0), (0, 28), (0, 32)]) rfl (by decide) rfl ?_
          refine ev_goto f383_5 ?_
          refine ev_iload_n rfl ?_
          refine ev_iload_n rfl ?_
          refine ev_icmpge f383_20 (fun c46 => absurd c46 (by omega)) (fun c46 => ?_)
          refine ev_aload_n rfl ?_
          refine ev_iload_n rfl ?_
          refine ev_iload_n rfl ?_
          refine ev_iastG (r := 27) (j := 28) (hS128.lt (by decide)) (hS128.sh (by decide) rfl).1 rfl (hS128.inb (by decide) (by decide)) (fun h129 e129 => ?_)
          have hS129 := hS128.wr e129
          refine ev_iinc (w := 29) (L' := [(2, 27), (0, 0), (0, 29), (0, 32)]) rfl (by decide) rfl ?_
          refine ev_goto f383_5 ?_
          refine ev_iload_n rfl ?_
          refine ev_iload_n rfl ?_
          refine ev_icmpge f383_20 (fun c47 => absurd c47 (by omega)) (fun c47 => ?_)
          refine ev_aload_n rfl ?_
          refine ev_iload_n rfl ?_
          refine ev_iload_n rfl ?_
          refine ev_iastG (r := 27) (j := 29) (hS129.lt (by decide)) (hS129.sh (by decide) rfl).1 rfl (hS129.inb (by decide) (by decide)) (fun h130 e130 => ?_)
          have hS130 := hS129.wr e130
          refine ev_iinc (w := 30) (L' := [(2, 27), (0, 0), (0, 30), (0, 32)]) rfl (by decide) rfl ?_
          refine ev_goto f383_5 ?_
          refine ev_iload_n rfl ?_
          refine ev_iload_n rfl ?_
          refine ev_icmpge f383_20 (fun c48 => absurd c48 (by omega)) (fun c48 => ?_)
          refine ev_aload_n rfl ?_
          refine ev_iload_n rfl ?_
          refine ev_iload_n rfl ?_
          refine ev_iastG (r := 27) (j := 30) (hS130.lt (by decide)) (hS130.sh (by decide) rfl).1 rfl (hS130.inb (by decide) (by decide)) (fun h131 e131 => ?_)
          have hS131 := hS130.wr e131
          refine ev_iinc (w := 31) (L' := [(2, 27), (0, 0), (0, 31), (0, 32)]) rfl (by decide) rfl ?_
          refine ev_goto f383_5 ?_
          refine ev_iload_n rfl ?_
          refine ev_iload_n rfl ?_
          refine ev_icmpge f383_20 (fun c49 => absurd c49 (by omega)) (fun c49 => ?_)
          refine ev_aload_n rfl ?_
          refine ev_iload_n rfl ?_
          refine ev_iload_n rfl ?_
          refine ev_iastG (r := 27) (j := 31) (hS131.lt (by decide)) (hS131.sh (by decide) rfl).1 rfl (hS131.inb (by decide) (by decide)) (fun h132 e132 => ?_)
          have hS132 := hS131.wr e132
          refine ev_iinc (w := 32) (L' := [(2, 27), (0, 0), (0, 32), (0, 32)]) rfl (by decide) rfl ?_
          refine ev_goto f383_5 ?_
          refine ev_iload_n rfl ?_
          refine ev_iload_n rfl ?_
          refine ev_icmpge f383_20 (fun c50 => ?_) (fun c50 => absurd c50 (by omega))
          refine ev_ret rfl (by decide) (by decide) ?_
          show jEv _ _ _ _ _ _ _ (_, [(2, 26), (0, (xs 1)), (0, (xs 2))], [], _, _, _)
          refine ev_ret rfl (by decide) (by decide) ?_
          show jEv _ _ _ _ _ _ _ (_, [(2, 0), (0, (xs 1)), (0, (xs 2))], [], _, _, _)
          refine ev_iload_n rfl ?_
          refine ev_iload_n rfl ?_
          have q51 := jmulb (x := (xs 1)) (y := (xs 2)) (a := 4) (b := 4) (by omega) (by omega) (by omega) (by omega)
          refine ev_imul (r := ((xs 1) * (xs 2))) (by unfold w32; omega) ?_
          refine ev_ret rfl (by decide) (by decide) ?_
          show jEv _ _ _ _ _ _ _ (_, [(2, (-2)), (2, 0), (2, 42), (0, 0)], [(0, ((xs 1) * (xs 2)))], _, _, _)
          refine ev_aload_n rfl ?_
          refine ev_aload_n rfl ?_
          refine ev_iload_n rfl ?_
          refine ev_iconst ?_
          refine ev_iadd (r := 1) (by decide) ?_
          refine ev_sald (j := 1) (v := (xs 1)) rfl rfl rfl ?_
          refine ev_aload_n rfl ?_
          refine ev_iload_n rfl ?_
          refine ev_iconst ?_
          refine ev_iadd (r := 2) (by decide) ?_
          refine ev_sald (j := 2) (v := (xs 2)) rfl rfl rfl ?_
          refine ev_in (d := 7) (a := 0) (b := 0) (cd' := c330_0) (m := 4) (L0 := [(2, 42), (0, (xs 1)), (0, (xs 2)), (9, 0)]) (jcall_v (A := [(0, (xs 2)), (0, (xs 1))]) (S' := [(0, ((xs 1) * (xs 2)))]) (r := 42) rfl (hS132.lt (by decide)) (hS132.sh (by decide) rfl).1 (Nat.le_of_ble_eq_true rfl)) (by decide) ml330 pp330 (Nat.le_of_ble_eq_true rfl) rfl (by decide) (by decide) ?_
          refine ev_iload_n rfl ?_
          refine ev_iconst ?_
          refine ev_iconst ?_
          refine ev_in (d := 6) (a := 0) (b := 0) (cd' := c242_0) (m := 3) (L0 := [(0, (xs 1)), (0, 1), (0, 4)]) (jcall_s (A := [(0, 4), (0, 1), (0, (xs 1))]) (S' := []) (by decide) rfl (Nat.le_of_ble_eq_true rfl)) (by decide) ml242 pp242 (Nat.le_of_ble_eq_true rfl) rfl (by decide) (by decide) ?_
          refine ev_iload_n rfl ?_
          refine ev_iload_n rfl ?_
          refine ev_icmplt f242_14 (fun c52 => absurd c52 (by omega)) (fun c52 => ?_)
          refine ev_iload_n rfl ?_
          refine ev_iload_n rfl ?_
          refine ev_icmpgt f242_14 (fun c53 => absurd c53 (by omega)) (fun c53 => ?_)
          refine ev_iconst ?_
          refine ev_goto f242_15 ?_
          refine ev_ret rfl (by decide) (by decide) ?_
          show jEv _ _ _ _ _ _ _ (_, [(2, 42), (0, (xs 1)), (0, (xs 2)), (9, 0)], [(0, 1)], _, _, _)
          refine ev_ifeq f330_18 (fun c54 => absurd c54 (by omega)) (fun c54 => ?_)
          refine ev_iload_n rfl ?_
          refine ev_iconst ?_
          refine ev_iconst ?_
          refine ev_in (d := 6) (a := 0) (b := 0) (cd' := c242_0) (m := 3) (L0 := [(0, (xs 2)), (0, 1), (0, 4)]) (jcall_s (A := [(0, 4), (0, 1), (0, (xs 2))]) (S' := []) (by decide) rfl (Nat.le_of_ble_eq_true rfl)) (by decide) ml242 pp242 (Nat.le_of_ble_eq_true rfl) rfl (by decide) (by decide) ?_
          refine ev_iload_n rfl ?_
          refine ev_iload_n rfl ?_
          refine ev_icmplt f242_14 (fun c55 => absurd c55 (by omega)) (fun c55 => ?_)
          refine ev_iload_n rfl ?_
          refine ev_iload_n rfl ?_
          refine ev_icmpgt f242_14 (fun c56 => absurd c56 (by omega)) (fun c56 => ?_)
          refine ev_iconst ?_
          refine ev_goto f242_15 ?_
          refine ev_ret rfl (by decide) (by decide) ?_
          show jEv _ _ _ _ _ _ _ (_, [(2, 42), (0, (xs 1)), (0, (xs 2)), (9, 0)], [(0, 1)], _, _, _)
          refine ev_ifne f330_20 (fun c57 => ?_) (fun c57 => absurd c57 (by omega))
          refine ev_aload_n rfl ?_
          refine ev_iload_n rfl ?_
          refine ev_putfG (r := 42) (hS132.lt (by decide)) (hS132.fam (by decide) (by decide)) ft12_44 (fun e => absurd e nz12_44) (fun e => absurd e (by decide)) (fun h133 e133 => ?_)
          have hS133 := hS132.wr e133
          refine ev_aload_n rfl ?_
          refine ev_iload_n rfl ?_
          refine ev_putfG (r := 42) (hS133.lt (by decide)) (hS133.fam (by decide) (by decide)) ft12_45 (fun e => absurd e nz12_45) (fun e => absurd e (by decide)) (fun h134 e134 => ?_)
          have hS134 := hS133.wr e134
          refine ev_iconst ?_
          refine ev_istore_n (L' := [(2, 42), (0, (xs 1)), (0, (xs 2)), (0, 0)]) (Nat.le_of_ble_eq_true rfl) rfl ?_
          refine ev_iload_n rfl ?_
          refine ev_bipush ?_
          refine ev_icmpge f330_51 (fun c58 => absurd c58 (by omega)) (fun c58 => ?_)
          refine ev_aload_n rfl ?_
          refine ev_getf (r := 42) (v := 67) (hS134.lt (by decide)) (hS134.fam (by decide) (by decide)) ft12_46 ((jw_ne e134 (Or.inr (by decide))).trans ((jw_ne e133 (Or.inr (by decide))).trans ((jw_ne e132 (Or.inl (by decide))).trans ((jw_ne e131 (Or.inl (by decide))).trans ((jw_ne e130 (Or.inl (by decide))).trans ((jw_ne e129 (Or.inl (by decide))).trans ((jw_ne e128 (Or.inl (by decide))).trans ((jw_ne e127 (Or.inl (by decide))).trans ((jw_ne e126 (Or.inl (by decide))).trans ((jw_ne e125 (Or.inl (by decide))).trans ((jw_ne e124 (Or.inl (by decide))).trans ((jw_ne e123 (Or.inl (by decide))).trans ((jw_ne e122 (Or.inl (by decide))).trans ((jw_ne e121 (Or.inl (by decide))).trans ((jw_ne e120 (Or.inl (by decide))).trans ((jw_ne e119 (Or.inl (by decide))).trans ((jw_ne e118 (Or.inl (by decide))).trans ((jw_ne e117 (Or.inl (by decide))).trans ((jw_ne e116 (Or.inl (by decide))).trans ((jw_ne e115 (Or.inl (by decide))).trans ((jw_ne e114 (Or.inl (by decide))).trans ((jw_ne e113 (Or.inl (by decide))).trans ((jw_ne e112 (Or.inl (by decide))).trans ((jw_ne e111 (Or.inl (by decide))).trans ((jw_ne e110 (Or.inl (by decide))).trans ((jw_ne e109 (Or.inl (by decide))).trans ((jw_ne e108 (Or.inl (by decide))).trans ((jw_ne e107 (Or.inl (by decide))).trans ((jw_ne e106 (Or.inl (by decide))).trans ((jw_ne e105 (Or.inl (by decide))).trans ((jw_ne e104 (Or.inl (by decide))).trans ((jw_ne e103 (Or.inl (by decide))).trans ((jw_ne e102 (Or.inl (by decide))).trans ((jw_ne e101 (Or.inl (by decide))).trans ((jw_ne e100 (Or.inl (by decide))).trans ((jw_ne e99 (Or.inl (by decide))).trans ((hF.v rfl)))))))))))))))))))))))))))))))))))))) ?_
          refine ev_iload_n rfl ?_
          refine ev_iconst ?_
          refine ev_iastG (r := 67) (j := 0) (hS134.lt (by decide)) (hS134.sh (by decide) rfl).1 rfl (hS134.inb (by decide) (by decide)) (fun h135 e135 => ?_)
          have hS135 := hS134.wr e135
          refine ev_iinc (w := 1) (L' := [(2, 42), (0, (xs 1)), (0, (xs 2)), (0, 1)]) rfl (by decide) rfl ?_
          refine ev_goto f330_32 ?_
          refine ev_iload_n rfl ?_
          refine ev_bipush ?_
          refine ev_icmpge f330_51 (fun c59 => absurd c59 (by omega)) (fun c59 => ?_)
          refine ev_aload_n rfl ?_
          refine ev_getf (r := 42) (v := 67) (hS135.lt (by decide)) (hS135.fam (by decide) (by decide)) ft12_46 ((jw_ne e135 (Or.inl (by decide))).trans ((jw_ne e134 (Or.inr (by decide))).trans ((jw_ne e133 (Or.inr (by decide))).trans ((jw_ne e132 (Or.inl (by decide))).trans ((jw_ne e131 (Or.inl (by decide))).trans ((jw_ne e130 (Or.inl (by decide))).trans ((jw_ne e129 (Or.inl (by decide))).trans ((jw_ne e128 (Or.inl (by decide))).trans ((jw_ne e127 (Or.inl (by decide))).trans ((jw_ne e126 (Or.inl (by decide))).trans ((jw_ne e125 (Or.inl (by decide))).trans ((jw_ne e124 (Or.inl (by decide))).trans ((jw_ne e123 (Or.inl (by decide))).trans ((jw_ne e122 (Or.inl (by decide))).trans ((jw_ne e121 (Or.inl (by decide))).trans ((jw_ne e120 (Or.inl (by decide))).trans ((jw_ne e119 (Or.inl (by decide))).trans ((jw_ne e118 (Or.inl (by decide))).trans ((jw_ne e117 (Or.inl (by decide))).trans ((jw_ne e116 (Or.inl (by decide))).trans ((jw_ne e115 (Or.inl (by decide))).trans ((jw_ne e114 (Or.inl (by decide))).trans ((jw_ne e113 (Or.inl (by decide))).trans ((jw_ne e112 (Or.inl (by decide))).trans ((jw_ne e111 (Or.inl (by decide))).trans ((jw_ne e110 (Or.inl (by decide))).trans ((jw_ne e109 (Or.inl (by decide))).trans ((jw_ne e108 (Or.inl (by decide))).trans ((jw_ne e107 (Or.inl (by decide))).trans ((jw_ne e106 (Or.inl (by decide))).trans ((jw_ne e105 (Or.inl (by decide))).trans ((jw_ne e104 (Or.inl (by decide))).trans ((jw_ne e103 (Or.inl (by decide))).trans ((jw_ne e102 (Or.inl (by decide))).trans ((jw_ne e101 (Or.inl (by decide))).trans ((jw_ne e100 (Or.inl (by decide))).trans ((jw_ne e99 (Or.inl (by decide))).trans ((hF.v rfl))))))))))))))))))))))))))))))))))))))) ?_
          refine ev_iload_n rfl ?_
          refine ev_iconst ?_
          refine ev_iastG (r := 67) (j := 1) (hS135.lt (by decide)) (hS135.sh (by decide) rfl).1 rfl (hS135.inb (by decide) (by decide)) (fun h136 e136 => ?_)
          have hS136 := hS135.wr e136
          refine ev_iinc (w := 2) (L' := [(2, 42), (0, (xs 1)), (0, (xs 2)), (0, 2)]) rfl (by decide) rfl ?_
          refine ev_goto f330_32 ?_
          refine ev_iload_n rfl ?_
          refine ev_bipush ?_
          refine ev_icmpge f330_51 (fun c60 => absurd c60 (by omega)) (fun c60 => ?_)
          refine ev_aload_n rfl ?_
          refine ev_getf (r := 42) (v := 67) (hS136.lt (by decide)) (hS136.fam (by decide) (by decide)) ft12_46 ((jw_ne e136 (Or.inl (by decide))).trans ((jw_ne e135 (Or.inl (by decide))).trans ((jw_ne e134 (Or.inr (by decide))).trans ((jw_ne e133 (Or.inr (by decide))).trans ((jw_ne e132 (Or.inl (by decide))).trans ((jw_ne e131 (Or.inl (by decide))).trans ((jw_ne e130 (Or.inl (by decide))).trans ((jw_ne e129 (Or.inl (by decide))).trans ((jw_ne e128 (Or.inl (by decide))).trans ((jw_ne e127 (Or.inl (by decide))).trans ((jw_ne e126 (Or.inl (by decide))).trans ((jw_ne e125 (Or.inl (by decide))).trans ((jw_ne e124 (Or.inl (by decide))).trans ((jw_ne e123 (Or.inl (by decide))).trans ((jw_ne e122 (Or.inl (by decide))).trans ((jw_ne e121 (Or.inl (by decide))).trans ((jw_ne e120 (Or.inl (by decide))).trans ((jw_ne e119 (Or.inl (by decide))).trans ((jw_ne e118 (Or.inl (by decide))).trans ((jw_ne e117 (Or.inl (by decide))).trans ((jw_ne e116 (Or.inl (by decide))).trans ((jw_ne e115 (Or.inl (by decide))).trans ((jw_ne e114 (Or.inl (by decide))).trans ((jw_ne e113 (Or.inl (by decide))).trans ((jw_ne e112 (Or.inl (by decide))).trans ((jw_ne e111 (Or.inl (by decide))).trans ((jw_ne e110 (Or.inl (by decide))).trans ((jw_ne e109 (Or.inl (by decide))).trans ((jw_ne e108 (Or.inl (by decide))).trans ((jw_ne e107 (Or.inl (by decide))).trans ((jw_ne e106 (Or.inl (by decide))).trans ((jw_ne e105 (Or.inl (by decide))).trans ((jw_ne e104 (Or.inl (by decide))).trans ((jw_ne e103 (Or.inl (by decide))).trans ((jw_ne e102 (Or.inl (by decide))).trans ((jw_ne e101 (Or.inl (by decide))).trans ((jw_ne e100 (Or.inl (by decide))).trans ((jw_ne e99 (Or.inl (by decide))).trans ((hF.v rfl)))))))))))))))))))))))))))))))))))))))) ?_
          refine ev_iload_n rfl ?_
          refine ev_iconst ?_
          refine ev_iastG (r := 67) (j := 2) (hS136.lt (by decide)) (hS136.sh (by decide) rfl).1 rfl (hS136.inb (by decide) (by decide)) (fun h137 e137 => ?_)
          have hS137 := hS136.wr e137
          refine ev_iinc (w := 3) (L' := [(2, 42), (0, (xs 1)), (0, (xs 2)), (0, 3)]) rfl (by decide) rfl ?_
          refine ev_goto f330_32 ?_
          refine ev_iload_n rfl ?_
          refine ev_bipush ?_
          refine ev_icmpge f330_51 (fun c61 => absurd c61 (by omega)) (fun c61 => ?_)
          refine ev_aload_n rfl ?_
          refine ev_getf (r := 42) (v := 67) (hS137.lt (by decide)) (hS137.fam (by decide) (by decide)) ft12_46 ((jw_ne e137 (Or.inl (by decide))).trans ((jw_ne e136 (Or.inl (by decide))).trans ((jw_ne e135 (Or.inl (by decide))).trans ((jw_ne e134 (Or.inr (by decide))).trans ((jw_ne e133 (Or.inr (by decide))).trans ((jw_ne e132 (Or.inl (by decide))).trans ((jw_ne e131 (Or.inl (by decide))).trans ((jw_ne e130 (Or.inl (by decide))).trans ((jw_ne e129 (Or.inl (by decide))).trans ((jw_ne e128 (Or.inl (by decide))).trans ((jw_ne e127 (Or.inl (by decide))).trans ((jw_ne e126 (Or.inl (by decide))).trans ((jw_ne e125 (Or.inl (by decide))).trans ((jw_ne e124 (Or.inl (by decide))).trans ((jw_ne e123 (Or.inl (by decide))).trans ((jw_ne e122 (Or.inl (by decide))).trans ((jw_ne e121 (Or.inl (by decide))).trans ((jw_ne e120 (Or.inl (by decide))).trans ((jw_ne e119 (Or.inl (by decide))).trans ((jw_ne e118 (Or.inl (by decide))).trans ((jw_ne e117 (Or.inl (by decide))).trans ((jw_ne e116 (Or.inl (by decide))).trans ((jw_ne e115 (Or.inl (by decide))).trans ((jw_ne e114 (Or.inl (by decide))).trans ((jw_ne e113 (Or.inl (by decide))).trans ((jw_ne e112 (Or.inl (by decide))).trans ((jw_ne e111 (Or.inl (by decide))).trans ((jw_ne e110 (Or.inl (by decide))).trans ((jw_ne e109 (Or.inl (by decide))).trans ((jw_ne e108 (Or.inl (by decide))).trans ((jw_ne e107 (Or.inl (by decide))).trans ((jw_ne e106 (Or.inl (by decide))).trans ((jw_ne e105 (Or.inl (by decide))).trans ((jw_ne e104 (Or.inl (by decide))).trans ((jw_ne e103 (Or.inl (by decide))).trans ((jw_ne e102 (Or.inl (by decide))).trans ((jw_ne e101 (Or.inl (by decide))).trans ((jw_ne e100 (Or.inl (by decide))).trans ((jw_ne e99 (Or.inl (by decide))).trans ((hF.v rfl))))))))))))))))))))))))))))))))))))))))) ?_
          refine ev_iload_n rfl ?_
          refine ev_iconst ?_
          refine ev_iastG (r := 67) (j := 3) (hS137.lt (by decide)) (hS137.sh (by decide) rfl).1 rfl (hS137.inb (by decide) (by decide)) (fun h138 e138 => ?_)
          have hS138 := hS137.wr e138
          refine ev_iinc (w := 4) (L' := [(2, 42), (0, (xs 1)), (0, (xs 2)), (0, 4)]) rfl (by decide) rfl ?_
          refine ev_goto f330_32 ?_
          refine ev_iload_n rfl ?_
          refine ev_bipush ?_
          refine ev_icmpge f330_51 (fun c62 => absurd c62 (by omega)) (fun c62 => ?_)
          refine ev_aload_n rfl ?_
          refine ev_getf (r := 42) (v := 67) (hS138.lt (by decide)) (hS138.fam (by decide) (by decide)) ft12_46 ((jw_ne e138 (Or.inl (by decide))).trans ((jw_ne e137 (Or.inl (by decide))).trans ((jw_ne e136 (Or.inl (by decide))).trans ((jw_ne e135 (Or.inl (by decide))).trans ((jw_ne e134 (Or.inr (by decide))).trans ((jw_ne e133 (Or.inr (by decide))).trans ((jw_ne e132 (Or.inl (by decide))).trans ((jw_ne e131 (Or.inl (by decide))).trans ((jw_ne e130 (Or.inl (by decide))).trans ((jw_ne e129 (Or.inl (by decide))).trans ((jw_ne e128 (Or.inl (by decide))).trans ((jw_ne e127 (Or.inl (by decide))).trans ((jw_ne e126 (Or.inl (by decide))).trans ((jw_ne e125 (Or.inl (by decide))).trans ((jw_ne e124 (Or.inl (by decide))).trans ((jw_ne e123 (Or.inl (by decide))).trans ((jw_ne e122 (Or.inl (by decide))).trans ((jw_ne e121 (Or.inl (by decide))).trans ((jw_ne e120 (Or.inl (by decide))).trans ((jw_ne e119 (Or.inl (by decide))).trans ((jw_ne e118 (Or.inl (by decide))).trans ((jw_ne e117 (Or.inl (by decide))).trans ((jw_ne e116 (Or.inl (by decide))).trans ((jw_ne e115 (Or.inl (by decide))).trans ((jw_ne e114 (Or.inl (by decide))).trans ((jw_ne e113 (Or.inl (by decide))).trans ((jw_ne e112 (Or.inl (by decide))).trans ((jw_ne e111 (Or.inl (by decide))).trans ((jw_ne e110 (Or.inl (by decide))).trans ((jw_ne e109 (Or.inl (by decide))).trans ((jw_ne e108 (Or.inl (by decide))).trans ((jw_ne e107 (Or.inl (by decide))).trans ((jw_ne e106 (Or.inl (by decide))).trans ((jw_ne e105 (Or.inl (by decide))).trans ((jw_ne e104 (Or.inl (by decide))).trans ((jw_ne e103 (Or.inl (by decide))).trans ((jw_ne e102 (Or.inl (by decide))).trans ((jw_ne e101 (Or.inl (by decide))).trans ((jw_ne e100 (Or.inl (by decide))).trans ((jw_ne e99 (Or.inl (by decide))).trans ((hF.v rfl)))))))))))))))))))))))))))))))))))))))))) ?_
          refine ev_iload_n rfl ?_
          refine ev_iconst ?_
          refine ev_iastG (r := 67) (j := 4) (hS138.lt (by decide)) (hS138.sh (by decide) rfl).1 rfl (hS138.inb (by decide) (by decide)) (fun h139 e139 => ?_)
          have hS139 := hS138.wr e139
          refine ev_iinc (w := 5) (L' := [(2, 42), (0, (xs 1)), (0, (xs 2)), (0, 5)]) rfl (by decide) rfl ?_
          refine ev_goto f330_32 ?_
          refine ev_iload_n rfl ?_
          refine ev_bipush ?_
          refine ev_icmpge f330_51 (fun c63 => absurd c63 (by omega)) (fun c63 => ?_)
          refine ev_aload_n rfl ?_
          refine ev_getf (r := 42) (v := 67) (hS139.lt (by decide)) (hS139.fam (by decide) (by decide)) ft12_46 ((jw_ne e139 (Or.inl (by decide))).trans ((jw_ne e138 (Or.inl (by decide))).trans ((jw_ne e137 (Or.inl (by decide))).trans ((jw_ne e136 (Or.inl (by decide))).trans ((jw_ne e135 (Or.inl (by decide))).trans ((jw_ne e134 (Or.inr (by decide))).trans ((jw_ne e133 (Or.inr (by decide))).trans ((jw_ne e132 (Or.inl (by decide))).trans ((jw_ne e131 (Or.inl (by decide))).trans ((jw_ne e130 (Or.inl (by decide))).trans ((jw_ne e129 (Or.inl (by decide))).trans ((jw_ne e128 (Or.inl (by decide))).trans ((jw_ne e127 (Or.inl (by decide))).trans ((jw_ne e126 (Or.inl (by decide))).trans ((jw_ne e125 (Or.inl (by decide))).trans ((jw_ne e124 (Or.inl (by decide))).trans ((jw_ne e123 (Or.inl (by decide))).trans ((jw_ne e122 (Or.inl (by decide))).trans ((jw_ne e121 (Or.inl (by decide))).trans ((jw_ne e120 (Or.inl (by decide))).trans ((jw_ne e119 (Or.inl (by decide))).trans ((jw_ne e118 (Or.inl (by decide))).trans ((jw_ne e117 (Or.inl (by decide))).trans ((jw_ne e116 (Or.inl (by decide))).trans ((jw_ne e115 (Or.inl (by decide))).trans ((jw_ne e114 (Or.inl (by decide))).trans ((jw_ne e113 (Or.inl (by decide))).trans ((jw_ne e112 (Or.inl (by decide))).trans ((jw_ne e111 (Or.inl (by decide))).trans ((jw_ne e110 (Or.inl (by decide))).trans ((jw_ne e109 (Or.inl (by decide))).trans ((jw_ne e108 (Or.inl (by decide))).trans ((jw_ne e107 (Or.inl (by decide))).trans ((jw_ne e106 (Or.inl (by decide))).trans ((jw_ne e105 (Or.inl (by decide))).trans ((jw_ne e104 (Or.inl (by decide))).trans ((jw_ne e103 (Or.inl (by decide))).trans ((jw_ne e102 (Or.inl (by decide))).trans ((jw_ne e101 (Or.inl (by decide))).trans ((jw_ne e100 (Or.inl (by decide))).trans ((jw_ne e99 (Or.inl (by decide))).trans ((hF.v rfl))))))))))))))))))))))))))))))))))))))))))) ?_
          refine ev_iload_n rfl ?_
          refine ev_iconst ?_
          refine ev_iastG (r := 67) (j := 5) (hS139.lt (by decide)) (hS139.sh (by decide) rfl).1 rfl (hS139.inb (by decide) (by decide)) (fun h140 e140 => ?_)
          have hS140 := hS139.wr e140
          refine ev_iinc (w := 6) (L' := [(2, 42), (0, (xs 1)), (0, (xs 2)), (0, 6)]) rfl (by decide) rfl ?_
          refine ev_goto f330_32 ?_
          refine ev_iload_n rfl ?_
          refine ev_bipush ?_
          refine ev_icmpge f330_51 (fun c64 => absurd c64 (by omega)) (fun c64 => ?_)
          refine ev_aload_n rfl ?_
          refine ev_getf (r := 42) (v := 67) (hS140.lt (by decide)) (hS140.fam (by decide) (by decide)) ft12_46 ((jw_ne e140 (Or.inl (by decide))).trans ((jw_ne e139 (Or.inl (by decide))).trans ((jw_ne e138 (Or.inl (by decide))).trans ((jw_ne e137 (Or.inl (by decide))).trans ((jw_ne e136 (Or.inl (by decide))).trans ((jw_ne e135 (Or.inl (by decide))).trans ((jw_ne e134 (Or.inr (by decide))).trans ((jw_ne e133 (Or.inr (by decide))).trans ((jw_ne e132 (Or.inl (by decide))).trans ((jw_ne e131 (Or.inl (by decide))).trans ((jw_ne e130 (Or.inl (by decide))).trans ((jw_ne e129 (Or.inl (by decide))).trans ((jw_ne e128 (Or.inl (by decide))).trans ((jw_ne e127 (Or.inl (by decide))).trans ((jw_ne e126 (Or.inl (by decide))).trans ((jw_ne e125 (Or.inl (by decide))).trans ((jw_ne e124 (Or.inl (by decide))).trans ((jw_ne e123 (Or.inl (by decide))).trans ((jw_ne e122 (Or.inl (by decide))).trans ((jw_ne e121 (Or.inl (by decide))).trans ((jw_ne e120 (Or.inl (by decide))).trans ((jw_ne e119 (Or.inl (by decide))).trans ((jw_ne e118 (Or.inl (by decide))).trans ((jw_ne e117 (Or.inl (by decide))).trans ((jw_ne e116 (Or.inl (by decide))).trans ((jw_ne e115 (Or.inl (by decide))).trans ((jw_ne e114 (Or.inl (by decide))).trans ((jw_ne e113 (Or.inl (by decide))).trans ((jw_ne e112 (Or.inl (by decide))).trans ((jw_ne e111 (Or.inl (by decide))).trans ((jw_ne e110 (Or.inl (by decide))).trans ((jw_ne e109 (Or.inl (by decide))).trans ((jw_ne e108 (Or.inl (by decide))).trans ((jw_ne e107 (Or.inl (by decide))).trans ((jw_ne e106 (Or.inl (by decide))).trans ((jw_ne e105 (Or.inl (by decide))).trans ((jw_ne e104 (Or.inl (by decide))).trans ((jw_ne e103 (Or.inl (by decide))).trans ((jw_ne e102 (Or.inl (by decide))).trans ((jw_ne e101 (Or.inl (by decide))).trans ((jw_ne e100 (Or.inl (by decide))).trans ((jw_ne e99 (Or.inl (by decide))).trans ((hF.v rfl)))))))))))))))))))))))))))))))))))))))))))) ?_
          refine ev_iload_n rfl ?_
          refine ev_iconst ?_
          refine ev_iastG (r := 67) (j := 6) (hS140.lt (by decide)) (hS140.sh (by decide) rfl).1 rfl (hS140.inb (by decide) (by decide)) (fun h141 e141 => ?_)
          have hS141 := hS140.wr e141
          refine ev_iinc (w := 7) (L' := [(2, 42), (0, (xs 1)), (0, (xs 2)), (0, 7)]) rfl (by decide) rfl ?_
          refine ev_goto f330_32 ?_
          refine ev_iload_n rfl ?_
          refine ev_bipush ?_
          refine ev_icmpge f330_51 (fun c65 => absurd c65 (by omega)) (fun c65 => ?_)
          refine ev_aload_n rfl ?_
          refine ev_getf (r := 42) (v := 67) (hS141.lt (by decide)) (hS141.fam (by decide) (by decide)) ft12_46 ((jw_ne e141 (Or.inl (by decide))).trans ((jw_ne e140 (Or.inl (by decide))).trans ((jw_ne e139 (Or.inl (by decide))).trans ((jw_ne e138 (Or.inl (by decide))).trans ((jw_ne e137 (Or.inl (by decide))).trans ((jw_ne e136 (Or.inl (by decide))).trans ((jw_ne e135 (Or.inl (by decide))).trans ((jw_ne e134 (Or.inr (by decide))).trans ((jw_ne e133 (Or.inr (by decide))).trans ((jw_ne e132 (Or.inl (by decide))).trans ((jw_ne e131 (Or.inl (by decide))).trans ((jw_ne e130 (Or.inl (by decide))).trans ((jw_ne e129 (Or.inl (by decide))).trans ((jw_ne e128 (Or.inl (by decide))).trans ((jw_ne e127 (Or.inl (by decide))).trans ((jw_ne e126 (Or.inl (by decide))).trans ((jw_ne e125 (Or.inl (by decide))).trans ((jw_ne e124 (Or.inl (by decide))).trans ((jw_ne e123 (Or.inl (by decide))).trans ((jw_ne e122 (Or.inl (by decide))).trans ((jw_ne e121 (Or.inl (by decide))).trans ((jw_ne e120 (Or.inl (by decide))).trans ((jw_ne e119 (Or.inl (by decide))).trans ((jw_ne e118 (Or.inl (by decide))).trans ((jw_ne e117 (Or.inl (by decide))).trans ((jw_ne e116 (Or.inl (by decide))).trans ((jw_ne e115 (Or.inl (by decide))).trans ((jw_ne e114 (Or.inl (by decide))).trans ((jw_ne e113 (Or.inl (by decide))).trans ((jw_ne e112 (Or.inl (by decide))).trans ((jw_ne e111 (Or.inl (by decide))).trans ((jw_ne e110 (Or.inl (by decide))).trans ((jw_ne e109 (Or.inl (by decide))).trans ((jw_ne e108 (Or.inl (by decide))).trans ((jw_ne e107 (Or.inl (by decide))).trans ((jw_ne e106 (Or.inl (by decide))).trans ((jw_ne e105 (Or.inl (by decide))).trans ((jw_ne e104 (Or.inl (by decide))).trans ((jw_ne e103 (Or.inl (by decide))).trans ((jw_ne e102 (Or.inl (by decide))).trans ((jw_ne e101 (Or.inl (by decide))).trans ((jw_ne e100 (Or.inl (by decide))).trans ((jw_ne e99 (Or.inl (by decide))).trans ((hF.v rfl))))))))))))))))))))))))))))))))))))))))))))) ?_
          refine ev_iload_n rfl ?_
          refine ev_iconst ?_
          refine ev_iastG (r := 67) (j := 7) (hS141.lt (by decide)) (hS141.sh (by decide) rfl).1 rfl (hS141.inb (by decide) (by decide)) (fun h142 e142 => ?_)
          have hS142 := hS141.wr e142
          refine ev_iinc (w := 8) (L' := [(2, 42), (0, (xs 1)), (0, (xs 2)), (0, 8)]) rfl (by decide) rfl ?_
          refine ev_goto f330_32 ?_
          refine ev_iload_n rfl ?_
          refine ev_bipush ?_
          refine ev_icmpge f330_51 (fun c66 => absurd c66 (by omega)) (fun c66 => ?_)
          refine ev_aload_n rfl ?_
          refine ev_getf (r := 42) (v := 67) (hS142.lt (by decide)) (hS142.fam (by decide) (by decide)) ft12_46 ((jw_ne e142 (Or.inl (by decide))).trans ((jw_ne e141 (Or.inl (by decide))).trans ((jw_ne e140 (Or.inl (by decide))).trans ((jw_ne e139 (Or.inl (by decide))).trans ((jw_ne e138 (Or.inl (by decide))).trans ((jw_ne e137 (Or.inl (by decide))).trans ((jw_ne e136 (Or.inl (by decide))).trans ((jw_ne e135 (Or.inl (by decide))).trans ((jw_ne e134 (Or.inr (by decide))).trans ((jw_ne e133 (Or.inr (by decide))).trans ((jw_ne e132 (Or.inl (by decide))).trans ((jw_ne e131 (Or.inl (by decide))).trans ((jw_ne e130 (Or.inl (by decide))).trans ((jw_ne e129 (Or.inl (by decide))).trans ((jw_ne e128 (Or.inl (by decide))).trans ((jw_ne e127 (Or.inl (by decide))).trans ((jw_ne e126 (Or.inl (by decide))).trans ((jw_ne e125 (Or.inl (by decide))).trans ((jw_ne e124 (Or.inl (by decide))).trans ((jw_ne e123 (Or.inl (by decide))).trans ((jw_ne e122 (Or.inl (by decide))).trans ((jw_ne e121 (Or.inl (by decide))).trans ((jw_ne e120 (Or.inl (by decide))).trans ((jw_ne e119 (Or.inl (by decide))).trans ((jw_ne e118 (Or.inl (by decide))).trans ((jw_ne e117 (Or.inl (by decide))).trans ((jw_ne e116 (Or.inl (by decide))).trans ((jw_ne e115 (Or.inl (by decide))).trans ((jw_ne e114 (Or.inl (by decide))).trans ((jw_ne e113 (Or.inl (by decide))).trans ((jw_ne e112 (Or.inl (by decide))).trans ((jw_ne e111 (Or.inl (by decide))).trans ((jw_ne e110 (Or.inl (by decide))).trans ((jw_ne e109 (Or.inl (by decide))).trans ((jw_ne e108 (Or.inl (by decide))).trans ((jw_ne e107 (Or.inl (by decide))).trans ((jw_ne e106 (Or.inl (by decide))).trans ((jw_ne e105 (Or.inl (by decide))).trans ((jw_ne e104 (Or.inl (by decide))).trans ((jw_ne e103 (Or.inl (by decide))).trans ((jw_ne e102 (Or.inl (by decide))).trans ((jw_ne e101 (Or.inl (by decide))).trans ((jw_ne e100 (Or.inl (by decide))).trans ((jw_ne e99 (Or.inl (by decide))).trans ((hF.v rfl)))))))))))))))))))))))))))))))))))))))))))))) ?_
          refine ev_iload_n rfl ?_
          refine ev_iconst ?_
          refine ev_iastG (r := 67) (j := 8) (hS142.lt (by decide)) (hS142.sh (by decide) rfl).1 rfl (hS142.inb (by decide) (by decide)) (fun h143 e143 => ?_)
          have hS143 := hS142.wr e143
          refine ev_iinc (w := 9) (L' := [(2, 42), (0, (xs 1)), (0, (xs 2)), (0, 9)]) rfl (by decide) rfl ?_
          refine ev_goto f330_32 ?_
          refine ev_iload_n rfl ?_
          refine ev_bipush ?_
          refine ev_icmpge f330_51 (fun c67 => absurd c67 (by omega)) (fun c67 => ?_)
          refine ev_aload_n rfl ?_
          refine ev_getf (r := 42) (v := 67) (hS143.lt (by decide)) (hS143.fam (by decide) (by decide)) ft12_46 ((jw_ne e143 (Or.inl (by decide))).trans ((jw_ne e142 (Or.inl (by decide))).trans ((jw_ne e141 (Or.inl (by decide))).trans ((jw_ne e140 (Or.inl (by decide))).trans ((jw_ne e139 (Or.inl (by decide))).trans ((jw_ne e138 (Or.inl (by decide))).trans ((jw_ne e137 (Or.inl (by decide))).trans ((jw_ne e136 (Or.inl (by decide))).trans ((jw_ne e135 (Or.inl (by decide))).trans ((jw_ne e134 (Or.inr (by decide))).trans ((jw_ne e133 (Or.inr (by decide))).trans ((jw_ne e132 (Or.inl (by decide))).trans ((jw_ne e131 (Or.inl (by decide))).trans ((jw_ne e130 (Or.inl (by decide))).trans ((jw_ne e129 (Or.inl (by decide))).trans ((jw_ne e128 (Or.inl (by decide))).trans ((jw_ne e127 (Or.inl (by decide))).trans ((jw_ne e126 (Or.inl (by decide))).trans ((jw_ne e125 (Or.inl (by decide))).trans ((jw_ne e124 (Or.inl (by decide))).trans ((jw_ne e123 (Or.inl (by decide))).trans ((jw_ne e122 (Or.inl (by decide))).trans ((jw_ne e121 (Or.inl (by decide))).trans ((jw_ne e120 (Or.inl (by decide))).trans ((jw_ne e119 (Or.inl (by decide))).trans ((jw_ne e118 (Or.inl (by decide))).trans ((jw_ne e117 (Or.inl (by decide))).trans ((jw_ne e116 (Or.inl (by decide))).trans ((jw_ne e115 (Or.inl (by decide))).trans ((jw_ne e114 (Or.inl (by decide))).trans ((jw_ne e113 (Or.inl (by decide))).trans ((jw_ne e112 (Or.inl (by decide))).trans ((jw_ne e111 (Or.inl (by decide))).trans ((jw_ne e110 (Or.inl (by decide))).trans ((jw_ne e109 (Or.inl (by decide))).trans ((jw_ne e108 (Or.inl (by decide))).trans ((jw_ne e107 (Or.inl (by decide))).trans ((jw_ne e106 (Or.inl (by decide))).trans ((jw_ne e105 (Or.inl (by decide))).trans ((jw_ne e104 (Or.inl (by decide))).trans ((jw_ne e103 (Or.inl (by decide))).trans ((jw_ne e102 (Or.inl (by decide))).trans ((jw_ne e101 (Or.inl (by decide))).trans ((jw_ne e100 (Or.inl (by decide))).trans ((jw_ne e99 (Or.inl (by decide))).trans ((hF.v rfl))))))))))))))))))))))))))))))))))))))))))))))) ?_
          refine ev_iload_n rfl ?_
          refine ev_iconst ?_
          refine ev_iastG (r := 67) (j := 9) (hS143.lt (by decide)) (hS143.sh (by decide) rfl).1 rfl (hS143.inb (by decide) (by decide)) (fun h144 e144 => ?_)
          have hS144 := hS143.wr e144
          refine ev_iinc (w := 10) (L' := [(2, 42), (0, (xs 1)), (0, (xs 2)), (0, 10)]) rfl (by decide) rfl ?_
          refine ev_goto f330_32 ?_
          refine ev_iload_n rfl ?_
          refine ev_bipush ?_
          refine ev_icmpge f330_51 (fun c68 => absurd c68 (by omega)) (fun c68 => ?_)
          refine ev_aload_n rfl ?_
          refine ev_getf (r := 42) (v := 67) (hS144.lt (by decide)) (hS144.fam (by decide) (by decide)) ft12_46 ((jw_ne e144 (Or.inl (by decide))).trans ((jw_ne e143 (Or.inl (by decide))).trans ((jw_ne e142 (Or.inl (by decide))).trans ((jw_ne e141 (Or.inl (by decide))).trans ((jw_ne e140 (Or.inl (by decide))).trans ((jw_ne e139 (Or.inl (by decide))).trans ((jw_ne e138 (Or.inl (by decide))).trans ((jw_ne e137 (Or.inl (by decide))).trans ((jw_ne e136 (Or.inl (by decide))).trans ((jw_ne e135 (Or.inl (by decide))).trans ((jw_ne e134 (Or.inr (by decide))).trans ((jw_ne e133 (Or.inr (by decide))).trans ((jw_ne e132 (Or.inl (by decide))).trans ((jw_ne e131 (Or.inl (by decide))).trans ((jw_ne e130 (Or.inl (by decide))).trans ((jw_ne e129 (Or.inl (by decide))).trans ((jw_ne e128 (Or.inl (by decide))).trans ((jw_ne e127 (Or.inl (by decide))).trans ((jw_ne e126 (Or.inl (by decide))).trans ((jw_ne e125 (Or.inl (by decide))).trans ((jw_ne e124 (Or.inl (by decide))).trans ((jw_ne e123 (Or.inl (by decide))).trans ((jw_ne e122 (Or.inl (by decide))).trans ((jw_ne e121 (Or.inl (by decide))).trans ((jw_ne e120 (Or.inl (by decide))).trans ((jw_ne e119 (Or.inl (by decide))).trans ((jw_ne e118 (Or.inl (by decide))).trans ((jw_ne e117 (Or.inl (by decide))).trans ((jw_ne e116 (Or.inl (by decide))).trans ((jw_ne e115 (Or.inl (by decide))).trans ((jw_ne e114 (Or.inl (by decide))).trans ((jw_ne e113 (Or.inl (by decide))).trans ((jw_ne e112 (Or.inl (by decide))).trans ((jw_ne e111 (Or.inl (by decide))).trans ((jw_ne e110 (Or.inl (by decide))).trans ((jw_ne e109 (Or.inl (by decide))).trans ((jw_ne e108 (Or.inl (by decide))).trans ((jw_ne e107 (Or.inl (by decide))).trans ((jw_ne e106 (Or.inl (by decide))).trans ((jw_ne e105 (Or.inl (by decide))).trans ((jw_ne e104 (Or.inl (by decide))).trans ((jw_ne e103 (Or.inl (by decide))).trans ((jw_ne e102 (Or.inl (by decide))).trans ((jw_ne e101 (Or.inl (by decide))).trans ((jw_ne e100 (Or.inl (by decide))).trans ((jw_ne e99 (Or.inl (by decide))).trans ((hF.v rfl)))))))))))))))))))))))))))))))))))))))))))))))) ?_
          refine ev_iload_n rfl ?_
          refine ev_iconst ?_
          refine ev_iastG (r := 67) (j := 10) (hS144.lt (by decide)) (hS144.sh (by decide) rfl).1 rfl (hS144.inb (by decide) (by decide)) (fun h145 e145 => ?_)
          have hS145 := hS144.wr e145
          refine ev_iinc (w := 11) (L' := [(2, 42), (0, (xs 1)), (0, (xs 2)), (0, 11)]) rfl (by decide) rfl ?_
          refine ev_goto f330_32 ?_
          refine ev_iload_n rfl ?_
          refine ev_bipush ?_
          refine ev_icmpge f330_51 (fun c69 => absurd c69 (by omega)) (fun c69 => ?_)
          refine ev_aload_n rfl ?_
          refine ev_getf (r := 42) (v := 67) (hS145.lt (by decide)) (hS145.fam (by decide) (by decide)) ft12_46 ((jw_ne e145 (Or.inl (by decide))).trans ((jw_ne e144 (Or.inl (by decide))).trans ((jw_ne e143 (Or.inl (by decide))).trans ((jw_ne e142 (Or.inl (by decide))).trans ((jw_ne e141 (Or.inl (by decide))).trans ((jw_ne e140 (Or.inl (by decide))).trans ((jw_ne e139 (Or.inl (by decide))).trans ((jw_ne e138 (Or.inl (by decide))).trans ((jw_ne e137 (Or.inl (by decide))).trans ((jw_ne e136 (Or.inl (by decide))).trans ((jw_ne e135 (Or.inl (by decide))).trans ((jw_ne e134 (Or.inr (by decide))).trans ((jw_ne e133 (Or.inr (by decide))).trans ((jw_ne e132 (Or.inl (by decide))).trans ((jw_ne e131 (Or.inl (by decide))).trans ((jw_ne e130 (Or.inl (by decide))).trans ((jw_ne e129 (Or.inl (by decide))).trans ((jw_ne e128 (Or.inl (by decide))).trans ((jw_ne e127 (Or.inl (by decide))).trans ((jw_ne e126 (Or.inl (by decide))).trans ((jw_ne e125 (Or.inl (by decide))).trans ((jw_ne e124 (Or.inl (by decide))).trans ((jw_ne e123 (Or.inl (by decide))).trans ((jw_ne e122 (Or.inl (by decide))).trans ((jw_ne e121 (Or.inl (by decide))).trans ((jw_ne e120 (Or.inl (by decide))).trans ((jw_ne e119 (Or.inl (by decide))).trans ((jw_ne e118 (Or.inl (by decide))).trans ((jw_ne e117 (Or.inl (by decide))).trans ((jw_ne e116 (Or.inl (by decide))).trans ((jw_ne e115 (Or.inl (by decide))).trans ((jw_ne e114 (Or.inl (by decide))).trans ((jw_ne e113 (Or.inl (by decide))).trans ((jw_ne e112 (Or.inl (by decide))).trans ((jw_ne e111 (Or.inl (by decide))).trans ((jw_ne e110 (Or.inl (by decide))).trans ((jw_ne e109 (Or.inl (by decide))).trans ((jw_ne e108 (Or.inl (by decide))).trans ((jw_ne e107 (Or.inl (by decide))).trans ((jw_ne e106 (Or.inl (by decide))).trans ((jw_ne e105 (Or.inl (by decide))).trans ((jw_ne e104 (Or.inl (by decide))).trans ((jw_ne e103 (Or.inl (by decide))).trans ((jw_ne e102 (Or.inl (by decide))).trans ((jw_ne e101 (Or.inl (by decide))).trans ((jw_ne e100 (Or.inl (by decide))).trans ((jw_ne e99 (Or.inl (by decide))).trans ((hF.v rfl))))))))))))))))))))))))))))))))))))))))))))))))) ?_
          refine ev_iload_n rfl ?_
          refine ev_iconst ?_
          refine ev_iastG (r := 67) (j := 11) (hS145.lt (by decide)) (hS145.sh (by decide) rfl).1 rfl (hS145.inb (by decide) (by decide)) (fun h146 e146 => ?_)
          have hS146 := hS145.wr e146
          refine ev_iinc (w := 12) (L' := [(2, 42), (0, (xs 1)), (0, (xs 2)), (0, 12)]) rfl (by decide) rfl ?_
          refine ev_goto f330_32 ?_
          refine ev_iload_n rfl ?_
          refine ev_bipush ?_
          refine ev_icmpge f330_51 (fun c70 => absurd c70 (by omega)) (fun c70 => ?_)
          refine ev_aload_n rfl ?_
          refine ev_getf (r := 42) (v := 67) (hS146.lt (by decide)) (hS146.fam (by decide) (by decide)) ft12_46 ((jw_ne e146 (Or.inl (by decide))).trans ((jw_ne e145 (Or.inl (by decide))).trans ((jw_ne e144 (Or.inl (by decide))).trans ((jw_ne e143 (Or.inl (by decide))).trans ((jw_ne e142 (Or.inl (by decide))).trans ((jw_ne e141 (Or.inl (by decide))).trans ((jw_ne e140 (Or.inl (by decide))).trans ((jw_ne e139 (Or.inl (by decide))).trans ((jw_ne e138 (Or.inl (by decide))).trans ((jw_ne e137 (Or.inl (by decide))).trans ((jw_ne e136 (Or.inl (by decide))).trans ((jw_ne e135 (Or.inl (by decide))).trans ((jw_ne e134 (Or.inr (by decide))).trans ((jw_ne e133 (Or.inr (by decide))).trans ((jw_ne e132 (Or.inl (by decide))).trans ((jw_ne e131 (Or.inl (by decide))).trans ((jw_ne e130 (Or.inl (by decide))).trans ((jw_ne e129 (Or.inl (by decide))).trans ((jw_ne e128 (Or.inl (by decide))).trans ((jw_ne e127 (Or.inl (by decide))).trans ((jw_ne e126 (Or.inl (by decide))).trans ((jw_ne e125 (Or.inl (by decide))).trans ((jw_ne e124 (Or.inl (by decide))).trans ((jw_ne e123 (Or.inl (by decide))).trans ((jw_ne e122 (Or.inl (by decide))).trans ((jw_ne e121 (Or.inl (by decide))).trans ((jw_ne e120 (Or.inl (by decide))).trans ((jw_ne e119 (Or.inl (by decide))).trans ((jw_ne e118 (Or.inl (by decide))).trans ((jw_ne e117 (Or.inl (by decide))).trans ((jw_ne e116 (Or.inl (by decide))).trans ((jw_ne e115 (Or.inl (by decide))).trans ((jw_ne e114 (Or.inl (by decide))).trans ((jw_ne e113 (Or.inl (by decide))).trans ((jw_ne e112 (Or.inl (by decide))).trans ((jw_ne e111 (Or.inl (by decide))).trans ((jw_ne e110 (Or.inl (by decide))).trans ((jw_ne e109 (Or.inl (by decide))).trans ((jw_ne e108 (Or.inl (by decide))).trans ((jw_ne e107 (Or.inl (by decide))).trans ((jw_ne e106 (Or.inl (by decide))).trans ((jw_ne e105 (Or.inl (by decide))).trans ((jw_ne e104 (Or.inl (by decide))).trans ((jw_ne e103 (Or.inl (by decide))).trans ((jw_ne e102 (Or.inl (by decide))).trans ((jw_ne e101 (Or.inl (by decide))).trans ((jw_ne e100 (Or.inl (by decide))).trans ((jw_ne e99 (Or.inl (by decide))).trans ((hF.v rfl)))))))))))))))))))))))))))))))))))))))))))))))))) ?_
          refine ev_iload_n rfl ?_
          refine ev_iconst ?_
          refine ev_iastG (r := 67) (j := 12) (hS146.lt (by decide)) (hS146.sh (by decide) rfl).1 rfl (hS146.inb (by decide) (by decide)) (fun h147 e147 => ?_)
          have hS147 := hS146.wr e147
          refine ev_iinc (w := 13) (L' := [(2, 42), (0, (xs 1)), (0, (xs 2)), (0, 13)]) rfl (by decide) rfl ?_
          refine ev_goto f330_32 ?_
          refine ev_iload_n rfl ?_
          refine ev_bipush ?_
          refine ev_icmpge f330_51 (fun c71 => absurd c71 (by omega)) (fun c71 => ?_)
          refine ev_aload_n rfl ?_
          refine ev_getf (r := 42) (v := 67) (hS147.lt (by decide)) (hS147.fam (by decide) (by decide)) ft12_46 ((jw_ne e147 (Or.inl (by decide))).trans ((jw_ne e146 (Or.inl (by decide))).trans ((jw_ne e145 (Or.inl (by decide))).trans ((jw_ne e144 (Or.inl (by decide))).trans ((jw_ne e143 (Or.inl (by decide))).trans ((jw_ne e142 (Or.inl (by decide))).trans ((jw_ne e141 (Or.inl (by decide))).trans ((jw_ne e140 (Or.inl (by decide))).trans ((jw_ne e139 (Or.inl (by decide))).trans ((jw_ne e138 (Or.inl (by decide))).trans ((jw_ne e137 (Or.inl (by decide))).trans ((jw_ne e136 (Or.inl (by decide))).trans ((jw_ne e135 (Or.inl (by decide))).trans ((jw_ne e134 (Or.inr (by decide))).trans ((jw_ne e133 (Or.inr (by decide))).trans ((jw_ne e132 (Or.inl (by decide))).trans ((jw_ne e131 (Or.inl (by decide))).trans ((jw_ne e130 (Or.inl (by decide))).trans ((jw_ne e129 (Or.inl (by decide))).trans ((jw_ne e128 (Or.inl (by decide))).trans ((jw_ne e127 (Or.inl (by decide))).trans ((jw_ne e126 (Or.inl (by decide))).trans ((jw_ne e125 (Or.inl (by decide))).trans ((jw_ne e124 (Or.inl (by decide))).trans ((jw_ne e123 (Or.inl (by decide))).trans ((jw_ne e122 (Or.inl (by decide))).trans ((jw_ne e121 (Or.inl (by decide))).trans ((jw_ne e120 (Or.inl (by decide))).trans ((jw_ne e119 (Or.inl (by decide))).trans ((jw_ne e118 (Or.inl (by decide))).trans ((jw_ne e117 (Or.inl (by decide))).trans ((jw_ne e116 (Or.inl (by decide))).trans ((jw_ne e115 (Or.inl (by decide))).trans ((jw_ne e114 (Or.inl (by decide))).trans ((jw_ne e113 (Or.inl (by decide))).trans ((jw_ne e112 (Or.inl (by decide))).trans ((jw_ne e111 (Or.inl (by decide))).trans ((jw_ne e110 (Or.inl (by decide))).trans ((jw_ne e109 (Or.inl (by decide))).trans ((jw_ne e108 (Or.inl (by decide))).trans ((jw_ne e107 (Or.inl (by decide))).trans ((jw_ne e106 (Or.inl (by decide))).trans ((jw_ne e105 (Or.inl (by decide))).trans ((jw_ne e104 (Or.inl (by decide))).trans ((jw_ne e103 (Or.inl (by decide))).trans ((jw_ne e102 (Or.inl (by decide))).trans ((jw_ne e101 (Or.inl (by decide))).trans ((jw_ne e100 (Or.inl (by decide))).trans ((jw_ne e99 (Or.inl (by decide))).trans ((hF.v rfl))))))))))))))))))))))))))))))))))))))))))))))))))) ?_
          refine ev_iload_n rfl ?_
          refine ev_iconst ?_
          refine ev_iastG (r := 67) (j := 13) (hS147.lt (by decide)) (hS147.sh (by decide) rfl).1 rfl (hS147.inb (by decide) (by decide)) (fun h148 e148 => ?_)
          have hS148 := hS147.wr e148
          refine ev_iinc (w := 14) (L' := [(2, 42), (0, (xs 1)), (0, (xs 2)), (0, 14)]) rfl (by decide) rfl ?_
          refine ev_goto f330_32 ?_
          refine ev_iload_n rfl ?_
          refine ev_bipush ?_
          refine ev_icmpge f330_51 (fun c72 => absurd c72 (by omega)) (fun c72 => ?_)
          refine ev_aload_n rfl ?_
          refine ev_getf (r := 42) (v := 67) (hS148.lt (by decide)) (hS148.fam (by decide) (by decide)) ft12_46 ((jw_ne e148 (Or.inl (by decide))).trans ((jw_ne e147 (Or.inl (by decide))).trans ((jw_ne e146 (Or.inl (by decide))).trans ((jw_ne e145 (Or.inl (by decide))).trans ((jw_ne e144 (Or.inl (by decide))).trans ((jw_ne e143 (Or.inl (by decide))).trans ((jw_ne e142 (Or.inl (by decide))).trans ((jw_ne e141 (Or.inl (by decide))).trans ((jw_ne e140 (Or.inl (by decide))).trans ((jw_ne e139 (Or.inl (by decide))).trans ((jw_ne e138 (Or.inl (by decide))).trans ((jw_ne e137 (Or.inl (by decide))).trans ((jw_ne e136 (Or.inl (by decide))).trans ((jw_ne e135 (Or.inl (by decide))).trans ((jw_ne e134 (Or.inr (by decide))).trans ((jw_ne e133 (Or.inr (by decide))).trans ((jw_ne e132 (Or.inl (by decide))).trans ((jw_ne e131 (Or.inl (by decide))).trans ((jw_ne e130 (Or.inl (by decide))).trans ((jw_ne e129 (Or.inl (by decide))).trans ((jw_ne e128 (Or.inl (by decide))).trans ((jw_ne e127 (Or.inl (by decide))).trans ((jw_ne e126 (Or.inl (by decide))).trans ((jw_ne e125 (Or.inl (by decide))).trans ((jw_ne e124 (Or.inl (by decide))).trans ((jw_ne e123 (Or.inl (by decide))).trans ((jw_ne e122 (Or.inl (by decide))).trans ((jw_ne e121 (Or.inl (by decide))).trans ((jw_ne e120 (Or.inl (by decide))).trans ((jw_ne e119 (Or.inl (by decide))).trans ((jw_ne e118 (Or.inl (by decide))).trans ((jw_ne e117 (Or.inl (by decide))).trans ((jw_ne e116 (Or.inl (by decide))).trans ((jw_ne e115 (Or.inl (by decide))).trans ((jw_ne e114 (Or.inl (by decide))).trans ((jw_ne e113 (Or.inl (by decide))).trans ((jw_ne e112 (Or.inl (by decide))).trans ((jw_ne e111 (Or.inl (by decide))).trans ((jw_ne e110 (Or.inl (by decide))).trans ((jw_ne e109 (Or.inl (by decide))).trans ((jw_ne e108 (Or.inl (by decide))).trans ((jw_ne e107 (Or.inl (by decide))).trans ((jw_ne e106 (Or.inl (by decide))).trans ((jw_ne e105 (Or.inl (by decide))).trans ((jw_ne e104 (Or.inl (by decide))).trans ((jw_ne e103 (Or.inl (by decide))).trans ((jw_ne e102 (Or.inl (by decide))).trans ((jw_ne e101 (Or.inl (by decide))).trans ((jw_ne e100 (Or.inl (by decide))).trans ((jw_ne e99 (Or.inl (by decide))).trans ((hF.v rfl)))))))))))))))))))))))))))))))))))))))))))))))))))) ?_
          refine ev_iload_n rfl ?_
          refine ev_iconst ?_
          refine ev_iastG (r := 67) (j := 14) (hS148.lt (by decide)) (hS148.sh (by decide) rfl).1 rfl (hS148.inb (by decide) (by decide)) (fun h149 e149 => ?_)
          have hS149 := hS148.wr e149
          refine ev_iinc (w := 15) (L' := [(2, 42), (0, (xs 1)), (0, (xs 2)), (0, 15)]) rfl (by decide) rfl ?_
          refine ev_goto f330_32 ?_
          refine ev_iload_n rfl ?_
          refine ev_bipush ?_
          refine ev_icmpge f330_51 (fun c73 => absurd c73 (by omega)) (fun c73 => ?_)
          refine ev_aload_n rfl ?_
          refine ev_getf (r := 42) (v := 67) (hS149.lt (by decide)) (hS149.fam (by decide) (by decide)) ft12_46 ((jw_ne e149 (Or.inl (by decide))).trans ((jw_ne e148 (Or.inl (by decide))).trans ((jw_ne e147 (Or.inl (by decide))).trans ((jw_ne e146 (Or.inl (by decide))).trans ((jw_ne e145 (Or.inl (by decide))).trans ((jw_ne e144 (Or.inl (by decide))).trans ((jw_ne e143 (Or.inl (by decide))).trans ((jw_ne e142 (Or.inl (by decide))).trans ((jw_ne e141 (Or.inl (by decide))).trans ((jw_ne e140 (Or.inl (by decide))).trans ((jw_ne e139 (Or.inl (by decide))).trans ((jw_ne e138 (Or.inl (by decide))).trans ((jw_ne e137 (Or.inl (by decide))).trans ((jw_ne e136 (Or.inl (by decide))).trans ((jw_ne e135 (Or.inl (by decide))).trans ((jw_ne e134 (Or.inr (by decide))).trans ((jw_ne e133 (Or.inr (by decide))).trans ((jw_ne e132 (Or.inl (by decide))).trans ((jw_ne e131 (Or.inl (by decide))).trans ((jw_ne e130 (Or.inl (by decide))).trans ((jw_ne e129 (Or.inl (by decide))).trans ((jw_ne e128 (Or.inl (by decide))).trans ((jw_ne e127 (Or.inl (by decide))).trans ((jw_ne e126 (Or.inl (by decide))).trans ((jw_ne e125 (Or.inl (by decide))).trans ((jw_ne e124 (Or.inl (by decide))).trans ((jw_ne e123 (Or.inl (by decide))).trans ((jw_ne e122 (Or.inl (by decide))).trans ((jw_ne e121 (Or.inl (by decide))).trans ((jw_ne e120 (Or.inl (by decide))).trans ((jw_ne e119 (Or.inl (by decide))).trans ((jw_ne e118 (Or.inl (by decide))).trans ((jw_ne e117 (Or.inl (by decide))).trans ((jw_ne e116 (Or.inl (by decide))).trans ((jw_ne e115 (Or.inl (by decide))).trans ((jw_ne e114 (Or.inl (by decide))).trans ((jw_ne e113 (Or.inl (by decide))).trans ((jw_ne e112 (Or.inl (by decide))).trans ((jw_ne e111 (Or.inl (by decide))).trans ((jw_ne e110 (Or.inl (by decide))).trans ((jw_ne e109 (Or.inl (by decide))).trans ((jw_ne e108 (Or.inl (by decide))).trans ((jw_ne e107 (Or.inl (by decide))).trans ((jw_ne e106 (Or.inl (by decide))).trans ((jw_ne e105 (Or.inl (by decide))).trans ((jw_ne e104 (Or.inl (by decide))).trans ((jw_ne e103 (Or.inl (by decide))).trans ((jw_ne e102 (Or.inl (by decide))).trans ((jw_ne e101 (Or.inl (by decide))).trans ((jw_ne e100 (Or.inl (by decide))).trans ((jw_ne e99 (Or.inl (by decide))).trans ((hF.v rfl))))))))))))))))))))))))))))))))))))))))))))))))))))) ?_
          refine ev_iload_n rfl ?_
          refine ev_iconst ?_
          refine ev_iastG (r := 67) (j := 15) (hS149.lt (by decide)) (hS149.sh (by decide) rfl).1 rfl (hS149.inb (by decide) (by decide)) (fun h150 e150 => ?_)
          have hS150 := hS149.wr e150
          refine ev_iinc (w := 16) (L' := [(2, 42), (0, (xs 1)), (0, (xs 2)), (0, 16)]) rfl (by decide) rfl ?_
          refine ev_goto f330_32 ?_
          refine ev_iload_n rfl ?_
          refine ev_bipush ?_
          refine ev_icmpge f330_51 (fun c74 => absurd c74 (by omega)) (fun c74 => ?_)
          refine ev_aload_n rfl ?_
          refine ev_getf (r := 42) (v := 67) (hS150.lt (by decide)) (hS150.fam (by decide) (by decide)) ft12_46 ((jw_ne e150 (Or.inl (by decide))).trans ((jw_ne e149 (Or.inl (by decide))).trans ((jw_ne e148 (Or.inl (by decide))).trans ((jw_ne e147 (Or.inl (by decide))).trans ((jw_ne e146 (Or.inl (by decide))).trans ((jw_ne e145 (Or.inl (by decide))).trans ((jw_ne e144 (Or.inl (by decide))).trans ((jw_ne e143 (Or.inl (by decide))).trans ((jw_ne e142 (Or.inl (by decide))).trans ((jw_ne e141 (Or.inl (by decide))).trans ((jw_ne e140 (Or.inl (by decide))).trans ((jw_ne e139 (Or.inl (by decide))).trans ((jw_ne e138 (Or.inl (by decide))).trans ((jw_ne e137 (Or.inl (by decide))).trans ((jw_ne e136 (Or.inl (by decide))).trans ((jw_ne e135 (Or.inl (by decide))).trans ((jw_ne e134 (Or.inr (by decide))).trans ((jw_ne e133 (Or.inr (by decide))).trans ((jw_ne e132 (Or.inl (by decide))).trans ((jw_ne e131 (Or.inl (by decide))).trans ((jw_ne e130 (Or.inl (by decide))).trans ((jw_ne e129 (Or.inl (by decide))).trans ((jw_ne e128 (Or.inl (by decide))).trans ((jw_ne e127 (Or.inl (by decide))).trans ((jw_ne e126 (Or.inl (by decide))).trans ((jw_ne e125 (Or.inl (by decide))).trans ((jw_ne e124 (Or.inl (by decide))).trans ((jw_ne e123 (Or.inl (by decide))).trans ((jw_ne e122 (Or.inl (by decide))).trans ((jw_ne e121 (Or.inl (by decide))).trans ((jw_ne e120 (Or.inl (by decide))).trans ((jw_ne e119 (Or.inl (by decide))).trans ((jw_ne e118 (Or.inl (by decide))).trans ((jw_ne e117 (Or.inl (by decide))).trans ((jw_ne e116 (Or.inl (by decide))).trans ((jw_ne e115 (Or.inl (by decide))).trans ((jw_ne e114 (Or.inl (by decide))).trans ((jw_ne e113 (Or.inl (by decide))).trans ((jw_ne e112 (Or.inl (by decide))).trans ((jw_ne e111 (Or.inl (by decide))).trans ((jw_ne e110 (Or.inl (by decide))).trans ((jw_ne e109 (Or.inl (by decide))).trans ((jw_ne e108 (Or.inl (by decide))).trans ((jw_ne e107 (Or.inl (by decide))).trans ((jw_ne e106 (Or.inl (by decide))).trans ((jw_ne e105 (Or.inl (by decide))).trans ((jw_ne e104 (Or.inl (by decide))).trans ((jw_ne e103 (Or.inl (by decide))).trans ((jw_ne e102 (Or.inl (by decide))).trans ((jw_ne e101 (Or.inl (by decide))).trans ((jw_ne e100 (Or.inl (by decide))).trans ((jw_ne e99 (Or.inl (by decide))).trans ((hF.v rfl)))))))))))))))))))))))))))))))))))))))))))))))))))))) ?_
          refine ev_iload_n rfl ?_
          refine ev_iconst ?_
          refine ev_iastG (r := 67) (j := 16) (hS150.lt (by decide)) (hS150.sh (by decide) rfl).1 rfl (hS150.inb (by decide) (by decide)) (fun h151 e151 => ?_)
          have hS151 := hS150.wr e151
          refine ev_iinc (w := 17) (L' := [(2, 42), (0, (xs 1)), (0, (xs 2)), (0, 17)]) rfl (by decide) rfl ?_
          refine ev_goto f330_32 ?_
          refine ev_iload_n rfl ?_
          refine ev_bipush ?_
          refine ev_icmpge f330_51 (fun c75 => absurd c75 (by omega)) (fun c75 => ?_)
          refine ev_aload_n rfl ?_
          refine ev_getf (r := 42) (v := 67) (hS151.lt (by decide)) (hS151.fam (by decide) (by decide)) ft12_46 ((jw_ne e151 (Or.inl (by decide))).trans ((jw_ne e150 (Or.inl (by decide))).trans ((jw_ne e149 (Or.inl (by decide))).trans ((jw_ne e148 (Or.inl (by decide))).trans ((jw_ne e147 (Or.inl (by decide))).trans ((jw_ne e146 (Or.inl (by decide))).trans ((jw_ne e145 (Or.inl (by decide))).trans ((jw_ne e144 (Or.inl (by decide))).trans ((jw_ne e143 (Or.inl (by decide))).trans ((jw_ne e142 (Or.inl (by decide))).trans ((jw_ne e141 (Or.inl (by decide))).trans ((jw_ne e140 (Or.inl (by decide))).trans ((jw_ne e139 (Or.inl (by decide))).trans ((jw_ne e138 (Or.inl (by decide))).trans ((jw_ne e137 (Or.inl (by decide))).trans ((jw_ne e136 (Or.inl (by decide))).trans ((jw_ne e135 (Or.inl (by decide))).trans ((jw_ne e134 (Or.inr (by decide))).trans ((jw_ne e133 (Or.inr (by decide))).trans ((jw_ne e132 (Or.inl (by decide))).trans ((jw_ne e131 (Or.inl (by decide))).trans ((jw_ne e130 (Or.inl (by decide))).trans ((jw_ne e129 (Or.inl (by decide))).trans ((jw_ne e128 (Or.inl (by decide))).trans ((jw_ne e127 (Or.inl (by decide))).trans ((jw_ne e126 (Or.inl (by decide))).trans ((jw_ne e125 (Or.inl (by decide))).trans ((jw_ne e124 (Or.inl (by decide))).trans ((jw_ne e123 (Or.inl (by decide))).trans ((jw_ne e122 (Or.inl (by decide))).trans ((jw_ne e121 (Or.inl (by decide))).trans ((jw_ne e120 (Or.inl (by decide))).trans ((jw_ne e119 (Or.inl (by decide))).trans ((jw_ne e118 (Or.inl (by decide))).trans ((jw_ne e117 (Or.inl (by decide))).trans ((jw_ne e116 (Or.inl (by decide))).trans ((jw_ne e115 (Or.inl (by decide))).trans ((jw_ne e114 (Or.inl (by decide))).trans ((jw_ne e113 (Or.inl (by decide))).trans ((jw_ne e112 (Or.inl (by decide))).trans ((jw_ne e111 (Or.inl (by decide))).trans ((jw_ne e110 (Or.inl (by decide))).trans ((jw_ne e109 (Or.inl (by decide))).trans ((jw_ne e108 (Or.inl (by decide))).trans ((jw_ne e107 (Or.inl (by decide))).trans ((jw_ne e106 (Or.inl (by decide))).trans ((jw_ne e105 (Or.inl (by decide))).trans ((jw_ne e104 (Or.inl (by decide))).trans ((jw_ne e103 (Or.inl (by decide))).trans ((jw_ne e102 (Or.inl (by decide))).trans ((jw_ne e101 (Or.inl (by decide))).trans ((jw_ne e100 (Or.inl (by decide))).trans ((jw_ne e99 (Or.inl (by decide))).trans ((hF.v rfl))))))))))))))))))))))))))))))))))))))))))))))))))))))) ?_
          refine ev_iload_n rfl ?_
          refine ev_iconst ?_
          refine ev_iastG (r := 67) (j := 17) (hS151.lt (by decide)) (hS151.sh (by decide) rfl).1 rfl (hS151.inb (by decide) (by decide)) (fun h152 e152 => ?_)
          have hS152 := hS151.wr e152
          refine ev_iinc (w := 18) (L' := [(2, 42), (0, (xs 1)), (0, (xs 2)), (0, 18)]) rfl (by decide) rfl ?_
          refine ev_goto f330_32 ?_
          refine ev_iload_n rfl ?_
          refine ev_bipush ?_
          refine ev_icmpge f330_51 (fun c76 => absurd c76 (by omega)) (fun c76 => ?_)
          refine ev_aload_n rfl ?_
          refine ev_getf (r := 42) (v := 67) (hS152.lt (by decide)) (hS152.fam (by decide) (by decide)) ft12_46 ((jw_ne e152 (Or.inl (by decide))).trans ((jw_ne e151 (Or.inl (by decide))).trans ((jw_ne e150 (Or.inl (by decide))).trans ((jw_ne e149 (Or.inl (by decide))).trans ((jw_ne e148 (Or.inl (by decide))).trans ((jw_ne e147 (Or.inl (by decide))).trans ((jw_ne e146 (Or.inl (by decide))).trans ((jw_ne e145 (Or.inl (by decide))).trans ((jw_ne e144 (Or.inl (by decide))).trans ((jw_ne e143 (Or.inl (by decide))).trans ((jw_ne e142 (Or.inl (by decide))).trans ((jw_ne e141 (Or.inl (by decide))).trans ((jw_ne e140 (Or.inl (by decide))).trans ((jw_ne e139 (Or.inl (by decide))).trans ((jw_ne e138 (Or.inl (by decide))).trans ((jw_ne e137 (Or.inl (by decide))).trans ((jw_ne e136 (Or.inl (by decide))).trans ((jw_ne e135 (Or.inl (by decide))).trans ((jw_ne e134 (Or.inr (by decide))).trans ((jw_ne e133 (Or.inr (by decide))).trans ((jw_ne e132 (Or.inl (by decide))).trans ((jw_ne e131 (Or.inl (by decide))).trans ((jw_ne e130 (Or.inl (by decide))).trans ((jw_ne e129 (Or.inl (by decide))).trans ((jw_ne e128 (Or.inl (by decide))).trans ((jw_ne e127 (Or.inl (by decide))).trans ((jw_ne e126 (Or.inl (by decide))).trans ((jw_ne e125 (Or.inl (by decide))).trans ((jw_ne e124 (Or.inl (by decide))).trans ((jw_ne e123 (Or.inl (by decide))).trans ((jw_ne e122 (Or.inl (by decide))).trans ((jw_ne e121 (Or.inl (by decide))).trans ((jw_ne e120 (Or.inl (by decide))).trans ((jw_ne e119 (Or.inl (by decide))).trans ((jw_ne e118 (Or.inl (by decide))).trans ((jw_ne e117 (Or.inl (by decide))).trans ((jw_ne e116 (Or.inl (by decide))).trans ((jw_ne e115 (Or.inl (by decide))).trans ((jw_ne e114 (Or.inl (by decide))).trans ((jw_ne e113 (Or.inl (by decide))).trans ((jw_ne e112 (Or.inl (by decide))).trans ((jw_ne e111 (Or.inl (by decide))).trans ((jw_ne e110 (Or.inl (by decide))).trans ((jw_ne e109 (Or.inl (by decide))).trans ((jw_ne e108 (Or.inl (by decide))).trans ((jw_ne e107 (Or.inl (by decide))).trans ((jw_ne e106 (Or.inl (by decide))).trans ((jw_ne e105 (Or.inl (by decide))).trans ((jw_ne e104 (Or.inl (by decide))).trans ((jw_ne e103 (Or.inl (by decide))).trans ((jw_ne e102 (Or.inl (by decide))).trans ((jw_ne e101 (Or.inl (by decide))).trans ((jw_ne e100 (Or.inl (by decide))).trans ((jw_ne e99 (Or.inl (by decide))).trans ((hF.v rfl)))))))))))))))))))))))))))))))))))))))))))))))))))))))) ?_
          refine ev_iload_n rfl ?_
          refine ev_iconst ?_
          refine ev_iastG (r := 67) (j := 18) (hS152.lt (by decide)) (hS152.sh (by decide) rfl).1 rfl (hS152.inb (by decide) (by decide)) (fun h153 e153 => ?_)
          have hS153 := hS152.wr e153
          refine ev_iinc (w := 19) (L' := [(2, 42), (0, (xs 1)), (0, (xs 2)), (0, 19)]) rfl (by decide) rfl ?_
          refine ev_goto f330_32 ?_
          refine ev_iload_n rfl ?_
          refine ev_bipush ?_
          refine ev_icmpge f330_51 (fun c77 => absurd c77 (by omega)) (fun c77 => ?_)
          refine ev_aload_n rfl ?_
          refine ev_getf (r := 42) (v := 67) (hS153.lt (by decide)) (hS153.fam (by decide) (by decide)) ft12_46 ((jw_ne e153 (Or.inl (by decide))).trans ((jw_ne e152 (Or.inl (by decide))).trans ((jw_ne e151 (Or.inl (by decide))).trans ((jw_ne e150 (Or.inl (by decide))).trans ((jw_ne e149 (Or.inl (by decide))).trans ((jw_ne e148 (Or.inl (by decide))).trans ((jw_ne e147 (Or.inl (by decide))).trans ((jw_ne e146 (Or.inl (by decide))).trans ((jw_ne e145 (Or.inl (by decide))).trans ((jw_ne e144 (Or.inl (by decide))).trans ((jw_ne e143 (Or.inl (by decide))).trans ((jw_ne e142 (Or.inl (by decide))).trans ((jw_ne e141 (Or.inl (by decide))).trans ((jw_ne e140 (Or.inl (by decide))).trans ((jw_ne e139 (Or.inl (by decide))).trans ((jw_ne e138 (Or.inl (by decide))).trans ((jw_ne e137 (Or.inl (by decide))).trans ((jw_ne e136 (Or.inl (by decide))).trans ((jw_ne e135 (Or.inl (by decide))).trans ((jw_ne e134 (Or.inr (by decide))).trans ((jw_ne e133 (Or.inr (by decide))).trans ((jw_ne e132 (Or.inl (by decide))).trans ((jw_ne e131 (Or.inl (by decide))).trans ((jw_ne e130 (Or.inl (by decide))).trans ((jw_ne e129 (Or.inl (by decide))).trans ((jw_ne e128 (Or.inl (by decide))).trans ((jw_ne e127 (Or.inl (by decide))).trans ((jw_ne e126 (Or.inl (by decide))).trans ((jw_ne e125 (Or.inl (by decide))).trans ((jw_ne e124 (Or.inl (by decide))).trans ((jw_ne e123 (Or.inl (by decide))).trans ((jw_ne e122 (Or.inl (by decide))).trans ((jw_ne e121 (Or.inl (by decide))).trans ((jw_ne e120 (Or.inl (by decide))).trans ((jw_ne e119 (Or.inl (by decide))).trans ((jw_ne e118 (Or.inl (by decide))).trans ((jw_ne e117 (Or.inl (by decide))).trans ((jw_ne e116 (Or.inl (by decide))).trans ((jw_ne e115 (Or.inl (by decide))).trans ((jw_ne e114 (Or.inl (by decide))).trans ((jw_ne e113 (Or.inl (by decide))).trans ((jw_ne e112 (Or.inl (by decide))).trans ((jw_ne e111 (Or.inl (by decide))).trans ((jw_ne e110 (Or.inl (by decide))).trans ((jw_ne e109 (Or.inl (by decide))).trans ((jw_ne e108 (Or.inl (by decide))).trans ((jw_ne e107 (Or.inl (by decide))).trans ((jw_ne e106 (Or.inl (by decide))).trans ((jw_ne e105 (Or.inl (by decide))).trans ((jw_ne e104 (Or.inl (by decide))).trans ((jw_ne e103 (Or.inl (by decide))).trans ((jw_ne e102 (Or.inl (by decide))).trans ((jw_ne e101 (Or.inl (by decide))).trans ((jw_ne e100 (Or.inl (by decide))).trans ((jw_ne e99 (Or.inl (by decide))).trans ((hF.v rfl))))))))))))))))))))))))))))))))))))))))))))))))))))))))) ?_
          refine ev_iload_n rfl ?_
          refine ev_iconst ?_
          refine ev_iastG (r := 67) (j := 19) (hS153.lt (by decide)) (hS153.sh (by decide) rfl).1 rfl (hS153.inb (by decide) (by decide)) (fun h154 e154 => ?_)
          have hS154 := hS153.wr e154
          refine ev_iinc (w := 20) (L' := [(2, 42), (0, (xs 1)), (0, (xs 2)), (0, 20)]) rfl (by decide) rfl ?_
          refine ev_goto f330_32 ?_
          refine ev_iload_n rfl ?_
          refine ev_bipush ?_
          refine ev_icmpge f330_51 (fun c78 => absurd c78 (by omega)) (fun c78 => ?_)
          refine ev_aload_n rfl ?_
          refine ev_getf (r := 42) (v := 67) (hS154.lt (by decide)) (hS154.fam (by decide) (by decide)) ft12_46 ((jw_ne e154 (Or.inl (by decide))).trans ((jw_ne e153 (Or.inl (by decide))).trans ((jw_ne e152 (Or.inl (by decide))).trans ((jw_ne e151 (Or.inl (by decide))).trans ((jw_ne e150 (Or.inl (by decide))).trans ((jw_ne e149 (Or.inl (by decide))).trans ((jw_ne e148 (Or.inl (by decide))).trans ((jw_ne e147 (Or.inl (by decide))).trans ((jw_ne e146 (Or.inl (by decide))).trans ((jw_ne e145 (Or.inl (by decide))).trans ((jw_ne e144 (Or.inl (by decide))).trans ((jw_ne e143 (Or.inl (by decide))).trans ((jw_ne e142 (Or.inl (by decide))).trans ((jw_ne e141 (Or.inl (by decide))).trans ((jw_ne e140 (Or.inl (by decide))).trans ((jw_ne e139 (Or.inl (by decide))).trans ((jw_ne e138 (Or.inl (by decide))).trans ((jw_ne e137 (Or.inl (by decide))).trans ((jw_ne e136 (Or.inl (by decide))).trans ((jw_ne e135 (Or.inl (by decide))).trans ((jw_ne e134 (Or.inr (by decide))).trans ((jw_ne e133 (Or.inr (by decide))).trans ((jw_ne e132 (Or.inl (by decide))).trans ((jw_ne e131 (Or.inl (by decide))).trans ((jw_ne e130 (Or.inl (by decide))).trans ((jw_ne e129 (Or.inl (by decide))).trans ((jw_ne e128 (Or.inl (by decide))).trans ((jw_ne e127 (Or.inl (by decide))).trans ((jw_ne e126 (Or.inl (by decide))).trans ((jw_ne e125 (Or.inl (by decide))).trans ((jw_ne e124 (Or.inl (by decide))).trans ((jw_ne e123 (Or.inl (by decide))).trans ((jw_ne e122 (Or.inl (by decide))).trans ((jw_ne e121 (Or.inl (by decide))).trans ((jw_ne e120 (Or.inl (by decide))).trans ((jw_ne e119 (Or.inl (by decide))).trans ((jw_ne e118 (Or.inl (by decide))).trans ((jw_ne e117 (Or.inl (by decide))).trans ((jw_ne e116 (Or.inl (by decide))).trans ((jw_ne e115 (Or.inl (by decide))).trans ((jw_ne e114 (Or.inl (by decide))).trans ((jw_ne e113 (Or.inl (by decide))).trans ((jw_ne e112 (Or.inl (by decide))).trans ((jw_ne e111 (Or.inl (by decide))).trans ((jw_ne e110 (Or.inl (by decide))).trans ((jw_ne e109 (Or.inl (by decide))).trans ((jw_ne e108 (Or.inl (by decide))).trans ((jw_ne e107 (Or.inl (by decide))).trans ((jw_ne e106 (Or.inl (by decide))).trans ((jw_ne e105 (Or.inl (by decide))).trans ((jw_ne e104 (Or.inl (by decide))).trans ((jw_ne e103 (Or.inl (by decide))).trans ((jw_ne e102 (Or.inl (by decide))).trans ((jw_ne e101 (Or.inl (by decide))).trans ((jw_ne e100 (Or.inl (by decide))).trans ((jw_ne e99 (Or.inl (by decide))).trans ((hF.v rfl)))))))))))))))))))))))))))))))))))))))))))))))))))))))))) ?_
          refine ev_iload_n rfl ?_
          refine ev_iconst ?_
          refine ev_iastG (r := 67) (j := 20) (hS154.lt (by decide)) (hS154.sh (by decide) rfl).1 rfl (hS154.inb (by decide) (by decide)) (fun h155 e155 => ?_)
          have hS155 := hS154.wr e155
          refine ev_iinc (w := 21) (L' := [(2, 42), (0, (xs 1)), (0, (xs 2)), (0, 21)]) rfl (by decide) rfl ?_
          refine ev_goto f330_32 ?_
          refine ev_iload_n rfl ?_
          refine ev_bipush ?_
          refine ev_icmpge f330_51 (fun c79 => absurd c79 (by omega)) (fun c79 => ?_)
          refine ev_aload_n rfl ?_
          refine ev_getf (r := 42) (v := 67) (hS155.lt (by decide)) (hS155.fam (by decide) (by decide)) ft12_46 ((jw_ne e155 (Or.inl (by decide))).trans ((jw_ne e154 (Or.inl (by decide))).trans ((jw_ne e153 (Or.inl (by decide))).trans ((jw_ne e152 (Or.inl (by decide))).trans ((jw_ne e151 (Or.inl (by decide))).trans ((jw_ne e150 (Or.inl (by decide))).trans ((jw_ne e149 (Or.inl (by decide))).trans ((jw_ne e148 (Or.inl (by decide))).trans ((jw_ne e147 (Or.inl (by decide))).trans ((jw_ne e146 (Or.inl (by decide))).trans ((jw_ne e145 (Or.inl (by decide))).trans ((jw_ne e144 (Or.inl (by decide))).trans ((jw_ne e143 (Or.inl (by decide))).trans ((jw_ne e142 (Or.inl (by decide))).trans ((jw_ne e141 (Or.inl (by decide))).trans ((jw_ne e140 (Or.inl (by decide))).trans ((jw_ne e139 (Or.inl (by decide))).trans ((jw_ne e138 (Or.inl (by decide))).trans ((jw_ne e137 (Or.inl (by decide))).trans ((jw_ne e136 (Or.inl (by decide))).trans ((jw_ne e135 (Or.inl (by decide))).trans ((jw_ne e134 (Or.inr (by decide))).trans ((jw_ne e133 (Or.inr (by decide))).trans ((jw_ne e132 (Or.inl (by decide))).trans ((jw_ne e131 (Or.inl (by decide))).trans ((jw_ne e130 (Or.inl (by decide))).trans ((jw_ne e129 (Or.inl (by decide))).trans ((jw_ne e128 (Or.inl (by decide))).trans ((jw_ne e127 (Or.inl (by decide))).trans ((jw_ne e126 (Or.inl (by decide))).trans ((jw_ne e125 (Or.inl (by decide))).trans ((jw_ne e124 (Or.inl (by decide))).trans ((jw_ne e123 (Or.inl (by decide))).trans ((jw_ne e122 (Or.inl (by decide))).trans ((jw_ne e121 (Or.inl (by decide))).trans ((jw_ne e120 (Or.inl (by decide))).trans ((jw_ne e119 (Or.inl (by decide))).trans ((jw_ne e118 (Or.inl (by decide))).trans ((jw_ne e117 (Or.inl (by decide))).trans ((jw_ne e116 (Or.inl (by decide))).trans ((jw_ne e115 (Or.inl (by decide))).trans ((jw_ne e114 (Or.inl (by decide))).trans ((jw_ne e113 (Or.inl (by decide))).trans ((jw_ne e112 (Or.inl (by decide))).trans ((jw_ne e111 (Or.inl (by decide))).trans ((jw_ne e110 (Or.inl (by decide))).trans ((jw_ne e109 (Or.inl (by decide))).trans ((jw_ne e108 (Or.inl (by decide))).trans ((jw_ne e107 (Or.inl (by decide))).trans ((jw_ne e106 (Or.inl (by decide))).trans ((jw_ne e105 (Or.inl (by decide))).trans ((jw_ne e104 (Or.inl (by decide))).trans ((jw_ne e103 (Or.inl (by decide))).trans ((jw_ne e102 (Or.inl (by decide))).trans ((jw_ne e101 (Or.inl (by decide))).trans ((jw_ne e100 (Or.inl (by decide))).trans ((jw_ne e99 (Or.inl (by decide))).trans ((hF.v rfl))))))))))))))))))))))))))))))))))))))))))))))))))))))))))) ?_
          refine ev_iload_n rfl ?_
          refine ev_iconst ?_
          refine ev_iastG (r := 67) (j := 21) (hS155.lt (by decide)) (hS155.sh (by decide) rfl).1 rfl (hS155.inb (by decide) (by decide)) (fun h156 e156 => ?_)
          have hS156 := hS155.wr e156
          refine ev_iinc (w := 22) (L' := [(2, 42), (0, (xs 1)), (0, (xs 2)), (0, 22)]) rfl (by decide) rfl ?_
          refine ev_goto f330_32 ?_
          refine ev_iload_n rfl ?_
          refine ev_bipush ?_
          refine ev_icmpge f330_51 (fun c80 => absurd c80 (by omega)) (fun c80 => ?_)
          refine ev_aload_n rfl ?_
          refine ev_getf (r := 42) (v := 67) (hS156.lt (by decide)) (hS156.fam (by decide) (by decide)) ft12_46 ((jw_ne e156 (Or.inl (by decide))).trans ((jw_ne e155 (Or.inl (by decide))).trans ((jw_ne e154 (Or.inl (by decide))).trans ((jw_ne e153 (Or.inl (by decide))).trans ((jw_ne e152 (Or.inl (by decide))).trans ((jw_ne e151 (Or.inl (by decide))).trans ((jw_ne e150 (Or.inl (by decide))).trans ((jw_ne e149 (Or.inl (by decide))).trans ((jw_ne e148 (Or.inl (by decide))).trans ((jw_ne e147 (Or.inl (by decide))).trans ((jw_ne e146 (Or.inl (by decide))).trans ((jw_ne e145 (Or.inl (by decide))).trans ((jw_ne e144 (Or.inl (by decide))).trans ((jw_ne e143 (Or.inl (by decide))).trans ((jw_ne e142 (Or.inl (by decide))).trans ((jw_ne e141 (Or.inl (by decide))).trans ((jw_ne e140 (Or.inl (by decide))).trans ((jw_ne e139 (Or.inl (by decide))).trans ((jw_ne e138 (Or.inl (by decide))).trans ((jw_ne e137 (Or.inl (by decide))).trans ((jw_ne e136 (Or.inl (by decide))).trans ((jw_ne e135 (Or.inl (by decide))).trans ((jw_ne e134 (Or.inr (by decide))).trans ((jw_ne e133 (Or.inr (by decide))).trans ((jw_ne e132 (Or.inl (by decide))).trans ((jw_ne e131 (Or.inl (by decide))).trans ((jw_ne e130 (Or.inl (by decide))).trans ((jw_ne e129 (Or.inl (by decide))).trans ((jw_ne e128 (Or.inl (by decide))).trans ((jw_ne e127 (Or.inl (by decide))).trans ((jw_ne e126 (Or.inl (by decide))).trans ((jw_ne e125 (Or.inl (by decide))).trans ((jw_ne e124 (Or.inl (by decide))).trans ((jw_ne e123 (Or.inl (by decide))).trans ((jw_ne e122 (Or.inl (by decide))).trans ((jw_ne e121 (Or.inl (by decide))).trans ((jw_ne e120 (Or.inl (by decide))).trans ((jw_ne e119 (Or.inl (by decide))).trans ((jw_ne e118 (Or.inl (by decide))).trans ((jw_ne e117 (Or.inl (by decide))).trans ((jw_ne e116 (Or.inl (by decide))).trans ((jw_ne e115 (Or.inl (by decide))).trans ((jw_ne e114 (Or.inl (by decide))).trans ((jw_ne e113 (Or.inl (by decide))).trans ((jw_ne e112 (Or.inl (by decide))).trans ((jw_ne e111 (Or.inl (by decide))).trans ((jw_ne e110 (Or.inl (by decide))).trans ((jw_ne e109 (Or.inl (by decide))).trans ((jw_ne e108 (Or.inl (by decide))).trans ((jw_ne e107 (Or.inl (by decide))).trans ((jw_ne e106 (Or.inl (by decide))).trans ((jw_ne e105 (Or.inl (by decide))).trans ((jw_ne e104 (Or.inl (by decide))).trans ((jw_ne e103 (Or.inl (by decide))).trans ((jw_ne e102 (Or.inl (by decide))).trans ((jw_ne e101 (Or.inl (by decide))).trans ((jw_ne e100 (Or.inl (by decide))).trans ((jw_ne e99 (Or.inl (by decide))).trans ((hF.v rfl)))))))))))))))))))))))))))))))))))))))))))))))))))))))))))) ?_
          refine ev_iload_n rfl ?_
          refine ev_iconst ?_
          refine ev_iastG (r := 67) (j := 22) (hS156.lt (by decide)) (hS156.sh (by decide) rfl).1 rfl (hS156.inb (by decide) (by decide)) (fun h157 e157 => ?_)
          have hS157 := hS156.wr e157
          refine ev_iinc (w := 23) (L' := [(2, 42), (0, (xs 1)), (0, (xs 2)), (0, 23)]) rfl (by decide) rfl ?_
          refine ev_goto f330_32 ?_
          refine ev_iload_n rfl ?_
          refine ev_bipush ?_
          refine ev_icmpge f330_51 (fun c81 => absurd c81 (by omega)) (fun c81 => ?_)
          refine ev_aload_n rfl ?_
          refine ev_getf (r := 42) (v := 67) (hS157.lt (by decide)) (hS157.fam (by decide) (by decide)) ft12_46 ((jw_ne e157 (Or.inl (by decide))).trans ((jw_ne e156 (Or.inl (by decide))).trans ((jw_ne e155 (Or.inl (by decide))).trans ((jw_ne e154 (Or.inl (by decide))).trans ((jw_ne e153 (Or.inl (by decide))).trans ((jw_ne e152 (Or.inl (by decide))).trans ((jw_ne e151 (Or.inl (by decide))).trans ((jw_ne e150 (Or.inl (by decide))).trans ((jw_ne e149 (Or.inl (by decide))).trans ((jw_ne e148 (Or.inl (by decide))).trans ((jw_ne e147 (Or.inl (by decide))).trans ((jw_ne e146 (Or.inl (by decide))).trans ((jw_ne e145 (Or.inl (by decide))).trans ((jw_ne e144 (Or.inl (by decide))).trans ((jw_ne e143 (Or.inl (by decide))).trans ((jw_ne e142 (Or.inl (by decide))).trans ((jw_ne e141 (Or.inl (by decide))).trans ((jw_ne e140 (Or.inl (by decide))).trans ((jw_ne e139 (Or.inl (by decide))).trans ((jw_ne e138 (Or.inl (by decide))).trans ((jw_ne e137 (Or.inl (by decide))).trans ((jw_ne e136 (Or.inl (by decide))).trans ((jw_ne e135 (Or.inl (by decide))).trans ((jw_ne e134 (Or.inr (by decide))).trans ((jw_ne e133 (Or.inr (by decide))).trans ((jw_ne e132 (Or.inl (by decide))).trans ((jw_ne e131 (Or.inl (by decide))).trans ((jw_ne e130 (Or.inl (by decide))).trans ((jw_ne e129 (Or.inl (by decide))).trans ((jw_ne e128 (Or.inl (by decide))).trans ((jw_ne e127 (Or.inl (by decide))).trans ((jw_ne e126 (Or.inl (by decide))).trans ((jw_ne e125 (Or.inl (by decide))).trans ((jw_ne e124 (Or.inl (by decide))).trans ((jw_ne e123 (Or.inl (by decide))).trans ((jw_ne e122 (Or.inl (by decide))).trans ((jw_ne e121 (Or.inl (by decide))).trans ((jw_ne e120 (Or.inl (by decide))).trans ((jw_ne e119 (Or.inl (by decide))).trans ((jw_ne e118 (Or.inl (by decide))).trans ((jw_ne e117 (Or.inl (by decide))).trans ((jw_ne e116 (Or.inl (by decide))).trans ((jw_ne e115 (Or.inl (by decide))).trans ((jw_ne e114 (Or.inl (by decide))).trans ((jw_ne e113 (Or.inl (by decide))).trans ((jw_ne e112 (Or.inl (by decide))).trans ((jw_ne e111 (Or.inl (by decide))).trans ((jw_ne e110 (Or.inl (by decide))).trans ((jw_ne e109 (Or.inl (by decide))).trans ((jw_ne e108 (Or.inl (by decide))).trans ((jw_ne e107 (Or.inl (by decide))).trans ((jw_ne e106 (Or.inl (by decide))).trans ((jw_ne e105 (Or.inl (by decide))).trans ((jw_ne e104 (Or.inl (by decide))).trans ((jw_ne e103 (Or.inl (by decide))).trans ((jw_ne e102 (Or.inl (by decide))).trans ((jw_ne e101 (Or.inl (by decide))).trans ((jw_ne e100 (Or.inl (by decide))).trans ((jw_ne e99 (Or.inl (by decide))).trans ((hF.v rfl))))))))))))))))))))))))))))))))))))))))))))))))))))))))))))) ?_
          refine ev_iload_n rfl ?_
          refine ev_iconst ?_
          refine ev_iastG (r := 67) (j := 23) (hS157.lt (by decide)) (hS157.sh (by decide) rfl).1 rfl (hS157.inb (by decide) (by decide)) (fun h158 e158 => ?_)
          have hS158 := hS157.wr e158
          refine ev_iinc (w := 24) (L' := [(2, 42), (0, (xs 1)), (0, (xs 2)), (0, 24)]) rfl (by decide) rfl ?_
          refine ev_goto f330_32 ?_
          refine ev_iload_n rfl ?_
          refine ev_bipush ?_
          refine ev_icmpge f330_51 (fun c82 => absurd c82 (by omega)) (fun c82 => ?_)
          refine ev_aload_n rfl ?_
          refine ev_getf (r := 42) (v := 67) (hS158.lt (by decide)) (hS158.fam (by decide) (by decide)) ft12_46 ((jw_ne e158 (Or.inl (by decide))).trans ((jw_ne e157 (Or.inl (by decide))).trans ((jw_ne e156 (Or.inl (by decide))).trans ((jw_ne e155 (Or.inl (by decide))).trans ((jw_ne e154 (Or.inl (by decide))).trans ((jw_ne e153 (Or.inl (by decide))).trans ((jw_ne e152 (Or.inl (by decide))).trans ((jw_ne e151 (Or.inl (by decide))).trans ((jw_ne e150 (Or.inl (by decide))).trans ((jw_ne e149 (Or.inl (by decide))).trans ((jw_ne e148 (Or.inl (by decide))).trans ((jw_ne e147 (Or.inl (by decide))).trans ((jw_ne e146 (Or.inl (by decide))).trans ((jw_ne e145 (Or.inl (by decide))).trans ((jw_ne e144 (Or.inl (by decide))).trans ((jw_ne e143 (Or.inl (by decide))).trans ((jw_ne e142 (Or.inl (by decide))).trans ((jw_ne e141 (Or.inl (by decide))).trans ((jw_ne e140 (Or.inl (by decide))).trans ((jw_ne e139 (Or.inl (by decide))).trans ((jw_ne e138 (Or.inl (by decide))).trans ((jw_ne e137 (Or.inl (by decide))).trans ((jw_ne e136 (Or.inl (by decide))).trans ((jw_ne e135 (Or.inl (by decide))).trans ((jw_ne e134 (Or.inr (by decide))).trans ((jw_ne e133 (Or.inr (by decide))).trans ((jw_ne e132 (Or.inl (by decide))).trans ((jw_ne e131 (Or.inl (by decide))).trans ((jw_ne e130 (Or.inl (by decide))).trans ((jw_ne e129 (Or.inl (by decide))).trans ((jw_ne e128 (Or.inl (by decide))).trans ((jw_ne e127 (Or.inl (by decide))).trans ((jw_ne e126 (Or.inl (by decide))).trans ((jw_ne e125 (Or.inl (by decide))).trans ((jw_ne e124 (Or.inl (by decide))).trans ((jw_ne e123 (Or.inl (by decide))).trans ((jw_ne e122 (Or.inl (by decide))).trans ((jw_ne e121 (Or.inl (by decide))).trans ((jw_ne e120 (Or.inl (by decide))).trans ((jw_ne e119 (Or.inl (by decide))).trans ((jw_ne e118 (Or.inl (by decide))).trans ((jw_ne e117 (Or.inl (by decide))).trans ((jw_ne e116 (Or.inl (by decide))).trans ((jw_ne e115 (Or.inl (by decide))).trans ((jw_ne e114 (Or.inl (by decide))).trans ((jw_ne e113 (Or.inl (by decide))).trans ((jw_ne e112 (Or.inl (by decide))).trans ((jw_ne e111 (Or.inl (by decide))).trans ((jw_ne e110 (Or.inl (by decide))).trans ((jw_ne e109 (Or.inl (by decide))).trans ((jw_ne e108 (Or.inl (by decide))).trans ((jw_ne e107 (Or.inl (by decide))).trans ((jw_ne e106 (Or.inl (by decide))).trans ((jw_ne e105 (Or.inl (by decide))).trans ((jw_ne e104 (Or.inl (by decide))).trans ((jw_ne e103 (Or.inl (by decide))).trans ((jw_ne e102 (Or.inl (by decide))).trans ((jw_ne e101 (Or.inl (by decide))).trans ((jw_ne e100 (Or.inl (by decide))).trans ((jw_ne e99 (Or.inl (by decide))).trans ((hF.v rfl)))))))))))))))))))))))))))))))))))))))))))))))))))))))))))))) ?_
          refine ev_iload_n rfl ?_
          refine ev_iconst ?_
          refine ev_iastG (r := 67) (j := 24) (hS158.lt (by decide)) (hS158.sh (by decide) rfl).1 rfl (hS158.inb (by decide) (by decide)) (fun h159 e159 => ?_)
          have hS159 := hS158.wr e159
          refine ev_iinc (w := 25) (L' := [(2, 42), (0, (xs 1)), (0, (xs 2)), (0, 25)]) rfl (by decide) rfl ?_
          refine ev_goto f330_32 ?_
          refine ev_iload_n rfl ?_
          refine ev_bipush ?_
          refine ev_icmpge f330_51 (fun c83 => absurd c83 (by omega)) (fun c83 => ?_)
          refine ev_aload_n rfl ?_
          refine ev_getf (r := 42) (v := 67) (hS159.lt (by decide)) (hS159.fam (by decide) (by decide)) ft12_46 ((jw_ne e159 (Or.inl (by decide))).trans ((jw_ne e158 (Or.inl (by decide))).trans ((jw_ne e157 (Or.inl (by decide))).trans ((jw_ne e156 (Or.inl (by decide))).trans ((jw_ne e155 (Or.inl (by decide))).trans ((jw_ne e154 (Or.inl (by decide))).trans ((jw_ne e153 (Or.inl (by decide))).trans ((jw_ne e152 (Or.inl (by decide))).trans ((jw_ne e151 (Or.inl (by decide))).trans ((jw_ne e150 (Or.inl (by decide))).trans ((jw_ne e149 (Or.inl (by decide))).trans ((jw_ne e148 (Or.inl (by decide))).trans ((jw_ne e147 (Or.inl (by decide))).trans ((jw_ne e146 (Or.inl (by decide))).trans ((jw_ne e145 (Or.inl (by decide))).trans ((jw_ne e144 (Or.inl (by decide))).trans ((jw_ne e143 (Or.inl (by decide))).trans ((jw_ne e142 (Or.inl (by decide))).trans ((jw_ne e141 (Or.inl (by decide))).trans ((jw_ne e140 (Or.inl (by decide))).trans ((jw_ne e139 (Or.inl (by decide))).trans ((jw_ne e138 (Or.inl (by decide))).trans ((jw_ne e137 (Or.inl (by decide))).trans ((jw_ne e136 (Or.inl (by decide))).trans ((jw_ne e135 (Or.inl (by decide))).trans ((jw_ne e134 (Or.inr (by decide))).trans ((jw_ne e133 (Or.inr (by decide))).trans ((jw_ne e132 (Or.inl (by decide))).trans ((jw_ne e131 (Or.inl (by decide))).trans ((jw_ne e130 (Or.inl (by decide))).trans ((jw_ne e129 (Or.inl (by decide))).trans ((jw_ne e128 (Or.inl (by decide))).trans ((jw_ne e127 (Or.inl (by decide))).trans ((jw_ne e126 (Or.inl (by decide))).trans ((jw_ne e125 (Or.inl (by decide))).trans ((jw_ne e124 (Or.inl (by decide))).trans ((jw_ne e123 (Or.inl (by decide))).trans ((jw_ne e122 (Or.inl (by decide))).trans ((jw_ne e121 (Or.inl (by decide))).trans ((jw_ne e120 (Or.inl (by decide))).trans ((jw_ne e119 (Or.inl (by decide))).trans ((jw_ne e118 (Or.inl (by decide))).trans ((jw_ne e117 (Or.inl (by decide))).trans ((jw_ne e116 (Or.inl (by decide))).trans ((jw_ne e115 (Or.inl (by decide))).trans ((jw_ne e114 (Or.inl (by decide))).trans ((jw_ne e113 (Or.inl (by decide))).trans ((jw_ne e112 (Or.inl (by decide))).trans ((jw_ne e111 (Or.inl (by decide))).trans ((jw_ne e110 (Or.inl (by decide))).trans ((jw_ne e109 (Or.inl (by decide))).trans ((jw_ne e108 (Or.inl (by decide))).trans ((jw_ne e107 (Or.inl (by decide))).trans ((jw_ne e106 (Or.inl (by decide))).trans ((jw_ne e105 (Or.inl (by decide))).trans ((jw_ne e104 (Or.inl (by decide))).trans ((jw_ne e103 (Or.inl (by decide))).trans ((jw_ne e102 (Or.inl (by decide))).trans ((jw_ne e101 (Or.inl (by decide))).trans ((jw_ne e100 (Or.inl (by decide))).trans ((jw_ne e99 (Or.inl (by decide))).trans ((hF.v rfl))))))))))))))))))))))))))))))))))))))))))))))))))))))))))))))) ?_
          refine ev_iload_n rfl ?_
          refine ev_iconst ?_
          refine ev_iastG (r := 67) (j := 25) (hS159.lt (by decide)) (hS159.sh (by decide) rfl).1 rfl (hS159.inb (by decide) (by decide)) (fun h160 e160 => ?_)
          have hS160 := hS159.wr e160
          refine ev_iinc (w := 26) (L' := [(2, 42), (0, (xs 1)), (0, (xs 2)), (0, 26)]) rfl (by decide) rfl ?_
          refine ev_goto f330_32 ?_
          refine ev_iload_n rfl ?_
          refine ev_bipush ?_
          refine ev_icmpge f330_51 (fun c84 => absurd c84 (by omega)) (fun c84 => ?_)
          refine ev_aload_n rfl ?_
          refine ev_getf (r := 42) (v := 67) (hS160.lt (by decide)) (hS160.fam (by decide) (by decide)) ft12_46 ((jw_ne e160 (Or.inl (by decide))).trans ((jw_ne e159 (Or.inl (by decide))).trans ((jw_ne e158 (Or.inl (by decide))).trans ((jw_ne e157 (Or.inl (by decide))).trans ((jw_ne e156 (Or.inl (by decide))).trans ((jw_ne e155 (Or.inl (by decide))).trans ((jw_ne e154 (Or.inl (by decide))).trans ((jw_ne e153 (Or.inl (by decide))).trans ((jw_ne e152 (Or.inl (by decide))).trans ((jw_ne e151 (Or.inl (by decide))).trans ((jw_ne e150 (Or.inl (by decide))).trans ((jw_ne e149 (Or.inl (by decide))).trans ((jw_ne e148 (Or.inl (by decide))).trans ((jw_ne e147 (Or.inl (by decide))).trans ((jw_ne e146 (Or.inl (by decide))).trans ((jw_ne e145 (Or.inl (by decide))).trans ((jw_ne e144 (Or.inl (by decide))).trans ((jw_ne e143 (Or.inl (by decide))).trans ((jw_ne e142 (Or.inl (by decide))).trans ((jw_ne e141 (Or.inl (by decide))).trans ((jw_ne e140 (Or.inl (by decide))).trans ((jw_ne e139 (Or.inl (by decide))).trans ((jw_ne e138 (Or.inl (by decide))).trans ((jw_ne e137 (Or.inl (by decide))).trans ((jw_ne e136 (Or.inl (by decide))).trans ((jw_ne e135 (Or.inl (by decide))).trans ((jw_ne e134 (Or.inr (by decide))).trans ((jw_ne e133 (Or.inr (by decide))).trans ((jw_ne e132 (Or.inl (by decide))).trans ((jw_ne e131 (Or.inl (by decide))).trans ((jw_ne e130 (Or.inl (by decide))).trans ((jw_ne e129 (Or.inl (by decide))).trans ((jw_ne e128 (Or.inl (by decide))).trans ((jw_ne e127 (Or.inl (by decide))).trans ((jw_ne e126 (Or.inl (by decide))).trans ((jw_ne e125 (Or.inl (by decide))).trans ((jw_ne e124 (Or.inl (by decide))).trans ((jw_ne e123 (Or.inl (by decide))).trans ((jw_ne e122 (Or.inl (by decide))).trans ((jw_ne e121 (Or.inl (by decide))).trans ((jw_ne e120 (Or.inl (by decide))).trans ((jw_ne e119 (Or.inl (by decide))).trans ((jw_ne e118 (Or.inl (by decide))).trans ((jw_ne e117 (Or.inl (by decide))).trans ((jw_ne e116 (Or.inl (by decide))).trans ((jw_ne e115 (Or.inl (by decide))).trans ((jw_ne e114 (Or.inl (by decide))).trans ((jw_ne e113 (Or.inl (by decide))).trans ((jw_ne e112 (Or.inl (by decide))).trans ((jw_ne e111 (Or.inl (by decide))).trans ((jw_ne e110 (Or.inl (by decide))).trans ((jw_ne e109 (Or.inl (by decide))).trans ((jw_ne e108 (Or.inl (by decide))).trans ((jw_ne e107 (Or.inl (by decide))).trans ((jw_ne e106 (Or.inl (by decide))).trans ((jw_ne e105 (Or.inl (by decide))).trans ((jw_ne e104 (Or.inl (by decide))).trans ((jw_ne e103 (Or.inl (by decide))).trans ((jw_ne e102 (Or.inl (by decide))).trans ((jw_ne e101 (Or.inl (by decide))).trans ((jw_ne e100 (Or.inl (by decide))).trans ((jw_ne e99 (Or.inl (by decide))).trans ((hF.v rfl)))))))))))))))))))))))))))))))))))))))))))))))))))))))))))))))) ?_
          refine ev_iload_n rfl ?_
          refine ev_iconst ?_
          refine ev_iastG (r := 67) (j := 26) (hS160.lt (by decide)) (hS160.sh (by decide) rfl).1 rfl (hS160.inb (by decide) (by decide)) (fun h161 e161 => ?_)
          have hS161 := hS160.wr e161
          refine ev_iinc (w := 27) (L' := [(2, 42), (0, (xs 1)), (0, (xs 2)), (0, 27)]) rfl (by decide) rfl ?_
          refine ev_goto f330_32 ?_
          refine ev_iload_n rfl ?_
          refine ev_bipush ?_
          refine ev_icmpge f330_51 (fun c85 => absurd c85 (by omega)) (fun c85 => ?_)
          refine ev_aload_n rfl ?_
          refine ev_getf (r := 42) (v := 67) (hS161.lt (by decide)) (hS161.fam (by decide) (by decide)) ft12_46 ((jw_ne e161 (Or.inl (by decide))).trans ((jw_ne e160 (Or.inl (by decide))).trans ((jw_ne e159 (Or.inl (by decide))).trans ((jw_ne e158 (Or.inl (by decide))).trans ((jw_ne e157 (Or.inl (by decide))).trans ((jw_ne e156 (Or.inl (by decide))).trans ((jw_ne e155 (Or.inl (by decide))).trans ((jw_ne e154 (Or.inl (by decide))).trans ((jw_ne e153 (Or.inl (by decide))).trans ((jw_ne e152 (Or.inl (by decide))).trans ((jw_ne e151 (Or.inl (by decide))).trans ((jw_ne e150 (Or.inl (by decide))).trans ((jw_ne e149 (Or.inl (by decide))).trans ((jw_ne e148 (Or.inl (by decide))).trans ((jw_ne e147 (Or.inl (by decide))).trans ((jw_ne e146 (Or.inl (by decide))).trans ((jw_ne e145 (Or.inl (by decide))).trans ((jw_ne e144 (Or.inl (by decide))).trans ((jw_ne e143 (Or.inl (by decide))).trans ((jw_ne e142 (Or.inl (by decide))).trans ((jw_ne e141 (Or.inl (by decide))).trans ((jw_ne e140 (Or.inl (by decide))).trans ((jw_ne e139 (Or.inl (by decide))).trans ((jw_ne e138 (Or.inl (by decide))).trans ((jw_ne e137 (Or.inl (by decide))).trans ((jw_ne e136 (Or.inl (by decide))).trans ((jw_ne e135 (Or.inl (by decide))).trans ((jw_ne e134 (Or.inr (by decide))).trans ((jw_ne e133 (Or.inr (by decide))).trans ((jw_ne e132 (Or.inl (by decide))).trans ((jw_ne e131 (Or.inl (by decide))).trans ((jw_ne e130 (Or.inl (by decide))).trans ((jw_ne e129 (Or.inl (by decide))).trans ((jw_ne e128 (Or.inl (by decide))).trans ((jw_ne e127 (Or.inl (by decide))).trans ((jw_ne e126 (Or.inl (by decide))).trans ((jw_ne e125 (Or.inl (by decide))).trans ((jw_ne e124 (Or.inl (by decide))).trans ((jw_ne e123 (Or.inl (by decide))).trans ((jw_ne e122 (Or.inl (by decide))).trans ((jw_ne e121 (Or.inl (by decide))).trans ((jw_ne e120 (Or.inl (by decide))).trans ((jw_ne e119 (Or.inl (by decide))).trans ((jw_ne e118 (Or.inl (by decide))).trans ((jw_ne e117 (Or.inl (by decide))).trans ((jw_ne e116 (Or.inl (by decide))).trans ((jw_ne e115 (Or.inl (by decide))).trans ((jw_ne e114 (Or.inl (by decide))).trans ((jw_ne e113 (Or.inl (by decide))).trans ((jw_ne e112 (Or.inl (by decide))).trans ((jw_ne e111 (Or.inl (by decide))).trans ((jw_ne e110 (Or.inl (by decide))).trans ((jw_ne e109 (Or.inl (by decide))).trans ((jw_ne e108 (Or.inl (by decide))).trans ((jw_ne e107 (Or.inl (by decide))).trans ((jw_ne e106 (Or.inl (by decide))).trans ((jw_ne e105 (Or.inl (by decide))).trans ((jw_ne e104 (Or.inl (by decide))).trans ((jw_ne e103 (Or.inl (by decide))).trans ((jw_ne e102 (Or.inl (by decide))).trans ((jw_ne e101 (Or.inl (by decide))).trans ((jw_ne e100 (Or.inl (by decide))).trans ((jw_ne e99 (Or.inl (by decide))).trans ((hF.v rfl))))))))))))))))))))))))))))))))))))))))))))))))))))))))))))))))) ?_
          refine ev_iload_n rfl ?_
          refine ev_iconst ?_
          refine ev_iastG (r := 67) (j := 27) (hS161.lt (by decide)) (hS161.sh (by decide) rfl).1 rfl (hS161.inb (by decide) (by decide)) (fun h162 e162 => ?_)
          have hS162 := hS161.wr e162
          refine ev_iinc (w := 28) (L' := [(2, 42), (0, (xs 1)), (0, (xs 2)), (0, 28)]) rfl (by decide) rfl ?_
          refine ev_goto f330_32 ?_
          refine ev_iload_n rfl ?_
          refine ev_bipush ?_
          refine ev_icmpge f330_51 (fun c86 => absurd c86 (by omega)) (fun c86 => ?_)
          refine ev_aload_n rfl ?_
          refine ev_getf (r := 42) (v := 67) (hS162.lt (by decide)) (hS162.fam (by decide) (by decide)) ft12_46 ((jw_ne e162 (Or.inl (by decide))).trans ((jw_ne e161 (Or.inl (by decide))).trans ((jw_ne e160 (Or.inl (by decide))).trans ((jw_ne e159 (Or.inl (by decide))).trans ((jw_ne e158 (Or.inl (by decide))).trans ((jw_ne e157 (Or.inl (by decide))).trans ((jw_ne e156 (Or.inl (by decide))).trans ((jw_ne e155 (Or.inl (by decide))).trans ((jw_ne e154 (Or.inl (by decide))).trans ((jw_ne e153 (Or.inl (by decide))).trans ((jw_ne e152 (Or.inl (by decide))).trans ((jw_ne e151 (Or.inl (by decide))).trans ((jw_ne e150 (Or.inl (by decide))).trans ((jw_ne e149 (Or.inl (by decide))).trans ((jw_ne e148 (Or.inl (by decide))).trans ((jw_ne e147 (Or.inl (by decide))).trans ((jw_ne e146 (Or.inl (by decide))).trans ((jw_ne e145 (Or.inl (by decide))).trans ((jw_ne e144 (Or.inl (by decide))).trans ((jw_ne e143 (Or.inl (by decide))).trans ((jw_ne e142 (Or.inl (by decide))).trans ((jw_ne e141 (Or.inl (by decide))).trans ((jw_ne e140 (Or.inl (by decide))).trans ((jw_ne e139 (Or.inl (by decide))).trans ((jw_ne e138 (Or.inl (by decide))).trans ((jw_ne e137 (Or.inl (by decide))).trans ((jw_ne e136 (Or.inl (by decide))).trans ((jw_ne e135 (Or.inl (by decide))).trans ((jw_ne e134 (Or.inr (by decide))).trans ((jw_ne e133 (Or.inr (by decide))).trans ((jw_ne e132 (Or.inl (by decide))).trans ((jw_ne e131 (Or.inl (by decide))).trans ((jw_ne e130 (Or.inl (by decide))).trans ((jw_ne e129 (Or.inl (by decide))).trans ((jw_ne e128 (Or.inl (by decide))).trans ((jw_ne e127 (Or.inl (by decide))).trans ((jw_ne e126 (Or.inl (by decide))).trans ((jw_ne e125 (Or.inl (by decide))).trans ((jw_ne e124 (Or.inl (by decide))).trans ((jw_ne e123 (Or.inl (by decide))).trans ((jw_ne e122 (Or.inl (by decide))).trans ((jw_ne e121 (Or.inl (by decide))).trans ((jw_ne e120 (Or.inl (by decide))).trans ((jw_ne e119 (Or.inl (by decide))).trans ((jw_ne e118 (Or.inl (by decide))).trans ((jw_ne e117 (Or.inl (by decide))).trans ((jw_ne e116 (Or.inl (by decide))).trans ((jw_ne e115 (Or.inl (by decide))).trans ((jw_ne e114 (Or.inl (by decide))).trans ((jw_ne e113 (Or.inl (by decide))).trans ((jw_ne e112 (Or.inl (by decide))).trans ((jw_ne e111 (Or.inl (by decide))).trans ((jw_ne e110 (Or.inl (by decide))).trans ((jw_ne e109 (Or.inl (by decide))).trans ((jw_ne e108 (Or.inl (by decide))).trans ((jw_ne e107 (Or.inl (by decide))).trans ((jw_ne e106 (Or.inl (by decide))).trans ((jw_ne e105 (Or.inl (by decide))).trans ((jw_ne e104 (Or.inl (by decide))).trans ((jw_ne e103 (Or.inl (by decide))).trans ((jw_ne e102 (Or.inl (by decide))).trans ((jw_ne e101 (Or.inl (by decide))).trans ((jw_ne e100 (Or.inl (by decide))).trans ((jw_ne e99 (Or.inl (by decide))).trans ((hF.v rfl)))))))))))))))))))))))))))))))))))))))))))))))))))))))))))))))))) ?_
          refine ev_iload_n rfl ?_
          refine ev_iconst ?_
          refine ev_iastG (r := 67) (j := 28) (hS162.lt (by decide)) (hS162.sh (by decide) rfl).1 rfl (hS162.inb (by decide) (by decide)) (fun h163 e163 => ?_)
          have hS163 := hS162.wr e163
          refine ev_iinc (w := 29) (L' := [(2, 42), (0, (xs 1)), (0, (xs 2)), (0, 29)]) rfl (by decide) rfl ?_
          refine ev_goto f330_32 ?_
          refine ev_iload_n rfl ?_
          refine ev_bipush ?_
          refine ev_icmpge f330_51 (fun c87 => absurd c87 (by omega)) (fun c87 => ?_)
          refine ev_aload_n rfl ?_
          refine ev_getf (r := 42) (v := 67) (hS163.lt (by decide)) (hS163.fam (by decide) (by decide)) ft12_46 ((jw_ne e163 (Or.inl (by decide))).trans ((jw_ne e162 (Or.inl (by decide))).trans ((jw_ne e161 (Or.inl (by decide))).trans ((jw_ne e160 (Or.inl (by decide))).trans ((jw_ne e159 (Or.inl (by decide))).trans ((jw_ne e158 (Or.inl (by decide))).trans ((jw_ne e157 (Or.inl (by decide))).trans ((jw_ne e156 (Or.inl (by decide))).trans ((jw_ne e155 (Or.inl (by decide))).trans ((jw_ne e154 (Or.inl (by decide))).trans ((jw_ne e153 (Or.inl (by decide))).trans ((jw_ne e152 (Or.inl (by decide))).trans ((jw_ne e151 (Or.inl (by decide))).trans ((jw_ne e150 (Or.inl (by decide))).trans ((jw_ne e149 (Or.inl (by decide))).trans ((jw_ne e148 (Or.inl (by decide))).trans ((jw_ne e147 (Or.inl (by decide))).trans ((jw_ne e146 (Or.inl (by decide))).trans ((jw_ne e145 (Or.inl (by decide))).trans ((jw_ne e144 (Or.inl (by decide))).trans ((jw_ne e143 (Or.inl (by decide))).trans ((jw_ne e142 (Or.inl (by decide))).trans ((jw_ne e141 (Or.inl (by decide))).trans ((jw_ne e140 (Or.inl (by decide))).trans ((jw_ne e139 (Or.inl (by decide))).trans ((jw_ne e138 (Or.inl (by decide))).trans ((jw_ne e137 (Or.inl (by decide))).trans ((jw_ne e136 (Or.inl (by decide))).trans ((jw_ne e135 (Or.inl (by decide))).trans ((jw_ne e134 (Or.inr (by decide))).trans ((jw_ne e133 (Or.inr (by decide))).trans ((jw_ne e132 (Or.inl (by decide))).trans ((jw_ne e131 (Or.inl (by decide))).trans ((jw_ne e130 (Or.inl (by decide))).trans ((jw_ne e129 (Or.inl (by decide))).trans ((jw_ne e128 (Or.inl (by decide))).trans ((jw_ne e127 (Or.inl (by decide))).trans ((jw_ne e126 (Or.inl (by decide))).trans ((jw_ne e125 (Or.inl (by decide))).trans ((jw_ne e124 (Or.inl (by decide))).trans ((jw_ne e123 (Or.inl (by decide))).trans ((jw_ne e122 (Or.inl (by decide))).trans ((jw_ne e121 (Or.inl (by decide))).trans ((jw_ne e120 (Or.inl (by decide))).trans ((jw_ne e119 (Or.inl (by decide))).trans ((jw_ne e118 (Or.inl (by decide))).trans ((jw_ne e117 (Or.inl (by decide))).trans ((jw_ne e116 (Or.inl (by decide))).trans ((jw_ne e115 (Or.inl (by decide))).trans ((jw_ne e114 (Or.inl (by decide))).trans ((jw_ne e113 (Or.inl (by decide))).trans ((jw_ne e112 (Or.inl (by decide))).trans ((jw_ne e111 (Or.inl (by decide))).trans ((jw_ne e110 (Or.inl (by decide))).trans ((jw_ne e109 (Or.inl (by decide))).trans ((jw_ne e108 (Or.inl (by decide))).trans ((jw_ne e107 (Or.inl (by decide))).trans ((jw_ne e106 (Or.inl (by decide))).trans ((jw_ne e105 (Or.inl (by decide))).trans ((jw_ne e104 (Or.inl (by decide))).trans ((jw_ne e103 (Or.inl (by decide))).trans ((jw_ne e102 (Or.inl (by decide))).trans ((jw_ne e101 (Or.inl (by decide))).trans ((jw_ne e100 (Or.inl (by decide))).trans ((jw_ne e99 (Or.inl (by decide))).trans ((hF.v rfl))))))))))))))))))))))))))))))))))))))))))))))))))))))))))))))))))) ?_
          refine ev_iload_n rfl ?_
          refine ev_iconst ?_
          refine ev_iastG (r := 67) (j := 29) (hS163.lt (by decide)) (hS163.sh (by decide) rfl).1 rfl (hS163.inb (by decide) (by decide)) (fun h164 e164 => ?_)
          have hS164 := hS163.wr e164
          refine ev_iinc (w := 30) (L' := [(2, 42), (0, (xs 1)), (0, (xs 2)), (0, 30)]) rfl (by decide) rfl ?_
          refine ev_goto f330_32 ?_
          refine ev_iload_n rfl ?_
          refine ev_bipush ?_
          refine ev_icmpge f330_51 (fun c88 => absurd c88 (by omega)) (fun c88 => ?_)
          refine ev_aload_n rfl ?_
          refine ev_getf (r := 42) (v := 67) (hS164.lt (by decide)) (hS164.fam (by decide) (by decide)) ft12_46 ((jw_ne e164 (Or.inl (by decide))).trans ((jw_ne e163 (Or.inl (by decide))).trans ((jw_ne e162 (Or.inl (by decide))).trans ((jw_ne e161 (Or.inl (by decide))).trans ((jw_ne e160 (Or.inl (by decide))).trans ((jw_ne e159 (Or.inl (by decide))).trans ((jw_ne e158 (Or.inl (by decide))).trans ((jw_ne e157 (Or.inl (by decide))).trans ((jw_ne e156 (Or.inl (by decide))).trans ((jw_ne e155 (Or.inl (by decide))).trans ((jw_ne e154 (Or.inl (by decide))).trans ((jw_ne e153 (Or.inl (by decide))).trans ((jw_ne e152 (Or.inl (by decide))).trans ((jw_ne e151 (Or.inl (by decide))).trans ((jw_ne e150 (Or.inl (by decide))).trans ((jw_ne e149 (Or.inl (by decide))).trans ((jw_ne e148 (Or.inl (by decide))).trans ((jw_ne e147 (Or.inl (by decide))).trans ((jw_ne e146 (Or.inl (by decide))).trans ((jw_ne e145 (Or.inl (by decide))).trans ((jw_ne e144 (Or.inl (by decide))).trans ((jw_ne e143 (Or.inl (by decide))).trans ((jw_ne e142 (Or.inl (by decide))).trans ((jw_ne e141 (Or.inl (by decide))).trans ((jw_ne e140 (Or.inl (by decide))).trans ((jw_ne e139 (Or.inl (by decide))).trans ((jw_ne e138 (Or.inl (by decide))).trans ((jw_ne e137 (Or.inl (by decide))).trans ((jw_ne e136 (Or.inl (by decide))).trans ((jw_ne e135 (Or.inl (by decide))).trans ((jw_ne e134 (Or.inr (by decide))).trans ((jw_ne e133 (Or.inr (by decide))).trans ((jw_ne e132 (Or.inl (by decide))).trans ((jw_ne e131 (Or.inl (by decide))).trans ((jw_ne e130 (Or.inl (by decide))).trans ((jw_ne e129 (Or.inl (by decide))).trans ((jw_ne e128 (Or.inl (by decide))).trans ((jw_ne e127 (Or.inl (by decide))).trans ((jw_ne e126 (Or.inl (by decide))).trans ((jw_ne e125 (Or.inl (by decide))).trans ((jw_ne e124 (Or.inl (by decide))).trans ((jw_ne e123 (Or.inl (by decide))).trans ((jw_ne e122 (Or.inl (by decide))).trans ((jw_ne e121 (Or.inl (by decide))).trans ((jw_ne e120 (Or.inl (by decide))).trans ((jw_ne e119 (Or.inl (by decide))).trans ((jw_ne e118 (Or.inl (by decide))).trans ((jw_ne e117 (Or.inl (by decide))).trans ((jw_ne e116 (Or.inl (by decide))).trans ((jw_ne e115 (Or.inl (by decide))).trans ((jw_ne e114 (Or.inl (by decide))).trans ((jw_ne e113 (Or.inl (by decide))).trans ((jw_ne e112 (Or.inl (by decide))).trans ((jw_ne e111 (Or.inl (by decide))).trans ((jw_ne e110 (Or.inl (by decide))).trans ((jw_ne e109 (Or.inl (by decide))).trans ((jw_ne e108 (Or.inl (by decide))).trans ((jw_ne e107 (Or.inl (by decide))).trans ((jw_ne e106 (Or.inl (by decide))).trans ((jw_ne e105 (Or.inl (by decide))).trans ((jw_ne e104 (Or.inl (by decide))).trans ((jw_ne e103 (Or.inl (by decide))).trans ((jw_ne e102 (Or.inl (by decide))).trans ((jw_ne e101 (Or.inl (by decide))).trans ((jw_ne e100 (Or.inl (by decide))).trans ((jw_ne e99 (Or.inl (by decide))).trans ((hF.v rfl)))))))))))))))))))))))))))))))))))))))))))))))))))))))))))))))))))) ?_
          refine ev_iload_n rfl ?_
          refine ev_iconst ?_
          refine ev_iastG (r := 67) (j := 30) (hS164.lt (by decide)) (hS164.sh (by decide) rfl).1 rfl (hS164.inb (by decide) (by decide)) (fun h165 e165 => ?_)
          have hS165 := hS164.wr e165
          refine ev_iinc (w := 31) (L' := [(2, 42), (0, (xs 1)), (0, (xs 2)), (0, 31)]) rfl (by decide) rfl ?_
          refine ev_goto f330_32 ?_
          refine ev_iload_n rfl ?_
          refine ev_bipush ?_
          refine ev_icmpge f330_51 (fun c89 => absurd c89 (by omega)) (fun c89 => ?_)
          refine ev_aload_n rfl ?_
          refine ev_getf (r := 42) (v := 67) (hS165.lt (by decide)) (hS165.fam (by decide) (by decide)) ft12_46 ((jw_ne e165 (Or.inl (by decide))).trans ((jw_ne e164 (Or.inl (by decide))).trans ((jw_ne e163 (Or.inl (by decide))).trans ((jw_ne e162 (Or.inl (by decide))).trans ((jw_ne e161 (Or.inl (by decide))).trans ((jw_ne e160 (Or.inl (by decide))).trans ((jw_ne e159 (Or.inl (by decide))).trans ((jw_ne e158 (Or.inl (by decide))).trans ((jw_ne e157 (Or.inl (by decide))).trans ((jw_ne e156 (Or.inl (by decide))).trans ((jw_ne e155 (Or.inl (by decide))).trans ((jw_ne e154 (Or.inl (by decide))).trans ((jw_ne e153 (Or.inl (by decide))).trans ((jw_ne e152 (Or.inl (by decide))).trans ((jw_ne e151 (Or.inl (by decide))).trans ((jw_ne e150 (Or.inl (by decide))).trans ((jw_ne e149 (Or.inl (by decide))).trans ((jw_ne e148 (Or.inl (by decide))).trans ((jw_ne e147 (Or.inl (by decide))).trans ((jw_ne e146 (Or.inl (by decide))).trans ((jw_ne e145 (Or.inl (by decide))).trans ((jw_ne e144 (Or.inl (by decide))).trans ((jw_ne e143 (Or.inl (by decide))).trans ((jw_ne e142 (Or.inl (by decide))).trans ((jw_ne e141 (Or.inl (by decide))).trans ((jw_ne e140 (Or.inl (by decide))).trans ((jw_ne e139 (Or.inl (by decide))).trans ((jw_ne e138 (Or.inl (by decide))).trans ((jw_ne e137 (Or.inl (by decide))).trans ((jw_ne e136 (Or.inl (by decide))).trans ((jw_ne e135 (Or.inl (by decide))).trans ((jw_ne e134 (Or.inr (by decide))).trans ((jw_ne e133 (Or.inr (by decide))).trans ((jw_ne e132 (Or.inl (by decide))).trans ((jw_ne e131 (Or.inl (by decide))).trans ((jw_ne e130 (Or.inl (by decide))).trans ((jw_ne e129 (Or.inl (by decide))).trans ((jw_ne e128 (Or.inl (by decide))).trans ((jw_ne e127 (Or.inl (by decide))).trans ((jw_ne e126 (Or.inl (by decide))).trans ((jw_ne e125 (Or.inl (by decide))).trans ((jw_ne e124 (Or.inl (by decide))).trans ((jw_ne e123 (Or.inl (by decide))).trans ((jw_ne e122 (Or.inl (by decide))).trans ((jw_ne e121 (Or.inl (by decide))).trans ((jw_ne e120 (Or.inl (by decide))).trans ((jw_ne e119 (Or.inl (by decide))).trans ((jw_ne e118 (Or.inl (by decide))).trans ((jw_ne e117 (Or.inl (by decide))).trans ((jw_ne e116 (Or.inl (by decide))).trans ((jw_ne e115 (Or.inl (by decide))).trans ((jw_ne e114 (Or.inl (by decide))).trans ((jw_ne e113 (Or.inl (by decide))).trans ((jw_ne e112 (Or.inl (by decide))).trans ((jw_ne e111 (Or.inl (by decide))).trans ((jw_ne e110 (Or.inl (by decide))).trans ((jw_ne e109 (Or.inl (by decide))).trans ((jw_ne e108 (Or.inl (by decide))).trans ((jw_ne e107 (Or.inl (by decide))).trans ((jw_ne e106 (Or.inl (by decide))).trans ((jw_ne e105 (Or.inl (by decide))).trans ((jw_ne e104 (Or.inl (by decide))).trans ((jw_ne e103 (Or.inl (by decide))).trans ((jw_ne e102 (Or.inl (by decide))).trans ((jw_ne e101 (Or.inl (by decide))).trans ((jw_ne e100 (Or.inl (by decide))).trans ((jw_ne e99 (Or.inl (by decide))).trans ((hF.v rfl))))))))))))))))))))))))))))))))))))))))))))))))))))))))))))))))))))) ?_
          refine ev_iload_n rfl ?_
          refine ev_iconst ?_
          refine ev_iastG (r := 67) (j := 31) (hS165.lt (by decide)) (hS165.sh (by decide) rfl).1 rfl (hS165.inb (by decide) (by decide)) (fun h166 e166 => ?_)
          have hS166 := hS165.wr e166
          refine ev_iinc (w := 32) (L' := [(2, 42), (0, (xs 1)), (0, (xs 2)), (0, 32)]) rfl (by decide) rfl ?_
          refine ev_goto f330_32 ?_
          refine ev_iload_n rfl ?_
          refine ev_bipush ?_
          refine ev_icmpge f330_51 (fun c90 => ?_) (fun c90 => absurd c90 (by omega))
          refine ev_iload_n rfl ?_
          refine ev_iload_n rfl ?_
          have q91 := jmulb (x := (xs 1)) (y := (xs 2)) (a := 4) (b := 4) (by omega) (by omega) (by omega) (by omega)
          refine ev_imul (r := ((xs 1) * (xs 2))) (by unfold w32; omega) ?_
          refine ev_ret rfl (by decide) (by decide) ?_
          show jEv _ _ _ _ _ _ _ (_, [(2, (-2)), (2, 0), (2, 42), (0, 0)], [(0, ((xs 1) * (xs 2))), (0, ((xs 1) * (xs 2)))], _, _, _)
          refine ev_icmpeq f384_2190 (fun c92 => ?_) (fun c92 => absurd c92 (by omega))
          exact law_tail _
        · refine ev_iconst ?_
          refine ev_ret rfl (by decide) (by decide) ?_
          show jEv _ _ _ _ _ _ _ (_, [(2, (-2)), (2, 0), (2, 42), (0, 0)], [(0, (-1))], _, _, _)
          refine ev_aload_n rfl ?_
          refine ev_aload_n rfl ?_
          refine ev_iload_n rfl ?_
          refine ev_iconst ?_
          refine ev_iadd (r := 1) (by decide) ?_
          refine ev_sald (j := 1) (v := (xs 1)) rfl rfl rfl ?_
          refine ev_aload_n rfl ?_
          refine ev_iload_n rfl ?_
          refine ev_iconst ?_
          refine ev_iadd (r := 2) (by decide) ?_
          refine ev_sald (j := 2) (v := (xs 2)) rfl rfl rfl ?_
          refine ev_in (d := 7) (a := 0) (b := 0) (cd' := c330_0) (m := 4) (L0 := [(2, 42), (0, (xs 1)), (0, (xs 2)), (9, 0)]) (jcall_v (A := [(0, (xs 2)), (0, (xs 1))]) (S' := [(0, (-1))]) (r := 42) rfl (hF.1.lt (by decide)) (hF.1.sh (by decide) rfl).1 (Nat.le_of_ble_eq_true rfl)) (by decide) ml330 pp330 (Nat.le_of_ble_eq_true rfl) rfl (by decide) (by decide) ?_
          refine ev_iload_n rfl ?_
          refine ev_iconst ?_
          refine ev_iconst ?_
          refine ev_in (d := 6) (a := 0) (b := 0) (cd' := c242_0) (m := 3) (L0 := [(0, (xs 1)), (0, 1), (0, 4)]) (jcall_s (A := [(0, 4), (0, 1), (0, (xs 1))]) (S' := []) (by decide) rfl (Nat.le_of_ble_eq_true rfl)) (by decide) ml242 pp242 (Nat.le_of_ble_eq_true rfl) rfl (by decide) (by decide) ?_
          refine ev_iload_n rfl ?_
          refine ev_iload_n rfl ?_
          refine ev_icmplt f242_14 (fun c93 => absurd c93 (by omega)) (fun c93 => ?_)
          refine ev_iload_n rfl ?_
          refine ev_iload_n rfl ?_
          refine ev_icmpgt f242_14 (fun c94 => absurd c94 (by omega)) (fun c94 => ?_)
          refine ev_iconst ?_
          refine ev_goto f242_15 ?_
          refine ev_ret rfl (by decide) (by decide) ?_
          show jEv _ _ _ _ _ _ _ (_, [(2, 42), (0, (xs 1)), (0, (xs 2)), (9, 0)], [(0, 1)], _, _, _)
          refine ev_ifeq f330_18 (fun c95 => absurd c95 (by omega)) (fun c95 => ?_)
          refine ev_iload_n rfl ?_
          refine ev_iconst ?_
          refine ev_iconst ?_
          refine ev_in (d := 6) (a := 0) (b := 0) (cd' := c242_0) (m := 3) (L0 := [(0, (xs 2)), (0, 1), (0, 4)]) (jcall_s (A := [(0, 4), (0, 1), (0, (xs 2))]) (S' := []) (by decide) rfl (Nat.le_of_ble_eq_true rfl)) (by decide) ml242 pp242 (Nat.le_of_ble_eq_true rfl) rfl (by decide) (by decide) ?_
          refine ev_iload_n rfl ?_
          refine ev_iload_n rfl ?_
          refine ev_icmplt f242_14 (fun c96 => absurd c96 (by omega)) (fun c96 => ?_)
          refine ev_iload_n rfl ?_
          refine ev_iload_n rfl ?_
          refine ev_icmpgt f242_14 (fun c97 => ?_) (fun c97 => absurd c97 (by omega))
          refine ev_iconst ?_
          refine ev_ret rfl (by decide) (by decide) ?_
          show jEv _ _ _ _ _ _ _ (_, [(2, 42), (0, (xs 1)), (0, (xs 2)), (9, 0)], [(0, 0)], _, _, _)
          refine ev_ifne f330_20 (fun c98 => absurd c98 (by omega)) (fun c98 => ?_)
          refine ev_iconst ?_
          refine ev_ret rfl (by decide) (by decide) ?_
          show jEv _ _ _ _ _ _ _ (_, [(2, (-2)), (2, 0), (2, 42), (0, 0)], [(0, (-1)), (0, (-1))], _, _, _)
          refine ev_icmpeq f384_2190 (fun c99 => ?_) (fun c99 => absurd c99 (by omega))
          exact law_tail _

/-! lots -/
set_option maxHeartbeats 4000000 in
theorem case_32 {xs : Nat → Int} (hr : ∀ j, -2147483648 ≤ xs j ∧ xs j < 2147483648) {h : JH} (hF : Fresh h) : jEv (jOk 8) (some 6) xs c384_0 600000 7302250 (fun v _ => v = some (0, 1)) (c384_1415, [(2, -2), (2, 0), (2, 42), (0, 0)], [], h, 83, 23761) := by
  have r1 := hr 1
  have r2 := hr 2
  have r3 := hr 3
  have r4 := hr 4
  have r5 := hr 5
  refine ev_aload_n rfl ?_
  refine ev_aload_n rfl ?_
  refine ev_iload_n rfl ?_
  refine ev_iconst ?_
  refine ev_iadd (r := 1) (by decide) ?_
  refine ev_sald (j := 1) (v := (xs 1)) rfl rfl rfl ?_
  refine ev_in (d := 7) (a := 0) (b := 0) (cd' := c198_0) (m := 6) (L0 := [(2, 0), (0, (xs 1)), (9, 0), (9, 0), (9, 0), (9, 0)]) (jcall_v (A := [(0, (xs 1))]) (S' := []) (r := 0) rfl (hF.1.lt (by decide)) (hF.1.sh (by decide) rfl).1 (Nat.le_of_ble_eq_true rfl)) (by decide) ml198 pp198 (Nat.le_of_ble_eq_true rfl) rfl (by decide) (by decide) ?_
  refine ev_iload_n rfl ?_
  refine ev_in (d := 6) (a := 0) (b := 0) (cd' := c221_0) (m := 1) (L0 := [(0, (xs 1))]) (jcall_s (A := [(0, (xs 1))]) (S' := []) (by decide) rfl (Nat.le_of_ble_eq_true rfl)) (by decide) ml221 pp221 (Nat.le_of_ble_eq_true rfl) rfl (by decide) (by decide) ?_
  refine ev_iload_n rfl ?_
  refine ev_ifeq f221_9 (fun c1 => ?_) (fun c1 => ?_)
  · refine ev_iconst ?_
    refine ev_goto f221_14 ?_
    refine ev_ret rfl (by decide) (by decide) ?_
    show jEv _ _ _ _ _ _ _ (_, [(2, 0), (0, (xs 1)), (9, 0), (9, 0), (9, 0), (9, 0)], [(0, 1)], _, _, _)
    refine ev_ifne f198_10 (fun c2 => ?_) (fun c2 => absurd c2 (by omega))
    refine ev_aload_n rfl ?_
    refine ev_getf (r := 0) (v := 26) (hF.1.lt (by decide)) (hF.1.fam (by decide) (by decide)) ft11_11 ((hF.v rfl)) ?_
    refine ev_in (d := 6) (a := 0) (b := 0) (cd' := c110_0) (m := 3) (L0 := [(2, 26), (9, 0), (9, 0)]) (jcall_v (A := []) (S' := []) (r := 26) rfl (hF.1.lt (by decide)) (hF.1.sh (by decide) rfl).1 (Nat.le_of_ble_eq_true rfl)) (by decide) ml110 pp110 (Nat.le_of_ble_eq_true rfl) rfl (by decide) (by decide) ?_
    refine ev_aload_n rfl ?_
    refine ev_getf (r := 26) (v := 0) (hF.1.lt (by decide)) (hF.1.fam (by decide) (by decide)) ft9_0 ((hF.v rfl)) ?_
    refine ev_iconst ?_
    refine ev_icmpne f110_20 (fun c3 => ?_) (fun c3 => absurd c3 (by omega))
    refine ev_iconst ?_
    refine ev_istore_n (L' := [(2, 26), (0, 0), (9, 0)]) (Nat.le_of_ble_eq_true rfl) rfl ?_
    refine ev_iconst ?_
    refine ev_istore_n (L' := [(2, 26), (0, 0), (0, 0)]) (Nat.le_of_ble_eq_true rfl) rfl ?_
    refine ev_iload_n rfl ?_
    refine ev_iconst ?_
    refine ev_icmpge f110_71 (fun c4 => absurd c4 (by omega)) (fun c4 => ?_)
    refine ev_iload_n rfl ?_
    refine ev_ifeq f110_71 (fun c5 => ?_) (fun c5 => absurd c5 (by omega))
    refine ev_iload_n rfl ?_
    refine ev_ret rfl (by decide) (by decide) ?_
    show jEv _ _ _ _ _ _ _ (_, [(2, 0), (0, (xs 1)), (9, 0), (9, 0), (9, 0), (9, 0)], [(0, 0)], _, _, _)
    refine ev_ifne f198_23 (fun c6 => absurd c6 (by omega)) (fun c6 => ?_)
    refine ev_bipush ?_
    refine ev_ret rfl (by decide) (by decide) ?_
    show jEv _ _ _ _ _ _ _ (_, [(2, (-2)), (2, 0), (2, 42), (0, 0)], [(0, (-5))], _, _, _)
    refine ev_aload_n rfl ?_
    refine ev_aload_n rfl ?_
    refine ev_iload_n rfl ?_
    refine ev_iconst ?_
    refine ev_iadd (r := 1) (by decide) ?_
    refine ev_sald (j := 1) (v := (xs 1)) rfl rfl rfl ?_
    refine ev_in (d := 7) (a := 0) (b := 0) (cd' := c336_0) (m := 10) (L0 := [(2, 42), (0, (xs 1)), (9, 0), (9, 0), (9, 0), (9, 0), (9, 0), (9, 0), (9, 0), (9, 0)]) (jcall_v (A := [(0, (xs 1))]) (S' := [(0, (-5))]) (r := 42) rfl (hF.1.lt (by decide)) (hF.1.sh (by decide) rfl).1 (Nat.le_of_ble_eq_true rfl)) (by decide) ml336 pp336 (Nat.le_of_ble_eq_true rfl) rfl (by decide) (by decide) ?_
    refine ev_iload_n rfl ?_
    refine ev_iconst ?_
    refine ev_iconst ?_
    refine ev_in (d := 6) (a := 0) (b := 0) (cd' := c242_0) (m := 3) (L0 := [(0, (xs 1)), (0, 0), (0, 1)]) (jcall_s (A := [(0, 1), (0, 0), (0, (xs 1))]) (S' := []) (by decide) rfl (Nat.le_of_ble_eq_true rfl)) (by decide) ml242 pp242 (Nat.le_of_ble_eq_true rfl) rfl (by decide) (by decide) ?_
    refine ev_iload_n rfl ?_
    refine ev_iload_n rfl ?_
    refine ev_icmplt f242_14 (fun c7 => absurd c7 (by omega)) (fun c7 => ?_)
    refine ev_iload_n rfl ?_
    refine ev_iload_n rfl ?_
    refine ev_icmpgt f242_14 (fun c8 => absurd c8 (by omega)) (fun c8 => ?_)
    refine ev_iconst ?_
    refine ev_goto f242_15 ?_
    refine ev_ret rfl (by decide) (by decide) ?_
    show jEv _ _ _ _ _ _ _ (_, [(2, 42), (0, (xs 1)), (9, 0), (9, 0), (9, 0), (9, 0), (9, 0), (9, 0), (9, 0), (9, 0)], [(0, 1)], _, _, _)
    refine ev_ifne f336_13 (fun c9 => ?_) (fun c9 => absurd c9 (by omega))
    refine ev_aload_n rfl ?_
    refine ev_getf (r := 42) (v := 0) (hF.1.lt (by decide)) (hF.1.fam (by decide) (by decide)) ft12_44 ((hF.v rfl)) ?_
    refine ev_iconst ?_
    refine ev_icmpne f336_29 (fun c10 => ?_) (fun c10 => absurd c10 (by omega))
    refine ev_bipush ?_
    refine ev_ret rfl (by decide) (by decide) ?_
    show jEv _ _ _ _ _ _ _ (_, [(2, (-2)), (2, 0), (2, 42), (0, 0)], [(0, (-5)), (0, (-5))], _, _, _)
    refine ev_icmpeq f384_2190 (fun c11 => ?_) (fun c11 => absurd c11 (by omega))
    exact law_tail _
  · refine ev_iload_n rfl ?_
    refine ev_iconst ?_
    refine ev_icmpne f221_13 (fun c12 => ?_) (fun c12 => ?_)
    · refine ev_iconst ?_
      refine ev_ret rfl (by decide) (by decide) ?_
      show jEv _ _ _ _ _ _ _ (_, [(2, 0), (0, (xs 1)), (9, 0), (9, 0), (9, 0), (9, 0)], [(0, 0)], _, _, _)
      refine ev_ifne f198_10 (fun c13 => absurd c13 (by omega)) (fun c13 => ?_)
      refine ev_ldc ?_
      refine ev_ret rfl (by decide) (by decide) ?_
      show jEv _ _ _ _ _ _ _ (_, [(2, (-2)), (2, 0), (2, 42), (0, 0)], [(0, (-2000000000))], _, _, _)
      refine ev_aload_n rfl ?_
      refine ev_aload_n rfl ?_
      refine ev_iload_n rfl ?_
      refine ev_iconst ?_
      refine ev_iadd (r := 1) (by decide) ?_
      refine ev_sald (j := 1) (v := (xs 1)) rfl rfl rfl ?_
      refine ev_in (d := 7) (a := 0) (b := 0) (cd' := c336_0) (m := 10) (L0 := [(2, 42), (0, (xs 1)), (9, 0), (9, 0), (9, 0), (9, 0), (9, 0), (9, 0), (9, 0), (9, 0)]) (jcall_v (A := [(0, (xs 1))]) (S' := [(0, (-2000000000))]) (r := 42) rfl (hF.1.lt (by decide)) (hF.1.sh (by decide) rfl).1 (Nat.le_of_ble_eq_true rfl)) (by decide) ml336 pp336 (Nat.le_of_ble_eq_true rfl) rfl (by decide) (by decide) ?_
      refine ev_iload_n rfl ?_
      refine ev_iconst ?_
      refine ev_iconst ?_
      refine ev_in (d := 6) (a := 0) (b := 0) (cd' := c242_0) (m := 3) (L0 := [(0, (xs 1)), (0, 0), (0, 1)]) (jcall_s (A := [(0, 1), (0, 0), (0, (xs 1))]) (S' := []) (by decide) rfl (Nat.le_of_ble_eq_true rfl)) (by decide) ml242 pp242 (Nat.le_of_ble_eq_true rfl) rfl (by decide) (by decide) ?_
      refine ev_iload_n rfl ?_
      refine ev_iload_n rfl ?_
      refine ev_icmplt f242_14 (fun c14 => ?_) (fun c14 => ?_)
      · refine ev_iconst ?_
        refine ev_ret rfl (by decide) (by decide) ?_
        show jEv _ _ _ _ _ _ _ (_, [(2, 42), (0, (xs 1)), (9, 0), (9, 0), (9, 0), (9, 0), (9, 0), (9, 0), (9, 0), (9, 0)], [(0, 0)], _, _, _)
        refine ev_ifne f336_13 (fun c15 => absurd c15 (by omega)) (fun c15 => ?_)
        refine ev_ldc_w ?_
        refine ev_ret rfl (by decide) (by decide) ?_
        show jEv _ _ _ _ _ _ _ (_, [(2, (-2)), (2, 0), (2, 42), (0, 0)], [(0, (-2000000000)), (0, (-2000000000))], _, _, _)
        refine ev_icmpeq f384_2190 (fun c16 => ?_) (fun c16 => absurd c16 (by omega))
        exact law_tail _
      · refine ev_iload_n rfl ?_
        refine ev_iload_n rfl ?_
        refine ev_icmpgt f242_14 (fun c17 => ?_) (fun c17 => absurd c17 (by omega))
        refine ev_iconst ?_
        refine ev_ret rfl (by decide) (by decide) ?_
        show jEv _ _ _ _ _ _ _ (_, [(2, 42), (0, (xs 1)), (9, 0), (9, 0), (9, 0), (9, 0), (9, 0), (9, 0), (9, 0), (9, 0)], [(0, 0)], _, _, _)
        refine ev_ifne f336_13 (fun c18 => absurd c18 (by omega)) (fun c18 => ?_)
        refine ev_ldc_w ?_
        refine ev_ret rfl (by decide) (by decide) ?_
        show jEv _ _ _ _ _ _ _ (_, [(2, (-2)), (2, 0), (2, 42), (0, 0)], [(0, (-2000000000)), (0, (-2000000000))], _, _, _)
        refine ev_icmpeq f384_2190 (fun c19 => ?_) (fun c19 => absurd c19 (by omega))
        exact law_tail _
    · refine ev_iconst ?_
      refine ev_goto f221_14 ?_
      refine ev_ret rfl (by decide) (by decide) ?_
      show jEv _ _ _ _ _ _ _ (_, [(2, 0), (0, (xs 1)), (9, 0), (9, 0), (9, 0), (9, 0)], [(0, 1)], _, _, _)
      refine ev_ifne f198_10 (fun c20 => ?_) (fun c20 => absurd c20 (by omega))
      refine ev_aload_n rfl ?_
      refine ev_getf (r := 0) (v := 26) (hF.1.lt (by decide)) (hF.1.fam (by decide) (by decide)) ft11_11 ((hF.v rfl)) ?_
      refine ev_in (d := 6) (a := 0) (b := 0) (cd' := c110_0) (m := 3) (L0 := [(2, 26), (9, 0), (9, 0)]) (jcall_v (A := []) (S' := []) (r := 26) rfl (hF.1.lt (by decide)) (hF.1.sh (by decide) rfl).1 (Nat.le_of_ble_eq_true rfl)) (by decide) ml110 pp110 (Nat.le_of_ble_eq_true rfl) rfl (by decide) (by decide) ?_
      refine ev_aload_n rfl ?_
      refine ev_getf (r := 26) (v := 0) (hF.1.lt (by decide)) (hF.1.fam (by decide) (by decide)) ft9_0 ((hF.v rfl)) ?_
      refine ev_iconst ?_
      refine ev_icmpne f110_20 (fun c21 => ?_) (fun c21 => absurd c21 (by omega))
      refine ev_iconst ?_
      refine ev_istore_n (L' := [(2, 26), (0, 0), (9, 0)]) (Nat.le_of_ble_eq_true rfl) rfl ?_
      refine ev_iconst ?_
      refine ev_istore_n (L' := [(2, 26), (0, 0), (0, 0)]) (Nat.le_of_ble_eq_true rfl) rfl ?_
      refine ev_iload_n rfl ?_
      refine ev_iconst ?_
      refine ev_icmpge f110_71 (fun c22 => absurd c22 (by omega)) (fun c22 => ?_)
      refine ev_iload_n rfl ?_
      refine ev_ifeq f110_71 (fun c23 => ?_) (fun c23 => absurd c23 (by omega))
      refine ev_iload_n rfl ?_
      refine ev_ret rfl (by decide) (by decide) ?_
      show jEv _ _ _ _ _ _ _ (_, [(2, 0), (0, (xs 1)), (9, 0), (9, 0), (9, 0), (9, 0)], [(0, 0)], _, _, _)
      refine ev_ifne f198_23 (fun c24 => absurd c24 (by omega)) (fun c24 => ?_)
      refine ev_bipush ?_
      refine ev_ret rfl (by decide) (by decide) ?_
      show jEv _ _ _ _ _ _ _ (_, [(2, (-2)), (2, 0), (2, 42), (0, 0)], [(0, (-5))], _, _, _)
      refine ev_aload_n rfl ?_
      refine ev_aload_n rfl ?_
      refine ev_iload_n rfl ?_
      refine ev_iconst ?_
      refine ev_iadd (r := 1) (by decide) ?_
      refine ev_sald (j := 1) (v := (xs 1)) rfl rfl rfl ?_
      refine ev_in (d := 7) (a := 0) (b := 0) (cd' := c336_0) (m := 10) (L0 := [(2, 42), (0, (xs 1)), (9, 0), (9, 0), (9, 0), (9, 0), (9, 0), (9, 0), (9, 0), (9, 0)]) (jcall_v (A := [(0, (xs 1))]) (S' := [(0, (-5))]) (r := 42) rfl (hF.1.lt (by decide)) (hF.1.sh (by decide) rfl).1 (Nat.le_of_ble_eq_true rfl)) (by decide) ml336 pp336 (Nat.le_of_ble_eq_true rfl) rfl (by decide) (by decide) ?_
      refine ev_iload_n rfl ?_
      refine ev_iconst ?_
      refine ev_iconst ?_
      refine ev_in (d := 6) (a := 0) (b := 0) (cd' := c242_0) (m := 3) (L0 := [(0, (xs 1)), (0, 0), (0, 1)]) (jcall_s (A := [(0, 1), (0, 0), (0, (xs 1))]) (S' := []) (by decide) rfl (Nat.le_of_ble_eq_true rfl)) (by decide) ml242 pp242 (Nat.le_of_ble_eq_true rfl) rfl (by decide) (by decide) ?_
      refine ev_iload_n rfl ?_
      refine ev_iload_n rfl ?_
      refine ev_icmplt f242_14 (fun c25 => absurd c25 (by omega)) (fun c25 => ?_)
      refine ev_iload_n rfl ?_
      refine ev_iload_n rfl ?_
      refine ev_icmpgt f242_14 (fun c26 => absurd c26 (by omega)) (fun c26 => ?_)
      refine ev_iconst ?_
      refine ev_goto f242_15 ?_
      refine ev_ret rfl (by decide) (by decide) ?_
      show jEv _ _ _ _ _ _ _ (_, [(2, 42), (0, (xs 1)), (9, 0), (9, 0), (9, 0), (9, 0), (9, 0), (9, 0), (9, 0), (9, 0)], [(0, 1)], _, _, _)
      refine ev_ifne f336_13 (fun c27 => ?_) (fun c27 => absurd c27 (by omega))
      refine ev_aload_n rfl ?_
      refine ev_getf (r := 42) (v := 0) (hF.1.lt (by decide)) (hF.1.fam (by decide) (by decide)) ft12_44 ((hF.v rfl)) ?_
      refine ev_iconst ?_
      refine ev_icmpne f336_29 (fun c28 => ?_) (fun c28 => absurd c28 (by omega))
      refine ev_bipush ?_
      refine ev_ret rfl (by decide) (by decide) ?_
      show jEv _ _ _ _ _ _ _ (_, [(2, (-2)), (2, 0), (2, 42), (0, 0)], [(0, (-5)), (0, (-5))], _, _, _)
      refine ev_icmpeq f384_2190 (fun c29 => ?_) (fun c29 => absurd c29 (by omega))
      exact law_tail _

/-! count -/
set_option maxHeartbeats 4000000 in
theorem case_52 {xs : Nat → Int} (hr : ∀ j, -2147483648 ≤ xs j ∧ xs j < 2147483648) {h : JH} (hF : Fresh h) : jEv (jOk 8) (some 6) xs c384_0 600000 7302250 (fun v _ => v = some (0, 1)) (c384_2167, [(2, -2), (2, 0), (2, 42), (0, 0)], [], h, 83, 23761) := by
  have r1 := hr 1
  have r2 := hr 2
  have r3 := hr 3
  have r4 := hr 4
  have r5 := hr 5
  refine ev_aload_n rfl ?_
  refine ev_aload_n rfl ?_
  refine ev_iload_n rfl ?_
  refine ev_iconst ?_
  refine ev_iadd (r := 1) (by decide) ?_
  refine ev_sald (j := 1) (v := (xs 1)) rfl rfl rfl ?_
  refine ev_in (d := 7) (a := 0) (b := 0) (cd' := c218_0) (m := 2) (L0 := [(2, 0), (0, (xs 1))]) (jcall_v (A := [(0, (xs 1))]) (S' := []) (r := 0) rfl (hF.1.lt (by decide)) (hF.1.sh (by decide) rfl).1 (Nat.le_of_ble_eq_true rfl)) (by decide) ml218 pp218 (Nat.le_of_ble_eq_true rfl) rfl (by decide) (by decide) ?_
  refine ev_iload_n rfl ?_
  rcases (show (xs 1) = 0 ∨ (xs 1) = 1 ∨ (xs 1) = 2 ∨ (xs 1) = 3 ∨ (xs 1) = 4 ∨ (xs 1) = 5 ∨ (xs 1) < 0 ∨ 5 < (xs 1) by omega) with c1 | c1 | c1 | c1 | c1 | c1 | c1 | c1
  · refine ev_sw (t := 40) (by rw [c1]; decide) f218_40 ?_
    refine ev_aload_n rfl ?_
    refine ev_getf (r := 0) (v := 1) (hF.1.lt (by decide)) (hF.1.fam (by decide) (by decide)) ft11_0 ((hF.v rfl)) ?_
    refine ev_getf (r := 1) (v := 0) (hF.1.lt (by decide)) (hF.1.fam (by decide) (by decide)) ft10_0 ((hF.v rfl)) ?_
    refine ev_ret rfl (by decide) (by decide) ?_
    show jEv _ _ _ _ _ _ _ (_, [(2, (-2)), (2, 0), (2, 42), (0, 0)], [(0, 0)], _, _, _)
    refine ev_aload_n rfl ?_
    refine ev_aload_n rfl ?_
    refine ev_iload_n rfl ?_
    refine ev_iconst ?_
    refine ev_iadd (r := 1) (by decide) ?_
    refine ev_sald (j := 1) (v := (xs 1)) rfl rfl rfl ?_
    refine ev_in (d := 7) (a := 0) (b := 0) (cd' := c369_0) (m := 2) (L0 := [(2, 42), (0, (xs 1))]) (jcall_v (A := [(0, (xs 1))]) (S' := [(0, 0)]) (r := 42) rfl (hF.1.lt (by decide)) (hF.1.sh (by decide) rfl).1 (Nat.le_of_ble_eq_true rfl)) (by decide) ml369 pp369 (Nat.le_of_ble_eq_true rfl) rfl (by decide) (by decide) ?_
    refine ev_iload_n rfl ?_
    rcases (show (xs 1) = 0 by omega) with c2
    · refine ev_sw (t := 40) (by rw [c2]; decide) f369_40 ?_
      refine ev_aload_n rfl ?_
      refine ev_getf (r := 42) (v := 0) (hF.1.lt (by decide)) (hF.1.fam (by decide) (by decide)) ft12_1 ((hF.v rfl)) ?_
      refine ev_ret rfl (by decide) (by decide) ?_
      show jEv _ _ _ _ _ _ _ (_, [(2, (-2)), (2, 0), (2, 42), (0, 0)], [(0, 0), (0, 0)], _, _, _)
      refine ev_icmpeq f384_2190 (fun c3 => ?_) (fun c3 => absurd c3 (by omega))
      exact law_tail _
  · refine ev_sw (t := 48) (by rw [c1]; decide) f218_48 ?_
    refine ev_aload_n rfl ?_
    refine ev_getf (r := 0) (v := 0) (hF.1.lt (by decide)) (hF.1.fam (by decide) (by decide)) ft11_3 ((hF.v rfl)) ?_
    refine ev_ret rfl (by decide) (by decide) ?_
    show jEv _ _ _ _ _ _ _ (_, [(2, (-2)), (2, 0), (2, 42), (0, 0)], [(0, 0)], _, _, _)
    refine ev_aload_n rfl ?_
    refine ev_aload_n rfl ?_
    refine ev_iload_n rfl ?_
    refine ev_iconst ?_
    refine ev_iadd (r := 1) (by decide) ?_
    refine ev_sald (j := 1) (v := (xs 1)) rfl rfl rfl ?_
    refine ev_in (d := 7) (a := 0) (b := 0) (cd' := c369_0) (m := 2) (L0 := [(2, 42), (0, (xs 1))]) (jcall_v (A := [(0, (xs 1))]) (S' := [(0, 0)]) (r := 42) rfl (hF.1.lt (by decide)) (hF.1.sh (by decide) rfl).1 (Nat.le_of_ble_eq_true rfl)) (by decide) ml369 pp369 (Nat.le_of_ble_eq_true rfl) rfl (by decide) (by decide) ?_
    refine ev_iload_n rfl ?_
    rcases (show (xs 1) = 1 by omega) with c4
    · refine ev_sw (t := 45) (by rw [c4]; decide) f369_45 ?_
      refine ev_aload_n rfl ?_
      refine ev_getf (r := 42) (v := 0) (hF.1.lt (by decide)) (hF.1.fam (by decide) (by decide)) ft12_9 ((hF.v rfl)) ?_
      refine ev_ret rfl (by decide) (by decide) ?_
      show jEv _ _ _ _ _ _ _ (_, [(2, (-2)), (2, 0), (2, 42), (0, 0)], [(0, 0), (0, 0)], _, _, _)
      refine ev_icmpeq f384_2190 (fun c5 => ?_) (fun c5 => absurd c5 (by omega))
      exact law_tail _
  · refine ev_sw (t := 53) (by rw [c1]; decide) f218_53 ?_
    refine ev_aload_n rfl ?_
    refine ev_getf (r := 0) (v := 7) (hF.1.lt (by decide)) (hF.1.fam (by decide) (by decide)) ft11_1 ((hF.v rfl)) ?_
    refine ev_getf (r := 7) (v := 0) (hF.1.lt (by decide)) (hF.1.fam (by decide) (by decide)) ft5_0 ((hF.v rfl)) ?_
    refine ev_ret rfl (by decide) (by decide) ?_
    show jEv _ _ _ _ _ _ _ (_, [(2, (-2)), (2, 0), (2, 42), (0, 0)], [(0, 0)], _, _, _)
    refine ev_aload_n rfl ?_
    refine ev_aload_n rfl ?_
    refine ev_iload_n rfl ?_
    refine ev_iconst ?_
    refine ev_iadd (r := 1) (by decide) ?_
    refine ev_sald (j := 1) (v := (xs 1)) rfl rfl rfl ?_
    refine ev_in (d := 7) (a := 0) (b := 0) (cd' := c369_0) (m := 2) (L0 := [(2, 42), (0, (xs 1))]) (jcall_v (A := [(0, (xs 1))]) (S' := [(0, 0)]) (r := 42) rfl (hF.1.lt (by decide)) (hF.1.sh (by decide) rfl).1 (Nat.le_of_ble_eq_true rfl)) (by decide) ml369 pp369 (Nat.le_of_ble_eq_true rfl) rfl (by decide) (by decide) ?_
    refine ev_iload_n rfl ?_
    rcases (show (xs 1) = 2 by omega) with c6
    · refine ev_sw (t := 50) (by rw [c6]; decide) f369_50 ?_
      refine ev_aload_n rfl ?_
      refine ev_getf (r := 42) (v := 0) (hF.1.lt (by decide)) (hF.1.fam (by decide) (by decide)) ft12_17 ((hF.v rfl)) ?_
      refine ev_ret rfl (by decide) (by decide) ?_
      show jEv _ _ _ _ _ _ _ (_, [(2, (-2)), (2, 0), (2, 42), (0, 0)], [(0, 0), (0, 0)], _, _, _)
      refine ev_icmpeq f384_2190 (fun c7 => ?_) (fun c7 => absurd c7 (by omega))
      exact law_tail _
  · refine ev_sw (t := 61) (by rw [c1]; decide) f218_61 ?_
    refine ev_aload_n rfl ?_
    refine ev_getf (r := 0) (v := 0) (hF.1.lt (by decide)) (hF.1.fam (by decide) (by decide)) ft11_7 ((hF.v rfl)) ?_
    refine ev_ret rfl (by decide) (by decide) ?_
    show jEv _ _ _ _ _ _ _ (_, [(2, (-2)), (2, 0), (2, 42), (0, 0)], [(0, 0)], _, _, _)
    refine ev_aload_n rfl ?_
    refine ev_aload_n rfl ?_
    refine ev_iload_n rfl ?_
    refine ev_iconst ?_
    refine ev_iadd (r := 1) (by decide) ?_
    refine ev_sald (j := 1) (v := (xs 1)) rfl rfl rfl ?_
    refine ev_in (d := 7) (a := 0) (b := 0) (cd' := c369_0) (m := 2) (L0 := [(2, 42), (0, (xs 1))]) (jcall_v (A := [(0, (xs 1))]) (S' := [(0, 0)]) (r := 42) rfl (hF.1.lt (by decide)) (hF.1.sh (by decide) rfl).1 (Nat.le_of_ble_eq_true rfl)) (by decide) ml369 pp369 (Nat.le_of_ble_eq_true rfl) rfl (by decide) (by decide) ?_
    refine ev_iload_n rfl ?_
    rcases (show (xs 1) = 3 by omega) with c8
    · refine ev_sw (t := 55) (by rw [c8]; decide) f369_55 ?_
      refine ev_aload_n rfl ?_
      refine ev_getf (r := 42) (v := 0) (hF.1.lt (by decide)) (hF.1.fam (by decide) (by decide)) ft12_28 ((hF.v rfl)) ?_
      refine ev_ret rfl (by decide) (by decide) ?_
      show jEv _ _ _ _ _ _ _ (_, [(2, (-2)), (2, 0), (2, 42), (0, 0)], [(0, 0), (0, 0)], _, _, _)
      refine ev_icmpeq f384_2190 (fun c9 => ?_) (fun c9 => absurd c9 (by omega))
      exact law_tail _
  · refine ev_sw (t := 66) (by rw [c1]; decide) f218_66 ?_
    refine ev_aload_n rfl ?_
    refine ev_getf (r := 0) (v := 0) (hF.1.lt (by decide)) (hF.1.fam (by decide) (by decide)) ft11_9 ((hF.v rfl)) ?_
    refine ev_ret rfl (by decide) (by decide) ?_
    show jEv _ _ _ _ _ _ _ (_, [(2, (-2)), (2, 0), (2, 42), (0, 0)], [(0, 0)], _, _, _)
    refine ev_aload_n rfl ?_
    refine ev_aload_n rfl ?_
    refine ev_iload_n rfl ?_
    refine ev_iconst ?_
    refine ev_iadd (r := 1) (by decide) ?_
    refine ev_sald (j := 1) (v := (xs 1)) rfl rfl rfl ?_
    refine ev_in (d := 7) (a := 0) (b := 0) (cd' := c369_0) (m := 2) (L0 := [(2, 42), (0, (xs 1))]) (jcall_v (A := [(0, (xs 1))]) (S' := [(0, 0)]) (r := 42) rfl (hF.1.lt (by decide)) (hF.1.sh (by decide) rfl).1 (Nat.le_of_ble_eq_true rfl)) (by decide) ml369 pp369 (Nat.le_of_ble_eq_true rfl) rfl (by decide) (by decide) ?_
    refine ev_iload_n rfl ?_
    rcases (show (xs 1) = 4 by omega) with c10
    · refine ev_sw (t := 60) (by rw [c10]; decide) f369_60 ?_
      refine ev_aload_n rfl ?_
      refine ev_getf (r := 42) (v := 0) (hF.1.lt (by decide)) (hF.1.fam (by decide) (by decide)) ft12_22 ((hF.v rfl)) ?_
      refine ev_ret rfl (by decide) (by decide) ?_
      show jEv _ _ _ _ _ _ _ (_, [(2, (-2)), (2, 0), (2, 42), (0, 0)], [(0, 0), (0, 0)], _, _, _)
      refine ev_icmpeq f384_2190 (fun c11 => ?_) (fun c11 => absurd c11 (by omega))
      exact law_tail _
  · refine ev_sw (t := 71) (by rw [c1]; decide) f218_71 ?_
    refine ev_aload_n rfl ?_
    refine ev_getf (r := 0) (v := 19) (hF.1.lt (by decide)) (hF.1.fam (by decide) (by decide)) ft11_4 ((hF.v rfl)) ?_
    refine ev_getf (r := 19) (v := 0) (hF.1.lt (by decide)) (hF.1.fam (by decide) (by decide)) ft7_5 ((hF.v rfl)) ?_
    refine ev_ret rfl (by decide) (by decide) ?_
    show jEv _ _ _ _ _ _ _ (_, [(2, (-2)), (2, 0), (2, 42), (0, 0)], [(0, 0)], _, _, _)
    refine ev_aload_n rfl ?_
    refine ev_aload_n rfl ?_
    refine ev_iload_n rfl ?_
    refine ev_iconst ?_
    refine ev_iadd (r := 1) (by decide) ?_
    refine ev_sald (j := 1) (v := (xs 1)) rfl rfl rfl ?_
    refine ev_in (d := 7) (a := 0) (b := 0) (cd' := c369_0) (m := 2) (L0 := [(2, 42), (0, (xs 1))]) (jcall_v (A := [(0, (xs 1))]) (S' := [(0, 0)]) (r := 42) rfl (hF.1.lt (by decide)) (hF.1.sh (by decide) rfl).1 (Nat.le_of_ble_eq_true rfl)) (by decide) ml369 pp369 (Nat.le_of_ble_eq_true rfl) rfl (by decide) (by decide) ?_
    refine ev_iload_n rfl ?_
    rcases (show (xs 1) = 5 by omega) with c12
    · refine ev_sw (t := 65) (by rw [c12]; decide) f369_65 ?_
      refine ev_aload_n rfl ?_
      refine ev_getf (r := 42) (v := 0) (hF.1.lt (by decide)) (hF.1.fam (by decide) (by decide)) ft12_60 ((hF.v rfl)) ?_
      refine ev_ret rfl (by decide) (by decide) ?_
      show jEv _ _ _ _ _ _ _ (_, [(2, (-2)), (2, 0), (2, 42), (0, 0)], [(0, 0), (0, 0)], _, _, _)
      refine ev_icmpeq f384_2190 (fun c13 => ?_) (fun c13 => absurd c13 (by omega))
      exact law_tail _
  · refine ev_sw (t := 79) (by rw [if_pos (show _ ∨ _ by omega)]; rfl) f218_79 ?_
    refine ev_iconst ?_
    refine ev_ret rfl (by decide) (by decide) ?_
    show jEv _ _ _ _ _ _ _ (_, [(2, (-2)), (2, 0), (2, 42), (0, 0)], [(0, (-1))], _, _, _)
    refine ev_aload_n rfl ?_
    refine ev_aload_n rfl ?_
    refine ev_iload_n rfl ?_
    refine ev_iconst ?_
    refine ev_iadd (r := 1) (by decide) ?_
    refine ev_sald (j := 1) (v := (xs 1)) rfl rfl rfl ?_
    refine ev_in (d := 7) (a := 0) (b := 0) (cd' := c369_0) (m := 2) (L0 := [(2, 42), (0, (xs 1))]) (jcall_v (A := [(0, (xs 1))]) (S' := [(0, (-1))]) (r := 42) rfl (hF.1.lt (by decide)) (hF.1.sh (by decide) rfl).1 (Nat.le_of_ble_eq_true rfl)) (by decide) ml369 pp369 (Nat.le_of_ble_eq_true rfl) rfl (by decide) (by decide) ?_
    refine ev_iload_n rfl ?_
    rcases (show (xs 1) < 0 by omega) with c14
    · refine ev_sw (t := 70) (by rw [if_pos (show _ ∨ _ by omega)]; rfl) f369_70 ?_
      refine ev_iconst ?_
      refine ev_ret rfl (by decide) (by decide) ?_
      show jEv _ _ _ _ _ _ _ (_, [(2, (-2)), (2, 0), (2, 42), (0, 0)], [(0, (-1)), (0, (-1))], _, _, _)
      refine ev_icmpeq f384_2190 (fun c15 => ?_) (fun c15 => absurd c15 (by omega))
      exact law_tail _
  · refine ev_sw (t := 79) (by rw [if_pos (show _ ∨ _ by omega)]; rfl) f218_79 ?_
    refine ev_iconst ?_
    refine ev_ret rfl (by decide) (by decide) ?_
    show jEv _ _ _ _ _ _ _ (_, [(2, (-2)), (2, 0), (2, 42), (0, 0)], [(0, (-1))], _, _, _)
    refine ev_aload_n rfl ?_
    refine ev_aload_n rfl ?_
    refine ev_iload_n rfl ?_
    refine ev_iconst ?_
    refine ev_iadd (r := 1) (by decide) ?_
    refine ev_sald (j := 1) (v := (xs 1)) rfl rfl rfl ?_
    refine ev_in (d := 7) (a := 0) (b := 0) (cd' := c369_0) (m := 2) (L0 := [(2, 42), (0, (xs 1))]) (jcall_v (A := [(0, (xs 1))]) (S' := [(0, (-1))]) (r := 42) rfl (hF.1.lt (by decide)) (hF.1.sh (by decide) rfl).1 (Nat.le_of_ble_eq_true rfl)) (by decide) ml369 pp369 (Nat.le_of_ble_eq_true rfl) rfl (by decide) (by decide) ?_
    refine ev_iload_n rfl ?_
    rcases (show 5 < (xs 1) by omega) with c16
    · refine ev_sw (t := 70) (by rw [if_pos (show _ ∨ _ by omega)]; rfl) f369_70 ?_
      refine ev_iconst ?_
      refine ev_ret rfl (by decide) (by decide) ?_
      show jEv _ _ _ _ _ _ _ (_, [(2, (-2)), (2, 0), (2, 42), (0, 0)], [(0, (-1)), (0, (-1))], _, _, _)
      refine ev_icmpeq f384_2190 (fun c17 => ?_) (fun c17 => absurd c17 (by omega))
      exact law_tail _
