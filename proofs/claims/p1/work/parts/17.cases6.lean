/-! holds -/
set_option maxHeartbeats 4000000 in
theorem case_36 {xs : Nat → Int} (hr : ∀ j, -2147483648 ≤ xs j ∧ xs j < 2147483648) {h : JH} (hF : Fresh h) : jEv (jOk 8) (some 6) xs c384_0 600000 7302250 (fun v _ => v = some (0, 1)) (c384_1527, [(2, -2), (2, 0), (2, 42), (0, 0)], [], h, 83, 23761) := by
  have r1 := hr 1
  have r2 := hr 2
  have r3 := hr 3
  have r4 := hr 4
  have r5 := hr 5
  refine ev_aload_n rfl ?_
  refine ev_aload_n rfl ?_
  refine ev_iload_n rfl ?_
  refine ev_iconst ?_
  refine ev_iadd (r := 1) (by decide) ?_
  refine ev_sald (j := 1) (v := (xs 1)) rfl rfl rfl ?_
  refine ev_aload_n rfl ?_
  refine ev_iload_n rfl ?_
  refine ev_iconst ?_
  refine ev_iadd (r := 2) (by decide) ?_
  refine ev_sald (j := 2) (v := (xs 2)) rfl rfl rfl ?_
  refine ev_in (d := 7) (a := 0) (b := 0) (cd' := c202_0) (m := 3) (L0 := [(2, 0), (0, (xs 1)), (0, (xs 2))]) (jcall_v (A := [(0, (xs 2)), (0, (xs 1))]) (S' := []) (r := 0) rfl (hF.1.lt (by decide)) (hF.1.sh (by decide) rfl).1 (Nat.le_of_ble_eq_true rfl)) (by decide) ml202 pp202 (Nat.le_of_ble_eq_true rfl) rfl (by decide) (by decide) ?_
  refine ev_iload_n rfl ?_
  refine ev_iflt f202_19 (fun c1 => ?_) (fun c1 => ?_)
  · refine ev_iconst ?_
    refine ev_goto f202_32 ?_
    refine ev_ret rfl (by decide) (by decide) ?_
    show jEv _ _ _ _ _ _ _ (_, [(2, (-2)), (2, 0), (2, 42), (0, 0)], [(0, (-1))], _, _, _)
    refine ev_aload_n rfl ?_
    refine ev_aload_n rfl ?_
    refine ev_iload_n rfl ?_
    refine ev_iconst ?_
    refine ev_iadd (r := 1) (by decide) ?_
    refine ev_sald (j := 1) (v := (xs 1)) rfl rfl rfl ?_
    refine ev_aload_n rfl ?_
    refine ev_iload_n rfl ?_
    refine ev_iconst ?_
    refine ev_iadd (r := 2) (by decide) ?_
    refine ev_sald (j := 2) (v := (xs 2)) rfl rfl rfl ?_
    refine ev_in (d := 7) (a := 0) (b := 0) (cd' := c345_0) (m := 6) (L0 := [(2, 42), (0, (xs 1)), (0, (xs 2)), (9, 0), (9, 0), (9, 0)]) (jcall_v (A := [(0, (xs 2)), (0, (xs 1))]) (S' := [(0, (-1))]) (r := 42) rfl (hF.1.lt (by decide)) (hF.1.sh (by decide) rfl).1 (Nat.le_of_ble_eq_true rfl)) (by decide) ml345 pp345 (Nat.le_of_ble_eq_true rfl) rfl (by decide) (by decide) ?_
    refine ev_iload_n rfl ?_
    refine ev_iconst ?_
    refine ev_bipush ?_
    refine ev_in (d := 6) (a := 0) (b := 0) (cd' := c242_0) (m := 3) (L0 := [(0, (xs 1)), (0, 0), (0, 99)]) (jcall_s (A := [(0, 99), (0, 0), (0, (xs 1))]) (S' := []) (by decide) rfl (Nat.le_of_ble_eq_true rfl)) (by decide) ml242 pp242 (Nat.le_of_ble_eq_true rfl) rfl (by decide) (by decide) ?_
    refine ev_iload_n rfl ?_
    refine ev_iload_n rfl ?_
    refine ev_icmplt f242_14 (fun c2 => ?_) (fun c2 => absurd c2 (by omega))
    refine ev_iconst ?_
    refine ev_ret rfl (by decide) (by decide) ?_
    show jEv _ _ _ _ _ _ _ (_, [(2, 42), (0, (xs 1)), (0, (xs 2)), (9, 0), (9, 0), (9, 0)], [(0, 0)], _, _, _)
    refine ev_ifeq f345_19 (fun c3 => ?_) (fun c3 => absurd c3 (by omega))
    refine ev_iconst ?_
    refine ev_ret rfl (by decide) (by decide) ?_
    show jEv _ _ _ _ _ _ _ (_, [(2, (-2)), (2, 0), (2, 42), (0, 0)], [(0, (-1)), (0, (-1))], _, _, _)
    refine ev_icmpeq f384_2190 (fun c4 => ?_) (fun c4 => absurd c4 (by omega))
    exact law_tail _
  · refine ev_iload_n rfl ?_
    refine ev_bipush ?_
    refine ev_icmpgt f202_19 (fun c5 => ?_) (fun c5 => ?_)
    · refine ev_iconst ?_
      refine ev_goto f202_32 ?_
      refine ev_ret rfl (by decide) (by decide) ?_
      show jEv _ _ _ _ _ _ _ (_, [(2, (-2)), (2, 0), (2, 42), (0, 0)], [(0, (-1))], _, _, _)
      refine ev_aload_n rfl ?_
      refine ev_aload_n rfl ?_
      refine ev_iload_n rfl ?_
      refine ev_iconst ?_
      refine ev_iadd (r := 1) (by decide) ?_
      refine ev_sald (j := 1) (v := (xs 1)) rfl rfl rfl ?_
      refine ev_aload_n rfl ?_
      refine ev_iload_n rfl ?_
      refine ev_iconst ?_
      refine ev_iadd (r := 2) (by decide) ?_
      refine ev_sald (j := 2) (v := (xs 2)) rfl rfl rfl ?_
      refine ev_in (d := 7) (a := 0) (b := 0) (cd' := c345_0) (m := 6) (L0 := [(2, 42), (0, (xs 1)), (0, (xs 2)), (9, 0), (9, 0), (9, 0)]) (jcall_v (A := [(0, (xs 2)), (0, (xs 1))]) (S' := [(0, (-1))]) (r := 42) rfl (hF.1.lt (by decide)) (hF.1.sh (by decide) rfl).1 (Nat.le_of_ble_eq_true rfl)) (by decide) ml345 pp345 (Nat.le_of_ble_eq_true rfl) rfl (by decide) (by decide) ?_
      refine ev_iload_n rfl ?_
      refine ev_iconst ?_
      refine ev_bipush ?_
      refine ev_in (d := 6) (a := 0) (b := 0) (cd' := c242_0) (m := 3) (L0 := [(0, (xs 1)), (0, 0), (0, 99)]) (jcall_s (A := [(0, 99), (0, 0), (0, (xs 1))]) (S' := []) (by decide) rfl (Nat.le_of_ble_eq_true rfl)) (by decide) ml242 pp242 (Nat.le_of_ble_eq_true rfl) rfl (by decide) (by decide) ?_
      refine ev_iload_n rfl ?_
      refine ev_iload_n rfl ?_
      refine ev_icmplt f242_14 (fun c6 => absurd c6 (by omega)) (fun c6 => ?_)
      refine ev_iload_n rfl ?_
      refine ev_iload_n rfl ?_
      refine ev_icmpgt f242_14 (fun c7 => ?_) (fun c7 => absurd c7 (by omega))
      refine ev_iconst ?_
      refine ev_ret rfl (by decide) (by decide) ?_
      show jEv _ _ _ _ _ _ _ (_, [(2, 42), (0, (xs 1)), (0, (xs 2)), (9, 0), (9, 0), (9, 0)], [(0, 0)], _, _, _)
      refine ev_ifeq f345_19 (fun c8 => ?_) (fun c8 => absurd c8 (by omega))
      refine ev_iconst ?_
      refine ev_ret rfl (by decide) (by decide) ?_
      show jEv _ _ _ _ _ _ _ (_, [(2, (-2)), (2, 0), (2, 42), (0, 0)], [(0, (-1)), (0, (-1))], _, _, _)
      refine ev_icmpeq f384_2190 (fun c9 => ?_) (fun c9 => absurd c9 (by omega))
      exact law_tail _
    · refine ev_iload_n rfl ?_
      refine ev_iflt f202_19 (fun c10 => ?_) (fun c10 => ?_)
      · refine ev_iconst ?_
        refine ev_goto f202_32 ?_
        refine ev_ret rfl (by decide) (by decide) ?_
        show jEv _ _ _ _ _ _ _ (_, [(2, (-2)), (2, 0), (2, 42), (0, 0)], [(0, (-1))], _, _, _)
        refine ev_aload_n rfl ?_
        refine ev_aload_n rfl ?_
        refine ev_iload_n rfl ?_
        refine ev_iconst ?_
        refine ev_iadd (r := 1) (by decide) ?_
        refine ev_sald (j := 1) (v := (xs 1)) rfl rfl rfl ?_
        refine ev_aload_n rfl ?_
        refine ev_iload_n rfl ?_
        refine ev_iconst ?_
        refine ev_iadd (r := 2) (by decide) ?_
        refine ev_sald (j := 2) (v := (xs 2)) rfl rfl rfl ?_
        refine ev_in (d := 7) (a := 0) (b := 0) (cd' := c345_0) (m := 6) (L0 := [(2, 42), (0, (xs 1)), (0, (xs 2)), (9, 0), (9, 0), (9, 0)]) (jcall_v (A := [(0, (xs 2)), (0, (xs 1))]) (S' := [(0, (-1))]) (r := 42) rfl (hF.1.lt (by decide)) (hF.1.sh (by decide) rfl).1 (Nat.le_of_ble_eq_true rfl)) (by decide) ml345 pp345 (Nat.le_of_ble_eq_true rfl) rfl (by decide) (by decide) ?_
        refine ev_iload_n rfl ?_
        refine ev_iconst ?_
        refine ev_bipush ?_
        refine ev_in (d := 6) (a := 0) (b := 0) (cd' := c242_0) (m := 3) (L0 := [(0, (xs 1)), (0, 0), (0, 99)]) (jcall_s (A := [(0, 99), (0, 0), (0, (xs 1))]) (S' := []) (by decide) rfl (Nat.le_of_ble_eq_true rfl)) (by decide) ml242 pp242 (Nat.le_of_ble_eq_true rfl) rfl (by decide) (by decide) ?_
        refine ev_iload_n rfl ?_
        refine ev_iload_n rfl ?_
        refine ev_icmplt f242_14 (fun c11 => absurd c11 (by omega)) (fun c11 => ?_)
        refine ev_iload_n rfl ?_
        refine ev_iload_n rfl ?_
        refine ev_icmpgt f242_14 (fun c12 => absurd c12 (by omega)) (fun c12 => ?_)
        refine ev_iconst ?_
        refine ev_goto f242_15 ?_
        refine ev_ret rfl (by decide) (by decide) ?_
        show jEv _ _ _ _ _ _ _ (_, [(2, 42), (0, (xs 1)), (0, (xs 2)), (9, 0), (9, 0), (9, 0)], [(0, 1)], _, _, _)
        refine ev_ifeq f345_19 (fun c13 => absurd c13 (by omega)) (fun c13 => ?_)
        refine ev_iload_n rfl ?_
        refine ev_iconst ?_
        refine ev_iconst ?_
        refine ev_in (d := 6) (a := 0) (b := 0) (cd' := c242_0) (m := 3) (L0 := [(0, (xs 2)), (0, 0), (0, 2)]) (jcall_s (A := [(0, 2), (0, 0), (0, (xs 2))]) (S' := []) (by decide) rfl (Nat.le_of_ble_eq_true rfl)) (by decide) ml242 pp242 (Nat.le_of_ble_eq_true rfl) rfl (by decide) (by decide) ?_
        refine ev_iload_n rfl ?_
        refine ev_iload_n rfl ?_
        refine ev_icmplt f242_14 (fun c14 => ?_) (fun c14 => absurd c14 (by omega))
        refine ev_iconst ?_
        refine ev_ret rfl (by decide) (by decide) ?_
        show jEv _ _ _ _ _ _ _ (_, [(2, 42), (0, (xs 1)), (0, (xs 2)), (9, 0), (9, 0), (9, 0)], [(0, 0)], _, _, _)
        refine ev_ifne f345_21 (fun c15 => absurd c15 (by omega)) (fun c15 => ?_)
        refine ev_iconst ?_
        refine ev_ret rfl (by decide) (by decide) ?_
        show jEv _ _ _ _ _ _ _ (_, [(2, (-2)), (2, 0), (2, 42), (0, 0)], [(0, (-1)), (0, (-1))], _, _, _)
        refine ev_icmpeq f384_2190 (fun c16 => ?_) (fun c16 => absurd c16 (by omega))
        exact law_tail _
      · refine ev_iload_n rfl ?_
        refine ev_iconst ?_
        refine ev_icmple f202_23 (fun c17 => ?_) (fun c17 => ?_)
        · refine ev_aload_n rfl ?_
          refine ev_getf (r := 0) (v := 26) (hF.1.lt (by decide)) (hF.1.fam (by decide) (by decide)) ft11_11 ((hF.v rfl)) ?_
          refine ev_iload_n rfl ?_
          refine ev_iload_n rfl ?_
          refine ev_in (d := 6) (a := 0) (b := 0) (cd' := c122_0) (m := 6) (L0 := [(2, 26), (0, (xs 1)), (0, (xs 2)), (9, 0), (9, 0), (9, 0)]) (jcall_v (A := [(0, (xs 2)), (0, (xs 1))]) (S' := []) (r := 26) rfl (hF.1.lt (by decide)) (hF.1.sh (by decide) rfl).1 (Nat.le_of_ble_eq_true rfl)) (by decide) ml122 pp122 (Nat.le_of_ble_eq_true rfl) rfl (by decide) (by decide) ?_
          refine ev_aload_n rfl ?_
          refine ev_getf (r := 26) (v := 0) (hF.1.lt (by decide)) (hF.1.fam (by decide) (by decide)) ft9_3 ((hF.v rfl)) ?_
          refine ev_ifeq f122_14 (fun c18 => ?_) (fun c18 => absurd c18 (by omega))
          refine ev_bipush ?_
          refine ev_ret rfl (by decide) (by decide) ?_
          show jEv _ _ _ _ _ _ _ (_, [(2, 0), (0, (xs 1)), (0, (xs 2))], [(0, (-5))], _, _, _)
          refine ev_ret rfl (by decide) (by decide) ?_
          show jEv _ _ _ _ _ _ _ (_, [(2, (-2)), (2, 0), (2, 42), (0, 0)], [(0, (-5))], _, _, _)
          refine ev_aload_n rfl ?_
          refine ev_aload_n rfl ?_
          refine ev_iload_n rfl ?_
          refine ev_iconst ?_
          refine ev_iadd (r := 1) (by decide) ?_
          refine ev_sald (j := 1) (v := (xs 1)) rfl rfl rfl ?_
          refine ev_aload_n rfl ?_
          refine ev_iload_n rfl ?_
          refine ev_iconst ?_
          refine ev_iadd (r := 2) (by decide) ?_
          refine ev_sald (j := 2) (v := (xs 2)) rfl rfl rfl ?_
          refine ev_in (d := 7) (a := 0) (b := 0) (cd' := c345_0) (m := 6) (L0 := [(2, 42), (0, (xs 1)), (0, (xs 2)), (9, 0), (9, 0), (9, 0)]) (jcall_v (A := [(0, (xs 2)), (0, (xs 1))]) (S' := [(0, (-5))]) (r := 42) rfl (hF.1.lt (by decide)) (hF.1.sh (by decide) rfl).1 (Nat.le_of_ble_eq_true rfl)) (by decide) ml345 pp345 (Nat.le_of_ble_eq_true rfl) rfl (by decide) (by decide) ?_
          refine ev_iload_n rfl ?_
          refine ev_iconst ?_
          refine ev_bipush ?_
          refine ev_in (d := 6) (a := 0) (b := 0) (cd' := c242_0) (m := 3) (L0 := [(0, (xs 1)), (0, 0), (0, 99)]) (jcall_s (A := [(0, 99), (0, 0), (0, (xs 1))]) (S' := []) (by decide) rfl (Nat.le_of_ble_eq_true rfl)) (by decide) ml242 pp242 (Nat.le_of_ble_eq_true rfl) rfl (by decide) (by decide) ?_
          refine ev_iload_n rfl ?_
          refine ev_iload_n rfl ?_
          refine ev_icmplt f242_14 (fun c19 => absurd c19 (by omega)) (fun c19 => ?_)
          refine ev_iload_n rfl ?_
          refine ev_iload_n rfl ?_
          refine ev_icmpgt f242_14 (fun c20 => absurd c20 (by omega)) (fun c20 => ?_)
          refine ev_iconst ?_
          refine ev_goto f242_15 ?_
          refine ev_ret rfl (by decide) (by decide) ?_
          show jEv _ _ _ _ _ _ _ (_, [(2, 42), (0, (xs 1)), (0, (xs 2)), (9, 0), (9, 0), (9, 0)], [(0, 1)], _, _, _)
          refine ev_ifeq f345_19 (fun c21 => absurd c21 (by omega)) (fun c21 => ?_)
          refine ev_iload_n rfl ?_
          refine ev_iconst ?_
          refine ev_iconst ?_
          refine ev_in (d := 6) (a := 0) (b := 0) (cd' := c242_0) (m := 3) (L0 := [(0, (xs 2)), (0, 0), (0, 2)]) (jcall_s (A := [(0, 2), (0, 0), (0, (xs 2))]) (S' := []) (by decide) rfl (Nat.le_of_ble_eq_true rfl)) (by decide) ml242 pp242 (Nat.le_of_ble_eq_true rfl) rfl (by decide) (by decide) ?_
          refine ev_iload_n rfl ?_
          refine ev_iload_n rfl ?_
          refine ev_icmplt f242_14 (fun c22 => absurd c22 (by omega)) (fun c22 => ?_)
          refine ev_iload_n rfl ?_
          refine ev_iload_n rfl ?_
          refine ev_icmpgt f242_14 (fun c23 => absurd c23 (by omega)) (fun c23 => ?_)
          refine ev_iconst ?_
          refine ev_goto f242_15 ?_
          refine ev_ret rfl (by decide) (by decide) ?_
          show jEv _ _ _ _ _ _ _ (_, [(2, 42), (0, (xs 1)), (0, (xs 2)), (9, 0), (9, 0), (9, 0)], [(0, 1)], _, _, _)
          refine ev_ifne f345_21 (fun c24 => ?_) (fun c24 => absurd c24 (by omega))
          refine ev_aload_n rfl ?_
          refine ev_getf (r := 42) (v := 0) (hF.1.lt (by decide)) (hF.1.fam (by decide) (by decide)) ft12_47 ((hF.v rfl)) ?_
          refine ev_ifeq f345_35 (fun c25 => ?_) (fun c25 => absurd c25 (by omega))
          refine ev_bipush ?_
          refine ev_ret rfl (by decide) (by decide) ?_
          show jEv _ _ _ _ _ _ _ (_, [(2, (-2)), (2, 0), (2, 42), (0, 0)], [(0, (-5)), (0, (-5))], _, _, _)
          refine ev_icmpeq f384_2190 (fun c26 => ?_) (fun c26 => absurd c26 (by omega))
          exact law_tail _
        · refine ev_iconst ?_
          refine ev_goto f202_32 ?_
          refine ev_ret rfl (by decide) (by decide) ?_
          show jEv _ _ _ _ _ _ _ (_, [(2, (-2)), (2, 0), (2, 42), (0, 0)], [(0, (-1))], _, _, _)
          refine ev_aload_n rfl ?_
          refine ev_aload_n rfl ?_
          refine ev_iload_n rfl ?_
          refine ev_iconst ?_
          refine ev_iadd (r := 1) (by decide) ?_
          refine ev_sald (j := 1) (v := (xs 1)) rfl rfl rfl ?_
          refine ev_aload_n rfl ?_
          refine ev_iload_n rfl ?_
          refine ev_iconst ?_
          refine ev_iadd (r := 2) (by decide) ?_
          refine ev_sald (j := 2) (v := (xs 2)) rfl rfl rfl ?_
          refine ev_in (d := 7) (a := 0) (b := 0) (cd' := c345_0) (m := 6) (L0 := [(2, 42), (0, (xs 1)), (0, (xs 2)), (9, 0), (9, 0), (9, 0)]) (jcall_v (A := [(0, (xs 2)), (0, (xs 1))]) (S' := [(0, (-1))]) (r := 42) rfl (hF.1.lt (by decide)) (hF.1.sh (by decide) rfl).1 (Nat.le_of_ble_eq_true rfl)) (by decide) ml345 pp345 (Nat.le_of_ble_eq_true rfl) rfl (by decide) (by decide) ?_
          refine ev_iload_n rfl ?_
          refine ev_iconst ?_
          refine ev_bipush ?_
          refine ev_in (d := 6) (a := 0) (b := 0) (cd' := c242_0) (m := 3) (L0 := [(0, (xs 1)), (0, 0), (0, 99)]) (jcall_s (A := [(0, 99), (0, 0), (0, (xs 1))]) (S' := []) (by decide) rfl (Nat.le_of_ble_eq_true rfl)) (by decide) ml242 pp242 (Nat.le_of_ble_eq_true rfl) rfl (by decide) (by decide) ?_
          refine ev_iload_n rfl ?_
          refine ev_iload_n rfl ?_
          refine ev_icmplt f242_14 (fun c27 => absurd c27 (by omega)) (fun c27 => ?_)
          refine ev_iload_n rfl ?_
          refine ev_iload_n rfl ?_
          refine ev_icmpgt f242_14 (fun c28 => absurd c28 (by omega)) (fun c28 => ?_)
          refine ev_iconst ?_
          refine ev_goto f242_15 ?_
          refine ev_ret rfl (by decide) (by decide) ?_
          show jEv _ _ _ _ _ _ _ (_, [(2, 42), (0, (xs 1)), (0, (xs 2)), (9, 0), (9, 0), (9, 0)], [(0, 1)], _, _, _)
          refine ev_ifeq f345_19 (fun c29 => absurd c29 (by omega)) (fun c29 => ?_)
          refine ev_iload_n rfl ?_
          refine ev_iconst ?_
          refine ev_iconst ?_
          refine ev_in (d := 6) (a := 0) (b := 0) (cd' := c242_0) (m := 3) (L0 := [(0, (xs 2)), (0, 0), (0, 2)]) (jcall_s (A := [(0, 2), (0, 0), (0, (xs 2))]) (S' := []) (by decide) rfl (Nat.le_of_ble_eq_true rfl)) (by decide) ml242 pp242 (Nat.le_of_ble_eq_true rfl) rfl (by decide) (by decide) ?_
          refine ev_iload_n rfl ?_
          refine ev_iload_n rfl ?_
          refine ev_icmplt f242_14 (fun c30 => absurd c30 (by omega)) (fun c30 => ?_)
          refine ev_iload_n rfl ?_
          refine ev_iload_n rfl ?_
          refine ev_icmpgt f242_14 (fun c31 => ?_) (fun c31 => absurd c31 (by omega))
          refine ev_iconst ?_
          refine ev_ret rfl (by decide) (by decide) ?_
          show jEv _ _ _ _ _ _ _ (_, [(2, 42), (0, (xs 1)), (0, (xs 2)), (9, 0), (9, 0), (9, 0)], [(0, 0)], _, _, _)
          refine ev_ifne f345_21 (fun c32 => absurd c32 (by omega)) (fun c32 => ?_)
          refine ev_iconst ?_
          refine ev_ret rfl (by decide) (by decide) ?_
          show jEv _ _ _ _ _ _ _ (_, [(2, (-2)), (2, 0), (2, 42), (0, 0)], [(0, (-1)), (0, (-1))], _, _, _)
          refine ev_icmpeq f384_2190 (fun c33 => ?_) (fun c33 => absurd c33 (by omega))
          exact law_tail _

/-! clear -/
set_option maxHeartbeats 4000000 in
theorem case_37 {xs : Nat → Int} (hr : ∀ j, -2147483648 ≤ xs j ∧ xs j < 2147483648) {h : JH} (hF : Fresh h) : jEv (jOk 8) (some 6) xs c384_0 600000 7302250 (fun v _ => v = some (0, 1)) (c384_1560, [(2, -2), (2, 0), (2, 42), (0, 0)], [], h, 83, 23761) := by
  have r1 := hr 1
  have r2 := hr 2
  have r3 := hr 3
  have r4 := hr 4
  have r5 := hr 5
  refine ev_aload_n rfl ?_
  refine ev_in (d := 7) (a := 0) (b := 0) (cd' := c203_0) (m := 1) (L0 := [(2, 0)]) (jcall_v (A := []) (S' := []) (r := 0) rfl (hF.1.lt (by decide)) (hF.1.sh (by decide) rfl).1 (Nat.le_of_ble_eq_true rfl)) (by decide) ml203 pp203 (Nat.le_of_ble_eq_true rfl) rfl (by decide) (by decide) ?_
  refine ev_aload_n rfl ?_
  refine ev_getf (r := 0) (v := 26) (hF.1.lt (by decide)) (hF.1.fam (by decide) (by decide)) ft11_11 ((hF.v rfl)) ?_
  refine ev_in (d := 6) (a := 0) (b := 0) (cd' := c121_0) (m := 2) (L0 := [(2, 26), (9, 0)]) (jcall_v (A := []) (S' := []) (r := 26) rfl (hF.1.lt (by decide)) (hF.1.sh (by decide) rfl).1 (Nat.le_of_ble_eq_true rfl)) (by decide) ml121 pp121 (Nat.le_of_ble_eq_true rfl) rfl (by decide) (by decide) ?_
  refine ev_aload_n rfl ?_
  refine ev_getf (r := 26) (v := 0) (hF.1.lt (by decide)) (hF.1.fam (by decide) (by decide)) ft9_3 ((hF.v rfl)) ?_
  refine ev_istore_n (L' := [(2, 26), (0, 0)]) (Nat.le_of_ble_eq_true rfl) rfl ?_
  refine ev_aload_n rfl ?_
  refine ev_iconst ?_
  refine ev_putfG (r := 26) (hF.1.lt (by decide)) (hF.1.fam (by decide) (by decide)) ft9_3 (fun e => absurd e nz9_3) (fun e => absurd e (by decide)) (fun h194 e194 => ?_)
  have hS194 := hF.1.wr e194
  refine ev_aload_n rfl ?_
  refine ev_iconst ?_
  refine ev_putfG (r := 26) (hS194.lt (by decide)) (hS194.fam (by decide) (by decide)) ft9_7 (fun e => absurd e nz9_7) (fun e => absurd e (by decide)) (fun h195 e195 => ?_)
  have hS195 := hS194.wr e195
  refine ev_iload_n rfl ?_
  refine ev_ret rfl (by decide) (by decide) ?_
  show jEv _ _ _ _ _ _ _ (_, [(2, 0)], [(0, 0)], _, _, _)
  refine ev_ret rfl (by decide) (by decide) ?_
  show jEv _ _ _ _ _ _ _ (_, [(2, (-2)), (2, 0), (2, 42), (0, 0)], [(0, 0)], _, _, _)
  refine ev_aload_n rfl ?_
  refine ev_in (d := 7) (a := 0) (b := 0) (cd' := c346_0) (m := 2) (L0 := [(2, 42), (9, 0)]) (jcall_v (A := []) (S' := [(0, 0)]) (r := 42) rfl (hS195.lt (by decide)) (hS195.sh (by decide) rfl).1 (Nat.le_of_ble_eq_true rfl)) (by decide) ml346 pp346 (Nat.le_of_ble_eq_true rfl) rfl (by decide) (by decide) ?_
  refine ev_aload_n rfl ?_
  refine ev_getf (r := 42) (v := 0) (hS195.lt (by decide)) (hS195.fam (by decide) (by decide)) ft12_47 ((jw_ne e195 (Or.inl (by decide))).trans ((jw_ne e194 (Or.inl (by decide))).trans ((hF.v rfl)))) ?_
  refine ev_istore_n (L' := [(2, 42), (0, 0)]) (Nat.le_of_ble_eq_true rfl) rfl ?_
  refine ev_aload_n rfl ?_
  refine ev_iconst ?_
  refine ev_putfG (r := 42) (hS195.lt (by decide)) (hS195.fam (by decide) (by decide)) ft12_47 (fun e => absurd e nz12_47) (fun e => absurd e (by decide)) (fun h196 e196 => ?_)
  have hS196 := hS195.wr e196
  refine ev_aload_n rfl ?_
  refine ev_iconst ?_
  refine ev_putfG (r := 42) (hS196.lt (by decide)) (hS196.fam (by decide) (by decide)) ft12_51 (fun e => absurd e nz12_51) (fun e => absurd e (by decide)) (fun h197 e197 => ?_)
  have hS197 := hS196.wr e197
  refine ev_iload_n rfl ?_
  refine ev_ret rfl (by decide) (by decide) ?_
  show jEv _ _ _ _ _ _ _ (_, [(2, (-2)), (2, 0), (2, 42), (0, 0)], [(0, 0), (0, 0)], _, _, _)
  refine ev_icmpeq f384_2190 (fun c1 => ?_) (fun c1 => absurd c1 (by omega))
  exact law_tail _

/-! effort -/
set_option maxHeartbeats 4000000 in
theorem case_38 {xs : Nat → Int} (hr : ∀ j, -2147483648 ≤ xs j ∧ xs j < 2147483648) {h : JH} (hF : Fresh h) : jEv (jOk 8) (some 6) xs c384_0 600000 7302250 (fun v _ => v = some (0, 1)) (c384_1573, [(2, -2), (2, 0), (2, 42), (0, 0)], [], h, 83, 23761) := by
  have r1 := hr 1
  have r2 := hr 2
  have r3 := hr 3
  have r4 := hr 4
  have r5 := hr 5
  refine ev_aload_n rfl ?_
  refine ev_aload_n rfl ?_
  refine ev_iload_n rfl ?_
  refine ev_iconst ?_
  refine ev_iadd (r := 1) (by decide) ?_
  refine ev_sald (j := 1) (v := (xs 1)) rfl rfl rfl ?_
  refine ev_aload_n rfl ?_
  refine ev_iload_n rfl ?_
  refine ev_iconst ?_
  refine ev_iadd (r := 2) (by decide) ?_
  refine ev_sald (j := 2) (v := (xs 2)) rfl rfl rfl ?_
  refine ev_in (d := 7) (a := 0) (b := 0) (cd' := c204_0) (m := 3) (L0 := [(2, 0), (0, (xs 1)), (0, (xs 2))]) (jcall_v (A := [(0, (xs 2)), (0, (xs 1))]) (S' := []) (r := 0) rfl (hF.1.lt (by decide)) (hF.1.sh (by decide) rfl).1 (Nat.le_of_ble_eq_true rfl)) (by decide) ml204 pp204 (Nat.le_of_ble_eq_true rfl) rfl (by decide) (by decide) ?_
  refine ev_iload_n rfl ?_
  refine ev_iflt f204_20 (fun c1 => ?_) (fun c1 => ?_)
  · refine ev_iconst ?_
    refine ev_goto f204_33 ?_
    refine ev_ret rfl (by decide) (by decide) ?_
    show jEv _ _ _ _ _ _ _ (_, [(2, (-2)), (2, 0), (2, 42), (0, 0)], [(0, (-1))], _, _, _)
    refine ev_aload_n rfl ?_
    refine ev_aload_n rfl ?_
    refine ev_iload_n rfl ?_
    refine ev_iconst ?_
    refine ev_iadd (r := 1) (by decide) ?_
    refine ev_sald (j := 1) (v := (xs 1)) rfl rfl rfl ?_
    refine ev_aload_n rfl ?_
    refine ev_iload_n rfl ?_
    refine ev_iconst ?_
    refine ev_iadd (r := 2) (by decide) ?_
    refine ev_sald (j := 2) (v := (xs 2)) rfl rfl rfl ?_
    refine ev_in (d := 7) (a := 0) (b := 0) (cd' := c347_0) (m := 3) (L0 := [(2, 42), (0, (xs 1)), (0, (xs 2))]) (jcall_v (A := [(0, (xs 2)), (0, (xs 1))]) (S' := [(0, (-1))]) (r := 42) rfl (hF.1.lt (by decide)) (hF.1.sh (by decide) rfl).1 (Nat.le_of_ble_eq_true rfl)) (by decide) ml347 pp347 (Nat.le_of_ble_eq_true rfl) rfl (by decide) (by decide) ?_
    refine ev_iload_n rfl ?_
    refine ev_iconst ?_
    refine ev_bipush ?_
    refine ev_in (d := 6) (a := 0) (b := 0) (cd' := c242_0) (m := 3) (L0 := [(0, (xs 1)), (0, 0), (0, 99)]) (jcall_s (A := [(0, 99), (0, 0), (0, (xs 1))]) (S' := []) (by decide) rfl (Nat.le_of_ble_eq_true rfl)) (by decide) ml242 pp242 (Nat.le_of_ble_eq_true rfl) rfl (by decide) (by decide) ?_
    refine ev_iload_n rfl ?_
    refine ev_iload_n rfl ?_
    refine ev_icmplt f242_14 (fun c2 => ?_) (fun c2 => absurd c2 (by omega))
    refine ev_iconst ?_
    refine ev_ret rfl (by decide) (by decide) ?_
    show jEv _ _ _ _ _ _ _ (_, [(2, 42), (0, (xs 1)), (0, (xs 2))], [(0, 0)], _, _, _)
    refine ev_ifeq f347_20 (fun c3 => ?_) (fun c3 => absurd c3 (by omega))
    refine ev_iconst ?_
    refine ev_ret rfl (by decide) (by decide) ?_
    show jEv _ _ _ _ _ _ _ (_, [(2, (-2)), (2, 0), (2, 42), (0, 0)], [(0, (-1)), (0, (-1))], _, _, _)
    refine ev_icmpeq f384_2190 (fun c4 => ?_) (fun c4 => absurd c4 (by omega))
    exact law_tail _
  · refine ev_iload_n rfl ?_
    refine ev_bipush ?_
    refine ev_icmpgt f204_20 (fun c5 => ?_) (fun c5 => ?_)
    · refine ev_iconst ?_
      refine ev_goto f204_33 ?_
      refine ev_ret rfl (by decide) (by decide) ?_
      show jEv _ _ _ _ _ _ _ (_, [(2, (-2)), (2, 0), (2, 42), (0, 0)], [(0, (-1))], _, _, _)
      refine ev_aload_n rfl ?_
      refine ev_aload_n rfl ?_
      refine ev_iload_n rfl ?_
      refine ev_iconst ?_
      refine ev_iadd (r := 1) (by decide) ?_
      refine ev_sald (j := 1) (v := (xs 1)) rfl rfl rfl ?_
      refine ev_aload_n rfl ?_
      refine ev_iload_n rfl ?_
      refine ev_iconst ?_
      refine ev_iadd (r := 2) (by decide) ?_
      refine ev_sald (j := 2) (v := (xs 2)) rfl rfl rfl ?_
      refine ev_in (d := 7) (a := 0) (b := 0) (cd' := c347_0) (m := 3) (L0 := [(2, 42), (0, (xs 1)), (0, (xs 2))]) (jcall_v (A := [(0, (xs 2)), (0, (xs 1))]) (S' := [(0, (-1))]) (r := 42) rfl (hF.1.lt (by decide)) (hF.1.sh (by decide) rfl).1 (Nat.le_of_ble_eq_true rfl)) (by decide) ml347 pp347 (Nat.le_of_ble_eq_true rfl) rfl (by decide) (by decide) ?_
      refine ev_iload_n rfl ?_
      refine ev_iconst ?_
      refine ev_bipush ?_
      refine ev_in (d := 6) (a := 0) (b := 0) (cd' := c242_0) (m := 3) (L0 := [(0, (xs 1)), (0, 0), (0, 99)]) (jcall_s (A := [(0, 99), (0, 0), (0, (xs 1))]) (S' := []) (by decide) rfl (Nat.le_of_ble_eq_true rfl)) (by decide) ml242 pp242 (Nat.le_of_ble_eq_true rfl) rfl (by decide) (by decide) ?_
      refine ev_iload_n rfl ?_
      refine ev_iload_n rfl ?_
      refine ev_icmplt f242_14 (fun c6 => absurd c6 (by omega)) (fun c6 => ?_)
      refine ev_iload_n rfl ?_
      refine ev_iload_n rfl ?_
      refine ev_icmpgt f242_14 (fun c7 => ?_) (fun c7 => absurd c7 (by omega))
      refine ev_iconst ?_
      refine ev_ret rfl (by decide) (by decide) ?_
      show jEv _ _ _ _ _ _ _ (_, [(2, 42), (0, (xs 1)), (0, (xs 2))], [(0, 0)], _, _, _)
      refine ev_ifeq f347_20 (fun c8 => ?_) (fun c8 => absurd c8 (by omega))
      refine ev_iconst ?_
      refine ev_ret rfl (by decide) (by decide) ?_
      show jEv _ _ _ _ _ _ _ (_, [(2, (-2)), (2, 0), (2, 42), (0, 0)], [(0, (-1)), (0, (-1))], _, _, _)
      refine ev_icmpeq f384_2190 (fun c9 => ?_) (fun c9 => absurd c9 (by omega))
      exact law_tail _
    · refine ev_iload_n rfl ?_
      refine ev_iflt f204_20 (fun c10 => ?_) (fun c10 => ?_)
      · refine ev_iconst ?_
        refine ev_goto f204_33 ?_
        refine ev_ret rfl (by decide) (by decide) ?_
        show jEv _ _ _ _ _ _ _ (_, [(2, (-2)), (2, 0), (2, 42), (0, 0)], [(0, (-1))], _, _, _)
        refine ev_aload_n rfl ?_
        refine ev_aload_n rfl ?_
        refine ev_iload_n rfl ?_
        refine ev_iconst ?_
        refine ev_iadd (r := 1) (by decide) ?_
        refine ev_sald (j := 1) (v := (xs 1)) rfl rfl rfl ?_
        refine ev_aload_n rfl ?_
        refine ev_iload_n rfl ?_
        refine ev_iconst ?_
        refine ev_iadd (r := 2) (by decide) ?_
        refine ev_sald (j := 2) (v := (xs 2)) rfl rfl rfl ?_
        refine ev_in (d := 7) (a := 0) (b := 0) (cd' := c347_0) (m := 3) (L0 := [(2, 42), (0, (xs 1)), (0, (xs 2))]) (jcall_v (A := [(0, (xs 2)), (0, (xs 1))]) (S' := [(0, (-1))]) (r := 42) rfl (hF.1.lt (by decide)) (hF.1.sh (by decide) rfl).1 (Nat.le_of_ble_eq_true rfl)) (by decide) ml347 pp347 (Nat.le_of_ble_eq_true rfl) rfl (by decide) (by decide) ?_
        refine ev_iload_n rfl ?_
        refine ev_iconst ?_
        refine ev_bipush ?_
        refine ev_in (d := 6) (a := 0) (b := 0) (cd' := c242_0) (m := 3) (L0 := [(0, (xs 1)), (0, 0), (0, 99)]) (jcall_s (A := [(0, 99), (0, 0), (0, (xs 1))]) (S' := []) (by decide) rfl (Nat.le_of_ble_eq_true rfl)) (by decide) ml242 pp242 (Nat.le_of_ble_eq_true rfl) rfl (by decide) (by decide) ?_
        refine ev_iload_n rfl ?_
        refine ev_iload_n rfl ?_
        refine ev_icmplt f242_14 (fun c11 => absurd c11 (by omega)) (fun c11 => ?_)
        refine ev_iload_n rfl ?_
        refine ev_iload_n rfl ?_
        refine ev_icmpgt f242_14 (fun c12 => absurd c12 (by omega)) (fun c12 => ?_)
        refine ev_iconst ?_
        refine ev_goto f242_15 ?_
        refine ev_ret rfl (by decide) (by decide) ?_
        show jEv _ _ _ _ _ _ _ (_, [(2, 42), (0, (xs 1)), (0, (xs 2))], [(0, 1)], _, _, _)
        refine ev_ifeq f347_20 (fun c13 => absurd c13 (by omega)) (fun c13 => ?_)
        refine ev_iload_n rfl ?_
        refine ev_iconst ?_
        refine ev_bipush ?_
        refine ev_in (d := 6) (a := 0) (b := 0) (cd' := c242_0) (m := 3) (L0 := [(0, (xs 2)), (0, 0), (0, 100)]) (jcall_s (A := [(0, 100), (0, 0), (0, (xs 2))]) (S' := []) (by decide) rfl (Nat.le_of_ble_eq_true rfl)) (by decide) ml242 pp242 (Nat.le_of_ble_eq_true rfl) rfl (by decide) (by decide) ?_
        refine ev_iload_n rfl ?_
        refine ev_iload_n rfl ?_
        refine ev_icmplt f242_14 (fun c14 => ?_) (fun c14 => absurd c14 (by omega))
        refine ev_iconst ?_
        refine ev_ret rfl (by decide) (by decide) ?_
        show jEv _ _ _ _ _ _ _ (_, [(2, 42), (0, (xs 1)), (0, (xs 2))], [(0, 0)], _, _, _)
        refine ev_ifne f347_22 (fun c15 => absurd c15 (by omega)) (fun c15 => ?_)
        refine ev_iconst ?_
        refine ev_ret rfl (by decide) (by decide) ?_
        show jEv _ _ _ _ _ _ _ (_, [(2, (-2)), (2, 0), (2, 42), (0, 0)], [(0, (-1)), (0, (-1))], _, _, _)
        refine ev_icmpeq f384_2190 (fun c16 => ?_) (fun c16 => absurd c16 (by omega))
        exact law_tail _
      · refine ev_iload_n rfl ?_
        refine ev_bipush ?_
        refine ev_icmple f204_24 (fun c17 => ?_) (fun c17 => ?_)
        · refine ev_aload_n rfl ?_
          refine ev_getf (r := 0) (v := 26) (hF.1.lt (by decide)) (hF.1.fam (by decide) (by decide)) ft11_11 ((hF.v rfl)) ?_
          refine ev_iload_n rfl ?_
          refine ev_iload_n rfl ?_
          refine ev_in (d := 6) (a := 0) (b := 0) (cd' := c129_0) (m := 3) (L0 := [(2, 26), (0, (xs 1)), (0, (xs 2))]) (jcall_v (A := [(0, (xs 2)), (0, (xs 1))]) (S' := []) (r := 26) rfl (hF.1.lt (by decide)) (hF.1.sh (by decide) rfl).1 (Nat.le_of_ble_eq_true rfl)) (by decide) ml129 pp129 (Nat.le_of_ble_eq_true rfl) rfl (by decide) (by decide) ?_
          refine ev_aload_n rfl ?_
          refine ev_getf (r := 26) (v := 0) (hF.1.lt (by decide)) (hF.1.fam (by decide) (by decide)) ft9_9 ((hF.v rfl)) ?_
          refine ev_iconst ?_
          refine ev_icmplt f129_11 (fun c18 => ?_) (fun c18 => absurd c18 (by omega))
          refine ev_aload_n rfl ?_
          refine ev_getf (r := 26) (v := 32) (hF.1.lt (by decide)) (hF.1.fam (by decide) (by decide)) ft9_10 ((hF.v rfl)) ?_
          refine ev_aload_n rfl ?_
          refine ev_getf (r := 26) (v := 0) (hF.1.lt (by decide)) (hF.1.fam (by decide) (by decide)) ft9_9 ((hF.v rfl)) ?_
          refine ev_iload_n rfl ?_
          refine ev_iastG (r := 32) (j := 0) (hF.1.lt (by decide)) (hF.1.sh (by decide) rfl).1 rfl (hF.1.inb (by decide) (by decide)) (fun h198 e198 => ?_)
          have hS198 := hF.1.wr e198
          refine ev_aload_n rfl ?_
          refine ev_getf (r := 26) (v := 33) (hS198.lt (by decide)) (hS198.fam (by decide) (by decide)) ft9_11 ((jw_ne e198 (Or.inl (by decide))).trans ((hF.v rfl))) ?_
          refine ev_aload_n rfl ?_
          refine ev_getf (r := 26) (v := 0) (hS198.lt (by decide)) (hS198.fam (by decide) (by decide)) ft9_9 ((jw_ne e198 (Or.inl (by decide))).trans ((hF.v rfl))) ?_
          refine ev_iload_n rfl ?_
          refine ev_iastG (r := 33) (j := 0) (hS198.lt (by decide)) (hS198.sh (by decide) rfl).1 rfl (hS198.inb (by decide) (by decide)) (fun h199 e199 => ?_)
          have hS199 := hS198.wr e199
          refine ev_aload_n rfl ?_
          refine ev_dup (by decide) ?_
          refine ev_getf (r := 26) (v := 0) (hS199.lt (by decide)) (hS199.fam (by decide) (by decide)) ft9_9 ((jw_ne e199 (Or.inl (by decide))).trans ((jw_ne e198 (Or.inl (by decide))).trans ((hF.v rfl)))) ?_
          refine ev_iconst ?_
          refine ev_iadd (r := 1) (by decide) ?_
          refine ev_putfG (r := 26) (hS199.lt (by decide)) (hS199.fam (by decide) (by decide)) ft9_9 (fun e => absurd e nz9_9) (fun e => absurd e (by decide)) (fun h200 e200 => ?_)
          have hS200 := hS199.wr e200
          refine ev_aload_n rfl ?_
          refine ev_getf (r := 26) (v := 1) (hS200.lt (by decide)) (hS200.fam (by decide) (by decide)) ft9_9 (jw_eq e200) ?_
          refine ev_ret rfl (by decide) (by decide) ?_
          show jEv _ _ _ _ _ _ _ (_, [(2, 0), (0, (xs 1)), (0, (xs 2))], [(0, 1)], _, _, _)
          refine ev_ret rfl (by decide) (by decide) ?_
          show jEv _ _ _ _ _ _ _ (_, [(2, (-2)), (2, 0), (2, 42), (0, 0)], [(0, 1)], _, _, _)
          refine ev_aload_n rfl ?_
          refine ev_aload_n rfl ?_
          refine ev_iload_n rfl ?_
          refine ev_iconst ?_
          refine ev_iadd (r := 1) (by decide) ?_
          refine ev_sald (j := 1) (v := (xs 1)) rfl rfl rfl ?_
          refine ev_aload_n rfl ?_
          refine ev_iload_n rfl ?_
          refine ev_iconst ?_
          refine ev_iadd (r := 2) (by decide) ?_
          refine ev_sald (j := 2) (v := (xs 2)) rfl rfl rfl ?_
          refine ev_in (d := 7) (a := 0) (b := 0) (cd' := c347_0) (m := 3) (L0 := [(2, 42), (0, (xs 1)), (0, (xs 2))]) (jcall_v (A := [(0, (xs 2)), (0, (xs 1))]) (S' := [(0, 1)]) (r := 42) rfl (hS200.lt (by decide)) (hS200.sh (by decide) rfl).1 (Nat.le_of_ble_eq_true rfl)) (by decide) ml347 pp347 (Nat.le_of_ble_eq_true rfl) rfl (by decide) (by decide) ?_
          refine ev_iload_n rfl ?_
          refine ev_iconst ?_
          refine ev_bipush ?_
          refine ev_in (d := 6) (a := 0) (b := 0) (cd' := c242_0) (m := 3) (L0 := [(0, (xs 1)), (0, 0), (0, 99)]) (jcall_s (A := [(0, 99), (0, 0), (0, (xs 1))]) (S' := []) (by decide) rfl (Nat.le_of_ble_eq_true rfl)) (by decide) ml242 pp242 (Nat.le_of_ble_eq_true rfl) rfl (by decide) (by decide) ?_
          refine ev_iload_n rfl ?_
          refine ev_iload_n rfl ?_
          refine ev_icmplt f242_14 (fun c19 => absurd c19 (by omega)) (fun c19 => ?_)
          refine ev_iload_n rfl ?_
          refine ev_iload_n rfl ?_
          refine ev_icmpgt f242_14 (fun c20 => absurd c20 (by omega)) (fun c20 => ?_)
          refine ev_iconst ?_
          refine ev_goto f242_15 ?_
          refine ev_ret rfl (by decide) (by decide) ?_
          show jEv _ _ _ _ _ _ _ (_, [(2, 42), (0, (xs 1)), (0, (xs 2))], [(0, 1)], _, _, _)
          refine ev_ifeq f347_20 (fun c21 => absurd c21 (by omega)) (fun c21 => ?_)
          refine ev_iload_n rfl ?_
          refine ev_iconst ?_
          refine ev_bipush ?_
          refine ev_in (d := 6) (a := 0) (b := 0) (cd' := c242_0) (m := 3) (L0 := [(0, (xs 2)), (0, 0), (0, 100)]) (jcall_s (A := [(0, 100), (0, 0), (0, (xs 2))]) (S' := []) (by decide) rfl (Nat.le_of_ble_eq_true rfl)) (by decide) ml242 pp242 (Nat.le_of_ble_eq_true rfl) rfl (by decide) (by decide) ?_
          refine ev_iload_n rfl ?_
          refine ev_iload_n rfl ?_
          refine ev_icmplt f242_14 (fun c22 => absurd c22 (by omega)) (fun c22 => ?_)
          refine ev_iload_n rfl ?_
          refine ev_iload_n rfl ?_
          refine ev_icmpgt f242_14 (fun c23 => absurd c23 (by omega)) (fun c23 => ?_)
          refine ev_iconst ?_
          refine ev_goto f242_15 ?_
          refine ev_ret rfl (by decide) (by decide) ?_
          show jEv _ _ _ _ _ _ _ (_, [(2, 42), (0, (xs 1)), (0, (xs 2))], [(0, 1)], _, _, _)
          refine ev_ifne f347_22 (fun c24 => ?_) (fun c24 => absurd c24 (by omega))
          refine ev_aload_n rfl ?_
          refine ev_getf (r := 42) (v := 0) (hS200.lt (by decide)) (hS200.fam (by decide) (by decide)) ft12_53 ((jw_ne e200 (Or.inl (by decide))).trans ((jw_ne e199 (Or.inl (by decide))).trans ((jw_ne e198 (Or.inl (by decide))).trans ((hF.v rfl))))) ?_
          refine ev_iconst ?_
          refine ev_icmpne f347_33 (fun c25 => ?_) (fun c25 => absurd c25 (by omega))
          refine ev_aload_n rfl ?_
          refine ev_getf (r := 42) (v := 72) (hS200.lt (by decide)) (hS200.fam (by decide) (by decide)) ft12_54 ((jw_ne e200 (Or.inl (by decide))).trans ((jw_ne e199 (Or.inl (by decide))).trans ((jw_ne e198 (Or.inl (by decide))).trans ((hF.v rfl))))) ?_
          refine ev_aload_n rfl ?_
          refine ev_getf (r := 42) (v := 0) (hS200.lt (by decide)) (hS200.fam (by decide) (by decide)) ft12_53 ((jw_ne e200 (Or.inl (by decide))).trans ((jw_ne e199 (Or.inl (by decide))).trans ((jw_ne e198 (Or.inl (by decide))).trans ((hF.v rfl))))) ?_
          refine ev_iload_n rfl ?_
          refine ev_iastG (r := 72) (j := 0) (hS200.lt (by decide)) (hS200.sh (by decide) rfl).1 rfl (hS200.inb (by decide) (by decide)) (fun h201 e201 => ?_)
          have hS201 := hS200.wr e201
          refine ev_aload_n rfl ?_
          refine ev_getf (r := 42) (v := 73) (hS201.lt (by decide)) (hS201.fam (by decide) (by decide)) ft12_55 ((jw_ne e201 (Or.inl (by decide))).trans ((jw_ne e200 (Or.inl (by decide))).trans ((jw_ne e199 (Or.inl (by decide))).trans ((jw_ne e198 (Or.inl (by decide))).trans ((hF.v rfl)))))) ?_
          refine ev_aload_n rfl ?_
          refine ev_getf (r := 42) (v := 0) (hS201.lt (by decide)) (hS201.fam (by decide) (by decide)) ft12_53 ((jw_ne e201 (Or.inl (by decide))).trans ((jw_ne e200 (Or.inl (by decide))).trans ((jw_ne e199 (Or.inl (by decide))).trans ((jw_ne e198 (Or.inl (by decide))).trans ((hF.v rfl)))))) ?_
          refine ev_iload_n rfl ?_
          refine ev_iastG (r := 73) (j := 0) (hS201.lt (by decide)) (hS201.sh (by decide) rfl).1 rfl (hS201.inb (by decide) (by decide)) (fun h202 e202 => ?_)
          have hS202 := hS201.wr e202
          refine ev_aload_n rfl ?_
          refine ev_dup (by decide) ?_
          refine ev_getf (r := 42) (v := 0) (hS202.lt (by decide)) (hS202.fam (by decide) (by decide)) ft12_53 ((jw_ne e202 (Or.inl (by decide))).trans ((jw_ne e201 (Or.inl (by decide))).trans ((jw_ne e200 (Or.inl (by decide))).trans ((jw_ne e199 (Or.inl (by decide))).trans ((jw_ne e198 (Or.inl (by decide))).trans ((hF.v rfl))))))) ?_
          refine ev_iconst ?_
          refine ev_iadd (r := 1) (by decide) ?_
          refine ev_putfG (r := 42) (hS202.lt (by decide)) (hS202.fam (by decide) (by decide)) ft12_53 (fun e => absurd e nz12_53) (fun e => absurd e (by decide)) (fun h203 e203 => ?_)
          have hS203 := hS202.wr e203
          refine ev_aload_n rfl ?_
          refine ev_getf (r := 42) (v := 1) (hS203.lt (by decide)) (hS203.fam (by decide) (by decide)) ft12_53 (jw_eq e203) ?_
          refine ev_ret rfl (by decide) (by decide) ?_
          show jEv _ _ _ _ _ _ _ (_, [(2, (-2)), (2, 0), (2, 42), (0, 0)], [(0, 1), (0, 1)], _, _, _)
          refine ev_icmpeq f384_2190 (fun c26 => ?_) (fun c26 => absurd c26 (by omega))
          exact law_tail _
        · refine ev_iconst ?_
          refine ev_goto f204_33 ?_
          refine ev_ret rfl (by decide) (by decide) ?_
          show jEv _ _ _ _ _ _ _ (_, [(2, (-2)), (2, 0), (2, 42), (0, 0)], [(0, (-1))], _, _, _)
          refine ev_aload_n rfl ?_
          refine ev_aload_n rfl ?_
          refine ev_iload_n rfl ?_
          refine ev_iconst ?_
          refine ev_iadd (r := 1) (by decide) ?_
          refine ev_sald (j := 1) (v := (xs 1)) rfl rfl rfl ?_
          refine ev_aload_n rfl ?_
          refine ev_iload_n rfl ?_
          refine ev_iconst ?_
          refine ev_iadd (r := 2) (by decide) ?_
          refine ev_sald (j := 2) (v := (xs 2)) rfl rfl rfl ?_
          refine ev_in (d := 7) (a := 0) (b := 0) (cd' := c347_0) (m := 3) (L0 := [(2, 42), (0, (xs 1)), (0, (xs 2))]) (jcall_v (A := [(0, (xs 2)), (0, (xs 1))]) (S' := [(0, (-1))]) (r := 42) rfl (hF.1.lt (by decide)) (hF.1.sh (by decide) rfl).1 (Nat.le_of_ble_eq_true rfl)) (by decide) ml347 pp347 (Nat.le_of_ble_eq_true rfl) rfl (by decide) (by decide) ?_
          refine ev_iload_n rfl ?_
          refine ev_iconst ?_
          refine ev_bipush ?_
          refine ev_in (d := 6) (a := 0) (b := 0) (cd' := c242_0) (m := 3) (L0 := [(0, (xs 1)), (0, 0), (0, 99)]) (jcall_s (A := [(0, 99), (0, 0), (0, (xs 1))]) (S' := []) (by decide) rfl (Nat.le_of_ble_eq_true rfl)) (by decide) ml242 pp242 (Nat.le_of_ble_eq_true rfl) rfl (by decide) (by decide) ?_
          refine ev_iload_n rfl ?_
          refine ev_iload_n rfl ?_
          refine ev_icmplt f242_14 (fun c27 => absurd c27 (by omega)) (fun c27 => ?_)
          refine ev_iload_n rfl ?_
          refine ev_iload_n rfl ?_
          refine ev_icmpgt f242_14 (fun c28 => absurd c28 (by omega)) (fun c28 => ?_)
          refine ev_iconst ?_
          refine ev_goto f242_15 ?_
          refine ev_ret rfl (by decide) (by decide) ?_
          show jEv _ _ _ _ _ _ _ (_, [(2, 42), (0, (xs 1)), (0, (xs 2))], [(0, 1)], _, _, _)
          refine ev_ifeq f347_20 (fun c29 => absurd c29 (by omega)) (fun c29 => ?_)
          refine ev_iload_n rfl ?_
          refine ev_iconst ?_
          refine ev_bipush ?_
          refine ev_in (d := 6) (a := 0) (b := 0) (cd' := c242_0) (m := 3) (L0 := [(0, (xs 2)), (0, 0), (0, 100)]) (jcall_s (A := [(0, 100), (0, 0), (0, (xs 2))]) (S' := []) (by decide) rfl (Nat.le_of_ble_eq_true rfl)) (by decide) ml242 pp242 (Nat.le_of_ble_eq_true rfl) rfl (by decide) (by decide) ?_
          refine ev_iload_n rfl ?_
          refine ev_iload_n rfl ?_
          refine ev_icmplt f242_14 (fun c30 => absurd c30 (by omega)) (fun c30 => ?_)
          refine ev_iload_n rfl ?_
          refine ev_iload_n rfl ?_
          refine ev_icmpgt f242_14 (fun c31 => ?_) (fun c31 => absurd c31 (by omega))
          refine ev_iconst ?_
          refine ev_ret rfl (by decide) (by decide) ?_
          show jEv _ _ _ _ _ _ _ (_, [(2, 42), (0, (xs 1)), (0, (xs 2))], [(0, 0)], _, _, _)
          refine ev_ifne f347_22 (fun c32 => absurd c32 (by omega)) (fun c32 => ?_)
          refine ev_iconst ?_
          refine ev_ret rfl (by decide) (by decide) ?_
          show jEv _ _ _ _ _ _ _ (_, [(2, (-2)), (2, 0), (2, 42), (0, 0)], [(0, (-1)), (0, (-1))], _, _, _)
          refine ev_icmpeq f384_2190 (fun c33 => ?_) (fun c33 => absurd c33 (by omega))
          exact law_tail _

/-! hired -/
set_option maxHeartbeats 4000000 in
theorem case_39 {xs : Nat → Int} (hr : ∀ j, -2147483648 ≤ xs j ∧ xs j < 2147483648) {h : JH} (hF : Fresh h) : jEv (jOk 8) (some 6) xs c384_0 600000 7302250 (fun v _ => v = some (0, 1)) (c384_1606, [(2, -2), (2, 0), (2, 42), (0, 0)], [], h, 83, 23761) := by
  have r1 := hr 1
  have r2 := hr 2
  have r3 := hr 3
  have r4 := hr 4
  have r5 := hr 5
  refine ev_aload_n rfl ?_
  refine ev_aload_n rfl ?_
  refine ev_iload_n rfl ?_
  refine ev_iconst ?_
  refine ev_iadd (r := 1) (by decide) ?_
  refine ev_sald (j := 1) (v := (xs 1)) rfl rfl rfl ?_
  refine ev_aload_n rfl ?_
  refine ev_iload_n rfl ?_
  refine ev_iconst ?_
  refine ev_iadd (r := 2) (by decide) ?_
  refine ev_sald (j := 2) (v := (xs 2)) rfl rfl rfl ?_
  refine ev_in (d := 7) (a := 0) (b := 0) (cd' := c205_0) (m := 4) (L0 := [(2, 0), (0, (xs 1)), (0, (xs 2)), (9, 0)]) (jcall_v (A := [(0, (xs 2)), (0, (xs 1))]) (S' := []) (r := 0) rfl (hF.1.lt (by decide)) (hF.1.sh (by decide) rfl).1 (Nat.le_of_ble_eq_true rfl)) (by decide) ml205 pp205 (Nat.le_of_ble_eq_true rfl) rfl (by decide) (by decide) ?_
  refine ev_iload_n rfl ?_
  refine ev_iflt f205_21 (fun c1 => ?_) (fun c1 => ?_)
  · refine ev_iconst ?_
    refine ev_ret rfl (by decide) (by decide) ?_
    show jEv _ _ _ _ _ _ _ (_, [(2, (-2)), (2, 0), (2, 42), (0, 0)], [(0, (-1))], _, _, _)
    refine ev_aload_n rfl ?_
    refine ev_aload_n rfl ?_
    refine ev_iload_n rfl ?_
    refine ev_iconst ?_
    refine ev_iadd (r := 1) (by decide) ?_
    refine ev_sald (j := 1) (v := (xs 1)) rfl rfl rfl ?_
    refine ev_aload_n rfl ?_
    refine ev_iload_n rfl ?_
    refine ev_iconst ?_
    refine ev_iadd (r := 2) (by decide) ?_
    refine ev_sald (j := 2) (v := (xs 2)) rfl rfl rfl ?_
    refine ev_in (d := 7) (a := 0) (b := 0) (cd' := c349_0) (m := 7) (L0 := [(2, 42), (0, (xs 1)), (0, (xs 2)), (9, 0), (9, 0), (9, 0), (9, 0)]) (jcall_v (A := [(0, (xs 2)), (0, (xs 1))]) (S' := [(0, (-1))]) (r := 42) rfl (hF.1.lt (by decide)) (hF.1.sh (by decide) rfl).1 (Nat.le_of_ble_eq_true rfl)) (by decide) ml349 pp349 (Nat.le_of_ble_eq_true rfl) rfl (by decide) (by decide) ?_
    refine ev_iload_n rfl ?_
    refine ev_iconst ?_
    refine ev_sipush ?_
    refine ev_in (d := 6) (a := 0) (b := 0) (cd' := c242_0) (m := 3) (L0 := [(0, (xs 1)), (0, 0), (0, 999)]) (jcall_s (A := [(0, 999), (0, 0), (0, (xs 1))]) (S' := []) (by decide) rfl (Nat.le_of_ble_eq_true rfl)) (by decide) ml242 pp242 (Nat.le_of_ble_eq_true rfl) rfl (by decide) (by decide) ?_
    refine ev_iload_n rfl ?_
    refine ev_iload_n rfl ?_
    refine ev_icmplt f242_14 (fun c2 => ?_) (fun c2 => absurd c2 (by omega))
    refine ev_iconst ?_
    refine ev_ret rfl (by decide) (by decide) ?_
    show jEv _ _ _ _ _ _ _ (_, [(2, 42), (0, (xs 1)), (0, (xs 2)), (9, 0), (9, 0), (9, 0), (9, 0)], [(0, 0)], _, _, _)
    refine ev_ifeq f349_20 (fun c3 => ?_) (fun c3 => absurd c3 (by omega))
    refine ev_iconst ?_
    refine ev_ret rfl (by decide) (by decide) ?_
    show jEv _ _ _ _ _ _ _ (_, [(2, (-2)), (2, 0), (2, 42), (0, 0)], [(0, (-1)), (0, (-1))], _, _, _)
    refine ev_icmpeq f384_2190 (fun c4 => ?_) (fun c4 => absurd c4 (by omega))
    exact law_tail _
  · refine ev_iload_n rfl ?_
    refine ev_sipush ?_
    refine ev_icmpgt f205_21 (fun c5 => ?_) (fun c5 => ?_)
    · refine ev_iconst ?_
      refine ev_ret rfl (by decide) (by decide) ?_
      show jEv _ _ _ _ _ _ _ (_, [(2, (-2)), (2, 0), (2, 42), (0, 0)], [(0, (-1))], _, _, _)
      refine ev_aload_n rfl ?_
      refine ev_aload_n rfl ?_
      refine ev_iload_n rfl ?_
      refine ev_iconst ?_
      refine ev_iadd (r := 1) (by decide) ?_
      refine ev_sald (j := 1) (v := (xs 1)) rfl rfl rfl ?_
      refine ev_aload_n rfl ?_
      refine ev_iload_n rfl ?_
      refine ev_iconst ?_
      refine ev_iadd (r := 2) (by decide) ?_
      refine ev_sald (j := 2) (v := (xs 2)) rfl rfl rfl ?_
      refine ev_in (d := 7) (a := 0) (b := 0) (cd' := c349_0) (m := 7) (L0 := [(2, 42), (0, (xs 1)), (0, (xs 2)), (9, 0), (9, 0), (9, 0), (9, 0)]) (jcall_v (A := [(0, (xs 2)), (0, (xs 1))]) (S' := [(0, (-1))]) (r := 42) rfl (hF.1.lt (by decide)) (hF.1.sh (by decide) rfl).1 (Nat.le_of_ble_eq_true rfl)) (by decide) ml349 pp349 (Nat.le_of_ble_eq_true rfl) rfl (by decide) (by decide) ?_
      refine ev_iload_n rfl ?_
      refine ev_iconst ?_
      refine ev_sipush ?_
      refine ev_in (d := 6) (a := 0) (b := 0) (cd' := c242_0) (m := 3) (L0 := [(0, (xs 1)), (0, 0), (0, 999)]) (jcall_s (A := [(0, 999), (0, 0), (0, (xs 1))]) (S' := []) (by decide) rfl (Nat.le_of_ble_eq_true rfl)) (by decide) ml242 pp242 (Nat.le_of_ble_eq_true rfl) rfl (by decide) (by decide) ?_
      refine ev_iload_n rfl ?_
      refine ev_iload_n rfl ?_
      refine ev_icmplt f242_14 (fun c6 => absurd c6 (by omega)) (fun c6 => ?_)
      refine ev_iload_n rfl ?_
      refine ev_iload_n rfl ?_
      refine ev_icmpgt f242_14 (fun c7 => ?_) (fun c7 => absurd c7 (by omega))
      refine ev_iconst ?_
      refine ev_ret rfl (by decide) (by decide) ?_
      show jEv _ _ _ _ _ _ _ (_, [(2, 42), (0, (xs 1)), (0, (xs 2)), (9, 0), (9, 0), (9, 0), (9, 0)], [(0, 0)], _, _, _)
      refine ev_ifeq f349_20 (fun c8 => ?_) (fun c8 => absurd c8 (by omega))
      refine ev_iconst ?_
      refine ev_ret rfl (by decide) (by decide) ?_
      show jEv _ _ _ _ _ _ _ (_, [(2, (-2)), (2, 0), (2, 42), (0, 0)], [(0, (-1)), (0, (-1))], _, _, _)
      refine ev_icmpeq f384_2190 (fun c9 => ?_) (fun c9 => absurd c9 (by omega))
      exact law_tail _
    · refine ev_iload_n rfl ?_
      refine ev_iconst ?_
      refine ev_icmplt f205_21 (fun c10 => ?_) (fun c10 => ?_)
      · refine ev_iconst ?_
        refine ev_ret rfl (by decide) (by decide) ?_
        show jEv _ _ _ _ _ _ _ (_, [(2, (-2)), (2, 0), (2, 42), (0, 0)], [(0, (-1))], _, _, _)
        refine ev_aload_n rfl ?_
        refine ev_aload_n rfl ?_
        refine ev_iload_n rfl ?_
        refine ev_iconst ?_
        refine ev_iadd (r := 1) (by decide) ?_
        refine ev_sald (j := 1) (v := (xs 1)) rfl rfl rfl ?_
        refine ev_aload_n rfl ?_
        refine ev_iload_n rfl ?_
        refine ev_iconst ?_
        refine ev_iadd (r := 2) (by decide) ?_
        refine ev_sald (j := 2) (v := (xs 2)) rfl rfl rfl ?_
        refine ev_in (d := 7) (a := 0) (b := 0) (cd' := c349_0) (m := 7) (L0 := [(2, 42), (0, (xs 1)), (0, (xs 2)), (9, 0), (9, 0), (9, 0), (9, 0)]) (jcall_v (A := [(0, (xs 2)), (0, (xs 1))]) (S' := [(0, (-1))]) (r := 42) rfl (hF.1.lt (by decide)) (hF.1.sh (by decide) rfl).1 (Nat.le_of_ble_eq_true rfl)) (by decide) ml349 pp349 (Nat.le_of_ble_eq_true rfl) rfl (by decide) (by decide) ?_
        refine ev_iload_n rfl ?_
        refine ev_iconst ?_
        refine ev_sipush ?_
        refine ev_in (d := 6) (a := 0) (b := 0) (cd' := c242_0) (m := 3) (L0 := [(0, (xs 1)), (0, 0), (0, 999)]) (jcall_s (A := [(0, 999), (0, 0), (0, (xs 1))]) (S' := []) (by decide) rfl (Nat.le_of_ble_eq_true rfl)) (by decide) ml242 pp242 (Nat.le_of_ble_eq_true rfl) rfl (by decide) (by decide) ?_
        refine ev_iload_n rfl ?_
        refine ev_iload_n rfl ?_
        refine ev_icmplt f242_14 (fun c11 => absurd c11 (by omega)) (fun c11 => ?_)
        refine ev_iload_n rfl ?_
        refine ev_iload_n rfl ?_
        refine ev_icmpgt f242_14 (fun c12 => absurd c12 (by omega)) (fun c12 => ?_)
        refine ev_iconst ?_
        refine ev_goto f242_15 ?_
        refine ev_ret rfl (by decide) (by decide) ?_
        show jEv _ _ _ _ _ _ _ (_, [(2, 42), (0, (xs 1)), (0, (xs 2)), (9, 0), (9, 0), (9, 0), (9, 0)], [(0, 1)], _, _, _)
        refine ev_ifeq f349_20 (fun c13 => absurd c13 (by omega)) (fun c13 => ?_)
        refine ev_iload_n rfl ?_
        refine ev_iconst ?_
        refine ev_iconst ?_
        refine ev_in (d := 6) (a := 0) (b := 0) (cd' := c242_0) (m := 3) (L0 := [(0, (xs 2)), (0, (-1)), (0, 3)]) (jcall_s (A := [(0, 3), (0, (-1)), (0, (xs 2))]) (S' := []) (by decide) rfl (Nat.le_of_ble_eq_true rfl)) (by decide) ml242 pp242 (Nat.le_of_ble_eq_true rfl) rfl (by decide) (by decide) ?_
        refine ev_iload_n rfl ?_
        refine ev_iload_n rfl ?_
        refine ev_icmplt f242_14 (fun c14 => ?_) (fun c14 => absurd c14 (by omega))
        refine ev_iconst ?_
        refine ev_ret rfl (by decide) (by decide) ?_
        show jEv _ _ _ _ _ _ _ (_, [(2, 42), (0, (xs 1)), (0, (xs 2)), (9, 0), (9, 0), (9, 0), (9, 0)], [(0, 0)], _, _, _)
        refine ev_ifne f349_22 (fun c15 => absurd c15 (by omega)) (fun c15 => ?_)
        refine ev_iconst ?_
        refine ev_ret rfl (by decide) (by decide) ?_
        show jEv _ _ _ _ _ _ _ (_, [(2, (-2)), (2, 0), (2, 42), (0, 0)], [(0, (-1)), (0, (-1))], _, _, _)
        refine ev_icmpeq f384_2190 (fun c16 => ?_) (fun c16 => absurd c16 (by omega))
        exact law_tail _
      · refine ev_iload_n rfl ?_
        refine ev_iconst ?_
        refine ev_icmple f205_23 (fun c17 => ?_) (fun c17 => ?_)
        · refine ev_iload_n rfl ?_
          refine ev_iconst ?_
          refine ev_icmpne f205_36 (fun c18 => ?_) (fun c18 => ?_)
          · refine ev_aload_n rfl ?_
            refine ev_getf (r := 0) (v := 26) (hF.1.lt (by decide)) (hF.1.fam (by decide) (by decide)) ft11_11 ((hF.v rfl)) ?_
            refine ev_getf (r := 26) (v := 0) (hF.1.lt (by decide)) (hF.1.fam (by decide) (by decide)) ft9_9 ((hF.v rfl)) ?_
            refine ev_iconst ?_
            refine ev_icmpge f205_50 (fun c19 => absurd c19 (by omega)) (fun c19 => ?_)
            refine ev_bipush ?_
            refine ev_ret rfl (by decide) (by decide) ?_
            show jEv _ _ _ _ _ _ _ (_, [(2, (-2)), (2, 0), (2, 42), (0, 0)], [(0, (-5))], _, _, _)
            refine ev_aload_n rfl ?_
            refine ev_aload_n rfl ?_
            refine ev_iload_n rfl ?_
            refine ev_iconst ?_
            refine ev_iadd (r := 1) (by decide) ?_
            refine ev_sald (j := 1) (v := (xs 1)) rfl rfl rfl ?_
            refine ev_aload_n rfl ?_
            refine ev_iload_n rfl ?_
            refine ev_iconst ?_
            refine ev_iadd (r := 2) (by decide) ?_
            refine ev_sald (j := 2) (v := (xs 2)) rfl rfl rfl ?_
            refine ev_in (d := 7) (a := 0) (b := 0) (cd' := c349_0) (m := 7) (L0 := [(2, 42), (0, (xs 1)), (0, (xs 2)), (9, 0), (9, 0), (9, 0), (9, 0)]) (jcall_v (A := [(0, (xs 2)), (0, (xs 1))]) (S' := [(0, (-5))]) (r := 42) rfl (hF.1.lt (by decide)) (hF.1.sh (by decide) rfl).1 (Nat.le_of_ble_eq_true rfl)) (by decide) ml349 pp349 (Nat.le_of_ble_eq_true rfl) rfl (by decide) (by decide) ?_
            refine ev_iload_n rfl ?_
            refine ev_iconst ?_
            refine ev_sipush ?_
            refine ev_in (d := 6) (a := 0) (b := 0) (cd' := c242_0) (m := 3) (L0 := [(0, (xs 1)), (0, 0), (0, 999)]) (jcall_s (A := [(0, 999), (0, 0), (0, (xs 1))]) (S' := []) (by decide) rfl (Nat.le_of_ble_eq_true rfl)) (by decide) ml242 pp242 (Nat.le_of_ble_eq_true rfl) rfl (by decide) (by decide) ?_
            refine ev_iload_n rfl ?_
            refine ev_iload_n rfl ?_
            refine ev_icmplt f242_14 (fun c20 => absurd c20 (by omega)) (fun c20 => ?_)
            refine ev_iload_n rfl ?_
            refine ev_iload_n rfl ?_
            refine ev_icmpgt f242_14 (fun c21 => absurd c21 (by omega)) (fun c21 => ?_)
            refine ev_iconst ?_
            refine ev_goto f242_15 ?_
            refine ev_ret rfl (by decide) (by decide) ?_
            show jEv _ _ _ _ _ _ _ (_, [(2, 42), (0, (xs 1)), (0, (xs 2)), (9, 0), (9, 0), (9, 0), (9, 0)], [(0, 1)], _, _, _)
            refine ev_ifeq f349_20 (fun c22 => absurd c22 (by omega)) (fun c22 => ?_)
            refine ev_iload_n rfl ?_
            refine ev_iconst ?_
            refine ev_iconst ?_
            refine ev_in (d := 6) (a := 0) (b := 0) (cd' := c242_0) (m := 3) (L0 := [(0, (xs 2)), (0, (-1)), (0, 3)]) (jcall_s (A := [(0, 3), (0, (-1)), (0, (xs 2))]) (S' := []) (by decide) rfl (Nat.le_of_ble_eq_true rfl)) (by decide) ml242 pp242 (Nat.le_of_ble_eq_true rfl) rfl (by decide) (by decide) ?_
            refine ev_iload_n rfl ?_
            refine ev_iload_n rfl ?_
            refine ev_icmplt f242_14 (fun c23 => absurd c23 (by omega)) (fun c23 => ?_)
            refine ev_iload_n rfl ?_
            refine ev_iload_n rfl ?_
            refine ev_icmpgt f242_14 (fun c24 => absurd c24 (by omega)) (fun c24 => ?_)
            refine ev_iconst ?_
            refine ev_goto f242_15 ?_
            refine ev_ret rfl (by decide) (by decide) ?_
            show jEv _ _ _ _ _ _ _ (_, [(2, 42), (0, (xs 1)), (0, (xs 2)), (9, 0), (9, 0), (9, 0), (9, 0)], [(0, 1)], _, _, _)
            refine ev_ifne f349_22 (fun c25 => ?_) (fun c25 => absurd c25 (by omega))
            refine ev_iload_n rfl ?_
            refine ev_iconst ?_
            refine ev_icmpne f349_39 (fun c26 => ?_) (fun c26 => absurd c26 (by omega))
            refine ev_aload_n rfl ?_
            refine ev_getf (r := 42) (v := 0) (hF.1.lt (by decide)) (hF.1.fam (by decide) (by decide)) ft12_53 ((hF.v rfl)) ?_
            refine ev_iconst ?_
            refine ev_icmpge f349_50 (fun c27 => absurd c27 (by omega)) (fun c27 => ?_)
            refine ev_bipush ?_
            refine ev_ret rfl (by decide) (by decide) ?_
            show jEv _ _ _ _ _ _ _ (_, [(2, (-2)), (2, 0), (2, 42), (0, 0)], [(0, (-5)), (0, (-5))], _, _, _)
            refine ev_icmpeq f384_2190 (fun c28 => ?_) (fun c28 => absurd c28 (by omega))
            exact law_tail _
          · refine ev_aload_n rfl ?_
            refine ev_getf (r := 0) (v := 26) (hF.1.lt (by decide)) (hF.1.fam (by decide) (by decide)) ft11_11 ((hF.v rfl)) ?_
            refine ev_in (d := 6) (a := 0) (b := 0) (cd' := c130_0) (m := 2) (L0 := [(2, 26), (9, 0)]) (jcall_v (A := []) (S' := []) (r := 26) rfl (hF.1.lt (by decide)) (hF.1.sh (by decide) rfl).1 (Nat.le_of_ble_eq_true rfl)) (by decide) ml130 pp130 (Nat.le_of_ble_eq_true rfl) rfl (by decide) (by decide) ?_
            refine ev_aload_n rfl ?_
            refine ev_getf (r := 26) (v := 0) (hF.1.lt (by decide)) (hF.1.fam (by decide) (by decide)) ft9_9 ((hF.v rfl)) ?_
            refine ev_istore_n (L' := [(2, 26), (0, 0)]) (Nat.le_of_ble_eq_true rfl) rfl ?_
            refine ev_aload_n rfl ?_
            refine ev_iconst ?_
            refine ev_putfG (r := 26) (hF.1.lt (by decide)) (hF.1.fam (by decide) (by decide)) ft9_9 (fun e => absurd e nz9_9) (fun e => absurd e (by decide)) (fun h204 e204 => ?_)
            have hS204 := hF.1.wr e204
            refine ev_iload_n rfl ?_
            refine ev_ret rfl (by decide) (by decide) ?_
            show jEv _ _ _ _ _ _ _ (_, [(2, 0), (0, (xs 1)), (0, (xs 2)), (9, 0)], [(0, 0)], _, _, _)
            refine ev_ret rfl (by decide) (by decide) ?_
            show jEv _ _ _ _ _ _ _ (_, [(2, (-2)), (2, 0), (2, 42), (0, 0)], [(0, 0)], _, _, _)
            refine ev_aload_n rfl ?_
            refine ev_aload_n rfl ?_
            refine ev_iload_n rfl ?_
            refine ev_iconst ?_
            refine ev_iadd (r := 1) (by decide) ?_
            refine ev_sald (j := 1) (v := (xs 1)) rfl rfl rfl ?_
            refine ev_aload_n rfl ?_
            refine ev_iload_n rfl ?_
            refine ev_iconst ?_
            refine ev_iadd (r := 2) (by decide) ?_
            refine ev_sald (j := 2) (v := (xs 2)) rfl rfl rfl ?_
            refine ev_in (d := 7) (a := 0) (b := 0) (cd' := c349_0) (m := 7) (L0 := [(2, 42), (0, (xs 1)), (0, (xs 2)), (9, 0), (9, 0), (9, 0), (9, 0)]) (jcall_v (A := [(0, (xs 2)), (0, (xs 1))]) (S' := [(0, 0)]) (r := 42) rfl (hS204.lt (by decide)) (hS204.sh (by decide) rfl).1 (Nat.le_of_ble_eq_true rfl)) (by decide) ml349 pp349 (Nat.le_of_ble_eq_true rfl) rfl (by decide) (by decide) ?_
            refine ev_iload_n rfl ?_
            refine ev_iconst ?_
            refine ev_sipush ?_
            refine ev_in (d := 6) (a := 0) (b := 0) (cd' := c242_0) (m := 3) (L0 := [(0, (xs 1)), (0, 0), (0, 999)]) (jcall_s (A := [(0, 999), (0, 0), (0, (xs 1))]) (S' := []) (by decide) rfl (Nat.le_of_ble_eq_true rfl)) (by decide) ml242 pp242 (Nat.le_of_ble_eq_true rfl) rfl (by decide) (by decide) ?_
            refine ev_iload_n rfl ?_
            refine ev_iload_n rfl ?_
            refine ev_icmplt f242_14 (fun c29 => absurd c29 (by omega)) (fun c29 => ?_)
            refine ev_iload_n rfl ?_
            refine ev_iload_n rfl ?_
            refine ev_icmpgt f242_14 (fun c30 => absurd c30 (by omega)) (fun c30 => ?_)
            refine ev_iconst ?_
            refine ev_goto f242_15 ?_
            refine ev_ret rfl (by decide) (by decide) ?_
            show jEv _ _ _ _ _ _ _ (_, [(2, 42), (0, (xs 1)), (0, (xs 2)), (9, 0), (9, 0), (9, 0), (9, 0)], [(0, 1)], _, _, _)
            refine ev_ifeq f349_20 (fun c31 => absurd c31 (by omega)) (fun c31 => ?_)
            refine ev_iload_n rfl ?_
            refine ev_iconst ?_
            refine ev_iconst ?_
            refine ev_in (d := 6) (a := 0) (b := 0) (cd' := c242_0) (m := 3) (L0 := [(0, (xs 2)), (0, (-1)), (0, 3)]) (jcall_s (A := [(0, 3), (0, (-1)), (0, (xs 2))]) (S' := []) (by decide) rfl (Nat.le_of_ble_eq_true rfl)) (by decide) ml242 pp242 (Nat.le_of_ble_eq_true rfl) rfl (by decide) (by decide) ?_
            refine ev_iload_n rfl ?_
            refine ev_iload_n rfl ?_
            refine ev_icmplt f242_14 (fun c32 => absurd c32 (by omega)) (fun c32 => ?_)
            refine ev_iload_n rfl ?_
            refine ev_iload_n rfl ?_
            refine ev_icmpgt f242_14 (fun c33 => absurd c33 (by omega)) (fun c33 => ?_)
            refine ev_iconst ?_
            refine ev_goto f242_15 ?_
            refine ev_ret rfl (by decide) (by decide) ?_
            show jEv _ _ _ _ _ _ _ (_, [(2, 42), (0, (xs 1)), (0, (xs 2)), (9, 0), (9, 0), (9, 0), (9, 0)], [(0, 1)], _, _, _)
            refine ev_ifne f349_22 (fun c34 => ?_) (fun c34 => absurd c34 (by omega))
            refine ev_iload_n rfl ?_
            refine ev_iconst ?_
            refine ev_icmpne f349_39 (fun c35 => absurd c35 (by omega)) (fun c35 => ?_)
            refine ev_aload_n rfl ?_
            refine ev_getf (r := 42) (v := 0) (hS204.lt (by decide)) (hS204.fam (by decide) (by decide)) ft12_53 ((jw_ne e204 (Or.inl (by decide))).trans ((hF.v rfl))) ?_
            refine ev_istore_n (L' := [(2, 42), (0, (xs 1)), (0, (xs 2)), (0, 0), (9, 0), (9, 0), (9, 0)]) (Nat.le_of_ble_eq_true rfl) rfl ?_
            refine ev_aload_n rfl ?_
            refine ev_iconst ?_
            refine ev_putfG (r := 42) (hS204.lt (by decide)) (hS204.fam (by decide) (by decide)) ft12_53 (fun e => absurd e nz12_53) (fun e => absurd e (by decide)) (fun h205 e205 => ?_)
            have hS205 := hS204.wr e205
            refine ev_iload_n rfl ?_
            refine ev_ret rfl (by decide) (by decide) ?_
            show jEv _ _ _ _ _ _ _ (_, [(2, (-2)), (2, 0), (2, 42), (0, 0)], [(0, 0), (0, 0)], _, _, _)
            refine ev_icmpeq f384_2190 (fun c36 => ?_) (fun c36 => absurd c36 (by omega))
            exact law_tail _
        · refine ev_iconst ?_
          refine ev_ret rfl (by decide) (by decide) ?_
          show jEv _ _ _ _ _ _ _ (_, [(2, (-2)), (2, 0), (2, 42), (0, 0)], [(0, (-1))], _, _, _)
          refine ev_aload_n rfl ?_
          refine ev_aload_n rfl ?_
          refine ev_iload_n rfl ?_
          refine ev_iconst ?_
          refine ev_iadd (r := 1) (by decide) ?_
          refine ev_sald (j := 1) (v := (xs 1)) rfl rfl rfl ?_
          refine ev_aload_n rfl ?_
          refine ev_iload_n rfl ?_
          refine ev_iconst ?_
          refine ev_iadd (r := 2) (by decide) ?_
          refine ev_sald (j := 2) (v := (xs 2)) rfl rfl rfl ?_
          refine ev_in (d := 7) (a := 0) (b := 0) (cd' := c349_0) (m := 7) (L0 := [(2, 42), (0, (xs 1)), (0, (xs 2)), (9, 0), (9, 0), (9, 0), (9, 0)]) (jcall_v (A := [(0, (xs 2)), (0, (xs 1))]) (S' := [(0, (-1))]) (r := 42) rfl (hF.1.lt (by decide)) (hF.1.sh (by decide) rfl).1 (Nat.le_of_ble_eq_true rfl)) (by decide) ml349 pp349 (Nat.le_of_ble_eq_true rfl) rfl (by decide) (by decide) ?_
          refine ev_iload_n rfl ?_
          refine ev_iconst ?_
          refine ev_sipush ?_
          refine ev_in (d := 6) (a := 0) (b := 0) (cd' := c242_0) (m := 3) (L0 := [(0, (xs 1)), (0, 0), (0, 999)]) (jcall_s (A := [(0, 999), (0, 0), (0, (xs 1))]) (S' := []) (by decide) rfl (Nat.le_of_ble_eq_true rfl)) (by decide) ml242 pp242 (Nat.le_of_ble_eq_true rfl) rfl (by decide) (by decide) ?_
          refine ev_iload_n rfl ?_
          refine ev_iload_n rfl ?_
          refine ev_icmplt f242_14 (fun c37 => absurd c37 (by omega)) (fun c37 => ?_)
          refine ev_iload_n rfl ?_
          refine ev_iload_n rfl ?_
          refine ev_icmpgt f242_14 (fun c38 => absurd c38 (by omega)) (fun c38 => ?_)
          refine ev_iconst ?_
          refine ev_goto f242_15 ?_
          refine ev_ret rfl (by decide) (by decide) ?_
          show jEv _ _ _ _ _ _ _ (_, [(2, 42), (0, (xs 1)), (0, (xs 2)), (9, 0), (9, 0), (9, 0), (9, 0)], [(0, 1)], _, _, _)
          refine ev_ifeq f349_20 (fun c39 => absurd c39 (by omega)) (fun c39 => ?_)
          refine ev_iload_n rfl ?_
          refine ev_iconst ?_
          refine ev_iconst ?_
          refine ev_in (d := 6) (a := 0) (b := 0) (cd' := c242_0) (m := 3) (L0 := [(0, (xs 2)), (0, (-1)), (0, 3)]) (jcall_s (A := [(0, 3), (0, (-1)), (0, (xs 2))]) (S' := []) (by decide) rfl (Nat.le_of_ble_eq_true rfl)) (by decide) ml242 pp242 (Nat.le_of_ble_eq_true rfl) rfl (by decide) (by decide) ?_
          refine ev_iload_n rfl ?_
          refine ev_iload_n rfl ?_
          refine ev_icmplt f242_14 (fun c40 => absurd c40 (by omega)) (fun c40 => ?_)
          refine ev_iload_n rfl ?_
          refine ev_iload_n rfl ?_
          refine ev_icmpgt f242_14 (fun c41 => ?_) (fun c41 => absurd c41 (by omega))
          refine ev_iconst ?_
          refine ev_ret rfl (by decide) (by decide) ?_
          show jEv _ _ _ _ _ _ _ (_, [(2, 42), (0, (xs 1)), (0, (xs 2)), (9, 0), (9, 0), (9, 0), (9, 0)], [(0, 0)], _, _, _)
          refine ev_ifne f349_22 (fun c42 => absurd c42 (by omega)) (fun c42 => ?_)
          refine ev_iconst ?_
          refine ev_ret rfl (by decide) (by decide) ?_
          show jEv _ _ _ _ _ _ _ (_, [(2, (-2)), (2, 0), (2, 42), (0, 0)], [(0, (-1)), (0, (-1))], _, _, _)
          refine ev_icmpeq f384_2190 (fun c43 => ?_) (fun c43 => absurd c43 (by omega))
          exact law_tail _

/-! day -/
set_option maxHeartbeats 4000000 in
theorem case_40 {xs : Nat → Int} (hr : ∀ j, -2147483648 ≤ xs j ∧ xs j < 2147483648) {h : JH} (hF : Fresh h) : jEv (jOk 8) (some 6) xs c384_0 600000 7302250 (fun v _ => v = some (0, 1)) (c384_1639, [(2, -2), (2, 0), (2, 42), (0, 0)], [], h, 83, 23761) := by
  have r1 := hr 1
  have r2 := hr 2
  have r3 := hr 3
  have r4 := hr 4
  have r5 := hr 5
  refine ev_aload_n rfl ?_
  refine ev_aload_n rfl ?_
  refine ev_iload_n rfl ?_
  refine ev_iconst ?_
  refine ev_iadd (r := 1) (by decide) ?_
  refine ev_sald (j := 1) (v := (xs 1)) rfl rfl rfl ?_
  refine ev_aload_n rfl ?_
  refine ev_iload_n rfl ?_
  refine ev_iconst ?_
  refine ev_iadd (r := 2) (by decide) ?_
  refine ev_sald (j := 2) (v := (xs 2)) rfl rfl rfl ?_
  refine ev_aload_n rfl ?_
  refine ev_iload_n rfl ?_
  refine ev_iconst ?_
  refine ev_iadd (r := 3) (by decide) ?_
  refine ev_sald (j := 3) (v := (xs 3)) rfl rfl rfl ?_
  refine ev_aload_n rfl ?_
  refine ev_iload_n rfl ?_
  refine ev_iconst ?_
  refine ev_iadd (r := 4) (by decide) ?_
  refine ev_sald (j := 4) (v := (xs 4)) rfl rfl rfl ?_
  refine ev_in (d := 7) (a := 0) (b := 0) (cd' := c206_0) (m := 5) (L0 := [(2, 0), (0, (xs 1)), (0, (xs 2)), (0, (xs 3)), (0, (xs 4))]) (jcall_v (A := [(0, (xs 4)), (0, (xs 3)), (0, (xs 2)), (0, (xs 1))]) (S' := []) (r := 0) rfl (hF.1.lt (by decide)) (hF.1.sh (by decide) rfl).1 (Nat.le_of_ble_eq_true rfl)) (by decide) ml206 pp206 (Nat.le_of_ble_eq_true rfl) rfl (by decide) (by decide) ?_
  refine ev_iload_n rfl ?_
  refine ev_iflt f206_20 (fun c1 => ?_) (fun c1 => ?_)
  · refine ev_iconst ?_
    refine ev_ret rfl (by decide) (by decide) ?_
    show jEv _ _ _ _ _ _ _ (_, [(2, (-2)), (2, 0), (2, 42), (0, 0)], [(0, (-1))], _, _, _)
    refine ev_aload_n rfl ?_
    refine ev_aload_n rfl ?_
    refine ev_iload_n rfl ?_
    refine ev_iconst ?_
    refine ev_iadd (r := 1) (by decide) ?_
    refine ev_sald (j := 1) (v := (xs 1)) rfl rfl rfl ?_
    refine ev_aload_n rfl ?_
    refine ev_iload_n rfl ?_
    refine ev_iconst ?_
    refine ev_iadd (r := 2) (by decide) ?_
    refine ev_sald (j := 2) (v := (xs 2)) rfl rfl rfl ?_
    refine ev_aload_n rfl ?_
    refine ev_iload_n rfl ?_
    refine ev_iconst ?_
    refine ev_iadd (r := 3) (by decide) ?_
    refine ev_sald (j := 3) (v := (xs 3)) rfl rfl rfl ?_
    refine ev_aload_n rfl ?_
    refine ev_iload_n rfl ?_
    refine ev_iconst ?_
    refine ev_iadd (r := 4) (by decide) ?_
    refine ev_sald (j := 4) (v := (xs 4)) rfl rfl rfl ?_
    refine ev_in (d := 7) (a := 0) (b := 0) (cd' := c351_0) (m := 5) (L0 := [(2, 42), (0, (xs 1)), (0, (xs 2)), (0, (xs 3)), (0, (xs 4))]) (jcall_v (A := [(0, (xs 4)), (0, (xs 3)), (0, (xs 2)), (0, (xs 1))]) (S' := [(0, (-1))]) (r := 42) rfl (hF.1.lt (by decide)) (hF.1.sh (by decide) rfl).1 (Nat.le_of_ble_eq_true rfl)) (by decide) ml351 pp351 (Nat.le_of_ble_eq_true rfl) rfl (by decide) (by decide) ?_
    refine ev_iload_n rfl ?_
    refine ev_iconst ?_
    refine ev_bipush ?_
    refine ev_in (d := 6) (a := 0) (b := 0) (cd' := c242_0) (m := 3) (L0 := [(0, (xs 1)), (0, 0), (0, 19)]) (jcall_s (A := [(0, 19), (0, 0), (0, (xs 1))]) (S' := []) (by decide) rfl (Nat.le_of_ble_eq_true rfl)) (by decide) ml242 pp242 (Nat.le_of_ble_eq_true rfl) rfl (by decide) (by decide) ?_
    refine ev_iload_n rfl ?_
    refine ev_iload_n rfl ?_
    refine ev_icmplt f242_14 (fun c2 => ?_) (fun c2 => absurd c2 (by omega))
    refine ev_iconst ?_
    refine ev_ret rfl (by decide) (by decide) ?_
    show jEv _ _ _ _ _ _ _ (_, [(2, 42), (0, (xs 1)), (0, (xs 2)), (0, (xs 3)), (0, (xs 4))], [(0, 0)], _, _, _)
    refine ev_ifeq f351_20 (fun c3 => ?_) (fun c3 => absurd c3 (by omega))
    refine ev_iconst ?_
    refine ev_ret rfl (by decide) (by decide) ?_
    show jEv _ _ _ _ _ _ _ (_, [(2, (-2)), (2, 0), (2, 42), (0, 0)], [(0, (-1)), (0, (-1))], _, _, _)
    refine ev_icmpeq f384_2190 (fun c4 => ?_) (fun c4 => absurd c4 (by omega))
    exact law_tail _
  · refine ev_iload_n rfl ?_
    refine ev_bipush ?_
    refine ev_icmpge f206_20 (fun c5 => ?_) (fun c5 => ?_)
    · refine ev_iconst ?_
      refine ev_ret rfl (by decide) (by decide) ?_
      show jEv _ _ _ _ _ _ _ (_, [(2, (-2)), (2, 0), (2, 42), (0, 0)], [(0, (-1))], _, _, _)
      refine ev_aload_n rfl ?_
      refine ev_aload_n rfl ?_
      refine ev_iload_n rfl ?_
      refine ev_iconst ?_
      refine ev_iadd (r := 1) (by decide) ?_
      refine ev_sald (j := 1) (v := (xs 1)) rfl rfl rfl ?_
      refine ev_aload_n rfl ?_
      refine ev_iload_n rfl ?_
      refine ev_iconst ?_
      refine ev_iadd (r := 2) (by decide) ?_
      refine ev_sald (j := 2) (v := (xs 2)) rfl rfl rfl ?_
      refine ev_aload_n rfl ?_
      refine ev_iload_n rfl ?_
      refine ev_iconst ?_
      refine ev_iadd (r := 3) (by decide) ?_
      refine ev_sald (j := 3) (v := (xs 3)) rfl rfl rfl ?_
      refine ev_aload_n rfl ?_
      refine ev_iload_n rfl ?_
      refine ev_iconst ?_
      refine ev_iadd (r := 4) (by decide) ?_
      refine ev_sald (j := 4) (v := (xs 4)) rfl rfl rfl ?_
      refine ev_in (d := 7) (a := 0) (b := 0) (cd' := c351_0) (m := 5) (L0 := [(2, 42), (0, (xs 1)), (0, (xs 2)), (0, (xs 3)), (0, (xs 4))]) (jcall_v (A := [(0, (xs 4)), (0, (xs 3)), (0, (xs 2)), (0, (xs 1))]) (S' := [(0, (-1))]) (r := 42) rfl (hF.1.lt (by decide)) (hF.1.sh (by decide) rfl).1 (Nat.le_of_ble_eq_true rfl)) (by decide) ml351 pp351 (Nat.le_of_ble_eq_true rfl) rfl (by decide) (by decide) ?_
      refine ev_iload_n rfl ?_
      refine ev_iconst ?_
      refine ev_bipush ?_
      refine ev_in (d := 6) (a := 0) (b := 0) (cd' := c242_0) (m := 3) (L0 := [(0, (xs 1)), (0, 0), (0, 19)]) (jcall_s (A := [(0, 19), (0, 0), (0, (xs 1))]) (S' := []) (by decide) rfl (Nat.le_of_ble_eq_true rfl)) (by decide) ml242 pp242 (Nat.le_of_ble_eq_true rfl) rfl (by decide) (by decide) ?_
      refine ev_iload_n rfl ?_
      refine ev_iload_n rfl ?_
      refine ev_icmplt f242_14 (fun c6 => absurd c6 (by omega)) (fun c6 => ?_)
      refine ev_iload_n rfl ?_
      refine ev_iload_n rfl ?_
      refine ev_icmpgt f242_14 (fun c7 => ?_) (fun c7 => absurd c7 (by omega))
      refine ev_iconst ?_
      refine ev_ret rfl (by decide) (by decide) ?_
      show jEv _ _ _ _ _ _ _ (_, [(2, 42), (0, (xs 1)), (0, (xs 2)), (0, (xs 3)), (0, (xs 4))], [(0, 0)], _, _, _)
      refine ev_ifeq f351_20 (fun c8 => ?_) (fun c8 => absurd c8 (by omega))
      refine ev_iconst ?_
      refine ev_ret rfl (by decide) (by decide) ?_
      show jEv _ _ _ _ _ _ _ (_, [(2, (-2)), (2, 0), (2, 42), (0, 0)], [(0, (-1)), (0, (-1))], _, _, _)
      refine ev_icmpeq f384_2190 (fun c9 => ?_) (fun c9 => absurd c9 (by omega))
      exact law_tail _
    · refine ev_iload_n rfl ?_
      refine ev_iload_n rfl ?_
      refine ev_iload rfl ?_
      refine ev_in (d := 6) (a := 0) (b := 0) (cd' := c134_0) (m := 3) (L0 := [(0, (xs 2)), (0, (xs 3)), (0, (xs 4))]) (jcall_s (A := [(0, (xs 4)), (0, (xs 3)), (0, (xs 2))]) (S' := []) (by decide) rfl (Nat.le_of_ble_eq_true rfl)) (by decide) ml134 pp134 (Nat.le_of_ble_eq_true rfl) rfl (by decide) (by decide) ?_
      refine ev_iload_n rfl ?_
      refine ev_iflt f134_35 (fun c10 => ?_) (fun c10 => ?_)
      · refine ev_iconst ?_
        refine ev_ret rfl (by decide) (by decide) ?_
        show jEv _ _ _ _ _ _ _ (_, [(2, 0), (0, (xs 1)), (0, (xs 2)), (0, (xs 3)), (0, (xs 4))], [(0, 0)], _, _, _)
        refine ev_ifne f206_22 (fun c11 => absurd c11 (by omega)) (fun c11 => ?_)
        refine ev_iconst ?_
        refine ev_ret rfl (by decide) (by decide) ?_
        show jEv _ _ _ _ _ _ _ (_, [(2, (-2)), (2, 0), (2, 42), (0, 0)], [(0, (-1))], _, _, _)
        refine ev_aload_n rfl ?_
        refine ev_aload_n rfl ?_
        refine ev_iload_n rfl ?_
        refine ev_iconst ?_
        refine ev_iadd (r := 1) (by decide) ?_
        refine ev_sald (j := 1) (v := (xs 1)) rfl rfl rfl ?_
        refine ev_aload_n rfl ?_
        refine ev_iload_n rfl ?_
        refine ev_iconst ?_
        refine ev_iadd (r := 2) (by decide) ?_
        refine ev_sald (j := 2) (v := (xs 2)) rfl rfl rfl ?_
        refine ev_aload_n rfl ?_
        refine ev_iload_n rfl ?_
        refine ev_iconst ?_
        refine ev_iadd (r := 3) (by decide) ?_
        refine ev_sald (j := 3) (v := (xs 3)) rfl rfl rfl ?_
        refine ev_aload_n rfl ?_
        refine ev_iload_n rfl ?_
        refine ev_iconst ?_
        refine ev_iadd (r := 4) (by decide) ?_
        refine ev_sald (j := 4) (v := (xs 4)) rfl rfl rfl ?_
        refine ev_in (d := 7) (a := 0) (b := 0) (cd' := c351_0) (m := 5) (L0 := [(2, 42), (0, (xs 1)), (0, (xs 2)), (0, (xs 3)), (0, (xs 4))]) (jcall_v (A := [(0, (xs 4)), (0, (xs 3)), (0, (xs 2)), (0, (xs 1))]) (S' := [(0, (-1))]) (r := 42) rfl (hF.1.lt (by decide)) (hF.1.sh (by decide) rfl).1 (Nat.le_of_ble_eq_true rfl)) (by decide) ml351 pp351 (Nat.le_of_ble_eq_true rfl) rfl (by decide) (by decide) ?_
        refine ev_iload_n rfl ?_
        refine ev_iconst ?_
        refine ev_bipush ?_
        refine ev_in (d := 6) (a := 0) (b := 0) (cd' := c242_0) (m := 3) (L0 := [(0, (xs 1)), (0, 0), (0, 19)]) (jcall_s (A := [(0, 19), (0, 0), (0, (xs 1))]) (S' := []) (by decide) rfl (Nat.le_of_ble_eq_true rfl)) (by decide) ml242 pp242 (Nat.le_of_ble_eq_true rfl) rfl (by decide) (by decide) ?_
        refine ev_iload_n rfl ?_
        refine ev_iload_n rfl ?_
        refine ev_icmplt f242_14 (fun c12 => absurd c12 (by omega)) (fun c12 => ?_)
        refine ev_iload_n rfl ?_
        refine ev_iload_n rfl ?_
        refine ev_icmpgt f242_14 (fun c13 => absurd c13 (by omega)) (fun c13 => ?_)
        refine ev_iconst ?_
        refine ev_goto f242_15 ?_
        refine ev_ret rfl (by decide) (by decide) ?_
        show jEv _ _ _ _ _ _ _ (_, [(2, 42), (0, (xs 1)), (0, (xs 2)), (0, (xs 3)), (0, (xs 4))], [(0, 1)], _, _, _)
        refine ev_ifeq f351_20 (fun c14 => absurd c14 (by omega)) (fun c14 => ?_)
        refine ev_iload_n rfl ?_
        refine ev_iload_n rfl ?_
        refine ev_iload rfl ?_
        refine ev_in (d := 6) (a := 0) (b := 0) (cd' := c350_0) (m := 3) (L0 := [(0, (xs 2)), (0, (xs 3)), (0, (xs 4))]) (jcall_s (A := [(0, (xs 4)), (0, (xs 3)), (0, (xs 2))]) (S' := []) (by decide) rfl (Nat.le_of_ble_eq_true rfl)) (by decide) ml350 pp350 (Nat.le_of_ble_eq_true rfl) rfl (by decide) (by decide) ?_
        refine ev_iload_n rfl ?_
        refine ev_iconst ?_
        refine ev_sipush ?_
        refine ev_in (d := 5) (a := 0) (b := 0) (cd' := c242_0) (m := 3) (L0 := [(0, (xs 2)), (0, 0), (0, 999)]) (jcall_s (A := [(0, 999), (0, 0), (0, (xs 2))]) (S' := []) (by decide) rfl (Nat.le_of_ble_eq_true rfl)) (by decide) ml242 pp242 (Nat.le_of_ble_eq_true rfl) rfl (by decide) (by decide) ?_
        refine ev_iload_n rfl ?_
        refine ev_iload_n rfl ?_
        refine ev_icmplt f242_14 (fun c15 => ?_) (fun c15 => absurd c15 (by omega))
        refine ev_iconst ?_
        refine ev_ret rfl (by decide) (by decide) ?_
        show jEv _ _ _ _ _ _ _ (_, [(0, (xs 2)), (0, (xs 3)), (0, (xs 4))], [(0, 0)], _, _, _)
        refine ev_ifeq f350_35 (fun c16 => ?_) (fun c16 => absurd c16 (by omega))
        refine ev_iconst ?_
        refine ev_ret rfl (by decide) (by decide) ?_
        show jEv _ _ _ _ _ _ _ (_, [(2, 42), (0, (xs 1)), (0, (xs 2)), (0, (xs 3)), (0, (xs 4))], [(0, 0)], _, _, _)
        refine ev_ifne f351_22 (fun c17 => absurd c17 (by omega)) (fun c17 => ?_)
        refine ev_iconst ?_
        refine ev_ret rfl (by decide) (by decide) ?_
        show jEv _ _ _ _ _ _ _ (_, [(2, (-2)), (2, 0), (2, 42), (0, 0)], [(0, (-1)), (0, (-1))], _, _, _)
        refine ev_icmpeq f384_2190 (fun c18 => ?_) (fun c18 => absurd c18 (by omega))
        exact law_tail _
      · refine ev_iload_n rfl ?_
        refine ev_sipush ?_
        refine ev_icmpgt f134_35 (fun c19 => ?_) (fun c19 => ?_)
        · refine ev_iconst ?_
          refine ev_ret rfl (by decide) (by decide) ?_
          show jEv _ _ _ _ _ _ _ (_, [(2, 0), (0, (xs 1)), (0, (xs 2)), (0, (xs 3)), (0, (xs 4))], [(0, 0)], _, _, _)
          refine ev_ifne f206_22 (fun c20 => absurd c20 (by omega)) (fun c20 => ?_)
          refine ev_iconst ?_
          refine ev_ret rfl (by decide) (by decide) ?_
          show jEv _ _ _ _ _ _ _ (_, [(2, (-2)), (2, 0), (2, 42), (0, 0)], [(0, (-1))], _, _, _)
          refine ev_aload_n rfl ?_
          refine ev_aload_n rfl ?_
          refine ev_iload_n rfl ?_
          refine ev_iconst ?_
          refine ev_iadd (r := 1) (by decide) ?_
          refine ev_sald (j := 1) (v := (xs 1)) rfl rfl rfl ?_
          refine ev_aload_n rfl ?_
          refine ev_iload_n rfl ?_
          refine ev_iconst ?_
          refine ev_iadd (r := 2) (by decide) ?_
          refine ev_sald (j := 2) (v := (xs 2)) rfl rfl rfl ?_
          refine ev_aload_n rfl ?_
          refine ev_iload_n rfl ?_
          refine ev_iconst ?_
          refine ev_iadd (r := 3) (by decide) ?_
          refine ev_sald (j := 3) (v := (xs 3)) rfl rfl rfl ?_
          refine ev_aload_n rfl ?_
          refine ev_iload_n rfl ?_
          refine ev_iconst ?_
          refine ev_iadd (r := 4) (by decide) ?_
          refine ev_sald (j := 4) (v := (xs 4)) rfl rfl rfl ?_
          refine ev_in (d := 7) (a := 0) (b := 0) (cd' := c351_0) (m := 5) (L0 := [(2, 42), (0, (xs 1)), (0, (xs 2)), (0, (xs 3)), (0, (xs 4))]) (jcall_v (A := [(0, (xs 4)), (0, (xs 3)), (0, (xs 2)), (0, (xs 1))]) (S' := [(0, (-1))]) (r := 42) rfl (hF.1.lt (by decide)) (hF.1.sh (by decide) rfl).1 (Nat.le_of_ble_eq_true rfl)) (by decide) ml351 pp351 (Nat.le_of_ble_eq_true rfl) rfl (by decide) (by decide) ?_
          refine ev_iload_n rfl ?_
          refine ev_iconst ?_
          refine ev_bipush ?_
          refine ev_in (d := 6) (a := 0) (b := 0) (cd' := c242_0) (m := 3) (L0 := [(0, (xs 1)), (0, 0), (0, 19)]) (jcall_s (A := [(0, 19), (0, 0), (0, (xs 1))]) (S' := []) (by decide) rfl (Nat.le_of_ble_eq_true rfl)) (by decide) ml242 pp242 (Nat.le_of_ble_eq_true rfl) rfl (by decide) (by decide) ?_
          refine ev_iload_n rfl ?_
          refine ev_iload_n rfl ?_
          refine ev_icmplt f242_14 (fun c21 => absurd c21 (by omega)) (fun c21 => ?_)
          refine ev_iload_n rfl ?_
          refine ev_iload_n rfl ?_
          refine ev_icmpgt f242_14 (fun c22 => absurd c22 (by omega)) (fun c22 => ?_)
          refine ev_iconst ?_
          refine ev_goto f242_15 ?_
          refine ev_ret rfl (by decide) (by decide) ?_
          show jEv _ _ _ _ _ _ _ (_, [(2, 42), (0, (xs 1)), (0, (xs 2)), (0, (xs 3)), (0, (xs 4))], [(0, 1)], _, _, _)
          refine ev_ifeq f351_20 (fun c23 => absurd c23 (by omega)) (fun c23 => ?_)
          refine ev_iload_n rfl ?_
          refine ev_iload_n rfl ?_
          refine ev_iload rfl ?_
          refine ev_in (d := 6) (a := 0) (b := 0) (cd' := c350_0) (m := 3) (L0 := [(0, (xs 2)), (0, (xs 3)), (0, (xs 4))]) (jcall_s (A := [(0, (xs 4)), (0, (xs 3)), (0, (xs 2))]) (S' := []) (by decide) rfl (Nat.le_of_ble_eq_true rfl)) (by decide) ml350 pp350 (Nat.le_of_ble_eq_true rfl) rfl (by decide) (by decide) ?_
          refine ev_iload_n rfl ?_
          refine ev_iconst ?_
          refine ev_sipush ?_
          refine ev_in (d := 5) (a := 0) (b := 0) (cd' := c242_0) (m := 3) (L0 := [(0, (xs 2)), (0, 0), (0, 999)]) (jcall_s (A := [(0, 999), (0, 0), (0, (xs 2))]) (S' := []) (by decide) rfl (Nat.le_of_ble_eq_true rfl)) (by decide) ml242 pp242 (Nat.le_of_ble_eq_true rfl) rfl (by decide) (by decide) ?_
          refine ev_iload_n rfl ?_
          refine ev_iload_n rfl ?_
          refine ev_icmplt f242_14 (fun c24 => absurd c24 (by omega)) (fun c24 => ?_)
          refine ev_iload_n rfl ?_
          refine ev_iload_n rfl ?_
          refine ev_icmpgt f242_14 (fun c25 => ?_) (fun c25 => absurd c25 (by omega))
          refine ev_iconst ?_
          refine ev_ret rfl (by decide) (by decide) ?_
          show jEv _ _ _ _ _ _ _ (_, [(0, (xs 2)), (0, (xs 3)), (0, (xs 4))], [(0, 0)], _, _, _)
          refine ev_ifeq f350_35 (fun c26 => ?_) (fun c26 => absurd c26 (by omega))
          refine ev_iconst ?_
          refine ev_ret rfl (by decide) (by decide) ?_
          show jEv _ _ _ _ _ _ _ (_, [(2, 42), (0, (xs 1)), (0, (xs 2)), (0, (xs 3)), (0, (xs 4))], [(0, 0)], _, _, _)
          refine ev_ifne f351_22 (fun c27 => absurd c27 (by omega)) (fun c27 => ?_)
          refine ev_iconst ?_
          refine ev_ret rfl (by decide) (by decide) ?_
          show jEv _ _ _ _ _ _ _ (_, [(2, (-2)), (2, 0), (2, 42), (0, 0)], [(0, (-1)), (0, (-1))], _, _, _)
          refine ev_icmpeq f384_2190 (fun c28 => ?_) (fun c28 => absurd c28 (by omega))
          exact law_tail _
        · refine ev_iload_n rfl ?_
          refine ev_iflt f134_35 (fun c29 => ?_) (fun c29 => ?_)
          · refine ev_iconst ?_
            refine ev_ret rfl (by decide) (by decide) ?_
            show jEv _ _ _ _ _ _ _ (_, [(2, 0), (0, (xs 1)), (0, (xs 2)), (0, (xs 3)), (0, (xs 4))], [(0, 0)], _, _, _)
            refine ev_ifne f206_22 (fun c30 => absurd c30 (by omega)) (fun c30 => ?_)
            refine ev_iconst ?_
            refine ev_ret rfl (by decide) (by decide) ?_
            show jEv _ _ _ _ _ _ _ (_, [(2, (-2)), (2, 0), (2, 42), (0, 0)], [(0, (-1))], _, _, _)
            refine ev_aload_n rfl ?_
            refine ev_aload_n rfl ?_
            refine ev_iload_n rfl ?_
            refine ev_iconst ?_
            refine ev_iadd (r := 1) (by decide) ?_
            refine ev_sald (j := 1) (v := (xs 1)) rfl rfl rfl ?_
            refine ev_aload_n rfl ?_
            refine ev_iload_n rfl ?_
            refine ev_iconst ?_
            refine ev_iadd (r := 2) (by decide) ?_
            refine ev_sald (j := 2) (v := (xs 2)) rfl rfl rfl ?_
            refine ev_aload_n rfl ?_
            refine ev_iload_n rfl ?_
            refine ev_iconst ?_
            refine ev_iadd (r := 3) (by decide) ?_
            refine ev_sald (j := 3) (v := (xs 3)) rfl rfl rfl ?_
            refine ev_aload_n rfl ?_
            refine ev_iload_n rfl ?_
            refine ev_iconst ?_
            refine ev_iadd (r := 4) (by decide) ?_
            refine ev_sald (j := 4) (v := (xs 4)) rfl rfl rfl ?_
            refine ev_in (d := 7) (a := 0) (b := 0) (cd' := c351_0) (m := 5) (L0 := [(2, 42), (0, (xs 1)), (0, (xs 2)), (0, (xs 3)), (0, (xs 4))]) (jcall_v (A := [(0, (xs 4)), (0, (xs 3)), (0, (xs 2)), (0, (xs 1))]) (S' := [(0, (-1))]) (r := 42) rfl (hF.1.lt (by decide)) (hF.1.sh (by decide) rfl).1 (Nat.le_of_ble_eq_true rfl)) (by decide) ml351 pp351 (Nat.le_of_ble_eq_true rfl) rfl (by decide) (by decide) ?_
            refine ev_iload_n rfl ?_
            refine ev_iconst ?_
            refine ev_bipush ?_
            refine ev_in (d := 6) (a := 0) (b := 0) (cd' := c242_0) (m := 3) (L0 := [(0, (xs 1)), (0, 0), (0, 19)]) (jcall_s (A := [(0, 19), (0, 0), (0, (xs 1))]) (S' := []) (by decide) rfl (Nat.le_of_ble_eq_true rfl)) (by decide) ml242 pp242 (Nat.le_of_ble_eq_true rfl) rfl (by decide) (by decide) ?_
            refine ev_iload_n rfl ?_
            refine ev_iload_n rfl ?_
            refine ev_icmplt f242_14 (fun c31 => absurd c31 (by omega)) (fun c31 => ?_)
            refine ev_iload_n rfl ?_
            refine ev_iload_n rfl ?_
            refine ev_icmpgt f242_14 (fun c32 => absurd c32 (by omega)) (fun c32 => ?_)
            refine ev_iconst ?_
            refine ev_goto f242_15 ?_
            refine ev_ret rfl (by decide) (by decide) ?_
            show jEv _ _ _ _ _ _ _ (_, [(2, 42), (0, (xs 1)), (0, (xs 2)), (0, (xs 3)), (0, (xs 4))], [(0, 1)], _, _, _)
            refine ev_ifeq f351_20 (fun c33 => absurd c33 (by omega)) (fun c33 => ?_)
            refine ev_iload_n rfl ?_
            refine ev_iload_n rfl ?_
            refine ev_iload rfl ?_
            refine ev_in (d := 6) (a := 0) (b := 0) (cd' := c350_0) (m := 3) (L0 := [(0, (xs 2)), (0, (xs 3)), (0, (xs 4))]) (jcall_s (A := [(0, (xs 4)), (0, (xs 3)), (0, (xs 2))]) (S' := []) (by decide) rfl (Nat.le_of_ble_eq_true rfl)) (by decide) ml350 pp350 (Nat.le_of_ble_eq_true rfl) rfl (by decide) (by decide) ?_
            refine ev_iload_n rfl ?_
            refine ev_iconst ?_
            refine ev_sipush ?_
            refine ev_in (d := 5) (a := 0) (b := 0) (cd' := c242_0) (m := 3) (L0 := [(0, (xs 2)), (0, 0), (0, 999)]) (jcall_s (A := [(0, 999), (0, 0), (0, (xs 2))]) (S' := []) (by decide) rfl (Nat.le_of_ble_eq_true rfl)) (by decide) ml242 pp242 (Nat.le_of_ble_eq_true rfl) rfl (by decide) (by decide) ?_
            refine ev_iload_n rfl ?_
            refine ev_iload_n rfl ?_
            refine ev_icmplt f242_14 (fun c34 => absurd c34 (by omega)) (fun c34 => ?_)
            refine ev_iload_n rfl ?_
            refine ev_iload_n rfl ?_
            refine ev_icmpgt f242_14 (fun c35 => absurd c35 (by omega)) (fun c35 => ?_)
            refine ev_iconst ?_
            refine ev_goto f242_15 ?_
            refine ev_ret rfl (by decide) (by decide) ?_
            show jEv _ _ _ _ _ _ _ (_, [(0, (xs 2)), (0, (xs 3)), (0, (xs 4))], [(0, 1)], _, _, _)
            refine ev_ifeq f350_35 (fun c36 => absurd c36 (by omega)) (fun c36 => ?_)
            refine ev_iload_n rfl ?_
            refine ev_iconst ?_
            refine ev_bipush ?_
            refine ev_in (d := 5) (a := 0) (b := 0) (cd' := c242_0) (m := 3) (L0 := [(0, (xs 3)), (0, 0), (0, 100)]) (jcall_s (A := [(0, 100), (0, 0), (0, (xs 3))]) (S' := []) (by decide) rfl (Nat.le_of_ble_eq_true rfl)) (by decide) ml242 pp242 (Nat.le_of_ble_eq_true rfl) rfl (by decide) (by decide) ?_
            refine ev_iload_n rfl ?_
            refine ev_iload_n rfl ?_
            refine ev_icmplt f242_14 (fun c37 => ?_) (fun c37 => absurd c37 (by omega))
            refine ev_iconst ?_
            refine ev_ret rfl (by decide) (by decide) ?_
            show jEv _ _ _ _ _ _ _ (_, [(0, (xs 2)), (0, (xs 3)), (0, (xs 4))], [(0, 0)], _, _, _)
            refine ev_ifeq f350_35 (fun c38 => ?_) (fun c38 => absurd c38 (by omega))
            refine ev_iconst ?_
            refine ev_ret rfl (by decide) (by decide) ?_
            show jEv _ _ _ _ _ _ _ (_, [(2, 42), (0, (xs 1)), (0, (xs 2)), (0, (xs 3)), (0, (xs 4))], [(0, 0)], _, _, _)
            refine ev_ifne f351_22 (fun c39 => absurd c39 (by omega)) (fun c39 => ?_)
            refine ev_iconst ?_
            refine ev_ret rfl (by decide) (by decide) ?_
            show jEv _ _ _ _ _ _ _ (_, [(2, (-2)), (2, 0), (2, 42), (0, 0)], [(0, (-1)), (0, (-1))], _, _, _)
            refine ev_icmpeq f384_2190 (fun c40 => ?_) (fun c40 => absurd c40 (by omega))
            exact law_tail _
          · refine ev_iload_n rfl ?_
            refine ev_bipush ?_
            refine ev_icmpgt f134_35 (fun c41 => ?_) (fun c41 => ?_)
            · refine ev_iconst ?_
              refine ev_ret rfl (by decide) (by decide) ?_
              show jEv _ _ _ _ _ _ _ (_, [(2, 0), (0, (xs 1)), (0, (xs 2)), (0, (xs 3)), (0, (xs 4))], [(0, 0)], _, _, _)
              refine ev_ifne f206_22 (fun c42 => absurd c42 (by omega)) (fun c42 => ?_)
              refine ev_iconst ?_
              refine ev_ret rfl (by decide) (by decide) ?_
              show jEv _ _ _ _ _ _ _ (_, [(2, (-2)), (2, 0), (2, 42), (0, 0)], [(0, (-1))], _, _, _)
              refine ev_aload_n rfl ?_
              refine ev_aload_n rfl ?_
              refine ev_iload_n rfl ?_
              refine ev_iconst ?_
              refine ev_iadd (r := 1) (by decide) ?_
              refine ev_sald (j := 1) (v := (xs 1)) rfl rfl rfl ?_
              refine ev_aload_n rfl ?_
              refine ev_iload_n rfl ?_
              refine ev_iconst ?_
              refine ev_iadd (r := 2) (by decide) ?_
              refine ev_sald (j := 2) (v := (xs 2)) rfl rfl rfl ?_
              refine ev_aload_n rfl ?_
              refine ev_iload_n rfl ?_
              refine ev_iconst ?_
              refine ev_iadd (r := 3) (by decide) ?_
              refine ev_sald (j := 3) (v := (xs 3)) rfl rfl rfl ?_
              refine ev_aload_n rfl ?_
              refine ev_iload_n rfl ?_
              refine ev_iconst ?_
              refine ev_iadd (r := 4) (by decide) ?_
              refine ev_sald (j := 4) (v := (xs 4)) rfl rfl rfl ?_
              refine ev_in (d := 7) (a := 0) (b := 0) (cd' := c351_0) (m := 5) (L0 := [(2, 42), (0, (xs 1)), (0, (xs 2)), (0, (xs 3)), (0, (xs 4))]) (jcall_v (A := [(0, (xs 4)), (0, (xs 3)), (0, (xs 2)), (0, (xs 1))]) (S' := [(0, (-1))]) (r := 42) rfl (hF.1.lt (by decide)) (hF.1.sh (by decide) rfl).1 (Nat.le_of_ble_eq_true rfl)) (by decide) ml351 pp351 (Nat.le_of_ble_eq_true rfl) rfl (by decide) (by decide) ?_
              refine ev_iload_n rfl ?_
              refine ev_iconst ?_
              refine ev_bipush ?_
              refine ev_in (d := 6) (a := 0) (b := 0) (cd' := c242_0) (m := 3) (L0 := [(0, (xs 1)), (0, 0), (0, 19)]) (jcall_s (A := [(0, 19), (0, 0), (0, (xs 1))]) (S' := []) (by decide) rfl (Nat.le_of_ble_eq_true rfl)) (by decide) ml242 pp242 (Nat.le_of_ble_eq_true rfl) rfl (by decide) (by decide) ?_
              refine ev_iload_n rfl ?_
              refine ev_iload_n rfl ?_
              refine ev_icmplt f242_14 (fun c43 => absurd c43 (by omega)) (fun c43 => ?_)
              refine ev_iload_n rfl ?_
              refine ev_iload_n rfl ?_
              refine ev_icmpgt f242_14 (fun c44 => absurd c44 (by omega)) (fun c44 => ?_)
              refine ev_iconst ?_
              refine ev_goto f242_15 ?_
              refine ev_ret rfl (by decide) (by decide) ?_
              show jEv _ _ _ _ _ _ _ (_, [(2, 42), (0, (xs 1)), (0, (xs 2)), (0, (xs 3)), (0, (xs 4))], [(0, 1)], _, _, _)
              refine ev_ifeq f351_20 (fun c45 => absurd c45 (by omega)) (fun c45 => ?_)
              refine ev_iload_n rfl ?_
              refine ev_iload_n rfl ?_
              refine ev_iload rfl ?_
              refine ev_in (d := 6) (a := 0) (b := 0) (cd' := c350_0) (m := 3) (L0 := [(0, (xs 2)), (0, (xs 3)), (0, (xs 4))]) (jcall_s (A := [(0, (xs 4)), (0, (xs 3)), (0, (xs 2))]) (S' := []) (by decide) rfl (Nat.le_of_ble_eq_true rfl)) (by decide) ml350 pp350 (Nat.le_of_ble_eq_true rfl) rfl (by decide) (by decide) ?_
              refine ev_iload_n rfl ?_
              refine ev_iconst ?_
              refine ev_sipush ?_
              refine ev_in (d := 5) (a := 0) (b := 0) (cd' := c242_0) (m := 3) (L0 := [(0, (xs 2)), (0, 0), (0, 999)]) (jcall_s (A := [(0, 999), (0, 0), (0, (xs 2))]) (S' := []) (by decide) rfl (Nat.le_of_ble_eq_true rfl)) (by decide) ml242 pp242 (Nat.le_of_ble_eq_true rfl) rfl (by decide) (by decide) ?_
              refine ev_iload_n rfl ?_
              refine ev_iload_n rfl ?_
              refine ev_icmplt f242_14 (fun c46 => absurd c46 (by omega)) (fun c46 => ?_)
              refine ev_iload_n rfl ?_
              refine ev_iload_n rfl ?_
              refine ev_icmpgt f242_14 (fun c47 => absurd c47 (by omega)) (fun c47 => ?_)
              refine ev_iconst ?_
              refine ev_goto f242_15 ?_
              refine ev_ret rfl (by decide) (by decide) ?_
              show jEv _ _ _ _ _ _ _ (_, [(0, (xs 2)), (0, (xs 3)), (0, (xs 4))], [(0, 1)], _, _, _)
              refine ev_ifeq f350_35 (fun c48 => absurd c48 (by omega)) (fun c48 => ?_)
              refine ev_iload_n rfl ?_
              refine ev_iconst ?_
              refine ev_bipush ?_
              refine ev_in (d := 5) (a := 0) (b := 0) (cd' := c242_0) (m := 3) (L0 := [(0, (xs 3)), (0, 0), (0, 100)]) (jcall_s (A := [(0, 100), (0, 0), (0, (xs 3))]) (S' := []) (by decide) rfl (Nat.le_of_ble_eq_true rfl)) (by decide) ml242 pp242 (Nat.le_of_ble_eq_true rfl) rfl (by decide) (by decide) ?_
              refine ev_iload_n rfl ?_
              refine ev_iload_n rfl ?_
              refine ev_icmplt f242_14 (fun c49 => absurd c49 (by omega)) (fun c49 => ?_)
              refine ev_iload_n rfl ?_
              refine ev_iload_n rfl ?_
              refine ev_icmpgt f242_14 (fun c50 => ?_) (fun c50 => absurd c50 (by omega))
              refine ev_iconst ?_
              refine ev_ret rfl (by decide) (by decide) ?_
              show jEv _ _ _ _ _ _ _ (_, [(0, (xs 2)), (0, (xs 3)), (0, (xs 4))], [(0, 0)], _, _, _)
              refine ev_ifeq f350_35 (fun c51 => ?_) (fun c51 => absurd c51 (by omega))
              refine ev_iconst ?_
              refine ev_ret rfl (by decide) (by decide) ?_
              show jEv _ _ _ _ _ _ _ (_, [(2, 42), (0, (xs 1)), (0, (xs 2)), (0, (xs 3)), (0, (xs 4))], [(0, 0)], _, _, _)
              refine ev_ifne f351_22 (fun c52 => absurd c52 (by omega)) (fun c52 => ?_)
              refine ev_iconst ?_
              refine ev_ret rfl (by decide) (by decide) ?_
              show jEv _ _ _ _ _ _ _ (_, [(2, (-2)), (2, 0), (2, 42), (0, 0)], [(0, (-1)), (0, (-1))], _, _, _)
              refine ev_icmpeq f384_2190 (fun c53 => ?_) (fun c53 => absurd c53 (by omega))
              exact law_tail _
            · refine ev_iload_n rfl ?_
              refine ev_iflt f134_35 (fun c54 => ?_) (fun c54 => ?_)
              · refine ev_iconst ?_
                refine ev_ret rfl (by decide) (by decide) ?_
                show jEv _ _ _ _ _ _ _ (_, [(2, 0), (0, (xs 1)), (0, (xs 2)), (0, (xs 3)), (0, (xs 4))], [(0, 0)], _, _, _)
                refine ev_ifne f206_22 (fun c55 => absurd c55 (by omega)) (fun c55 => ?_)
                refine ev_iconst ?_
                refine ev_ret rfl (by decide) (by decide) ?_
                show jEv _ _ _ _ _ _ _ (_, [(2, (-2)), (2, 0), (2, 42), (0, 0)], [(0, (-1))], _, _, _)
                refine ev_aload_n rfl ?_
                refine ev_aload_n rfl ?_
                refine ev_iload_n rfl ?_
                refine ev_iconst ?_
                refine ev_iadd (r := 1) (by decide) ?_
                refine ev_sald (j := 1) (v := (xs 1)) rfl rfl rfl ?_
                refine ev_aload_n rfl ?_
                refine ev_iload_n rfl ?_
                refine ev_iconst ?_
                refine ev_iadd (r := 2) (by decide) ?_
                refine ev_sald (j := 2) (v := (xs 2)) rfl rfl rfl ?_
                refine ev_aload_n rfl ?_
                refine ev_iload_n rfl ?_
                refine ev_iconst ?_
                refine ev_iadd (r := 3) (by decide) ?_
                refine ev_sald (j := 3) (v := (xs 3)) rfl rfl rfl ?_
                refine ev_aload_n rfl ?_
                refine ev_iload_n rfl ?_
                refine ev_iconst ?_
                refine ev_iadd (r := 4) (by decide) ?_
                refine ev_sald (j := 4) (v := (xs 4)) rfl rfl rfl ?_
                refine ev_in (d := 7) (a := 0) (b := 0) (cd' := c351_0) (m := 5) (L0 := [(2, 42), (0, (xs 1)), (0, (xs 2)), (0, (xs 3)), (0, (xs 4))]) (jcall_v (A := [(0, (xs 4)), (0, (xs 3)), (0, (xs 2)), (0, (xs 1))]) (S' := [(0, (-1))]) (r := 42) rfl (hF.1.lt (by decide)) (hF.1.sh (by decide) rfl).1 (Nat.le_of_ble_eq_true rfl)) (by decide) ml351 pp351 (Nat.le_of_ble_eq_true rfl) rfl (by decide) (by decide) ?_
                refine ev_iload_n rfl ?_
                refine ev_iconst ?_
                refine ev_bipush ?_
                refine ev_in (d := 6) (a := 0) (b := 0) (cd' := c242_0) (m := 3) (L0 := [(0, (xs 1)), (0, 0), (0, 19)]) (jcall_s (A := [(0, 19), (0, 0), (0, (xs 1))]) (S' := []) (by decide) rfl (Nat.le_of_ble_eq_true rfl)) (by decide) ml242 pp242 (Nat.le_of_ble_eq_true rfl) rfl (by decide) (by decide) ?_
                refine ev_iload_n rfl ?_
                refine ev_iload_n rfl ?_
                refine ev_icmplt f242_14 (fun c56 => absurd c56 (by omega)) (fun c56 => ?_)
                refine ev_iload_n rfl ?_
                refine ev_iload_n rfl ?_
                refine ev_icmpgt f242_14 (fun c57 => absurd c57 (by omega)) (fun c57 => ?_)
                refine ev_iconst ?_
                refine ev_goto f242_15 ?_
                refine ev_ret rfl (by decide) (by decide) ?_
                show jEv _ _ _ _ _ _ _ (_, [(2, 42), (0, (xs 1)), (0, (xs 2)), (0, (xs 3)), (0, (xs 4))], [(0, 1)], _, _, _)
                refine ev_ifeq f351_20 (fun c58 => absurd c58 (by omega)) (fun c58 => ?_)
                refine ev_iload_n rfl ?_
                refine ev_iload_n rfl ?_
                refine ev_iload rfl ?_
                refine ev_in (d := 6) (a := 0) (b := 0) (cd' := c350_0) (m := 3) (L0 := [(0, (xs 2)), (0, (xs 3)), (0, (xs 4))]) (jcall_s (A := [(0, (xs 4)), (0, (xs 3)), (0, (xs 2))]) (S' := []) (by decide) rfl (Nat.le_of_ble_eq_true rfl)) (by decide) ml350 pp350 (Nat.le_of_ble_eq_true rfl) rfl (by decide) (by decide) ?_
                refine ev_iload_n rfl ?_
                refine ev_iconst ?_
                refine ev_sipush ?_
                refine ev_in (d := 5) (a := 0) (b := 0) (cd' := c242_0) (m := 3) (L0 := [(0, (xs 2)), (0, 0), (0, 999)]) (jcall_s (A := [(0, 999), (0, 0), (0, (xs 2))]) (S' := []) (by decide) rfl (Nat.le_of_ble_eq_true rfl)) (by decide) ml242 pp242 (Nat.le_of_ble_eq_true rfl) rfl (by decide) (by decide) ?_
                refine ev_iload_n rfl ?_
                refine ev_iload_n rfl ?_
                refine ev_icmplt f242_14 (fun c59 => absurd c59 (by omega)) (fun c59 => ?_)
                refine ev_iload_n rfl ?_
                refine ev_iload_n rfl ?_
                refine ev_icmpgt f242_14 (fun c60 => absurd c60 (by omega)) (fun c60 => ?_)
                refine ev_iconst ?_
                refine ev_goto f242_15 ?_
                refine ev_ret rfl (by decide) (by decide) ?_
                show jEv _ _ _ _ _ _ _ (_, [(0, (xs 2)), (0, (xs 3)), (0, (xs 4))], [(0, 1)], _, _, _)
                refine ev_ifeq f350_35 (fun c61 => absurd c61 (by omega)) (fun c61 => ?_)
                refine ev_iload_n rfl ?_
                refine ev_iconst ?_
                refine ev_bipush ?_
                refine ev_in (d := 5) (a := 0) (b := 0) (cd' := c242_0) (m := 3) (L0 := [(0, (xs 3)), (0, 0), (0, 100)]) (jcall_s (A := [(0, 100), (0, 0), (0, (xs 3))]) (S' := []) (by decide) rfl (Nat.le_of_ble_eq_true rfl)) (by decide) ml242 pp242 (Nat.le_of_ble_eq_true rfl) rfl (by decide) (by decide) ?_
                refine ev_iload_n rfl ?_
                refine ev_iload_n rfl ?_
                refine ev_icmplt f242_14 (fun c62 => absurd c62 (by omega)) (fun c62 => ?_)
                refine ev_iload_n rfl ?_
                refine ev_iload_n rfl ?_
                refine ev_icmpgt f242_14 (fun c63 => absurd c63 (by omega)) (fun c63 => ?_)
                refine ev_iconst ?_
                refine ev_goto f242_15 ?_
                refine ev_ret rfl (by decide) (by decide) ?_
                show jEv _ _ _ _ _ _ _ (_, [(0, (xs 2)), (0, (xs 3)), (0, (xs 4))], [(0, 1)], _, _, _)
                refine ev_ifeq f350_35 (fun c64 => absurd c64 (by omega)) (fun c64 => ?_)
                refine ev_iload_n rfl ?_
                refine ev_iconst ?_
                refine ev_bipush ?_
                refine ev_in (d := 5) (a := 0) (b := 0) (cd' := c242_0) (m := 3) (L0 := [(0, (xs 4)), (0, 0), (0, 99)]) (jcall_s (A := [(0, 99), (0, 0), (0, (xs 4))]) (S' := []) (by decide) rfl (Nat.le_of_ble_eq_true rfl)) (by decide) ml242 pp242 (Nat.le_of_ble_eq_true rfl) rfl (by decide) (by decide) ?_
                refine ev_iload_n rfl ?_
                refine ev_iload_n rfl ?_
                refine ev_icmplt f242_14 (fun c65 => ?_) (fun c65 => absurd c65 (by omega))
                refine ev_iconst ?_
                refine ev_ret rfl (by decide) (by decide) ?_
                show jEv _ _ _ _ _ _ _ (_, [(0, (xs 2)), (0, (xs 3)), (0, (xs 4))], [(0, 0)], _, _, _)
                refine ev_ifeq f350_35 (fun c66 => ?_) (fun c66 => absurd c66 (by omega))
                refine ev_iconst ?_
                refine ev_ret rfl (by decide) (by decide) ?_
                show jEv _ _ _ _ _ _ _ (_, [(2, 42), (0, (xs 1)), (0, (xs 2)), (0, (xs 3)), (0, (xs 4))], [(0, 0)], _, _, _)
                refine ev_ifne f351_22 (fun c67 => absurd c67 (by omega)) (fun c67 => ?_)
                refine ev_iconst ?_
                refine ev_ret rfl (by decide) (by decide) ?_
                show jEv _ _ _ _ _ _ _ (_, [(2, (-2)), (2, 0), (2, 42), (0, 0)], [(0, (-1)), (0, (-1))], _, _, _)
                refine ev_icmpeq f384_2190 (fun c68 => ?_) (fun c68 => absurd c68 (by omega))
                exact law_tail _
              · refine ev_iload_n rfl ?_
                refine ev_bipush ?_
                refine ev_icmpgt f134_35 (fun c69 => ?_) (fun c69 => ?_)
                · refine ev_iconst ?_
                  refine ev_ret rfl (by decide) (by decide) ?_
                  show jEv _ _ _ _ _ _ _ (_, [(2, 0), (0, (xs 1)), (0, (xs 2)), (0, (xs 3)), (0, (xs 4))], [(0, 0)], _, _, _)
                  refine ev_ifne f206_22 (fun c70 => absurd c70 (by omega)) (fun c70 => ?_)
                  refine ev_iconst ?_
                  refine ev_ret rfl (by decide) (by decide) ?_
                  show jEv _ _ _ _ _ _ _ (_, [(2, (-2)), (2, 0), (2, 42), (0, 0)], [(0, (-1))], _, _, _)
                  refine ev_aload_n rfl ?_
                  refine ev_aload_n rfl ?_
                  refine ev_iload_n rfl ?_
                  refine ev_iconst ?_
                  refine ev_iadd (r := 1) (by decide) ?_
                  refine ev_sald (j := 1) (v := (xs 1)) rfl rfl rfl ?_
                  refine ev_aload_n rfl ?_
                  refine ev_iload_n rfl ?_
                  refine ev_iconst ?_
                  refine ev_iadd (r := 2) (by decide) ?_
                  refine ev_sald (j := 2) (v := (xs 2)) rfl rfl rfl ?_
                  refine ev_aload_n rfl ?_
                  refine ev_iload_n rfl ?_
                  refine ev_iconst ?_
                  refine ev_iadd (r := 3) (by decide) ?_
                  refine ev_sald (j := 3) (v := (xs 3)) rfl rfl rfl ?_
                  refine ev_aload_n rfl ?_
                  refine ev_iload_n rfl ?_
                  refine ev_iconst ?_
                  refine ev_iadd (r := 4) (by decide) ?_
                  refine ev_sald (j := 4) (v := (xs 4)) rfl rfl rfl ?_
                  refine ev_in (d := 7) (a := 0) (b := 0) (cd' := c351_0) (m := 5) (L0 := [(2, 42), (0, (xs 1)), (0, (xs 2)), (0, (xs 3)), (0, (xs 4))]) (jcall_v (A := [(0, (xs 4)), (0, (xs 3)), (0, (xs 2)), (0, (xs 1))]) (S' := [(0, (-1))]) (r := 42) rfl (hF.1.lt (by decide)) (hF.1.sh (by decide) rfl).1 (Nat.le_of_ble_eq_true rfl)) (by decide) ml351 pp351 (Nat.le_of_ble_eq_true rfl) rfl (by decide) (by decide) ?_
                  refine ev_iload_n rfl ?_
                  refine ev_iconst ?_
                  refine ev_bipush ?_
                  refine ev_in (d := 6) (a := 0) (b := 0) (cd' := c242_0) (m := 3) (L0 := [(0, (xs 1)), (0, 0), (0, 19)]) (jcall_s (A := [(0, 19), (0, 0), (0, (xs 1))]) (S' := []) (by decide) rfl (Nat.le_of_ble_eq_true rfl)) (by decide) ml242 pp242 (Nat.le_of_ble_eq_true rfl) rfl (by decide) (by decide) ?_
                  refine ev_iload_n rfl ?_
                  refine ev_iload_n rfl ?_
                  refine ev_icmplt f242_14 (fun c71 => absurd c71 (by omega)) (fun c71 => ?_)
                  refine ev_iload_n rfl ?_
                  refine ev_iload_n rfl ?_
                  refine ev_icmpgt f242_14 (fun c72 => absurd c72 (by omega)) (fun c72 => ?_)
                  refine ev_iconst ?_
                  refine ev_goto f242_15 ?_
                  refine ev_ret rfl (by decide) (by decide) ?_
                  show jEv _ _ _ _ _ _ _ (_, [(2, 42), (0, (xs 1)), (0, (xs 2)), (0, (xs 3)), (0, (xs 4))], [(0, 1)], _, _, _)
                  refine ev_ifeq f351_20 (fun c73 => absurd c73 (by omega)) (fun c73 => ?_)
                  refine ev_iload_n rfl ?_
                  refine ev_iload_n rfl ?_
                  refine ev_iload rfl ?_
                  refine ev_in (d := 6) (a := 0) (b := 0) (cd' := c350_0) (m := 3) (L0 := [(0, (xs 2)), (0, (xs 3)), (0, (xs 4))]) (jcall_s (A := [(0, (xs 4)), (0, (xs 3)), (0, (xs 2))]) (S' := []) (by decide) rfl (Nat.le_of_ble_eq_true rfl)) (by decide) ml350 pp350 (Nat.le_of_ble_eq_true rfl) rfl (by decide) (by decide) ?_
                  refine ev_iload_n rfl ?_
                  refine ev_iconst ?_
                  refine ev_sipush ?_
                  refine ev_in (d := 5) (a := 0) (b := 0) (cd' := c242_0) (m := 3) (L0 := [(0, (xs 2)), (0, 0), (0, 999)]) (jcall_s (A := [(0, 999), (0, 0), (0, (xs 2))]) (S' := []) (by decide) rfl (Nat.le_of_ble_eq_true rfl)) (by decide) ml242 pp242 (Nat.le_of_ble_eq_true rfl) rfl (by decide) (by decide) ?_
                  refine ev_iload_n rfl ?_
                  refine ev_iload_n rfl ?_
                  refine ev_icmplt f242_14 (fun c74 => absurd c74 (by omega)) (fun c74 => ?_)
                  refine ev_iload_n rfl ?_
                  refine ev_iload_n rfl ?_
                  refine ev_icmpgt f242_14 (fun c75 => absurd c75 (by omega)) (fun c75 => ?_)
                  refine ev_iconst ?_
                  refine ev_goto f242_15 ?_
                  refine ev_ret rfl (by decide) (by decide) ?_
                  show jEv _ _ _ _ _ _ _ (_, [(0, (xs 2)), (0, (xs 3)), (0, (xs 4))], [(0, 1)], _, _, _)
                  refine ev_ifeq f350_35 (fun c76 => absurd c76 (by omega)) (fun c76 => ?_)
                  refine ev_iload_n rfl ?_
                  refine ev_iconst ?_
                  refine ev_bipush ?_
                  refine ev_in (d := 5) (a := 0) (b := 0) (cd' := c242_0) (m := 3) (L0 := [(0, (xs 3)), (0, 0), (0, 100)]) (jcall_s (A := [(0, 100), (0, 0), (0, (xs 3))]) (S' := []) (by decide) rfl (Nat.le_of_ble_eq_true rfl)) (by decide) ml242 pp242 (Nat.le_of_ble_eq_true rfl) rfl (by decide) (by decide) ?_
                  refine ev_iload_n rfl ?_
                  refine ev_iload_n rfl ?_
                  refine ev_icmplt f242_14 (fun c77 => absurd c77 (by omega)) (fun c77 => ?_)
                  refine ev_iload_n rfl ?_
                  refine ev_iload_n rfl ?_
                  refine ev_icmpgt f242_14 (fun c78 => absurd c78 (by omega)) (fun c78 => ?_)
                  refine ev_iconst ?_
                  refine ev_goto f242_15 ?_
                  refine ev_ret rfl (by decide) (by decide) ?_
                  show jEv _ _ _ _ _ _ _ (_, [(0, (xs 2)), (0, (xs 3)), (0, (xs 4))], [(0, 1)], _, _, _)
                  refine ev_ifeq f350_35 (fun c79 => absurd c79 (by omega)) (fun c79 => ?_)
                  refine ev_iload_n rfl ?_
                  refine ev_iconst ?_
                  refine ev_bipush ?_
                  refine ev_in (d := 5) (a := 0) (b := 0) (cd' := c242_0) (m := 3) (L0 := [(0, (xs 4)), (0, 0), (0, 99)]) (jcall_s (A := [(0, 99), (0, 0), (0, (xs 4))]) (S' := []) (by decide) rfl (Nat.le_of_ble_eq_true rfl)) (by decide) ml242 pp242 (Nat.le_of_ble_eq_true rfl) rfl (by decide) (by decide) ?_
                  refine ev_iload_n rfl ?_
                  refine ev_iload_n rfl ?_
                  refine ev_icmplt f242_14 (fun c80 => absurd c80 (by omega)) (fun c80 => ?_)
                  refine ev_iload_n rfl ?_
                  refine ev_iload_n rfl ?_
                  refine ev_icmpgt f242_14 (fun c81 => ?_) (fun c81 => absurd c81 (by omega))
                  refine ev_iconst ?_
                  refine ev_ret rfl (by decide) (by decide) ?_
                  show jEv _ _ _ _ _ _ _ (_, [(0, (xs 2)), (0, (xs 3)), (0, (xs 4))], [(0, 0)], _, _, _)
                  refine ev_ifeq f350_35 (fun c82 => ?_) (fun c82 => absurd c82 (by omega))
                  refine ev_iconst ?_
                  refine ev_ret rfl (by decide) (by decide) ?_
                  show jEv _ _ _ _ _ _ _ (_, [(2, 42), (0, (xs 1)), (0, (xs 2)), (0, (xs 3)), (0, (xs 4))], [(0, 0)], _, _, _)
                  refine ev_ifne f351_22 (fun c83 => absurd c83 (by omega)) (fun c83 => ?_)
                  refine ev_iconst ?_
                  refine ev_ret rfl (by decide) (by decide) ?_
                  show jEv _ _ _ _ _ _ _ (_, [(2, (-2)), (2, 0), (2, 42), (0, 0)], [(0, (-1)), (0, (-1))], _, _, _)
                  refine ev_icmpeq f384_2190 (fun c84 => ?_) (fun c84 => absurd c84 (by omega))
                  exact law_tail _
                · refine ev_iconst ?_
                  refine ev_goto f134_36 ?_
                  refine ev_ret rfl (by decide) (by decide) ?_
                  show jEv _ _ _ _ _ _ _ (_, [(2, 0), (0, (xs 1)), (0, (xs 2)), (0, (xs 3)), (0, (xs 4))], [(0, 1)], _, _, _)
                  refine ev_ifne f206_22 (fun c85 => ?_) (fun c85 => absurd c85 (by omega))
                  refine ev_aload_n rfl ?_
                  refine ev_getf (r := 0) (v := 26) (hF.1.lt (by decide)) (hF.1.fam (by decide) (by decide)) ft11_11 ((hF.v rfl)) ?_
                  refine ev_iload_n rfl ?_
                  refine ev_iload_n rfl ?_
                  refine ev_iload_n rfl ?_
                  refine ev_iload rfl ?_
                  refine ev_in (d := 6) (a := 0) (b := 0) (cd' := c135_0) (m := 5) (L0 := [(2, 26), (0, (xs 1)), (0, (xs 2)), (0, (xs 3)), (0, (xs 4))]) (jcall_v (A := [(0, (xs 4)), (0, (xs 3)), (0, (xs 2)), (0, (xs 1))]) (S' := []) (r := 26) rfl (hF.1.lt (by decide)) (hF.1.sh (by decide) rfl).1 (Nat.le_of_ble_eq_true rfl)) (by decide) ml135 pp135 (Nat.le_of_ble_eq_true rfl) rfl (by decide) (by decide) ?_
                  refine ev_iload_n rfl ?_
                  refine ev_iflt f135_32 (fun c86 => absurd c86 (by omega)) (fun c86 => ?_)
                  refine ev_iload_n rfl ?_
                  refine ev_bipush ?_
                  refine ev_icmpge f135_32 (fun c87 => absurd c87 (by omega)) (fun c87 => ?_)
                  refine ev_aload_n rfl ?_
                  refine ev_getf (r := 26) (v := 34) (hF.1.lt (by decide)) (hF.1.fam (by decide) (by decide)) ft9_12 ((hF.v rfl)) ?_
                  refine ev_iload_n rfl ?_
                  refine ev_iload_n rfl ?_
                  refine ev_iastG (r := 34) (j := ((xs 1)).toNat) (hF.1.lt (by decide)) (hF.1.sh (by decide) rfl).1 (by omega) (hF.1.inbx (by decide) (n := 20) (by decide) (by omega)) (fun h206 e206 => ?_)
                  have hS206 := hF.1.wr e206
                  refine ev_aload_n rfl ?_
                  refine ev_getf (r := 26) (v := 35) (hS206.lt (by decide)) (hS206.fam (by decide) (by decide)) ft9_13 ((jw_ne e206 (Or.inl (by decide))).trans ((hF.v rfl))) ?_
                  refine ev_iload_n rfl ?_
                  refine ev_iload_n rfl ?_
                  refine ev_iastG (r := 35) (j := ((xs 1)).toNat) (hS206.lt (by decide)) (hS206.sh (by decide) rfl).1 (by omega) (hS206.inbx (by decide) (n := 20) (by decide) (by omega)) (fun h207 e207 => ?_)
                  have hS207 := hS206.wr e207
                  refine ev_aload_n rfl ?_
                  refine ev_getf (r := 26) (v := 36) (hS207.lt (by decide)) (hS207.fam (by decide) (by decide)) ft9_14 ((jw_ne e207 (Or.inl (by decide))).trans ((jw_ne e206 (Or.inl (by decide))).trans ((hF.v rfl)))) ?_
                  refine ev_iload_n rfl ?_
                  refine ev_iload rfl ?_
                  refine ev_iastG (r := 36) (j := ((xs 1)).toNat) (hS207.lt (by decide)) (hS207.sh (by decide) rfl).1 (by omega) (hS207.inbx (by decide) (n := 20) (by decide) (by omega)) (fun h208 e208 => ?_)
                  have hS208 := hS207.wr e208
                  refine ev_ret rfl (by decide) (by decide) ?_
                  show jEv _ _ _ _ _ _ _ (_, [(2, 0), (0, (xs 1)), (0, (xs 2)), (0, (xs 3)), (0, (xs 4))], [], _, _, _)
                  refine ev_iconst ?_
                  refine ev_ret rfl (by decide) (by decide) ?_
                  show jEv _ _ _ _ _ _ _ (_, [(2, (-2)), (2, 0), (2, 42), (0, 0)], [(0, 1)], _, _, _)
                  refine ev_aload_n rfl ?_
                  refine ev_aload_n rfl ?_
                  refine ev_iload_n rfl ?_
                  refine ev_iconst ?_
                  refine ev_iadd (r := 1) (by decide) ?_
                  refine ev_sald (j := 1) (v := (xs 1)) rfl rfl rfl ?_
                  refine ev_aload_n rfl ?_
                  refine ev_iload_n rfl ?_
                  refine ev_iconst ?_
                  refine ev_iadd (r := 2) (by decide) ?_
                  refine ev_sald (j := 2) (v := (xs 2)) rfl rfl rfl ?_
                  refine ev_aload_n rfl ?_
                  refine ev_iload_n rfl ?_
                  refine ev_iconst ?_
                  refine ev_iadd (r := 3) (by decide) ?_
                  refine ev_sald (j := 3) (v := (xs 3)) rfl rfl rfl ?_
                  refine ev_aload_n rfl ?_
                  refine ev_iload_n rfl ?_
                  refine ev_iconst ?_
                  refine ev_iadd (r := 4) (by decide) ?_
                  refine ev_sald (j := 4) (v := (xs 4)) rfl rfl rfl ?_
                  refine ev_in (d := 7) (a := 0) (b := 0) (cd' := c351_0) (m := 5) (L0 := [(2, 42), (0, (xs 1)), (0, (xs 2)), (0, (xs 3)), (0, (xs 4))]) (jcall_v (A := [(0, (xs 4)), (0, (xs 3)), (0, (xs 2)), (0, (xs 1))]) (S' := [(0, 1)]) (r := 42) rfl (hS208.lt (by decide)) (hS208.sh (by decide) rfl).1 (Nat.le_of_ble_eq_true rfl)) (by decide) ml351 pp351 (Nat.le_of_ble_eq_true rfl) rfl (by decide) (by decide) ?_
                  refine ev_iload_n rfl ?_
                  refine ev_iconst ?_
                  refine ev_bipush ?_
                  refine ev_in (d := 6) (a := 0) (b := 0) (cd' := c242_0) (m := 3) (L0 := [(0, (xs 1)), (0, 0), (0, 19)]) (jcall_s (A := [(0, 19), (0, 0), (0, (xs 1))]) (S' := []) (by decide) rfl (Nat.le_of_ble_eq_true rfl)) (by decide) ml242 pp242 (Nat.le_of_ble_eq_true rfl) rfl (by decide) (by decide) ?_
                  refine ev_iload_n rfl ?_
                  refine ev_iload_n rfl ?_
                  refine ev_icmplt f242_14 (fun c88 => absurd c88 (by omega)) (fun c88 => ?_)
                  refine ev_iload_n rfl ?_
                  refine ev_iload_n rfl ?_
                  refine ev_icmpgt f242_14 (fun c89 => absurd c89 (by omega)) (fun c89 => ?_)
                  refine ev_iconst ?_
                  refine ev_goto f242_15 ?_
                  refine ev_ret rfl (by decide) (by decide) ?_
                  show jEv _ _ _ _ _ _ _ (_, [(2, 42), (0, (xs 1)), (0, (xs 2)), (0, (xs 3)), (0, (xs 4))], [(0, 1)], _, _, _)
                  refine ev_ifeq f351_20 (fun c90 => absurd c90 (by omega)) (fun c90 => ?_)
                  refine ev_iload_n rfl ?_
                  refine ev_iload_n rfl ?_
                  refine ev_iload rfl ?_
                  refine ev_in (d := 6) (a := 0) (b := 0) (cd' := c350_0) (m := 3) (L0 := [(0, (xs 2)), (0, (xs 3)), (0, (xs 4))]) (jcall_s (A := [(0, (xs 4)), (0, (xs 3)), (0, (xs 2))]) (S' := []) (by decide) rfl (Nat.le_of_ble_eq_true rfl)) (by decide) ml350 pp350 (Nat.le_of_ble_eq_true rfl) rfl (by decide) (by decide) ?_
                  refine ev_iload_n rfl ?_
                  refine ev_iconst ?_
                  refine ev_sipush ?_
                  refine ev_in (d := 5) (a := 0) (b := 0) (cd' := c242_0) (m := 3) (L0 := [(0, (xs 2)), (0, 0), (0, 999)]) (jcall_s (A := [(0, 999), (0, 0), (0, (xs 2))]) (S' := []) (by decide) rfl (Nat.le_of_ble_eq_true rfl)) (by decide) ml242 pp242 (Nat.le_of_ble_eq_true rfl) rfl (by decide) (by decide) ?_
                  refine ev_iload_n rfl ?_
                  refine ev_iload_n rfl ?_
                  refine ev_icmplt f242_14 (fun c91 => absurd c91 (by omega)) (fun c91 => ?_)
                  refine ev_iload_n rfl ?_
                  refine ev_iload_n rfl ?_
                  refine ev_icmpgt f242_14 (fun c92 => absurd c92 (by omega)) (fun c92 => ?_)
                  refine ev_iconst ?_
                  refine ev_goto f242_15 ?_
                  refine ev_ret rfl (by decide) (by decide) ?_
                  show jEv _ _ _ _ _ _ _ (_, [(0, (xs 2)), (0, (xs 3)), (0, (xs 4))], [(0, 1)], _, _, _)
                  refine ev_ifeq f350_35 (fun c93 => absurd c93 (by omega)) (fun c93 => ?_)
                  refine ev_iload_n rfl ?_
                  refine ev_iconst ?_
                  refine ev_bipush ?_
                  refine ev_in (d := 5) (a := 0) (b := 0) (cd' := c242_0) (m := 3) (L0 := [(0, (xs 3)), (0, 0), (0, 100)]) (jcall_s (A := [(0, 100), (0, 0), (0, (xs 3))]) (S' := []) (by decide) rfl (Nat.le_of_ble_eq_true rfl)) (by decide) ml242 pp242 (Nat.le_of_ble_eq_true rfl) rfl (by decide) (by decide) ?_
                  refine ev_iload_n rfl ?_
                  refine ev_iload_n rfl ?_
                  refine ev_icmplt f242_14 (fun c94 => absurd c94 (by omega)) (fun c94 => ?_)
                  refine ev_iload_n rfl ?_
                  refine ev_iload_n rfl ?_
                  refine ev_icmpgt f242_14 (fun c95 => absurd c95 (by omega)) (fun c95 => ?_)
                  refine ev_iconst ?_
                  refine ev_goto f242_15 ?_
                  refine ev_ret rfl (by decide) (by decide) ?_
                  show jEv _ _ _ _ _ _ _ (_, [(0, (xs 2)), (0, (xs 3)), (0, (xs 4))], [(0, 1)], _, _, _)
                  refine ev_ifeq f350_35 (fun c96 => absurd c96 (by omega)) (fun c96 => ?_)
                  refine ev_iload_n rfl ?_
                  refine ev_iconst ?_
                  refine ev_bipush ?_
                  refine ev_in (d := 5) (a := 0) (b := 0) (cd' := c242_0) (m := 3) (L0 := [(0, (xs 4)), (0, 0), (0, 99)]) (jcall_s (A := [(0, 99), (0, 0), (0, (xs 4))]) (S' := []) (by decide) rfl (Nat.le_of_ble_eq_true rfl)) (by decide) ml242 pp242 (Nat.le_of_ble_eq_true rfl) rfl (by decide) (by decide) ?_
                  refine ev_iload_n rfl ?_
                  refine ev_iload_n rfl ?_
                  refine ev_icmplt f242_14 (fun c97 => absurd c97 (by omega)) (fun c97 => ?_)
                  refine ev_iload_n rfl ?_
                  refine ev_iload_n rfl ?_
                  refine ev_icmpgt f242_14 (fun c98 => absurd c98 (by omega)) (fun c98 => ?_)
                  refine ev_iconst ?_
                  refine ev_goto f242_15 ?_
                  refine ev_ret rfl (by decide) (by decide) ?_
                  show jEv _ _ _ _ _ _ _ (_, [(0, (xs 2)), (0, (xs 3)), (0, (xs 4))], [(0, 1)], _, _, _)
                  refine ev_ifeq f350_35 (fun c99 => absurd c99 (by omega)) (fun c99 => ?_)
                  refine ev_iconst ?_
                  refine ev_goto f350_36 ?_
                  refine ev_ret rfl (by decide) (by decide) ?_
                  show jEv _ _ _ _ _ _ _ (_, [(2, 42), (0, (xs 1)), (0, (xs 2)), (0, (xs 3)), (0, (xs 4))], [(0, 1)], _, _, _)
                  refine ev_ifne f351_22 (fun c100 => ?_) (fun c100 => absurd c100 (by omega))
                  refine ev_aload_n rfl ?_
                  refine ev_getf (r := 42) (v := 74) (hS208.lt (by decide)) (hS208.fam (by decide) (by decide)) ft12_56 ((jw_ne e208 (Or.inl (by decide))).trans ((jw_ne e207 (Or.inl (by decide))).trans ((jw_ne e206 (Or.inl (by decide))).trans ((hF.v rfl))))) ?_
                  refine ev_iload_n rfl ?_
                  refine ev_iload_n rfl ?_
                  refine ev_iastG (r := 74) (j := ((xs 1)).toNat) (hS208.lt (by decide)) (hS208.sh (by decide) rfl).1 (by omega) (hS208.inbx (by decide) (n := 20) (by decide) (by omega)) (fun h209 e209 => ?_)
                  have hS209 := hS208.wr e209
                  refine ev_aload_n rfl ?_
                  refine ev_getf (r := 42) (v := 75) (hS209.lt (by decide)) (hS209.fam (by decide) (by decide)) ft12_57 ((jw_ne e209 (Or.inl (by decide))).trans ((jw_ne e208 (Or.inl (by decide))).trans ((jw_ne e207 (Or.inl (by decide))).trans ((jw_ne e206 (Or.inl (by decide))).trans ((hF.v rfl)))))) ?_
                  refine ev_iload_n rfl ?_
                  refine ev_iload_n rfl ?_
                  refine ev_iastG (r := 75) (j := ((xs 1)).toNat) (hS209.lt (by decide)) (hS209.sh (by decide) rfl).1 (by omega) (hS209.inbx (by decide) (n := 20) (by decide) (by omega)) (fun h210 e210 => ?_)
                  have hS210 := hS209.wr e210
                  refine ev_aload_n rfl ?_
                  refine ev_getf (r := 42) (v := 76) (hS210.lt (by decide)) (hS210.fam (by decide) (by decide)) ft12_58 ((jw_ne e210 (Or.inl (by decide))).trans ((jw_ne e209 (Or.inl (by decide))).trans ((jw_ne e208 (Or.inl (by decide))).trans ((jw_ne e207 (Or.inl (by decide))).trans ((jw_ne e206 (Or.inl (by decide))).trans ((hF.v rfl))))))) ?_
                  refine ev_iload_n rfl ?_
                  refine ev_iload rfl ?_
                  refine ev_iastG (r := 76) (j := ((xs 1)).toNat) (hS210.lt (by decide)) (hS210.sh (by decide) rfl).1 (by omega) (hS210.inbx (by decide) (n := 20) (by decide) (by omega)) (fun h211 e211 => ?_)
                  have hS211 := hS210.wr e211
                  refine ev_iconst ?_
                  refine ev_ret rfl (by decide) (by decide) ?_
                  show jEv _ _ _ _ _ _ _ (_, [(2, (-2)), (2, 0), (2, 42), (0, 0)], [(0, 1), (0, 1)], _, _, _)
                  refine ev_icmpeq f384_2190 (fun c101 => ?_) (fun c101 => absurd c101 (by omega))
                  exact law_tail _

/-! days -/
set_option maxHeartbeats 4000000 in
theorem case_41 {xs : Nat → Int} (hr : ∀ j, -2147483648 ≤ xs j ∧ xs j < 2147483648) {h : JH} (hF : Fresh h) : jEv (jOk 8) (some 6) xs c384_0 600000 7302250 (fun v _ => v = some (0, 1)) (c384_1692, [(2, -2), (2, 0), (2, 42), (0, 0)], [], h, 83, 23761) := by
  have r1 := hr 1
  have r2 := hr 2
  have r3 := hr 3
  have r4 := hr 4
  have r5 := hr 5
  refine ev_aload_n rfl ?_
  refine ev_aload_n rfl ?_
  refine ev_iload_n rfl ?_
  refine ev_iconst ?_
  refine ev_iadd (r := 1) (by decide) ?_
  refine ev_sald (j := 1) (v := (xs 1)) rfl rfl rfl ?_
  refine ev_aload_n rfl ?_
  refine ev_iload_n rfl ?_
  refine ev_iconst ?_
  refine ev_iadd (r := 2) (by decide) ?_
  refine ev_sald (j := 2) (v := (xs 2)) rfl rfl rfl ?_
  refine ev_aload_n rfl ?_
  refine ev_iload_n rfl ?_
  refine ev_iconst ?_
  refine ev_iadd (r := 3) (by decide) ?_
  refine ev_sald (j := 3) (v := (xs 3)) rfl rfl rfl ?_
  refine ev_in (d := 7) (a := 0) (b := 0) (cd' := c207_0) (m := 4) (L0 := [(2, 0), (0, (xs 1)), (0, (xs 2)), (0, (xs 3))]) (jcall_v (A := [(0, (xs 3)), (0, (xs 2)), (0, (xs 1))]) (S' := []) (r := 0) rfl (hF.1.lt (by decide)) (hF.1.sh (by decide) rfl).1 (Nat.le_of_ble_eq_true rfl)) (by decide) ml207 pp207 (Nat.le_of_ble_eq_true rfl) rfl (by decide) (by decide) ?_
  refine ev_iload_n rfl ?_
  refine ev_in (d := 6) (a := 0) (b := 0) (cd' := c222_0) (m := 1) (L0 := [(0, (xs 1))]) (jcall_s (A := [(0, (xs 1))]) (S' := []) (by decide) rfl (Nat.le_of_ble_eq_true rfl)) (by decide) ml222 pp222 (Nat.le_of_ble_eq_true rfl) rfl (by decide) (by decide) ?_
  refine ev_iload_n rfl ?_
  refine ev_iflt f222_14 (fun c1 => ?_) (fun c1 => ?_)
  · refine ev_iconst ?_
    refine ev_ret rfl (by decide) (by decide) ?_
    show jEv _ _ _ _ _ _ _ (_, [(2, 0), (0, (xs 1)), (0, (xs 2)), (0, (xs 3))], [(0, 0)], _, _, _)
    refine ev_ifeq f207_18 (fun c2 => ?_) (fun c2 => absurd c2 (by omega))
    refine ev_iconst ?_
    refine ev_ret rfl (by decide) (by decide) ?_
    show jEv _ _ _ _ _ _ _ (_, [(2, (-2)), (2, 0), (2, 42), (0, 0)], [(0, (-1))], _, _, _)
    refine ev_aload_n rfl ?_
    refine ev_aload_n rfl ?_
    refine ev_iload_n rfl ?_
    refine ev_iconst ?_
    refine ev_iadd (r := 1) (by decide) ?_
    refine ev_sald (j := 1) (v := (xs 1)) rfl rfl rfl ?_
    refine ev_aload_n rfl ?_
    refine ev_iload_n rfl ?_
    refine ev_iconst ?_
    refine ev_iadd (r := 2) (by decide) ?_
    refine ev_sald (j := 2) (v := (xs 2)) rfl rfl rfl ?_
    refine ev_aload_n rfl ?_
    refine ev_iload_n rfl ?_
    refine ev_iconst ?_
    refine ev_iadd (r := 3) (by decide) ?_
    refine ev_sald (j := 3) (v := (xs 3)) rfl rfl rfl ?_
    refine ev_in (d := 7) (a := 0) (b := 0) (cd' := c352_0) (m := 8) (L0 := [(2, 42), (0, (xs 1)), (0, (xs 2)), (0, (xs 3)), (9, 0), (9, 0), (9, 0), (9, 0)]) (jcall_v (A := [(0, (xs 3)), (0, (xs 2)), (0, (xs 1))]) (S' := [(0, (-1))]) (r := 42) rfl (hF.1.lt (by decide)) (hF.1.sh (by decide) rfl).1 (Nat.le_of_ble_eq_true rfl)) (by decide) ml352 pp352 (Nat.le_of_ble_eq_true rfl) rfl (by decide) (by decide) ?_
    refine ev_iload_n rfl ?_
    refine ev_in (d := 6) (a := 0) (b := 0) (cd' := c370_0) (m := 1) (L0 := [(0, (xs 1))]) (jcall_s (A := [(0, (xs 1))]) (S' := []) (by decide) rfl (Nat.le_of_ble_eq_true rfl)) (by decide) ml370 pp370 (Nat.le_of_ble_eq_true rfl) rfl (by decide) (by decide) ?_
    refine ev_iload_n rfl ?_
    refine ev_iconst ?_
    refine ev_iconst ?_
    refine ev_in (d := 5) (a := 0) (b := 0) (cd' := c242_0) (m := 3) (L0 := [(0, (xs 1)), (0, 0), (0, 5)]) (jcall_s (A := [(0, 5), (0, 0), (0, (xs 1))]) (S' := []) (by decide) rfl (Nat.le_of_ble_eq_true rfl)) (by decide) ml242 pp242 (Nat.le_of_ble_eq_true rfl) rfl (by decide) (by decide) ?_
    refine ev_iload_n rfl ?_
    refine ev_iload_n rfl ?_
    refine ev_icmplt f242_14 (fun c3 => ?_) (fun c3 => absurd c3 (by omega))
    refine ev_iconst ?_
    refine ev_ret rfl (by decide) (by decide) ?_
    show jEv _ _ _ _ _ _ _ (_, [(0, (xs 1))], [(0, 0)], _, _, _)
    refine ev_ret rfl (by decide) (by decide) ?_
    show jEv _ _ _ _ _ _ _ (_, [(2, 42), (0, (xs 1)), (0, (xs 2)), (0, (xs 3)), (9, 0), (9, 0), (9, 0), (9, 0)], [(0, 0)], _, _, _)
    refine ev_ifeq f352_17 (fun c4 => ?_) (fun c4 => absurd c4 (by omega))
    refine ev_iconst ?_
    refine ev_ret rfl (by decide) (by decide) ?_
    show jEv _ _ _ _ _ _ _ (_, [(2, (-2)), (2, 0), (2, 42), (0, 0)], [(0, (-1)), (0, (-1))], _, _, _)
    refine ev_icmpeq f384_2190 (fun c5 => ?_) (fun c5 => absurd c5 (by omega))
    exact law_tail _
  · refine ev_iload_n rfl ?_
    refine ev_bipush ?_
    refine ev_icmpge f222_14 (fun c6 => ?_) (fun c6 => ?_)
    · refine ev_iconst ?_
      refine ev_ret rfl (by decide) (by decide) ?_
      show jEv _ _ _ _ _ _ _ (_, [(2, 0), (0, (xs 1)), (0, (xs 2)), (0, (xs 3))], [(0, 0)], _, _, _)
      refine ev_ifeq f207_18 (fun c7 => ?_) (fun c7 => absurd c7 (by omega))
      refine ev_iconst ?_
      refine ev_ret rfl (by decide) (by decide) ?_
      show jEv _ _ _ _ _ _ _ (_, [(2, (-2)), (2, 0), (2, 42), (0, 0)], [(0, (-1))], _, _, _)
      refine ev_aload_n rfl ?_
      refine ev_aload_n rfl ?_
      refine ev_iload_n rfl ?_
      refine ev_iconst ?_
      refine ev_iadd (r := 1) (by decide) ?_
      refine ev_sald (j := 1) (v := (xs 1)) rfl rfl rfl ?_
      refine ev_aload_n rfl ?_
      refine ev_iload_n rfl ?_
      refine ev_iconst ?_
      refine ev_iadd (r := 2) (by decide) ?_
      refine ev_sald (j := 2) (v := (xs 2)) rfl rfl rfl ?_
      refine ev_aload_n rfl ?_
      refine ev_iload_n rfl ?_
      refine ev_iconst ?_
      refine ev_iadd (r := 3) (by decide) ?_
      refine ev_sald (j := 3) (v := (xs 3)) rfl rfl rfl ?_
      refine ev_in (d := 7) (a := 0) (b := 0) (cd' := c352_0) (m := 8) (L0 := [(2, 42), (0, (xs 1)), (0, (xs 2)), (0, (xs 3)), (9, 0), (9, 0), (9, 0), (9, 0)]) (jcall_v (A := [(0, (xs 3)), (0, (xs 2)), (0, (xs 1))]) (S' := [(0, (-1))]) (r := 42) rfl (hF.1.lt (by decide)) (hF.1.sh (by decide) rfl).1 (Nat.le_of_ble_eq_true rfl)) (by decide) ml352 pp352 (Nat.le_of_ble_eq_true rfl) rfl (by decide) (by decide) ?_
      refine ev_iload_n rfl ?_
      refine ev_in (d := 6) (a := 0) (b := 0) (cd' := c370_0) (m := 1) (L0 := [(0, (xs 1))]) (jcall_s (A := [(0, (xs 1))]) (S' := []) (by decide) rfl (Nat.le_of_ble_eq_true rfl)) (by decide) ml370 pp370 (Nat.le_of_ble_eq_true rfl) rfl (by decide) (by decide) ?_
      refine ev_iload_n rfl ?_
      refine ev_iconst ?_
      refine ev_iconst ?_
      refine ev_in (d := 5) (a := 0) (b := 0) (cd' := c242_0) (m := 3) (L0 := [(0, (xs 1)), (0, 0), (0, 5)]) (jcall_s (A := [(0, 5), (0, 0), (0, (xs 1))]) (S' := []) (by decide) rfl (Nat.le_of_ble_eq_true rfl)) (by decide) ml242 pp242 (Nat.le_of_ble_eq_true rfl) rfl (by decide) (by decide) ?_
      refine ev_iload_n rfl ?_
      refine ev_iload_n rfl ?_
      refine ev_icmplt f242_14 (fun c8 => absurd c8 (by omega)) (fun c8 => ?_)
      refine ev_iload_n rfl ?_
      refine ev_iload_n rfl ?_
      refine ev_icmpgt f242_14 (fun c9 => ?_) (fun c9 => absurd c9 (by omega))
      refine ev_iconst ?_
      refine ev_ret rfl (by decide) (by decide) ?_
      show jEv _ _ _ _ _ _ _ (_, [(0, (xs 1))], [(0, 0)], _, _, _)
      refine ev_ret rfl (by decide) (by decide) ?_
      show jEv _ _ _ _ _ _ _ (_, [(2, 42), (0, (xs 1)), (0, (xs 2)), (0, (xs 3)), (9, 0), (9, 0), (9, 0), (9, 0)], [(0, 0)], _, _, _)
      refine ev_ifeq f352_17 (fun c10 => ?_) (fun c10 => absurd c10 (by omega))
      refine ev_iconst ?_
      refine ev_ret rfl (by decide) (by decide) ?_
      show jEv _ _ _ _ _ _ _ (_, [(2, (-2)), (2, 0), (2, 42), (0, 0)], [(0, (-1)), (0, (-1))], _, _, _)
      refine ev_icmpeq f384_2190 (fun c11 => ?_) (fun c11 => absurd c11 (by omega))
      exact law_tail _
    · refine ev_iconst ?_
      refine ev_goto f222_15 ?_
      refine ev_ret rfl (by decide) (by decide) ?_
      show jEv _ _ _ _ _ _ _ (_, [(2, 0), (0, (xs 1)), (0, (xs 2)), (0, (xs 3))], [(0, 1)], _, _, _)
      refine ev_ifeq f207_18 (fun c12 => absurd c12 (by omega)) (fun c12 => ?_)
      refine ev_iload_n rfl ?_
      refine ev_iconst ?_
      refine ev_icmplt f207_18 (fun c13 => ?_) (fun c13 => ?_)
      · refine ev_iconst ?_
        refine ev_ret rfl (by decide) (by decide) ?_
        show jEv _ _ _ _ _ _ _ (_, [(2, (-2)), (2, 0), (2, 42), (0, 0)], [(0, (-1))], _, _, _)
        refine ev_aload_n rfl ?_
        refine ev_aload_n rfl ?_
        refine ev_iload_n rfl ?_
        refine ev_iconst ?_
        refine ev_iadd (r := 1) (by decide) ?_
        refine ev_sald (j := 1) (v := (xs 1)) rfl rfl rfl ?_
        refine ev_aload_n rfl ?_
        refine ev_iload_n rfl ?_
        refine ev_iconst ?_
        refine ev_iadd (r := 2) (by decide) ?_
        refine ev_sald (j := 2) (v := (xs 2)) rfl rfl rfl ?_
        refine ev_aload_n rfl ?_
        refine ev_iload_n rfl ?_
        refine ev_iconst ?_
        refine ev_iadd (r := 3) (by decide) ?_
        refine ev_sald (j := 3) (v := (xs 3)) rfl rfl rfl ?_
        refine ev_in (d := 7) (a := 0) (b := 0) (cd' := c352_0) (m := 8) (L0 := [(2, 42), (0, (xs 1)), (0, (xs 2)), (0, (xs 3)), (9, 0), (9, 0), (9, 0), (9, 0)]) (jcall_v (A := [(0, (xs 3)), (0, (xs 2)), (0, (xs 1))]) (S' := [(0, (-1))]) (r := 42) rfl (hF.1.lt (by decide)) (hF.1.sh (by decide) rfl).1 (Nat.le_of_ble_eq_true rfl)) (by decide) ml352 pp352 (Nat.le_of_ble_eq_true rfl) rfl (by decide) (by decide) ?_
        refine ev_iload_n rfl ?_
        refine ev_in (d := 6) (a := 0) (b := 0) (cd' := c370_0) (m := 1) (L0 := [(0, (xs 1))]) (jcall_s (A := [(0, (xs 1))]) (S' := []) (by decide) rfl (Nat.le_of_ble_eq_true rfl)) (by decide) ml370 pp370 (Nat.le_of_ble_eq_true rfl) rfl (by decide) (by decide) ?_
        refine ev_iload_n rfl ?_
        refine ev_iconst ?_
        refine ev_iconst ?_
        refine ev_in (d := 5) (a := 0) (b := 0) (cd' := c242_0) (m := 3) (L0 := [(0, (xs 1)), (0, 0), (0, 5)]) (jcall_s (A := [(0, 5), (0, 0), (0, (xs 1))]) (S' := []) (by decide) rfl (Nat.le_of_ble_eq_true rfl)) (by decide) ml242 pp242 (Nat.le_of_ble_eq_true rfl) rfl (by decide) (by decide) ?_
        refine ev_iload_n rfl ?_
        refine ev_iload_n rfl ?_
        refine ev_icmplt f242_14 (fun c14 => absurd c14 (by omega)) (fun c14 => ?_)
        refine ev_iload_n rfl ?_
        refine ev_iload_n rfl ?_
        refine ev_icmpgt f242_14 (fun c15 => absurd c15 (by omega)) (fun c15 => ?_)
        refine ev_iconst ?_
        refine ev_goto f242_15 ?_
        refine ev_ret rfl (by decide) (by decide) ?_
        show jEv _ _ _ _ _ _ _ (_, [(0, (xs 1))], [(0, 1)], _, _, _)
        refine ev_ret rfl (by decide) (by decide) ?_
        show jEv _ _ _ _ _ _ _ (_, [(2, 42), (0, (xs 1)), (0, (xs 2)), (0, (xs 3)), (9, 0), (9, 0), (9, 0), (9, 0)], [(0, 1)], _, _, _)
        refine ev_ifeq f352_17 (fun c16 => absurd c16 (by omega)) (fun c16 => ?_)
        refine ev_iload_n rfl ?_
        refine ev_iconst ?_
        refine ev_bipush ?_
        refine ev_in (d := 6) (a := 0) (b := 0) (cd' := c242_0) (m := 3) (L0 := [(0, (xs 3)), (0, 1), (0, 20)]) (jcall_s (A := [(0, 20), (0, 1), (0, (xs 3))]) (S' := []) (by decide) rfl (Nat.le_of_ble_eq_true rfl)) (by decide) ml242 pp242 (Nat.le_of_ble_eq_true rfl) rfl (by decide) (by decide) ?_
        refine ev_iload_n rfl ?_
        refine ev_iload_n rfl ?_
        refine ev_icmplt f242_14 (fun c17 => ?_) (fun c17 => absurd c17 (by omega))
        refine ev_iconst ?_
        refine ev_ret rfl (by decide) (by decide) ?_
        show jEv _ _ _ _ _ _ _ (_, [(2, 42), (0, (xs 1)), (0, (xs 2)), (0, (xs 3)), (9, 0), (9, 0), (9, 0), (9, 0)], [(0, 0)], _, _, _)
        refine ev_ifne f352_19 (fun c18 => absurd c18 (by omega)) (fun c18 => ?_)
        refine ev_iconst ?_
        refine ev_ret rfl (by decide) (by decide) ?_
        show jEv _ _ _ _ _ _ _ (_, [(2, (-2)), (2, 0), (2, 42), (0, 0)], [(0, (-1)), (0, (-1))], _, _, _)
        refine ev_icmpeq f384_2190 (fun c19 => ?_) (fun c19 => absurd c19 (by omega))
        exact law_tail _
      · refine ev_iload_n rfl ?_
        refine ev_bipush ?_
        refine ev_icmple f207_20 (fun c20 => ?_) (fun c20 => ?_)
        · refine ev_aload_n rfl ?_
          refine ev_getf (r := 0) (v := 37) (hF.1.lt (by decide)) (hF.1.fam (by decide) (by decide)) ft11_12 ((hF.v rfl)) ?_
          refine ev_iload_n rfl ?_
          refine ev_iald (r := 37) (j := ((xs 1)).toNat) (v := (-1)) (hF.1.lt (by decide)) (hF.1.sh (by decide) rfl).1 (by omega) (hF.1.inbx (by decide) (n := 6) (by decide) (by omega)) (hF.uni (n := 6) (by decide) (by omega)) ?_
          refine ev_iconst ?_
          refine ev_icmpne f207_32 (fun c21 => absurd c21 (by omega)) (fun c21 => ?_)
          refine ev_iconst ?_
          refine ev_ret rfl (by decide) (by decide) ?_
          show jEv _ _ _ _ _ _ _ (_, [(2, (-2)), (2, 0), (2, 42), (0, 0)], [(0, 0)], _, _, _)
          refine ev_aload_n rfl ?_
          refine ev_aload_n rfl ?_
          refine ev_iload_n rfl ?_
          refine ev_iconst ?_
          refine ev_iadd (r := 1) (by decide) ?_
          refine ev_sald (j := 1) (v := (xs 1)) rfl rfl rfl ?_
          refine ev_aload_n rfl ?_
          refine ev_iload_n rfl ?_
          refine ev_iconst ?_
          refine ev_iadd (r := 2) (by decide) ?_
          refine ev_sald (j := 2) (v := (xs 2)) rfl rfl rfl ?_
          refine ev_aload_n rfl ?_
          refine ev_iload_n rfl ?_
          refine ev_iconst ?_
          refine ev_iadd (r := 3) (by decide) ?_
          refine ev_sald (j := 3) (v := (xs 3)) rfl rfl rfl ?_
          refine ev_in (d := 7) (a := 0) (b := 0) (cd' := c352_0) (m := 8) (L0 := [(2, 42), (0, (xs 1)), (0, (xs 2)), (0, (xs 3)), (9, 0), (9, 0), (9, 0), (9, 0)]) (jcall_v (A := [(0, (xs 3)), (0, (xs 2)), (0, (xs 1))]) (S' := [(0, 0)]) (r := 42) rfl (hF.1.lt (by decide)) (hF.1.sh (by decide) rfl).1 (Nat.le_of_ble_eq_true rfl)) (by decide) ml352 pp352 (Nat.le_of_ble_eq_true rfl) rfl (by decide) (by decide) ?_
          refine ev_iload_n rfl ?_
          refine ev_in (d := 6) (a := 0) (b := 0) (cd' := c370_0) (m := 1) (L0 := [(0, (xs 1))]) (jcall_s (A := [(0, (xs 1))]) (S' := []) (by decide) rfl (Nat.le_of_ble_eq_true rfl)) (by decide) ml370 pp370 (Nat.le_of_ble_eq_true rfl) rfl (by decide) (by decide) ?_
          refine ev_iload_n rfl ?_
          refine ev_iconst ?_
          refine ev_iconst ?_
          refine ev_in (d := 5) (a := 0) (b := 0) (cd' := c242_0) (m := 3) (L0 := [(0, (xs 1)), (0, 0), (0, 5)]) (jcall_s (A := [(0, 5), (0, 0), (0, (xs 1))]) (S' := []) (by decide) rfl (Nat.le_of_ble_eq_true rfl)) (by decide) ml242 pp242 (Nat.le_of_ble_eq_true rfl) rfl (by decide) (by decide) ?_
          refine ev_iload_n rfl ?_
          refine ev_iload_n rfl ?_
          refine ev_icmplt f242_14 (fun c22 => absurd c22 (by omega)) (fun c22 => ?_)
          refine ev_iload_n rfl ?_
          refine ev_iload_n rfl ?_
          refine ev_icmpgt f242_14 (fun c23 => absurd c23 (by omega)) (fun c23 => ?_)
          refine ev_iconst ?_
          refine ev_goto f242_15 ?_
          refine ev_ret rfl (by decide) (by decide) ?_
          show jEv _ _ _ _ _ _ _ (_, [(0, (xs 1))], [(0, 1)], _, _, _)
          refine ev_ret rfl (by decide) (by decide) ?_
          show jEv _ _ _ _ _ _ _ (_, [(2, 42), (0, (xs 1)), (0, (xs 2)), (0, (xs 3)), (9, 0), (9, 0), (9, 0), (9, 0)], [(0, 1)], _, _, _)
          refine ev_ifeq f352_17 (fun c24 => absurd c24 (by omega)) (fun c24 => ?_)
          refine ev_iload_n rfl ?_
          refine ev_iconst ?_
          refine ev_bipush ?_
          refine ev_in (d := 6) (a := 0) (b := 0) (cd' := c242_0) (m := 3) (L0 := [(0, (xs 3)), (0, 1), (0, 20)]) (jcall_s (A := [(0, 20), (0, 1), (0, (xs 3))]) (S' := []) (by decide) rfl (Nat.le_of_ble_eq_true rfl)) (by decide) ml242 pp242 (Nat.le_of_ble_eq_true rfl) rfl (by decide) (by decide) ?_
          refine ev_iload_n rfl ?_
          refine ev_iload_n rfl ?_
          refine ev_icmplt f242_14 (fun c25 => absurd c25 (by omega)) (fun c25 => ?_)
          refine ev_iload_n rfl ?_
          refine ev_iload_n rfl ?_
          refine ev_icmpgt f242_14 (fun c26 => absurd c26 (by omega)) (fun c26 => ?_)
          refine ev_iconst ?_
          refine ev_goto f242_15 ?_
          refine ev_ret rfl (by decide) (by decide) ?_
          show jEv _ _ _ _ _ _ _ (_, [(2, 42), (0, (xs 1)), (0, (xs 2)), (0, (xs 3)), (9, 0), (9, 0), (9, 0), (9, 0)], [(0, 1)], _, _, _)
          refine ev_ifne f352_19 (fun c27 => ?_) (fun c27 => absurd c27 (by omega))
          refine ev_aload_n rfl ?_
          refine ev_getf (r := 42) (v := 79) (hF.1.lt (by decide)) (hF.1.fam (by decide) (by decide)) ft12_62 ((hF.v rfl)) ?_
          refine ev_iload_n rfl ?_
          refine ev_iald (r := 79) (j := ((xs 1)).toNat) (v := (-1)) (hF.1.lt (by decide)) (hF.1.sh (by decide) rfl).1 (by omega) (hF.1.inbx (by decide) (n := 6) (by decide) (by omega)) (hF.uni (n := 6) (by decide) (by omega)) ?_
          refine ev_iconst ?_
          refine ev_icmpeq f352_43 (fun c28 => ?_) (fun c28 => absurd c28 (by omega))
          refine ev_aload_n rfl ?_
          refine ev_getf (r := 42) (v := 79) (hF.1.lt (by decide)) (hF.1.fam (by decide) (by decide)) ft12_62 ((hF.v rfl)) ?_
          refine ev_iload_n rfl ?_
          refine ev_iald (r := 79) (j := ((xs 1)).toNat) (v := (-1)) (hF.1.lt (by decide)) (hF.1.sh (by decide) rfl).1 (by omega) (hF.1.inbx (by decide) (n := 6) (by decide) (by omega)) (hF.uni (n := 6) (by decide) (by omega)) ?_
          refine ev_iconst ?_
          refine ev_icmpne f352_55 (fun c29 => absurd c29 (by omega)) (fun c29 => ?_)
          refine ev_iconst ?_
          refine ev_ret rfl (by decide) (by decide) ?_
          show jEv _ _ _ _ _ _ _ (_, [(2, (-2)), (2, 0), (2, 42), (0, 0)], [(0, 0), (0, 0)], _, _, _)
          refine ev_icmpeq f384_2190 (fun c30 => ?_) (fun c30 => absurd c30 (by omega))
          exact law_tail _
        · refine ev_iconst ?_
          refine ev_ret rfl (by decide) (by decide) ?_
          show jEv _ _ _ _ _ _ _ (_, [(2, (-2)), (2, 0), (2, 42), (0, 0)], [(0, (-1))], _, _, _)
          refine ev_aload_n rfl ?_
          refine ev_aload_n rfl ?_
          refine ev_iload_n rfl ?_
          refine ev_iconst ?_
          refine ev_iadd (r := 1) (by decide) ?_
          refine ev_sald (j := 1) (v := (xs 1)) rfl rfl rfl ?_
          refine ev_aload_n rfl ?_
          refine ev_iload_n rfl ?_
          refine ev_iconst ?_
          refine ev_iadd (r := 2) (by decide) ?_
          refine ev_sald (j := 2) (v := (xs 2)) rfl rfl rfl ?_
          refine ev_aload_n rfl ?_
          refine ev_iload_n rfl ?_
          refine ev_iconst ?_
          refine ev_iadd (r := 3) (by decide) ?_
          refine ev_sald (j := 3) (v := (xs 3)) rfl rfl rfl ?_
          refine ev_in (d := 7) (a := 0) (b := 0) (cd' := c352_0) (m := 8) (L0 := [(2, 42), (0, (xs 1)), (0, (xs 2)), (0, (xs 3)), (9, 0), (9, 0), (9, 0), (9, 0)]) (jcall_v (A := [(0, (xs 3)), (0, (xs 2)), (0, (xs 1))]) (S' := [(0, (-1))]) (r := 42) rfl (hF.1.lt (by decide)) (hF.1.sh (by decide) rfl).1 (Nat.le_of_ble_eq_true rfl)) (by decide) ml352 pp352 (Nat.le_of_ble_eq_true rfl) rfl (by decide) (by decide) ?_
          refine ev_iload_n rfl ?_
          refine ev_in (d := 6) (a := 0) (b := 0) (cd' := c370_0) (m := 1) (L0 := [(0, (xs 1))]) (jcall_s (A := [(0, (xs 1))]) (S' := []) (by decide) rfl (Nat.le_of_ble_eq_true rfl)) (by decide) ml370 pp370 (Nat.le_of_ble_eq_true rfl) rfl (by decide) (by decide) ?_
          refine ev_iload_n rfl ?_
          refine ev_iconst ?_
          refine ev_iconst ?_
          refine ev_in (d := 5) (a := 0) (b := 0) (cd' := c242_0) (m := 3) (L0 := [(0, (xs 1)), (0, 0), (0, 5)]) (jcall_s (A := [(0, 5), (0, 0), (0, (xs 1))]) (S' := []) (by decide) rfl (Nat.le_of_ble_eq_true rfl)) (by decide) ml242 pp242 (Nat.le_of_ble_eq_true rfl) rfl (by decide) (by decide) ?_
          refine ev_iload_n rfl ?_
          refine ev_iload_n rfl ?_
          refine ev_icmplt f242_14 (fun c31 => absurd c31 (by omega)) (fun c31 => ?_)
          refine ev_iload_n rfl ?_
          refine ev_iload_n rfl ?_
          refine ev_icmpgt f242_14 (fun c32 => absurd c32 (by omega)) (fun c32 => ?_)
          refine ev_iconst ?_
          refine ev_goto f242_15 ?_
          refine ev_ret rfl (by decide) (by decide) ?_
          show jEv _ _ _ _ _ _ _ (_, [(0, (xs 1))], [(0, 1)], _, _, _)
          refine ev_ret rfl (by decide) (by decide) ?_
          show jEv _ _ _ _ _ _ _ (_, [(2, 42), (0, (xs 1)), (0, (xs 2)), (0, (xs 3)), (9, 0), (9, 0), (9, 0), (9, 0)], [(0, 1)], _, _, _)
          refine ev_ifeq f352_17 (fun c33 => absurd c33 (by omega)) (fun c33 => ?_)
          refine ev_iload_n rfl ?_
          refine ev_iconst ?_
          refine ev_bipush ?_
          refine ev_in (d := 6) (a := 0) (b := 0) (cd' := c242_0) (m := 3) (L0 := [(0, (xs 3)), (0, 1), (0, 20)]) (jcall_s (A := [(0, 20), (0, 1), (0, (xs 3))]) (S' := []) (by decide) rfl (Nat.le_of_ble_eq_true rfl)) (by decide) ml242 pp242 (Nat.le_of_ble_eq_true rfl) rfl (by decide) (by decide) ?_
          refine ev_iload_n rfl ?_
          refine ev_iload_n rfl ?_
          refine ev_icmplt f242_14 (fun c34 => absurd c34 (by omega)) (fun c34 => ?_)
          refine ev_iload_n rfl ?_
          refine ev_iload_n rfl ?_
          refine ev_icmpgt f242_14 (fun c35 => ?_) (fun c35 => absurd c35 (by omega))
          refine ev_iconst ?_
          refine ev_ret rfl (by decide) (by decide) ?_
          show jEv _ _ _ _ _ _ _ (_, [(2, 42), (0, (xs 1)), (0, (xs 2)), (0, (xs 3)), (9, 0), (9, 0), (9, 0), (9, 0)], [(0, 0)], _, _, _)
          refine ev_ifne f352_19 (fun c36 => absurd c36 (by omega)) (fun c36 => ?_)
          refine ev_iconst ?_
          refine ev_ret rfl (by decide) (by decide) ?_
          show jEv _ _ _ _ _ _ _ (_, [(2, (-2)), (2, 0), (2, 42), (0, 0)], [(0, (-1)), (0, (-1))], _, _, _)
          refine ev_icmpeq f384_2190 (fun c37 => ?_) (fun c37 => absurd c37 (by omega))
          exact law_tail _
