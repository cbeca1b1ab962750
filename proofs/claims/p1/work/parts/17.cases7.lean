/-! waits -/
set_option maxHeartbeats 4000000 in
theorem case_42 {xs : Nat → Int} (hr : ∀ j, -2147483648 ≤ xs j ∧ xs j < 2147483648) {h : JH} (hF : Fresh h) : jEv (jOk 8) (some 6) xs c384_0 600000 7302250 (fun v _ => v = some (0, 1)) (c384_1735, [(2, -2), (2, 0), (2, 42), (0, 0)], [], h, 83, 23761) := by
  have r1 := hr 1
  have r2 := hr 2
  have r3 := hr 3
  have r4 := hr 4
  have r5 := hr 5
  refine ev_aload_n rfl ?_
  refine ev_aload_n rfl ?_
  refine ev_iload_n rfl ?_
  refine ev_iconst ?_
  refine ev_iadd (r := 1) (by decide) ?_
  refine ev_sald (j := 1) (v := (xs 1)) rfl rfl rfl ?_
  refine ev_aload_n rfl ?_
  refine ev_iload_n rfl ?_
  refine ev_iconst ?_
  refine ev_iadd (r := 2) (by decide) ?_
  refine ev_sald (j := 2) (v := (xs 2)) rfl rfl rfl ?_
  refine ev_aload_n rfl ?_
  refine ev_iload_n rfl ?_
  refine ev_iconst ?_
  refine ev_iadd (r := 3) (by decide) ?_
  refine ev_sald (j := 3) (v := (xs 3)) rfl rfl rfl ?_
  refine ev_in (d := 7) (a := 0) (b := 0) (cd' := c208_0) (m := 5) (L0 := [(2, 0), (0, (xs 1)), (0, (xs 2)), (0, (xs 3)), (9, 0)]) (jcall_v (A := [(0, (xs 3)), (0, (xs 2)), (0, (xs 1))]) (S' := []) (r := 0) rfl (hF.1.lt (by decide)) (hF.1.sh (by decide) rfl).1 (Nat.le_of_ble_eq_true rfl)) (by decide) ml208 pp208 (Nat.le_of_ble_eq_true rfl) rfl (by decide) (by decide) ?_
  refine ev_iload_n rfl ?_
  refine ev_bipush ?_
  have q1 := jirem_b (x := (xs 1)) (y := 100) (by decide)
  refine ev_irem (r := (Int.tmod (xs 1) 100)) (by decide) rfl ?_
  refine ev_istore (L' := [(2, 0), (0, (xs 1)), (0, (xs 2)), (0, (xs 3)), (0, (Int.tmod (xs 1) 100))]) (Nat.le_of_ble_eq_true rfl) rfl ?_
  refine ev_iload_n rfl ?_
  refine ev_iflt f208_53 (fun c2 => ?_) (fun c2 => ?_)
  · refine ev_ldc2_w ?_
    refine ev_ret rfl (by decide) (by decide) ?_
    show jEv _ _ _ _ _ _ _ (_, [(2, (-2)), (2, 0), (2, 42), (0, 0)], [(1, (-9223372036854775808))], _, _, _)
    refine ev_aload_n rfl ?_
    refine ev_aload_n rfl ?_
    refine ev_iload_n rfl ?_
    refine ev_iconst ?_
    refine ev_iadd (r := 1) (by decide) ?_
    refine ev_sald (j := 1) (v := (xs 1)) rfl rfl rfl ?_
    refine ev_aload_n rfl ?_
    refine ev_iload_n rfl ?_
    refine ev_iconst ?_
    refine ev_iadd (r := 2) (by decide) ?_
    refine ev_sald (j := 2) (v := (xs 2)) rfl rfl rfl ?_
    refine ev_aload_n rfl ?_
    refine ev_iload_n rfl ?_
    refine ev_iconst ?_
    refine ev_iadd (r := 3) (by decide) ?_
    refine ev_sald (j := 3) (v := (xs 3)) rfl rfl rfl ?_
    refine ev_in (d := 7) (a := 0) (b := 0) (cd' := c353_0) (m := 15) (L0 := [(2, 42), (0, (xs 1)), (0, (xs 2)), (0, (xs 3)), (9, 0), (9, 0), (9, 0), (9, 0), (9, 0), (9, 0), (9, 0), (9, 0), (9, 0), (9, 0), (9, 0)]) (jcall_v (A := [(0, (xs 3)), (0, (xs 2)), (0, (xs 1))]) (S' := [(1, (-9223372036854775808))]) (r := 42) rfl (hF.1.lt (by decide)) (hF.1.sh (by decide) rfl).1 (Nat.le_of_ble_eq_true rfl)) (by decide) ml353 pp353 (Nat.le_of_ble_eq_true rfl) rfl (by decide) (by decide) ?_
    refine ev_iload_n rfl ?_
    refine ev_bipush ?_
    have q3 := jidiv_b (x := (xs 1)) (y := 100) (by decide)
    refine ev_idiv (r := (Int.tdiv (xs 1) 100)) (by decide) (by unfold w32; omega) ?_
    refine ev_istore (L' := [(2, 42), (0, (xs 1)), (0, (xs 2)), (0, (xs 3)), (0, (Int.tdiv (xs 1) 100)), (9, 0), (9, 0), (9, 0), (9, 0), (9, 0), (9, 0), (9, 0), (9, 0), (9, 0), (9, 0)]) (Nat.le_of_ble_eq_true rfl) rfl ?_
    refine ev_iload_n rfl ?_
    refine ev_bipush ?_
    have q4 := jirem_b (x := (xs 1)) (y := 100) (by decide)
    refine ev_irem (r := (Int.tmod (xs 1) 100)) (by decide) rfl ?_
    refine ev_istore (L' := [(2, 42), (0, (xs 1)), (0, (xs 2)), (0, (xs 3)), (0, (Int.tdiv (xs 1) 100)), (0, (Int.tmod (xs 1) 100)), (9, 0), (9, 0), (9, 0), (9, 0), (9, 0), (9, 0), (9, 0), (9, 0), (9, 0)]) (Nat.le_of_ble_eq_true rfl) rfl ?_
    refine ev_iload_n rfl ?_
    refine ev_iflt f353_56 (fun c5 => ?_) (fun c5 => absurd c5 (by omega))
    refine ev_ldc2_w ?_
    refine ev_ret rfl (by decide) (by decide) ?_
    show jEv _ _ _ _ _ _ _ (_, [(2, (-2)), (2, 0), (2, 42), (0, 0)], [(1, (-9223372036854775808)), (1, (-9223372036854775808))], _, _, _)
    refine ev_lcmp ?_
    refine ev_ifeq f384_2190 (fun c6 => ?_) (fun c6 => absurd (show _ from by unfold jcmpL; (repeat' split) <;> omega) c6)
    exact law_tail _
  · refine ev_iload rfl ?_
    refine ev_iconst ?_
    refine ev_icmplt f208_53 (fun c7 => ?_) (fun c7 => ?_)
    · refine ev_ldc2_w ?_
      refine ev_ret rfl (by decide) (by decide) ?_
      show jEv _ _ _ _ _ _ _ (_, [(2, (-2)), (2, 0), (2, 42), (0, 0)], [(1, (-9223372036854775808))], _, _, _)
      refine ev_aload_n rfl ?_
      refine ev_aload_n rfl ?_
      refine ev_iload_n rfl ?_
      refine ev_iconst ?_
      refine ev_iadd (r := 1) (by decide) ?_
      refine ev_sald (j := 1) (v := (xs 1)) rfl rfl rfl ?_
      refine ev_aload_n rfl ?_
      refine ev_iload_n rfl ?_
      refine ev_iconst ?_
      refine ev_iadd (r := 2) (by decide) ?_
      refine ev_sald (j := 2) (v := (xs 2)) rfl rfl rfl ?_
      refine ev_aload_n rfl ?_
      refine ev_iload_n rfl ?_
      refine ev_iconst ?_
      refine ev_iadd (r := 3) (by decide) ?_
      refine ev_sald (j := 3) (v := (xs 3)) rfl rfl rfl ?_
      refine ev_in (d := 7) (a := 0) (b := 0) (cd' := c353_0) (m := 15) (L0 := [(2, 42), (0, (xs 1)), (0, (xs 2)), (0, (xs 3)), (9, 0), (9, 0), (9, 0), (9, 0), (9, 0), (9, 0), (9, 0), (9, 0), (9, 0), (9, 0), (9, 0)]) (jcall_v (A := [(0, (xs 3)), (0, (xs 2)), (0, (xs 1))]) (S' := [(1, (-9223372036854775808))]) (r := 42) rfl (hF.1.lt (by decide)) (hF.1.sh (by decide) rfl).1 (Nat.le_of_ble_eq_true rfl)) (by decide) ml353 pp353 (Nat.le_of_ble_eq_true rfl) rfl (by decide) (by decide) ?_
      refine ev_iload_n rfl ?_
      refine ev_bipush ?_
      have q8 := jidiv_b (x := (xs 1)) (y := 100) (by decide)
      refine ev_idiv (r := (Int.tdiv (xs 1) 100)) (by decide) (by unfold w32; omega) ?_
      refine ev_istore (L' := [(2, 42), (0, (xs 1)), (0, (xs 2)), (0, (xs 3)), (0, (Int.tdiv (xs 1) 100)), (9, 0), (9, 0), (9, 0), (9, 0), (9, 0), (9, 0), (9, 0), (9, 0), (9, 0), (9, 0)]) (Nat.le_of_ble_eq_true rfl) rfl ?_
      refine ev_iload_n rfl ?_
      refine ev_bipush ?_
      have q9 := jirem_b (x := (xs 1)) (y := 100) (by decide)
      refine ev_irem (r := (Int.tmod (xs 1) 100)) (by decide) rfl ?_
      refine ev_istore (L' := [(2, 42), (0, (xs 1)), (0, (xs 2)), (0, (xs 3)), (0, (Int.tdiv (xs 1) 100)), (0, (Int.tmod (xs 1) 100)), (9, 0), (9, 0), (9, 0), (9, 0), (9, 0), (9, 0), (9, 0), (9, 0), (9, 0)]) (Nat.le_of_ble_eq_true rfl) rfl ?_
      refine ev_iload_n rfl ?_
      refine ev_iflt f353_56 (fun c10 => absurd c10 (by omega)) (fun c10 => ?_)
      refine ev_iload rfl ?_
      refine ev_iconst ?_
      refine ev_bipush ?_
      refine ev_in (d := 6) (a := 0) (b := 0) (cd' := c242_0) (m := 3) (L0 := [(0, (Int.tmod (xs 1) 100)), (0, 1), (0, 20)]) (jcall_s (A := [(0, 20), (0, 1), (0, (Int.tmod (xs 1) 100))]) (S' := []) (by decide) rfl (Nat.le_of_ble_eq_true rfl)) (by decide) ml242 pp242 (Nat.le_of_ble_eq_true rfl) rfl (by decide) (by decide) ?_
      refine ev_iload_n rfl ?_
      refine ev_iload_n rfl ?_
      refine ev_icmplt f242_14 (fun c11 => ?_) (fun c11 => absurd c11 (by omega))
      refine ev_iconst ?_
      refine ev_ret rfl (by decide) (by decide) ?_
      show jEv _ _ _ _ _ _ _ (_, [(2, 42), (0, (xs 1)), (0, (xs 2)), (0, (xs 3)), (0, (Int.tdiv (xs 1) 100)), (0, (Int.tmod (xs 1) 100)), (9, 0), (9, 0), (9, 0), (9, 0), (9, 0), (9, 0), (9, 0), (9, 0), (9, 0)], [(0, 0)], _, _, _)
      refine ev_ifeq f353_56 (fun c12 => ?_) (fun c12 => absurd c12 (by omega))
      refine ev_ldc2_w ?_
      refine ev_ret rfl (by decide) (by decide) ?_
      show jEv _ _ _ _ _ _ _ (_, [(2, (-2)), (2, 0), (2, 42), (0, 0)], [(1, (-9223372036854775808)), (1, (-9223372036854775808))], _, _, _)
      refine ev_lcmp ?_
      refine ev_ifeq f384_2190 (fun c13 => ?_) (fun c13 => absurd (show _ from by unfold jcmpL; (repeat' split) <;> omega) c13)
      exact law_tail _
    · refine ev_iload rfl ?_
      refine ev_bipush ?_
      refine ev_icmpgt f208_53 (fun c14 => ?_) (fun c14 => ?_)
      · refine ev_ldc2_w ?_
        refine ev_ret rfl (by decide) (by decide) ?_
        show jEv _ _ _ _ _ _ _ (_, [(2, (-2)), (2, 0), (2, 42), (0, 0)], [(1, (-9223372036854775808))], _, _, _)
        refine ev_aload_n rfl ?_
        refine ev_aload_n rfl ?_
        refine ev_iload_n rfl ?_
        refine ev_iconst ?_
        refine ev_iadd (r := 1) (by decide) ?_
        refine ev_sald (j := 1) (v := (xs 1)) rfl rfl rfl ?_
        refine ev_aload_n rfl ?_
        refine ev_iload_n rfl ?_
        refine ev_iconst ?_
        refine ev_iadd (r := 2) (by decide) ?_
        refine ev_sald (j := 2) (v := (xs 2)) rfl rfl rfl ?_
        refine ev_aload_n rfl ?_
        refine ev_iload_n rfl ?_
        refine ev_iconst ?_
        refine ev_iadd (r := 3) (by decide) ?_
        refine ev_sald (j := 3) (v := (xs 3)) rfl rfl rfl ?_
        refine ev_in (d := 7) (a := 0) (b := 0) (cd' := c353_0) (m := 15) (L0 := [(2, 42), (0, (xs 1)), (0, (xs 2)), (0, (xs 3)), (9, 0), (9, 0), (9, 0), (9, 0), (9, 0), (9, 0), (9, 0), (9, 0), (9, 0), (9, 0), (9, 0)]) (jcall_v (A := [(0, (xs 3)), (0, (xs 2)), (0, (xs 1))]) (S' := [(1, (-9223372036854775808))]) (r := 42) rfl (hF.1.lt (by decide)) (hF.1.sh (by decide) rfl).1 (Nat.le_of_ble_eq_true rfl)) (by decide) ml353 pp353 (Nat.le_of_ble_eq_true rfl) rfl (by decide) (by decide) ?_
        refine ev_iload_n rfl ?_
        refine ev_bipush ?_
        have q15 := jidiv_b (x := (xs 1)) (y := 100) (by decide)
        refine ev_idiv (r := (Int.tdiv (xs 1) 100)) (by decide) (by unfold w32; omega) ?_
        refine ev_istore (L' := [(2, 42), (0, (xs 1)), (0, (xs 2)), (0, (xs 3)), (0, (Int.tdiv (xs 1) 100)), (9, 0), (9, 0), (9, 0), (9, 0), (9, 0), (9, 0), (9, 0), (9, 0), (9, 0), (9, 0)]) (Nat.le_of_ble_eq_true rfl) rfl ?_
        refine ev_iload_n rfl ?_
        refine ev_bipush ?_
        have q16 := jirem_b (x := (xs 1)) (y := 100) (by decide)
        refine ev_irem (r := (Int.tmod (xs 1) 100)) (by decide) rfl ?_
        refine ev_istore (L' := [(2, 42), (0, (xs 1)), (0, (xs 2)), (0, (xs 3)), (0, (Int.tdiv (xs 1) 100)), (0, (Int.tmod (xs 1) 100)), (9, 0), (9, 0), (9, 0), (9, 0), (9, 0), (9, 0), (9, 0), (9, 0), (9, 0)]) (Nat.le_of_ble_eq_true rfl) rfl ?_
        refine ev_iload_n rfl ?_
        refine ev_iflt f353_56 (fun c17 => absurd c17 (by omega)) (fun c17 => ?_)
        refine ev_iload rfl ?_
        refine ev_iconst ?_
        refine ev_bipush ?_
        refine ev_in (d := 6) (a := 0) (b := 0) (cd' := c242_0) (m := 3) (L0 := [(0, (Int.tmod (xs 1) 100)), (0, 1), (0, 20)]) (jcall_s (A := [(0, 20), (0, 1), (0, (Int.tmod (xs 1) 100))]) (S' := []) (by decide) rfl (Nat.le_of_ble_eq_true rfl)) (by decide) ml242 pp242 (Nat.le_of_ble_eq_true rfl) rfl (by decide) (by decide) ?_
        refine ev_iload_n rfl ?_
        refine ev_iload_n rfl ?_
        refine ev_icmplt f242_14 (fun c18 => absurd c18 (by omega)) (fun c18 => ?_)
        refine ev_iload_n rfl ?_
        refine ev_iload_n rfl ?_
        refine ev_icmpgt f242_14 (fun c19 => ?_) (fun c19 => absurd c19 (by omega))
        refine ev_iconst ?_
        refine ev_ret rfl (by decide) (by decide) ?_
        show jEv _ _ _ _ _ _ _ (_, [(2, 42), (0, (xs 1)), (0, (xs 2)), (0, (xs 3)), (0, (Int.tdiv (xs 1) 100)), (0, (Int.tmod (xs 1) 100)), (9, 0), (9, 0), (9, 0), (9, 0), (9, 0), (9, 0), (9, 0), (9, 0), (9, 0)], [(0, 0)], _, _, _)
        refine ev_ifeq f353_56 (fun c20 => ?_) (fun c20 => absurd c20 (by omega))
        refine ev_ldc2_w ?_
        refine ev_ret rfl (by decide) (by decide) ?_
        show jEv _ _ _ _ _ _ _ (_, [(2, (-2)), (2, 0), (2, 42), (0, 0)], [(1, (-9223372036854775808)), (1, (-9223372036854775808))], _, _, _)
        refine ev_lcmp ?_
        refine ev_ifeq f384_2190 (fun c21 => ?_) (fun c21 => absurd (show _ from by unfold jcmpL; (repeat' split) <;> omega) c21)
        exact law_tail _
      · refine ev_iload_n rfl ?_
        refine ev_bipush ?_
        have q22 := jidiv_b (x := (xs 1)) (y := 100) (by decide)
        refine ev_idiv (r := (Int.tdiv (xs 1) 100)) (by decide) (by unfold w32; omega) ?_
        refine ev_iload rfl ?_
        refine ev_icmpge f208_53 (fun c23 => ?_) (fun c23 => ?_)
        · refine ev_ldc2_w ?_
          refine ev_ret rfl (by decide) (by decide) ?_
          show jEv _ _ _ _ _ _ _ (_, [(2, (-2)), (2, 0), (2, 42), (0, 0)], [(1, (-9223372036854775808))], _, _, _)
          refine ev_aload_n rfl ?_
          refine ev_aload_n rfl ?_
          refine ev_iload_n rfl ?_
          refine ev_iconst ?_
          refine ev_iadd (r := 1) (by decide) ?_
          refine ev_sald (j := 1) (v := (xs 1)) rfl rfl rfl ?_
          refine ev_aload_n rfl ?_
          refine ev_iload_n rfl ?_
          refine ev_iconst ?_
          refine ev_iadd (r := 2) (by decide) ?_
          refine ev_sald (j := 2) (v := (xs 2)) rfl rfl rfl ?_
          refine ev_aload_n rfl ?_
          refine ev_iload_n rfl ?_
          refine ev_iconst ?_
          refine ev_iadd (r := 3) (by decide) ?_
          refine ev_sald (j := 3) (v := (xs 3)) rfl rfl rfl ?_
          refine ev_in (d := 7) (a := 0) (b := 0) (cd' := c353_0) (m := 15) (L0 := [(2, 42), (0, (xs 1)), (0, (xs 2)), (0, (xs 3)), (9, 0), (9, 0), (9, 0), (9, 0), (9, 0), (9, 0), (9, 0), (9, 0), (9, 0), (9, 0), (9, 0)]) (jcall_v (A := [(0, (xs 3)), (0, (xs 2)), (0, (xs 1))]) (S' := [(1, (-9223372036854775808))]) (r := 42) rfl (hF.1.lt (by decide)) (hF.1.sh (by decide) rfl).1 (Nat.le_of_ble_eq_true rfl)) (by decide) ml353 pp353 (Nat.le_of_ble_eq_true rfl) rfl (by decide) (by decide) ?_
          refine ev_iload_n rfl ?_
          refine ev_bipush ?_
          have q24 := jidiv_b (x := (xs 1)) (y := 100) (by decide)
          refine ev_idiv (r := (Int.tdiv (xs 1) 100)) (by decide) (by unfold w32; omega) ?_
          refine ev_istore (L' := [(2, 42), (0, (xs 1)), (0, (xs 2)), (0, (xs 3)), (0, (Int.tdiv (xs 1) 100)), (9, 0), (9, 0), (9, 0), (9, 0), (9, 0), (9, 0), (9, 0), (9, 0), (9, 0), (9, 0)]) (Nat.le_of_ble_eq_true rfl) rfl ?_
          refine ev_iload_n rfl ?_
          refine ev_bipush ?_
          have q25 := jirem_b (x := (xs 1)) (y := 100) (by decide)
          refine ev_irem (r := (Int.tmod (xs 1) 100)) (by decide) rfl ?_
          refine ev_istore (L' := [(2, 42), (0, (xs 1)), (0, (xs 2)), (0, (xs 3)), (0, (Int.tdiv (xs 1) 100)), (0, (Int.tmod (xs 1) 100)), (9, 0), (9, 0), (9, 0), (9, 0), (9, 0), (9, 0), (9, 0), (9, 0), (9, 0)]) (Nat.le_of_ble_eq_true rfl) rfl ?_
          refine ev_iload_n rfl ?_
          refine ev_iflt f353_56 (fun c26 => absurd c26 (by omega)) (fun c26 => ?_)
          refine ev_iload rfl ?_
          refine ev_iconst ?_
          refine ev_bipush ?_
          refine ev_in (d := 6) (a := 0) (b := 0) (cd' := c242_0) (m := 3) (L0 := [(0, (Int.tmod (xs 1) 100)), (0, 1), (0, 20)]) (jcall_s (A := [(0, 20), (0, 1), (0, (Int.tmod (xs 1) 100))]) (S' := []) (by decide) rfl (Nat.le_of_ble_eq_true rfl)) (by decide) ml242 pp242 (Nat.le_of_ble_eq_true rfl) rfl (by decide) (by decide) ?_
          refine ev_iload_n rfl ?_
          refine ev_iload_n rfl ?_
          refine ev_icmplt f242_14 (fun c27 => absurd c27 (by omega)) (fun c27 => ?_)
          refine ev_iload_n rfl ?_
          refine ev_iload_n rfl ?_
          refine ev_icmpgt f242_14 (fun c28 => absurd c28 (by omega)) (fun c28 => ?_)
          refine ev_iconst ?_
          refine ev_goto f242_15 ?_
          refine ev_ret rfl (by decide) (by decide) ?_
          show jEv _ _ _ _ _ _ _ (_, [(2, 42), (0, (xs 1)), (0, (xs 2)), (0, (xs 3)), (0, (Int.tdiv (xs 1) 100)), (0, (Int.tmod (xs 1) 100)), (9, 0), (9, 0), (9, 0), (9, 0), (9, 0), (9, 0), (9, 0), (9, 0), (9, 0)], [(0, 1)], _, _, _)
          refine ev_ifeq f353_56 (fun c29 => absurd c29 (by omega)) (fun c29 => ?_)
          refine ev_iload rfl ?_
          refine ev_iload rfl ?_
          refine ev_icmpge f353_56 (fun c30 => ?_) (fun c30 => absurd c30 (by omega))
          refine ev_ldc2_w ?_
          refine ev_ret rfl (by decide) (by decide) ?_
          show jEv _ _ _ _ _ _ _ (_, [(2, (-2)), (2, 0), (2, 42), (0, 0)], [(1, (-9223372036854775808)), (1, (-9223372036854775808))], _, _, _)
          refine ev_lcmp ?_
          refine ev_ifeq f384_2190 (fun c31 => ?_) (fun c31 => absurd (show _ from by unfold jcmpL; (repeat' split) <;> omega) c31)
          exact law_tail _
        · refine ev_iload_n rfl ?_
          refine ev_sipush ?_
          refine ev_icmplt f208_53 (fun c32 => ?_) (fun c32 => ?_)
          · refine ev_ldc2_w ?_
            refine ev_ret rfl (by decide) (by decide) ?_
            show jEv _ _ _ _ _ _ _ (_, [(2, (-2)), (2, 0), (2, 42), (0, 0)], [(1, (-9223372036854775808))], _, _, _)
            refine ev_aload_n rfl ?_
            refine ev_aload_n rfl ?_
            refine ev_iload_n rfl ?_
            refine ev_iconst ?_
            refine ev_iadd (r := 1) (by decide) ?_
            refine ev_sald (j := 1) (v := (xs 1)) rfl rfl rfl ?_
            refine ev_aload_n rfl ?_
            refine ev_iload_n rfl ?_
            refine ev_iconst ?_
            refine ev_iadd (r := 2) (by decide) ?_
            refine ev_sald (j := 2) (v := (xs 2)) rfl rfl rfl ?_
            refine ev_aload_n rfl ?_
            refine ev_iload_n rfl ?_
            refine ev_iconst ?_
            refine ev_iadd (r := 3) (by decide) ?_
            refine ev_sald (j := 3) (v := (xs 3)) rfl rfl rfl ?_
            refine ev_in (d := 7) (a := 0) (b := 0) (cd' := c353_0) (m := 15) (L0 := [(2, 42), (0, (xs 1)), (0, (xs 2)), (0, (xs 3)), (9, 0), (9, 0), (9, 0), (9, 0), (9, 0), (9, 0), (9, 0), (9, 0), (9, 0), (9, 0), (9, 0)]) (jcall_v (A := [(0, (xs 3)), (0, (xs 2)), (0, (xs 1))]) (S' := [(1, (-9223372036854775808))]) (r := 42) rfl (hF.1.lt (by decide)) (hF.1.sh (by decide) rfl).1 (Nat.le_of_ble_eq_true rfl)) (by decide) ml353 pp353 (Nat.le_of_ble_eq_true rfl) rfl (by decide) (by decide) ?_
            refine ev_iload_n rfl ?_
            refine ev_bipush ?_
            have q33 := jidiv_b (x := (xs 1)) (y := 100) (by decide)
            refine ev_idiv (r := (Int.tdiv (xs 1) 100)) (by decide) (by unfold w32; omega) ?_
            refine ev_istore (L' := [(2, 42), (0, (xs 1)), (0, (xs 2)), (0, (xs 3)), (0, (Int.tdiv (xs 1) 100)), (9, 0), (9, 0), (9, 0), (9, 0), (9, 0), (9, 0), (9, 0), (9, 0), (9, 0), (9, 0)]) (Nat.le_of_ble_eq_true rfl) rfl ?_
            refine ev_iload_n rfl ?_
            refine ev_bipush ?_
            have q34 := jirem_b (x := (xs 1)) (y := 100) (by decide)
            refine ev_irem (r := (Int.tmod (xs 1) 100)) (by decide) rfl ?_
            refine ev_istore (L' := [(2, 42), (0, (xs 1)), (0, (xs 2)), (0, (xs 3)), (0, (Int.tdiv (xs 1) 100)), (0, (Int.tmod (xs 1) 100)), (9, 0), (9, 0), (9, 0), (9, 0), (9, 0), (9, 0), (9, 0), (9, 0), (9, 0)]) (Nat.le_of_ble_eq_true rfl) rfl ?_
            refine ev_iload_n rfl ?_
            refine ev_iflt f353_56 (fun c35 => absurd c35 (by omega)) (fun c35 => ?_)
            refine ev_iload rfl ?_
            refine ev_iconst ?_
            refine ev_bipush ?_
            refine ev_in (d := 6) (a := 0) (b := 0) (cd' := c242_0) (m := 3) (L0 := [(0, (Int.tmod (xs 1) 100)), (0, 1), (0, 20)]) (jcall_s (A := [(0, 20), (0, 1), (0, (Int.tmod (xs 1) 100))]) (S' := []) (by decide) rfl (Nat.le_of_ble_eq_true rfl)) (by decide) ml242 pp242 (Nat.le_of_ble_eq_true rfl) rfl (by decide) (by decide) ?_
            refine ev_iload_n rfl ?_
            refine ev_iload_n rfl ?_
            refine ev_icmplt f242_14 (fun c36 => absurd c36 (by omega)) (fun c36 => ?_)
            refine ev_iload_n rfl ?_
            refine ev_iload_n rfl ?_
            refine ev_icmpgt f242_14 (fun c37 => absurd c37 (by omega)) (fun c37 => ?_)
            refine ev_iconst ?_
            refine ev_goto f242_15 ?_
            refine ev_ret rfl (by decide) (by decide) ?_
            show jEv _ _ _ _ _ _ _ (_, [(2, 42), (0, (xs 1)), (0, (xs 2)), (0, (xs 3)), (0, (Int.tdiv (xs 1) 100)), (0, (Int.tmod (xs 1) 100)), (9, 0), (9, 0), (9, 0), (9, 0), (9, 0), (9, 0), (9, 0), (9, 0), (9, 0)], [(0, 1)], _, _, _)
            refine ev_ifeq f353_56 (fun c38 => absurd c38 (by omega)) (fun c38 => ?_)
            refine ev_iload rfl ?_
            refine ev_iload rfl ?_
            refine ev_icmpge f353_56 (fun c39 => absurd c39 (by omega)) (fun c39 => ?_)
            refine ev_iload_n rfl ?_
            refine ev_sipush ?_
            refine ev_sipush ?_
            refine ev_in (d := 6) (a := 0) (b := 0) (cd' := c242_0) (m := 3) (L0 := [(0, (xs 2)), (0, (-999)), (0, 999)]) (jcall_s (A := [(0, 999), (0, (-999)), (0, (xs 2))]) (S' := []) (by decide) rfl (Nat.le_of_ble_eq_true rfl)) (by decide) ml242 pp242 (Nat.le_of_ble_eq_true rfl) rfl (by decide) (by decide) ?_
            refine ev_iload_n rfl ?_
            refine ev_iload_n rfl ?_
            refine ev_icmplt f242_14 (fun c40 => ?_) (fun c40 => absurd c40 (by omega))
            refine ev_iconst ?_
            refine ev_ret rfl (by decide) (by decide) ?_
            show jEv _ _ _ _ _ _ _ (_, [(2, 42), (0, (xs 1)), (0, (xs 2)), (0, (xs 3)), (0, (Int.tdiv (xs 1) 100)), (0, (Int.tmod (xs 1) 100)), (9, 0), (9, 0), (9, 0), (9, 0), (9, 0), (9, 0), (9, 0), (9, 0), (9, 0)], [(0, 0)], _, _, _)
            refine ev_ifeq f353_56 (fun c41 => ?_) (fun c41 => absurd c41 (by omega))
            refine ev_ldc2_w ?_
            refine ev_ret rfl (by decide) (by decide) ?_
            show jEv _ _ _ _ _ _ _ (_, [(2, (-2)), (2, 0), (2, 42), (0, 0)], [(1, (-9223372036854775808)), (1, (-9223372036854775808))], _, _, _)
            refine ev_lcmp ?_
            refine ev_ifeq f384_2190 (fun c42 => ?_) (fun c42 => absurd (show _ from by unfold jcmpL; (repeat' split) <;> omega) c42)
            exact law_tail _
          · refine ev_iload_n rfl ?_
            refine ev_sipush ?_
            refine ev_icmpgt f208_53 (fun c43 => ?_) (fun c43 => ?_)
            · refine ev_ldc2_w ?_
              refine ev_ret rfl (by decide) (by decide) ?_
              show jEv _ _ _ _ _ _ _ (_, [(2, (-2)), (2, 0), (2, 42), (0, 0)], [(1, (-9223372036854775808))], _, _, _)
              refine ev_aload_n rfl ?_
              refine ev_aload_n rfl ?_
              refine ev_iload_n rfl ?_
              refine ev_iconst ?_
              refine ev_iadd (r := 1) (by decide) ?_
              refine ev_sald (j := 1) (v := (xs 1)) rfl rfl rfl ?_
              refine ev_aload_n rfl ?_
              refine ev_iload_n rfl ?_
              refine ev_iconst ?_
              refine ev_iadd (r := 2) (by decide) ?_
              refine ev_sald (j := 2) (v := (xs 2)) rfl rfl rfl ?_
              refine ev_aload_n rfl ?_
              refine ev_iload_n rfl ?_
              refine ev_iconst ?_
              refine ev_iadd (r := 3) (by decide) ?_
              refine ev_sald (j := 3) (v := (xs 3)) rfl rfl rfl ?_
              refine ev_in (d := 7) (a := 0) (b := 0) (cd' := c353_0) (m := 15) (L0 := [(2, 42), (0, (xs 1)), (0, (xs 2)), (0, (xs 3)), (9, 0), (9, 0), (9, 0), (9, 0), (9, 0), (9, 0), (9, 0), (9, 0), (9, 0), (9, 0), (9, 0)]) (jcall_v (A := [(0, (xs 3)), (0, (xs 2)), (0, (xs 1))]) (S' := [(1, (-9223372036854775808))]) (r := 42) rfl (hF.1.lt (by decide)) (hF.1.sh (by decide) rfl).1 (Nat.le_of_ble_eq_true rfl)) (by decide) ml353 pp353 (Nat.le_of_ble_eq_true rfl) rfl (by decide) (by decide) ?_
              refine ev_iload_n rfl ?_
              refine ev_bipush ?_
              have q44 := jidiv_b (x := (xs 1)) (y := 100) (by decide)
              refine ev_idiv (r := (Int.tdiv (xs 1) 100)) (by decide) (by unfold w32; omega) ?_
              refine ev_istore (L' := [(2, 42), (0, (xs 1)), (0, (xs 2)), (0, (xs 3)), (0, (Int.tdiv (xs 1) 100)), (9, 0), (9, 0), (9, 0), (9, 0), (9, 0), (9, 0), (9, 0), (9, 0), (9, 0), (9, 0)]) (Nat.le_of_ble_eq_true rfl) rfl ?_
              refine ev_iload_n rfl ?_
              refine ev_bipush ?_
              have q45 := jirem_b (x := (xs 1)) (y := 100) (by decide)
              refine ev_irem (r := (Int.tmod (xs 1) 100)) (by decide) rfl ?_
              refine ev_istore (L' := [(2, 42), (0, (xs 1)), (0, (xs 2)), (0, (xs 3)), (0, (Int.tdiv (xs 1) 100)), (0, (Int.tmod (xs 1) 100)), (9, 0), (9, 0), (9, 0), (9, 0), (9, 0), (9, 0), (9, 0), (9, 0), (9, 0)]) (Nat.le_of_ble_eq_true rfl) rfl ?_
              refine ev_iload_n rfl ?_
              refine ev_iflt f353_56 (fun c46 => absurd c46 (by omega)) (fun c46 => ?_)
              refine ev_iload rfl ?_
              refine ev_iconst ?_
              refine ev_bipush ?_
              refine ev_in (d := 6) (a := 0) (b := 0) (cd' := c242_0) (m := 3) (L0 := [(0, (Int.tmod (xs 1) 100)), (0, 1), (0, 20)]) (jcall_s (A := [(0, 20), (0, 1), (0, (Int.tmod (xs 1) 100))]) (S' := []) (by decide) rfl (Nat.le_of_ble_eq_true rfl)) (by decide) ml242 pp242 (Nat.le_of_ble_eq_true rfl) rfl (by decide) (by decide) ?_
              refine ev_iload_n rfl ?_
              refine ev_iload_n rfl ?_
              refine ev_icmplt f242_14 (fun c47 => absurd c47 (by omega)) (fun c47 => ?_)
              refine ev_iload_n rfl ?_
              refine ev_iload_n rfl ?_
              refine ev_icmpgt f242_14 (fun c48 => absurd c48 (by omega)) (fun c48 => ?_)
              refine ev_iconst ?_
              refine ev_goto f242_15 ?_
              refine ev_ret rfl (by decide) (by decide) ?_
              show jEv _ _ _ _ _ _ _ (_, [(2, 42), (0, (xs 1)), (0, (xs 2)), (0, (xs 3)), (0, (Int.tdiv (xs 1) 100)), (0, (Int.tmod (xs 1) 100)), (9, 0), (9, 0), (9, 0), (9, 0), (9, 0), (9, 0), (9, 0), (9, 0), (9, 0)], [(0, 1)], _, _, _)
              refine ev_ifeq f353_56 (fun c49 => absurd c49 (by omega)) (fun c49 => ?_)
              refine ev_iload rfl ?_
              refine ev_iload rfl ?_
              refine ev_icmpge f353_56 (fun c50 => absurd c50 (by omega)) (fun c50 => ?_)
              refine ev_iload_n rfl ?_
              refine ev_sipush ?_
              refine ev_sipush ?_
              refine ev_in (d := 6) (a := 0) (b := 0) (cd' := c242_0) (m := 3) (L0 := [(0, (xs 2)), (0, (-999)), (0, 999)]) (jcall_s (A := [(0, 999), (0, (-999)), (0, (xs 2))]) (S' := []) (by decide) rfl (Nat.le_of_ble_eq_true rfl)) (by decide) ml242 pp242 (Nat.le_of_ble_eq_true rfl) rfl (by decide) (by decide) ?_
              refine ev_iload_n rfl ?_
              refine ev_iload_n rfl ?_
              refine ev_icmplt f242_14 (fun c51 => absurd c51 (by omega)) (fun c51 => ?_)
              refine ev_iload_n rfl ?_
              refine ev_iload_n rfl ?_
              refine ev_icmpgt f242_14 (fun c52 => ?_) (fun c52 => absurd c52 (by omega))
              refine ev_iconst ?_
              refine ev_ret rfl (by decide) (by decide) ?_
              show jEv _ _ _ _ _ _ _ (_, [(2, 42), (0, (xs 1)), (0, (xs 2)), (0, (xs 3)), (0, (Int.tdiv (xs 1) 100)), (0, (Int.tmod (xs 1) 100)), (9, 0), (9, 0), (9, 0), (9, 0), (9, 0), (9, 0), (9, 0), (9, 0), (9, 0)], [(0, 0)], _, _, _)
              refine ev_ifeq f353_56 (fun c53 => ?_) (fun c53 => absurd c53 (by omega))
              refine ev_ldc2_w ?_
              refine ev_ret rfl (by decide) (by decide) ?_
              show jEv _ _ _ _ _ _ _ (_, [(2, (-2)), (2, 0), (2, 42), (0, 0)], [(1, (-9223372036854775808)), (1, (-9223372036854775808))], _, _, _)
              refine ev_lcmp ?_
              refine ev_ifeq f384_2190 (fun c54 => ?_) (fun c54 => absurd (show _ from by unfold jcmpL; (repeat' split) <;> omega) c54)
              exact law_tail _
            · refine ev_iload_n rfl ?_
              refine ev_in (d := 6) (a := 0) (b := 0) (cd' := c221_0) (m := 1) (L0 := [(0, (xs 3))]) (jcall_s (A := [(0, (xs 3))]) (S' := []) (by decide) rfl (Nat.le_of_ble_eq_true rfl)) (by decide) ml221 pp221 (Nat.le_of_ble_eq_true rfl) rfl (by decide) (by decide) ?_
              refine ev_iload_n rfl ?_
              refine ev_ifeq f221_9 (fun c55 => ?_) (fun c55 => ?_)
              · refine ev_iconst ?_
                refine ev_goto f221_14 ?_
                refine ev_ret rfl (by decide) (by decide) ?_
                show jEv _ _ _ _ _ _ _ (_, [(2, 0), (0, (xs 1)), (0, (xs 2)), (0, (xs 3)), (0, (Int.tmod (xs 1) 100))], [(0, 1)], _, _, _)
                refine ev_ifne f208_57 (fun c56 => ?_) (fun c56 => absurd c56 (by omega))
                refine ev_iload_n rfl ?_
                refine ev_ifne f208_78 (fun c57 => absurd c57 (by omega)) (fun c57 => ?_)
                refine ev_aload_n rfl ?_
                refine ev_getf (r := 0) (v := 26) (hF.1.lt (by decide)) (hF.1.fam (by decide) (by decide)) ft11_11 ((hF.v rfl)) ?_
                refine ev_iload_n rfl ?_
                refine ev_bipush ?_
                have q58 := jidiv_b (x := (xs 1)) (y := 100) (by decide)
                refine ev_idiv (r := (Int.tdiv (xs 1) 100)) (by decide) (by unfold w32; omega) ?_
                refine ev_iload rfl ?_
                refine ev_iload_n rfl ?_
                refine ev_in (d := 6) (a := 0) (b := 0) (cd' := c137_0) (m := 6) (L0 := [(2, 26), (0, (Int.tdiv (xs 1) 100)), (0, (Int.tmod (xs 1) 100)), (0, (xs 2)), (9, 0), (9, 0)]) (jcall_v (A := [(0, (xs 2)), (0, (Int.tmod (xs 1) 100)), (0, (Int.tdiv (xs 1) 100))]) (S' := []) (r := 26) rfl (hF.1.lt (by decide)) (hF.1.sh (by decide) rfl).1 (Nat.le_of_ble_eq_true rfl)) (by decide) ml137 pp137 (Nat.le_of_ble_eq_true rfl) rfl (by decide) (by decide) ?_
                refine ev_iload_n rfl ?_
                refine ev_iflt f137_10 (fun c59 => absurd c59 (by omega)) (fun c59 => ?_)
                refine ev_iload_n rfl ?_
                refine ev_bipush ?_
                refine ev_icmplt f137_14 (fun c60 => ?_) (fun c60 => ?_)
                · refine ev_aload_n rfl ?_
                  refine ev_iload_n rfl ?_
                  refine ev_iconst ?_
                  refine ev_iadd (r := ((Int.tdiv (xs 1) 100) + 1)) (by unfold w32; omega) ?_
                  refine ev_iload_n rfl ?_
                  refine ev_iload_n rfl ?_
                  refine ev_call (jcall_v (A := [(0, (xs 2)), (0, (Int.tmod (xs 1) 100)), (0, ((Int.tdiv (xs 1) 100) + 1))]) (S' := []) (r := 26) rfl (hF.1.lt (by decide)) (hF.1.sh (by decide) rfl).1 (Nat.le_of_ble_eq_true rfl)) (jOk_le (by decide) (wf_c hF (by omega) (by omega) (by omega) (by omega) (by omega) (by omega))) (by decide) (by decide) (fun v h' q => ?_)
                  obtain ⟨rfl, rfl⟩ := q
                  show jEv _ _ _ _ _ _ _ (_, [(2, 26), (0, (Int.tdiv (xs 1) 100)), (0, (Int.tmod (xs 1) 100)), (0, (xs 2)), (9, 0), (9, 0)], [(1, (1000000 * (xs 2)))], _, _, _)
                  refine ev_ldc2_w ?_
                  refine ev_aload_n rfl ?_
                  refine ev_getf (r := 26) (v := 36) (hF.1.lt (by decide)) (hF.1.fam (by decide) (by decide)) ft9_14 ((hF.v rfl)) ?_
                  refine ev_iload_n rfl ?_
                  refine ev_iald (r := 36) (j := ((Int.tdiv (xs 1) 100)).toNat) (v := 0) (hF.1.lt (by decide)) (hF.1.sh (by decide) rfl).1 (by omega) (hF.1.inbx (by decide) (n := 20) (by decide) (by omega)) (hF.uni (n := 20) (by decide) (by omega)) ?_
                  refine ev_i2l ?_
                  refine ev_lmul (r := 0) (by decide) ?_
                  refine ev_lsub (r := (1000000 * (xs 2))) (by unfold w64; omega) ?_
                  refine ev_lstore (L' := [(2, 26), (0, (Int.tdiv (xs 1) 100)), (0, (Int.tmod (xs 1) 100)), (0, (xs 2)), (1, (1000000 * (xs 2))), (9, 0)]) (Nat.le_of_ble_eq_true rfl) rfl ?_
                  refine ev_lconst ?_
                  refine ev_ldc2_w ?_
                  refine ev_lload rfl ?_
                  refine ev_lneg (r := ((-1000000) * (xs 2))) (by unfold w64; omega) ?_
                  refine ev_ldc2_w ?_
                  refine ev_call (jcall_s (A := [(1, 1000000), (1, ((-1000000) * (xs 2)))]) (S' := [(1, 1000), (1, 0)]) (by decide) rfl (Nat.le_of_ble_eq_true rfl)) (jOk_le (by decide) (fd_e (q := ((-(xs 2)))) (by omega) (by decide) (by omega) (by omega))) (by decide) (by decide) (fun v h' q => ?_)
                  obtain ⟨rfl, rfl⟩ := q
                  show jEv _ _ _ _ _ _ _ (_, [(2, 26), (0, (Int.tdiv (xs 1) 100)), (0, (Int.tmod (xs 1) 100)), (0, (xs 2)), (1, (1000000 * (xs 2))), (9, 0)], [(1, ((-(xs 2)))), (1, 1000), (1, 0)], _, _, _)
                  refine ev_lneg (r := (xs 2)) (by unfold w64; omega) ?_
                  refine ev_in (d := 5) (a := 0) (b := 0) (cd' := c382_0) (m := 4) (L0 := [(1, 1000), (9, 0), (1, (xs 2)), (9, 0)]) (jcall_s (A := [(1, (xs 2)), (1, 1000)]) (S' := [(1, 0)]) (by decide) rfl (Nat.le_of_ble_eq_true rfl)) (by decide) ml382 pp382 (Nat.le_of_ble_eq_true rfl) rfl (by decide) (by decide) ?_
                  refine ev_lload_n rfl ?_
                  refine ev_lload_n rfl ?_
                  refine ev_lcmp ?_
                  refine ev_ifgt f382_10 (fun c61 => ?_) (fun c61 => absurd (show _ from by unfold jcmpL; (repeat' split) <;> omega) c61)
                  refine ev_lload_n rfl ?_
                  refine ev_ret rfl (by decide) (by decide) ?_
                  show jEv _ _ _ _ _ _ _ (_, [(2, 26), (0, (Int.tdiv (xs 1) 100)), (0, (Int.tmod (xs 1) 100)), (0, (xs 2)), (1, (1000000 * (xs 2))), (9, 0)], [(1, (xs 2)), (1, 0)], _, _, _)
                  refine ev_in (d := 5) (a := 0) (b := 0) (cd' := c380_0) (m := 4) (L0 := [(1, 0), (9, 0), (1, (xs 2)), (9, 0)]) (jcall_s (A := [(1, (xs 2)), (1, 0)]) (S' := []) (by decide) rfl (Nat.le_of_ble_eq_true rfl)) (by decide) ml380 pp380 (Nat.le_of_ble_eq_true rfl) rfl (by decide) (by decide) ?_
                  refine ev_lload_n rfl ?_
                  refine ev_lload_n rfl ?_
                  refine ev_lcmp ?_
                  refine ev_iflt f380_10 (fun c62 => ?_) (fun c62 => ?_)
                  · have c62b := jcmpL_lt c62
                    refine ev_lload_n rfl ?_
                    refine ev_ret rfl (by decide) (by decide) ?_
                    show jEv _ _ _ _ _ _ _ (_, [(2, 26), (0, (Int.tdiv (xs 1) 100)), (0, (Int.tmod (xs 1) 100)), (0, (xs 2)), (1, (1000000 * (xs 2))), (9, 0)], [(1, (xs 2))], _, _, _)
                    refine ev_ret rfl (by decide) (by decide) ?_
                    show jEv _ _ _ _ _ _ _ (_, [(2, 0), (0, (xs 1)), (0, (xs 2)), (0, (xs 3)), (0, (Int.tmod (xs 1) 100))], [(1, (xs 2))], _, _, _)
                    refine ev_goto f208_92 ?_
                    refine ev_ret rfl (by decide) (by decide) ?_
                    show jEv _ _ _ _ _ _ _ (_, [(2, (-2)), (2, 0), (2, 42), (0, 0)], [(1, (xs 2))], _, _, _)
                    refine ev_aload_n rfl ?_
                    refine ev_aload_n rfl ?_
                    refine ev_iload_n rfl ?_
                    refine ev_iconst ?_
                    refine ev_iadd (r := 1) (by decide) ?_
                    refine ev_sald (j := 1) (v := (xs 1)) rfl rfl rfl ?_
                    refine ev_aload_n rfl ?_
                    refine ev_iload_n rfl ?_
                    refine ev_iconst ?_
                    refine ev_iadd (r := 2) (by decide) ?_
                    refine ev_sald (j := 2) (v := (xs 2)) rfl rfl rfl ?_
                    refine ev_aload_n rfl ?_
                    refine ev_iload_n rfl ?_
                    refine ev_iconst ?_
                    refine ev_iadd (r := 3) (by decide) ?_
                    refine ev_sald (j := 3) (v := (xs 3)) rfl rfl rfl ?_
                    refine ev_in (d := 7) (a := 0) (b := 0) (cd' := c353_0) (m := 15) (L0 := [(2, 42), (0, (xs 1)), (0, (xs 2)), (0, (xs 3)), (9, 0), (9, 0), (9, 0), (9, 0), (9, 0), (9, 0), (9, 0), (9, 0), (9, 0), (9, 0), (9, 0)]) (jcall_v (A := [(0, (xs 3)), (0, (xs 2)), (0, (xs 1))]) (S' := [(1, (xs 2))]) (r := 42) rfl (hF.1.lt (by decide)) (hF.1.sh (by decide) rfl).1 (Nat.le_of_ble_eq_true rfl)) (by decide) ml353 pp353 (Nat.le_of_ble_eq_true rfl) rfl (by decide) (by decide) ?_
                    refine ev_iload_n rfl ?_
                    refine ev_bipush ?_
                    have q63 := jidiv_b (x := (xs 1)) (y := 100) (by decide)
                    refine ev_idiv (r := (Int.tdiv (xs 1) 100)) (by decide) (by unfold w32; omega) ?_
                    refine ev_istore (L' := [(2, 42), (0, (xs 1)), (0, (xs 2)), (0, (xs 3)), (0, (Int.tdiv (xs 1) 100)), (9, 0), (9, 0), (9, 0), (9, 0), (9, 0), (9, 0), (9, 0), (9, 0), (9, 0), (9, 0)]) (Nat.le_of_ble_eq_true rfl) rfl ?_
                    refine ev_iload_n rfl ?_
                    refine ev_bipush ?_
                    have q64 := jirem_b (x := (xs 1)) (y := 100) (by decide)
                    refine ev_irem (r := (Int.tmod (xs 1) 100)) (by decide) rfl ?_
                    refine ev_istore (L' := [(2, 42), (0, (xs 1)), (0, (xs 2)), (0, (xs 3)), (0, (Int.tdiv (xs 1) 100)), (0, (Int.tmod (xs 1) 100)), (9, 0), (9, 0), (9, 0), (9, 0), (9, 0), (9, 0), (9, 0), (9, 0), (9, 0)]) (Nat.le_of_ble_eq_true rfl) rfl ?_
                    refine ev_iload_n rfl ?_
                    refine ev_iflt f353_56 (fun c65 => absurd c65 (by omega)) (fun c65 => ?_)
                    refine ev_iload rfl ?_
                    refine ev_iconst ?_
                    refine ev_bipush ?_
                    refine ev_in (d := 6) (a := 0) (b := 0) (cd' := c242_0) (m := 3) (L0 := [(0, (Int.tmod (xs 1) 100)), (0, 1), (0, 20)]) (jcall_s (A := [(0, 20), (0, 1), (0, (Int.tmod (xs 1) 100))]) (S' := []) (by decide) rfl (Nat.le_of_ble_eq_true rfl)) (by decide) ml242 pp242 (Nat.le_of_ble_eq_true rfl) rfl (by decide) (by decide) ?_
                    refine ev_iload_n rfl ?_
                    refine ev_iload_n rfl ?_
                    refine ev_icmplt f242_14 (fun c66 => absurd c66 (by omega)) (fun c66 => ?_)
                    refine ev_iload_n rfl ?_
                    refine ev_iload_n rfl ?_
                    refine ev_icmpgt f242_14 (fun c67 => absurd c67 (by omega)) (fun c67 => ?_)
                    refine ev_iconst ?_
                    refine ev_goto f242_15 ?_
                    refine ev_ret rfl (by decide) (by decide) ?_
                    show jEv _ _ _ _ _ _ _ (_, [(2, 42), (0, (xs 1)), (0, (xs 2)), (0, (xs 3)), (0, (Int.tdiv (xs 1) 100)), (0, (Int.tmod (xs 1) 100)), (9, 0), (9, 0), (9, 0), (9, 0), (9, 0), (9, 0), (9, 0), (9, 0), (9, 0)], [(0, 1)], _, _, _)
                    refine ev_ifeq f353_56 (fun c68 => absurd c68 (by omega)) (fun c68 => ?_)
                    refine ev_iload rfl ?_
                    refine ev_iload rfl ?_
                    refine ev_icmpge f353_56 (fun c69 => absurd c69 (by omega)) (fun c69 => ?_)
                    refine ev_iload_n rfl ?_
                    refine ev_sipush ?_
                    refine ev_sipush ?_
                    refine ev_in (d := 6) (a := 0) (b := 0) (cd' := c242_0) (m := 3) (L0 := [(0, (xs 2)), (0, (-999)), (0, 999)]) (jcall_s (A := [(0, 999), (0, (-999)), (0, (xs 2))]) (S' := []) (by decide) rfl (Nat.le_of_ble_eq_true rfl)) (by decide) ml242 pp242 (Nat.le_of_ble_eq_true rfl) rfl (by decide) (by decide) ?_
                    refine ev_iload_n rfl ?_
                    refine ev_iload_n rfl ?_
                    refine ev_icmplt f242_14 (fun c70 => absurd c70 (by omega)) (fun c70 => ?_)
                    refine ev_iload_n rfl ?_
                    refine ev_iload_n rfl ?_
                    refine ev_icmpgt f242_14 (fun c71 => absurd c71 (by omega)) (fun c71 => ?_)
                    refine ev_iconst ?_
                    refine ev_goto f242_15 ?_
                    refine ev_ret rfl (by decide) (by decide) ?_
                    show jEv _ _ _ _ _ _ _ (_, [(2, 42), (0, (xs 1)), (0, (xs 2)), (0, (xs 3)), (0, (Int.tdiv (xs 1) 100)), (0, (Int.tmod (xs 1) 100)), (9, 0), (9, 0), (9, 0), (9, 0), (9, 0), (9, 0), (9, 0), (9, 0), (9, 0)], [(0, 1)], _, _, _)
                    refine ev_ifeq f353_56 (fun c72 => absurd c72 (by omega)) (fun c72 => ?_)
                    refine ev_iload_n rfl ?_
                    refine ev_iconst ?_
                    refine ev_iconst ?_
                    refine ev_in (d := 6) (a := 0) (b := 0) (cd' := c242_0) (m := 3) (L0 := [(0, (xs 3)), (0, 0), (0, 1)]) (jcall_s (A := [(0, 1), (0, 0), (0, (xs 3))]) (S' := []) (by decide) rfl (Nat.le_of_ble_eq_true rfl)) (by decide) ml242 pp242 (Nat.le_of_ble_eq_true rfl) rfl (by decide) (by decide) ?_
                    refine ev_iload_n rfl ?_
                    refine ev_iload_n rfl ?_
                    refine ev_icmplt f242_14 (fun c73 => absurd c73 (by omega)) (fun c73 => ?_)
                    refine ev_iload_n rfl ?_
                    refine ev_iload_n rfl ?_
                    refine ev_icmpgt f242_14 (fun c74 => absurd c74 (by omega)) (fun c74 => ?_)
                    refine ev_iconst ?_
                    refine ev_goto f242_15 ?_
                    refine ev_ret rfl (by decide) (by decide) ?_
                    show jEv _ _ _ _ _ _ _ (_, [(2, 42), (0, (xs 1)), (0, (xs 2)), (0, (xs 3)), (0, (Int.tdiv (xs 1) 100)), (0, (Int.tmod (xs 1) 100)), (9, 0), (9, 0), (9, 0), (9, 0), (9, 0), (9, 0), (9, 0), (9, 0), (9, 0)], [(0, 1)], _, _, _)
                    refine ev_ifne f353_60 (fun c75 => ?_) (fun c75 => absurd c75 (by omega))
                    refine ev_ldc2_w ?_
                    refine ev_iload_n rfl ?_
                    refine ev_i2l ?_
                    refine ev_lmul (r := (1000000 * (xs 2))) (by unfold w64; omega) ?_
                    refine ev_lstore (L' := [(2, 42), (0, (xs 1)), (0, (xs 2)), (0, (xs 3)), (0, (Int.tdiv (xs 1) 100)), (0, (Int.tmod (xs 1) 100)), (1, (1000000 * (xs 2))), (9, 0), (9, 0), (9, 0), (9, 0), (9, 0), (9, 0), (9, 0), (9, 0)]) (Nat.le_of_ble_eq_true rfl) rfl ?_
                    refine ev_lconst ?_
                    refine ev_lstore (L' := [(2, 42), (0, (xs 1)), (0, (xs 2)), (0, (xs 3)), (0, (Int.tdiv (xs 1) 100)), (0, (Int.tmod (xs 1) 100)), (1, (1000000 * (xs 2))), (9, 0), (1, 0), (9, 0), (9, 0), (9, 0), (9, 0), (9, 0), (9, 0)]) (Nat.le_of_ble_eq_true rfl) rfl ?_
                    refine ev_iload rfl ?_
                    refine ev_iconst ?_
                    refine ev_isub (r := ((Int.tmod (xs 1) 100) - 1)) (by unfold w32; omega) ?_
                    refine ev_istore (L' := [(2, 42), (0, (xs 1)), (0, (xs 2)), (0, (xs 3)), (0, (Int.tdiv (xs 1) 100)), (0, (Int.tmod (xs 1) 100)), (1, (1000000 * (xs 2))), (9, 0), (1, 0), (9, 0), (0, ((Int.tmod (xs 1) 100) - 1)), (9, 0), (9, 0), (9, 0), (9, 0)]) (Nat.le_of_ble_eq_true rfl) rfl ?_
                    refine wt_m (court := (xs 2)) (day := (Int.tdiv (xs 1) 100)) (many := (Int.tmod (xs 1) 100)) hF (by omega) (by omega) (by omega) (by omega) (by omega) ((Int.tmod (xs 1) 100) - (Int.tdiv (xs 1) 100)).toNat _ _ _ _ _ _ (by omega) (by omega) (fun a11 a12 a13 a14 => ?_)
                    refine ev_iload_n rfl ?_
                    refine ev_iconst ?_
                    refine ev_icmpne f353_180 (fun c76 => ?_) (fun c76 => absurd c76 (by omega))
                    refine ev_lload rfl ?_
                    refine ev_lneg (r := ((-1000000) * (xs 2))) (by unfold w64; omega) ?_
                    refine ev_ldc2_w ?_
                    refine ev_call (jcall_s (A := [(1, 1000000), (1, ((-1000000) * (xs 2)))]) (S' := []) (by decide) rfl (Nat.le_of_ble_eq_true rfl)) (jOk_le (by decide) (fd_e (q := ((-(xs 2)))) (by omega) (by decide) (by omega) (by omega))) (by decide) (by decide) (fun v h' q => ?_)
                    obtain ⟨rfl, rfl⟩ := q
                    show jEv _ _ _ _ _ _ _ (_, [(2, 42), (0, (xs 1)), (0, (xs 2)), (0, (xs 3)), (0, (Int.tdiv (xs 1) 100)), (0, (Int.tmod (xs 1) 100)), (1, (1000000 * (xs 2))), (9, 0), (1, (1000000 * (xs 2))), (9, 0), (0, ((Int.tdiv (xs 1) 100) - 1)), a11, a12, a13, a14], [(1, ((-(xs 2))))], _, _, _)
                    refine ev_lneg (r := (xs 2)) (by unfold w64; omega) ?_
                    refine ev_lstore (L' := [(2, 42), (0, (xs 1)), (0, (xs 2)), (0, (xs 3)), (0, (Int.tdiv (xs 1) 100)), (0, (Int.tmod (xs 1) 100)), (1, (1000000 * (xs 2))), (9, 0), (1, (1000000 * (xs 2))), (9, 0), (1, (xs 2)), (9, 0), a12, a13, a14]) (Nat.le_of_ble_eq_true rfl) rfl ?_
                    refine ev_lload rfl ?_
                    refine ev_lconst ?_
                    refine ev_lcmp ?_
                    refine ev_ifge f353_203 (fun c77 => ?_) (fun c77 => absurd (show _ from by unfold jcmpL; (repeat' split) <;> omega) c77)
                    refine ev_lload rfl ?_
                    refine ev_ldc2_w ?_
                    refine ev_lcmp ?_
                    refine ev_ifle f353_218 (fun c78 => ?_) (fun c78 => absurd (show _ from by unfold jcmpL; (repeat' split) <;> omega) c78)
                    refine ev_lload rfl ?_
                    refine ev_ret rfl (by decide) (by decide) ?_
                    show jEv _ _ _ _ _ _ _ (_, [(2, (-2)), (2, 0), (2, 42), (0, 0)], [(1, (xs 2)), (1, (xs 2))], _, _, _)
                    refine ev_lcmp ?_
                    refine ev_ifeq f384_2190 (fun c79 => ?_) (fun c79 => absurd (show _ from by unfold jcmpL; (repeat' split) <;> omega) c79)
                    exact law_tail _
                  · have c62b := jcmpL_ltN c62
                    refine ev_lload_n rfl ?_
                    refine ev_goto f380_11 ?_
                    refine ev_ret rfl (by decide) (by decide) ?_
                    show jEv _ _ _ _ _ _ _ (_, [(2, 26), (0, (Int.tdiv (xs 1) 100)), (0, (Int.tmod (xs 1) 100)), (0, (xs 2)), (1, (1000000 * (xs 2))), (9, 0)], [(1, 0)], _, _, _)
                    refine ev_ret rfl (by decide) (by decide) ?_
                    show jEv _ _ _ _ _ _ _ (_, [(2, 0), (0, (xs 1)), (0, (xs 2)), (0, (xs 3)), (0, (Int.tmod (xs 1) 100))], [(1, 0)], _, _, _)
                    refine ev_goto f208_92 ?_
                    refine ev_ret rfl (by decide) (by decide) ?_
                    show jEv _ _ _ _ _ _ _ (_, [(2, (-2)), (2, 0), (2, 42), (0, 0)], [(1, 0)], _, _, _)
                    refine ev_aload_n rfl ?_
                    refine ev_aload_n rfl ?_
                    refine ev_iload_n rfl ?_
                    refine ev_iconst ?_
                    refine ev_iadd (r := 1) (by decide) ?_
                    refine ev_sald (j := 1) (v := (xs 1)) rfl rfl rfl ?_
                    refine ev_aload_n rfl ?_
                    refine ev_iload_n rfl ?_
                    refine ev_iconst ?_
                    refine ev_iadd (r := 2) (by decide) ?_
                    refine ev_sald (j := 2) (v := (xs 2)) rfl rfl rfl ?_
                    refine ev_aload_n rfl ?_
                    refine ev_iload_n rfl ?_
                    refine ev_iconst ?_
                    refine ev_iadd (r := 3) (by decide) ?_
                    refine ev_sald (j := 3) (v := (xs 3)) rfl rfl rfl ?_
                    refine ev_in (d := 7) (a := 0) (b := 0) (cd' := c353_0) (m := 15) (L0 := [(2, 42), (0, (xs 1)), (0, (xs 2)), (0, (xs 3)), (9, 0), (9, 0), (9, 0), (9, 0), (9, 0), (9, 0), (9, 0), (9, 0), (9, 0), (9, 0), (9, 0)]) (jcall_v (A := [(0, (xs 3)), (0, (xs 2)), (0, (xs 1))]) (S' := [(1, 0)]) (r := 42) rfl (hF.1.lt (by decide)) (hF.1.sh (by decide) rfl).1 (Nat.le_of_ble_eq_true rfl)) (by decide) ml353 pp353 (Nat.le_of_ble_eq_true rfl) rfl (by decide) (by decide) ?_
                    refine ev_iload_n rfl ?_
                    refine ev_bipush ?_
                    have q80 := jidiv_b (x := (xs 1)) (y := 100) (by decide)
                    refine ev_idiv (r := (Int.tdiv (xs 1) 100)) (by decide) (by unfold w32; omega) ?_
                    refine ev_istore (L' := [(2, 42), (0, (xs 1)), (0, (xs 2)), (0, (xs 3)), (0, (Int.tdiv (xs 1) 100)), (9, 0), (9, 0), (9, 0), (9, 0), (9, 0), (9, 0), (9, 0), (9, 0), (9, 0), (9, 0)]) (Nat.le_of_ble_eq_true rfl) rfl ?_
                    refine ev_iload_n rfl ?_
                    refine ev_bipush ?_
                    have q81 := jirem_b (x := (xs 1)) (y := 100) (by decide)
                    refine ev_irem (r := (Int.tmod (xs 1) 100)) (by decide) rfl ?_
                    refine ev_istore (L' := [(2, 42), (0, (xs 1)), (0, (xs 2)), (0, (xs 3)), (0, (Int.tdiv (xs 1) 100)), (0, (Int.tmod (xs 1) 100)), (9, 0), (9, 0), (9, 0), (9, 0), (9, 0), (9, 0), (9, 0), (9, 0), (9, 0)]) (Nat.le_of_ble_eq_true rfl) rfl ?_
                    refine ev_iload_n rfl ?_
                    refine ev_iflt f353_56 (fun c82 => absurd c82 (by omega)) (fun c82 => ?_)
                    refine ev_iload rfl ?_
                    refine ev_iconst ?_
                    refine ev_bipush ?_
                    refine ev_in (d := 6) (a := 0) (b := 0) (cd' := c242_0) (m := 3) (L0 := [(0, (Int.tmod (xs 1) 100)), (0, 1), (0, 20)]) (jcall_s (A := [(0, 20), (0, 1), (0, (Int.tmod (xs 1) 100))]) (S' := []) (by decide) rfl (Nat.le_of_ble_eq_true rfl)) (by decide) ml242 pp242 (Nat.le_of_ble_eq_true rfl) rfl (by decide) (by decide) ?_
                    refine ev_iload_n rfl ?_
                    refine ev_iload_n rfl ?_
                    refine ev_icmplt f242_14 (fun c83 => absurd c83 (by omega)) (fun c83 => ?_)
                    refine ev_iload_n rfl ?_
                    refine ev_iload_n rfl ?_
                    refine ev_icmpgt f242_14 (fun c84 => absurd c84 (by omega)) (fun c84 => ?_)
                    refine ev_iconst ?_
                    refine ev_goto f242_15 ?_
                    refine ev_ret rfl (by decide) (by decide) ?_
                    show jEv _ _ _ _ _ _ _ (_, [(2, 42), (0, (xs 1)), (0, (xs 2)), (0, (xs 3)), (0, (Int.tdiv (xs 1) 100)), (0, (Int.tmod (xs 1) 100)), (9, 0), (9, 0), (9, 0), (9, 0), (9, 0), (9, 0), (9, 0), (9, 0), (9, 0)], [(0, 1)], _, _, _)
                    refine ev_ifeq f353_56 (fun c85 => absurd c85 (by omega)) (fun c85 => ?_)
                    refine ev_iload rfl ?_
                    refine ev_iload rfl ?_
                    refine ev_icmpge f353_56 (fun c86 => absurd c86 (by omega)) (fun c86 => ?_)
                    refine ev_iload_n rfl ?_
                    refine ev_sipush ?_
                    refine ev_sipush ?_
                    refine ev_in (d := 6) (a := 0) (b := 0) (cd' := c242_0) (m := 3) (L0 := [(0, (xs 2)), (0, (-999)), (0, 999)]) (jcall_s (A := [(0, 999), (0, (-999)), (0, (xs 2))]) (S' := []) (by decide) rfl (Nat.le_of_ble_eq_true rfl)) (by decide) ml242 pp242 (Nat.le_of_ble_eq_true rfl) rfl (by decide) (by decide) ?_
                    refine ev_iload_n rfl ?_
                    refine ev_iload_n rfl ?_
                    refine ev_icmplt f242_14 (fun c87 => absurd c87 (by omega)) (fun c87 => ?_)
                    refine ev_iload_n rfl ?_
                    refine ev_iload_n rfl ?_
                    refine ev_icmpgt f242_14 (fun c88 => absurd c88 (by omega)) (fun c88 => ?_)
                    refine ev_iconst ?_
                    refine ev_goto f242_15 ?_
                    refine ev_ret rfl (by decide) (by decide) ?_
                    show jEv _ _ _ _ _ _ _ (_, [(2, 42), (0, (xs 1)), (0, (xs 2)), (0, (xs 3)), (0, (Int.tdiv (xs 1) 100)), (0, (Int.tmod (xs 1) 100)), (9, 0), (9, 0), (9, 0), (9, 0), (9, 0), (9, 0), (9, 0), (9, 0), (9, 0)], [(0, 1)], _, _, _)
                    refine ev_ifeq f353_56 (fun c89 => absurd c89 (by omega)) (fun c89 => ?_)
                    refine ev_iload_n rfl ?_
                    refine ev_iconst ?_
                    refine ev_iconst ?_
                    refine ev_in (d := 6) (a := 0) (b := 0) (cd' := c242_0) (m := 3) (L0 := [(0, (xs 3)), (0, 0), (0, 1)]) (jcall_s (A := [(0, 1), (0, 0), (0, (xs 3))]) (S' := []) (by decide) rfl (Nat.le_of_ble_eq_true rfl)) (by decide) ml242 pp242 (Nat.le_of_ble_eq_true rfl) rfl (by decide) (by decide) ?_
                    refine ev_iload_n rfl ?_
                    refine ev_iload_n rfl ?_
                    refine ev_icmplt f242_14 (fun c90 => absurd c90 (by omega)) (fun c90 => ?_)
                    refine ev_iload_n rfl ?_
                    refine ev_iload_n rfl ?_
                    refine ev_icmpgt f242_14 (fun c91 => absurd c91 (by omega)) (fun c91 => ?_)
                    refine ev_iconst ?_
                    refine ev_goto f242_15 ?_
                    refine ev_ret rfl (by decide) (by decide) ?_
                    show jEv _ _ _ _ _ _ _ (_, [(2, 42), (0, (xs 1)), (0, (xs 2)), (0, (xs 3)), (0, (Int.tdiv (xs 1) 100)), (0, (Int.tmod (xs 1) 100)), (9, 0), (9, 0), (9, 0), (9, 0), (9, 0), (9, 0), (9, 0), (9, 0), (9, 0)], [(0, 1)], _, _, _)
                    refine ev_ifne f353_60 (fun c92 => ?_) (fun c92 => absurd c92 (by omega))
                    refine ev_ldc2_w ?_
                    refine ev_iload_n rfl ?_
                    refine ev_i2l ?_
                    refine ev_lmul (r := (1000000 * (xs 2))) (by unfold w64; omega) ?_
                    refine ev_lstore (L' := [(2, 42), (0, (xs 1)), (0, (xs 2)), (0, (xs 3)), (0, (Int.tdiv (xs 1) 100)), (0, (Int.tmod (xs 1) 100)), (1, (1000000 * (xs 2))), (9, 0), (9, 0), (9, 0), (9, 0), (9, 0), (9, 0), (9, 0), (9, 0)]) (Nat.le_of_ble_eq_true rfl) rfl ?_
                    refine ev_lconst ?_
                    refine ev_lstore (L' := [(2, 42), (0, (xs 1)), (0, (xs 2)), (0, (xs 3)), (0, (Int.tdiv (xs 1) 100)), (0, (Int.tmod (xs 1) 100)), (1, (1000000 * (xs 2))), (9, 0), (1, 0), (9, 0), (9, 0), (9, 0), (9, 0), (9, 0), (9, 0)]) (Nat.le_of_ble_eq_true rfl) rfl ?_
                    refine ev_iload rfl ?_
                    refine ev_iconst ?_
                    refine ev_isub (r := ((Int.tmod (xs 1) 100) - 1)) (by unfold w32; omega) ?_
                    refine ev_istore (L' := [(2, 42), (0, (xs 1)), (0, (xs 2)), (0, (xs 3)), (0, (Int.tdiv (xs 1) 100)), (0, (Int.tmod (xs 1) 100)), (1, (1000000 * (xs 2))), (9, 0), (1, 0), (9, 0), (0, ((Int.tmod (xs 1) 100) - 1)), (9, 0), (9, 0), (9, 0), (9, 0)]) (Nat.le_of_ble_eq_true rfl) rfl ?_
                    refine wt_m (court := (xs 2)) (day := (Int.tdiv (xs 1) 100)) (many := (Int.tmod (xs 1) 100)) hF (by omega) (by omega) (by omega) (by omega) (by omega) ((Int.tmod (xs 1) 100) - (Int.tdiv (xs 1) 100)).toNat _ _ _ _ _ _ (by omega) (by omega) (fun a11 a12 a13 a14 => ?_)
                    refine ev_iload_n rfl ?_
                    refine ev_iconst ?_
                    refine ev_icmpne f353_180 (fun c93 => ?_) (fun c93 => absurd c93 (by omega))
                    refine ev_lload rfl ?_
                    refine ev_lneg (r := ((-1000000) * (xs 2))) (by unfold w64; omega) ?_
                    refine ev_ldc2_w ?_
                    refine ev_call (jcall_s (A := [(1, 1000000), (1, ((-1000000) * (xs 2)))]) (S' := []) (by decide) rfl (Nat.le_of_ble_eq_true rfl)) (jOk_le (by decide) (fd_e (q := ((-(xs 2)))) (by omega) (by decide) (by omega) (by omega))) (by decide) (by decide) (fun v h' q => ?_)
                    obtain ⟨rfl, rfl⟩ := q
                    show jEv _ _ _ _ _ _ _ (_, [(2, 42), (0, (xs 1)), (0, (xs 2)), (0, (xs 3)), (0, (Int.tdiv (xs 1) 100)), (0, (Int.tmod (xs 1) 100)), (1, (1000000 * (xs 2))), (9, 0), (1, (1000000 * (xs 2))), (9, 0), (0, ((Int.tdiv (xs 1) 100) - 1)), a11, a12, a13, a14], [(1, ((-(xs 2))))], _, _, _)
                    refine ev_lneg (r := (xs 2)) (by unfold w64; omega) ?_
                    refine ev_lstore (L' := [(2, 42), (0, (xs 1)), (0, (xs 2)), (0, (xs 3)), (0, (Int.tdiv (xs 1) 100)), (0, (Int.tmod (xs 1) 100)), (1, (1000000 * (xs 2))), (9, 0), (1, (1000000 * (xs 2))), (9, 0), (1, (xs 2)), (9, 0), a12, a13, a14]) (Nat.le_of_ble_eq_true rfl) rfl ?_
                    refine ev_lload rfl ?_
                    refine ev_lconst ?_
                    refine ev_lcmp ?_
                    refine ev_ifge f353_203 (fun c94 => ?_) (fun c94 => ?_)
                    · have c94b := jcmpL_ge c94
                      refine ev_lload rfl ?_
                      refine ev_ldc2_w ?_
                      refine ev_lcmp ?_
                      refine ev_ifle f353_218 (fun c95 => ?_) (fun c95 => absurd (show _ from by unfold jcmpL; (repeat' split) <;> omega) c95)
                      refine ev_lload rfl ?_
                      refine ev_ret rfl (by decide) (by decide) ?_
                      show jEv _ _ _ _ _ _ _ (_, [(2, (-2)), (2, 0), (2, 42), (0, 0)], [(1, (xs 2)), (1, 0)], _, _, _)
                      refine ev_lcmp ?_
                      refine ev_ifeq f384_2190 (fun c96 => ?_) (fun c96 => absurd (show _ from by unfold jcmpL; (repeat' split) <;> omega) c96)
                      exact law_tail _
                    · have c94b := jcmpL_geN c94
                      refine ev_lconst ?_
                      refine ev_goto f353_220 ?_
                      refine ev_ret rfl (by decide) (by decide) ?_
                      show jEv _ _ _ _ _ _ _ (_, [(2, (-2)), (2, 0), (2, 42), (0, 0)], [(1, 0), (1, 0)], _, _, _)
                      refine ev_lcmp ?_
                      refine ev_ifeq f384_2190 (fun c97 => ?_) (fun c97 => absurd (show _ from by unfold jcmpL; (repeat' split) <;> omega) c97)
                      exact law_tail _
                · refine ev_ldc2_w ?_
                  refine ev_ret rfl (by decide) (by decide) ?_
                  show jEv _ _ _ _ _ _ _ (_, [(2, 0), (0, (xs 1)), (0, (xs 2)), (0, (xs 3)), (0, (Int.tmod (xs 1) 100))], [(1, (-9223372036854775808))], _, _, _)
                  refine ev_goto f208_92 ?_
                  refine ev_ret rfl (by decide) (by decide) ?_
                  show jEv _ _ _ _ _ _ _ (_, [(2, (-2)), (2, 0), (2, 42), (0, 0)], [(1, (-9223372036854775808))], _, _, _)
                  refine ev_aload_n rfl ?_
                  refine ev_aload_n rfl ?_
                  refine ev_iload_n rfl ?_
                  refine ev_iconst ?_
                  refine ev_iadd (r := 1) (by decide) ?_
                  refine ev_sald (j := 1) (v := (xs 1)) rfl rfl rfl ?_
                  refine ev_aload_n rfl ?_
                  refine ev_iload_n rfl ?_
                  refine ev_iconst ?_
                  refine ev_iadd (r := 2) (by decide) ?_
                  refine ev_sald (j := 2) (v := (xs 2)) rfl rfl rfl ?_
                  refine ev_aload_n rfl ?_
                  refine ev_iload_n rfl ?_
                  refine ev_iconst ?_
                  refine ev_iadd (r := 3) (by decide) ?_
                  refine ev_sald (j := 3) (v := (xs 3)) rfl rfl rfl ?_
                  refine ev_in (d := 7) (a := 0) (b := 0) (cd' := c353_0) (m := 15) (L0 := [(2, 42), (0, (xs 1)), (0, (xs 2)), (0, (xs 3)), (9, 0), (9, 0), (9, 0), (9, 0), (9, 0), (9, 0), (9, 0), (9, 0), (9, 0), (9, 0), (9, 0)]) (jcall_v (A := [(0, (xs 3)), (0, (xs 2)), (0, (xs 1))]) (S' := [(1, (-9223372036854775808))]) (r := 42) rfl (hF.1.lt (by decide)) (hF.1.sh (by decide) rfl).1 (Nat.le_of_ble_eq_true rfl)) (by decide) ml353 pp353 (Nat.le_of_ble_eq_true rfl) rfl (by decide) (by decide) ?_
                  refine ev_iload_n rfl ?_
                  refine ev_bipush ?_
                  have q98 := jidiv_b (x := (xs 1)) (y := 100) (by decide)
                  refine ev_idiv (r := (Int.tdiv (xs 1) 100)) (by decide) (by unfold w32; omega) ?_
                  refine ev_istore (L' := [(2, 42), (0, (xs 1)), (0, (xs 2)), (0, (xs 3)), (0, (Int.tdiv (xs 1) 100)), (9, 0), (9, 0), (9, 0), (9, 0), (9, 0), (9, 0), (9, 0), (9, 0), (9, 0), (9, 0)]) (Nat.le_of_ble_eq_true rfl) rfl ?_
                  refine ev_iload_n rfl ?_
                  refine ev_bipush ?_
                  have q99 := jirem_b (x := (xs 1)) (y := 100) (by decide)
                  refine ev_irem (r := (Int.tmod (xs 1) 100)) (by decide) rfl ?_
                  refine ev_istore (L' := [(2, 42), (0, (xs 1)), (0, (xs 2)), (0, (xs 3)), (0, (Int.tdiv (xs 1) 100)), (0, (Int.tmod (xs 1) 100)), (9, 0), (9, 0), (9, 0), (9, 0), (9, 0), (9, 0), (9, 0), (9, 0), (9, 0)]) (Nat.le_of_ble_eq_true rfl) rfl ?_
                  refine ev_iload_n rfl ?_
                  refine ev_iflt f353_56 (fun c100 => absurd c100 (by omega)) (fun c100 => ?_)
                  refine ev_iload rfl ?_
                  refine ev_iconst ?_
                  refine ev_bipush ?_
                  refine ev_in (d := 6) (a := 0) (b := 0) (cd' := c242_0) (m := 3) (L0 := [(0, (Int.tmod (xs 1) 100)), (0, 1), (0, 20)]) (jcall_s (A := [(0, 20), (0, 1), (0, (Int.tmod (xs 1) 100))]) (S' := []) (by decide) rfl (Nat.le_of_ble_eq_true rfl)) (by decide) ml242 pp242 (Nat.le_of_ble_eq_true rfl) rfl (by decide) (by decide) ?_
                  refine ev_iload_n rfl ?_
                  refine ev_iload_n rfl ?_
                  refine ev_icmplt f242_14 (fun c101 => absurd c101 (by omega)) (fun c101 => ?_)
                  refine ev_iload_n rfl ?_
                  refine ev_iload_n rfl ?_
                  refine ev_icmpgt f242_14 (fun c102 => absurd c102 (by omega)) (fun c102 => ?_)
                  refine ev_iconst ?_
                  refine ev_goto f242_15 ?_
                  refine ev_ret rfl (by decide) (by decide) ?_
                  show jEv _ _ _ _ _ _ _ (_, [(2, 42), (0, (xs 1)), (0, (xs 2)), (0, (xs 3)), (0, (Int.tdiv (xs 1) 100)), (0, (Int.tmod (xs 1) 100)), (9, 0), (9, 0), (9, 0), (9, 0), (9, 0), (9, 0), (9, 0), (9, 0), (9, 0)], [(0, 1)], _, _, _)
                  refine ev_ifeq f353_56 (fun c103 => absurd c103 (by omega)) (fun c103 => ?_)
                  refine ev_iload rfl ?_
                  refine ev_iload rfl ?_
                  refine ev_icmpge f353_56 (fun c104 => ?_) (fun c104 => absurd c104 (by omega))
                  refine ev_ldc2_w ?_
                  refine ev_ret rfl (by decide) (by decide) ?_
                  show jEv _ _ _ _ _ _ _ (_, [(2, (-2)), (2, 0), (2, 42), (0, 0)], [(1, (-9223372036854775808)), (1, (-9223372036854775808))], _, _, _)
                  refine ev_lcmp ?_
                  refine ev_ifeq f384_2190 (fun c105 => ?_) (fun c105 => absurd (show _ from by unfold jcmpL; (repeat' split) <;> omega) c105)
                  exact law_tail _
              · refine ev_iload_n rfl ?_
                refine ev_iconst ?_
                refine ev_icmpne f221_13 (fun c106 => ?_) (fun c106 => ?_)
                · refine ev_iconst ?_
                  refine ev_ret rfl (by decide) (by decide) ?_
                  show jEv _ _ _ _ _ _ _ (_, [(2, 0), (0, (xs 1)), (0, (xs 2)), (0, (xs 3)), (0, (Int.tmod (xs 1) 100))], [(0, 0)], _, _, _)
                  refine ev_ifne f208_57 (fun c107 => absurd c107 (by omega)) (fun c107 => ?_)
                  refine ev_ldc2_w ?_
                  refine ev_ret rfl (by decide) (by decide) ?_
                  show jEv _ _ _ _ _ _ _ (_, [(2, (-2)), (2, 0), (2, 42), (0, 0)], [(1, (-9223372036854775808))], _, _, _)
                  refine ev_aload_n rfl ?_
                  refine ev_aload_n rfl ?_
                  refine ev_iload_n rfl ?_
                  refine ev_iconst ?_
                  refine ev_iadd (r := 1) (by decide) ?_
                  refine ev_sald (j := 1) (v := (xs 1)) rfl rfl rfl ?_
                  refine ev_aload_n rfl ?_
                  refine ev_iload_n rfl ?_
                  refine ev_iconst ?_
                  refine ev_iadd (r := 2) (by decide) ?_
                  refine ev_sald (j := 2) (v := (xs 2)) rfl rfl rfl ?_
                  refine ev_aload_n rfl ?_
                  refine ev_iload_n rfl ?_
                  refine ev_iconst ?_
                  refine ev_iadd (r := 3) (by decide) ?_
                  refine ev_sald (j := 3) (v := (xs 3)) rfl rfl rfl ?_
                  refine ev_in (d := 7) (a := 0) (b := 0) (cd' := c353_0) (m := 15) (L0 := [(2, 42), (0, (xs 1)), (0, (xs 2)), (0, (xs 3)), (9, 0), (9, 0), (9, 0), (9, 0), (9, 0), (9, 0), (9, 0), (9, 0), (9, 0), (9, 0), (9, 0)]) (jcall_v (A := [(0, (xs 3)), (0, (xs 2)), (0, (xs 1))]) (S' := [(1, (-9223372036854775808))]) (r := 42) rfl (hF.1.lt (by decide)) (hF.1.sh (by decide) rfl).1 (Nat.le_of_ble_eq_true rfl)) (by decide) ml353 pp353 (Nat.le_of_ble_eq_true rfl) rfl (by decide) (by decide) ?_
                  refine ev_iload_n rfl ?_
                  refine ev_bipush ?_
                  have q108 := jidiv_b (x := (xs 1)) (y := 100) (by decide)
                  refine ev_idiv (r := (Int.tdiv (xs 1) 100)) (by decide) (by unfold w32; omega) ?_
                  refine ev_istore (L' := [(2, 42), (0, (xs 1)), (0, (xs 2)), (0, (xs 3)), (0, (Int.tdiv (xs 1) 100)), (9, 0), (9, 0), (9, 0), (9, 0), (9, 0), (9, 0), (9, 0), (9, 0), (9, 0), (9, 0)]) (Nat.le_of_ble_eq_true rfl) rfl ?_
                  refine ev_iload_n rfl ?_
                  refine ev_bipush ?_
                  have q109 := jirem_b (x := (xs 1)) (y := 100) (by decide)
                  refine ev_irem (r := (Int.tmod (xs 1) 100)) (by decide) rfl ?_
                  refine ev_istore (L' := [(2, 42), (0, (xs 1)), (0, (xs 2)), (0, (xs 3)), (0, (Int.tdiv (xs 1) 100)), (0, (Int.tmod (xs 1) 100)), (9, 0), (9, 0), (9, 0), (9, 0), (9, 0), (9, 0), (9, 0), (9, 0), (9, 0)]) (Nat.le_of_ble_eq_true rfl) rfl ?_
                  refine ev_iload_n rfl ?_
                  refine ev_iflt f353_56 (fun c110 => absurd c110 (by omega)) (fun c110 => ?_)
                  refine ev_iload rfl ?_
                  refine ev_iconst ?_
                  refine ev_bipush ?_
                  refine ev_in (d := 6) (a := 0) (b := 0) (cd' := c242_0) (m := 3) (L0 := [(0, (Int.tmod (xs 1) 100)), (0, 1), (0, 20)]) (jcall_s (A := [(0, 20), (0, 1), (0, (Int.tmod (xs 1) 100))]) (S' := []) (by decide) rfl (Nat.le_of_ble_eq_true rfl)) (by decide) ml242 pp242 (Nat.le_of_ble_eq_true rfl) rfl (by decide) (by decide) ?_
                  refine ev_iload_n rfl ?_
                  refine ev_iload_n rfl ?_
                  refine ev_icmplt f242_14 (fun c111 => absurd c111 (by omega)) (fun c111 => ?_)
                  refine ev_iload_n rfl ?_
                  refine ev_iload_n rfl ?_
                  refine ev_icmpgt f242_14 (fun c112 => absurd c112 (by omega)) (fun c112 => ?_)
                  refine ev_iconst ?_
                  refine ev_goto f242_15 ?_
                  refine ev_ret rfl (by decide) (by decide) ?_
                  show jEv _ _ _ _ _ _ _ (_, [(2, 42), (0, (xs 1)), (0, (xs 2)), (0, (xs 3)), (0, (Int.tdiv (xs 1) 100)), (0, (Int.tmod (xs 1) 100)), (9, 0), (9, 0), (9, 0), (9, 0), (9, 0), (9, 0), (9, 0), (9, 0), (9, 0)], [(0, 1)], _, _, _)
                  refine ev_ifeq f353_56 (fun c113 => absurd c113 (by omega)) (fun c113 => ?_)
                  refine ev_iload rfl ?_
                  refine ev_iload rfl ?_
                  refine ev_icmpge f353_56 (fun c114 => absurd c114 (by omega)) (fun c114 => ?_)
                  refine ev_iload_n rfl ?_
                  refine ev_sipush ?_
                  refine ev_sipush ?_
                  refine ev_in (d := 6) (a := 0) (b := 0) (cd' := c242_0) (m := 3) (L0 := [(0, (xs 2)), (0, (-999)), (0, 999)]) (jcall_s (A := [(0, 999), (0, (-999)), (0, (xs 2))]) (S' := []) (by decide) rfl (Nat.le_of_ble_eq_true rfl)) (by decide) ml242 pp242 (Nat.le_of_ble_eq_true rfl) rfl (by decide) (by decide) ?_
                  refine ev_iload_n rfl ?_
                  refine ev_iload_n rfl ?_
                  refine ev_icmplt f242_14 (fun c115 => absurd c115 (by omega)) (fun c115 => ?_)
                  refine ev_iload_n rfl ?_
                  refine ev_iload_n rfl ?_
                  refine ev_icmpgt f242_14 (fun c116 => absurd c116 (by omega)) (fun c116 => ?_)
                  refine ev_iconst ?_
                  refine ev_goto f242_15 ?_
                  refine ev_ret rfl (by decide) (by decide) ?_
                  show jEv _ _ _ _ _ _ _ (_, [(2, 42), (0, (xs 1)), (0, (xs 2)), (0, (xs 3)), (0, (Int.tdiv (xs 1) 100)), (0, (Int.tmod (xs 1) 100)), (9, 0), (9, 0), (9, 0), (9, 0), (9, 0), (9, 0), (9, 0), (9, 0), (9, 0)], [(0, 1)], _, _, _)
                  refine ev_ifeq f353_56 (fun c117 => absurd c117 (by omega)) (fun c117 => ?_)
                  refine ev_iload_n rfl ?_
                  refine ev_iconst ?_
                  refine ev_iconst ?_
                  refine ev_in (d := 6) (a := 0) (b := 0) (cd' := c242_0) (m := 3) (L0 := [(0, (xs 3)), (0, 0), (0, 1)]) (jcall_s (A := [(0, 1), (0, 0), (0, (xs 3))]) (S' := []) (by decide) rfl (Nat.le_of_ble_eq_true rfl)) (by decide) ml242 pp242 (Nat.le_of_ble_eq_true rfl) rfl (by decide) (by decide) ?_
                  refine ev_iload_n rfl ?_
                  refine ev_iload_n rfl ?_
                  refine ev_icmplt f242_14 (fun c118 => ?_) (fun c118 => ?_)
                  · refine ev_iconst ?_
                    refine ev_ret rfl (by decide) (by decide) ?_
                    show jEv _ _ _ _ _ _ _ (_, [(2, 42), (0, (xs 1)), (0, (xs 2)), (0, (xs 3)), (0, (Int.tdiv (xs 1) 100)), (0, (Int.tmod (xs 1) 100)), (9, 0), (9, 0), (9, 0), (9, 0), (9, 0), (9, 0), (9, 0), (9, 0), (9, 0)], [(0, 0)], _, _, _)
                    refine ev_ifne f353_60 (fun c119 => absurd c119 (by omega)) (fun c119 => ?_)
                    refine ev_ldc2_w ?_
                    refine ev_ret rfl (by decide) (by decide) ?_
                    show jEv _ _ _ _ _ _ _ (_, [(2, (-2)), (2, 0), (2, 42), (0, 0)], [(1, (-9223372036854775808)), (1, (-9223372036854775808))], _, _, _)
                    refine ev_lcmp ?_
                    refine ev_ifeq f384_2190 (fun c120 => ?_) (fun c120 => absurd (show _ from by unfold jcmpL; (repeat' split) <;> omega) c120)
                    exact law_tail _
                  · refine ev_iload_n rfl ?_
                    refine ev_iload_n rfl ?_
                    refine ev_icmpgt f242_14 (fun c121 => ?_) (fun c121 => absurd c121 (by omega))
                    refine ev_iconst ?_
                    refine ev_ret rfl (by decide) (by decide) ?_
                    show jEv _ _ _ _ _ _ _ (_, [(2, 42), (0, (xs 1)), (0, (xs 2)), (0, (xs 3)), (0, (Int.tdiv (xs 1) 100)), (0, (Int.tmod (xs 1) 100)), (9, 0), (9, 0), (9, 0), (9, 0), (9, 0), (9, 0), (9, 0), (9, 0), (9, 0)], [(0, 0)], _, _, _)
                    refine ev_ifne f353_60 (fun c122 => absurd c122 (by omega)) (fun c122 => ?_)
                    refine ev_ldc2_w ?_
                    refine ev_ret rfl (by decide) (by decide) ?_
                    show jEv _ _ _ _ _ _ _ (_, [(2, (-2)), (2, 0), (2, 42), (0, 0)], [(1, (-9223372036854775808)), (1, (-9223372036854775808))], _, _, _)
                    refine ev_lcmp ?_
                    refine ev_ifeq f384_2190 (fun c123 => ?_) (fun c123 => absurd (show _ from by unfold jcmpL; (repeat' split) <;> omega) c123)
                    exact law_tail _
                · refine ev_iconst ?_
                  refine ev_goto f221_14 ?_
                  refine ev_ret rfl (by decide) (by decide) ?_
                  show jEv _ _ _ _ _ _ _ (_, [(2, 0), (0, (xs 1)), (0, (xs 2)), (0, (xs 3)), (0, (Int.tmod (xs 1) 100))], [(0, 1)], _, _, _)
                  refine ev_ifne f208_57 (fun c124 => ?_) (fun c124 => absurd c124 (by omega))
                  refine ev_iload_n rfl ?_
                  refine ev_ifne f208_78 (fun c125 => ?_) (fun c125 => absurd c125 (by omega))
                  refine ev_aload_n rfl ?_
                  refine ev_getf (r := 0) (v := 26) (hF.1.lt (by decide)) (hF.1.fam (by decide) (by decide)) ft11_11 ((hF.v rfl)) ?_
                  refine ev_iload_n rfl ?_
                  refine ev_bipush ?_
                  have q126 := jidiv_b (x := (xs 1)) (y := 100) (by decide)
                  refine ev_idiv (r := (Int.tdiv (xs 1) 100)) (by decide) (by unfold w32; omega) ?_
                  refine ev_iload rfl ?_
                  refine ev_iload_n rfl ?_
                  refine ev_call (jcall_v (A := [(0, (xs 2)), (0, (Int.tmod (xs 1) 100)), (0, (Int.tdiv (xs 1) 100))]) (S' := []) (r := 26) rfl (hF.1.lt (by decide)) (hF.1.sh (by decide) rfl).1 (Nat.le_of_ble_eq_true rfl)) (jOk_le (by decide) (wf_c hF (by omega) (by omega) (by omega) (by omega) (by omega) (by omega))) (by decide) (by decide) (fun v h' q => ?_)
                  obtain ⟨rfl, rfl⟩ := q
                  show jEv _ _ _ _ _ _ _ (_, [(2, 0), (0, (xs 1)), (0, (xs 2)), (0, (xs 3)), (0, (Int.tmod (xs 1) 100))], [(1, (1000000 * (xs 2)))], _, _, _)
                  refine ev_ret rfl (by decide) (by decide) ?_
                  show jEv _ _ _ _ _ _ _ (_, [(2, (-2)), (2, 0), (2, 42), (0, 0)], [(1, (1000000 * (xs 2)))], _, _, _)
                  refine ev_aload_n rfl ?_
                  refine ev_aload_n rfl ?_
                  refine ev_iload_n rfl ?_
                  refine ev_iconst ?_
                  refine ev_iadd (r := 1) (by decide) ?_
                  refine ev_sald (j := 1) (v := (xs 1)) rfl rfl rfl ?_
                  refine ev_aload_n rfl ?_
                  refine ev_iload_n rfl ?_
                  refine ev_iconst ?_
                  refine ev_iadd (r := 2) (by decide) ?_
                  refine ev_sald (j := 2) (v := (xs 2)) rfl rfl rfl ?_
                  refine ev_aload_n rfl ?_
                  refine ev_iload_n rfl ?_
                  refine ev_iconst ?_
                  refine ev_iadd (r := 3) (by decide) ?_
                  refine ev_sald (j := 3) (v := (xs 3)) rfl rfl rfl ?_
                  refine ev_in (d := 7) (a := 0) (b := 0) (cd' := c353_0) (m := 15) (L0 := [(2, 42), (0, (xs 1)), (0, (xs 2)), (0, (xs 3)), (9, 0), (9, 0), (9, 0), (9, 0), (9, 0), (9, 0), (9, 0), (9, 0), (9, 0), (9, 0), (9, 0)]) (jcall_v (A := [(0, (xs 3)), (0, (xs 2)), (0, (xs 1))]) (S' := [(1, (1000000 * (xs 2)))]) (r := 42) rfl (hF.1.lt (by decide)) (hF.1.sh (by decide) rfl).1 (Nat.le_of_ble_eq_true rfl)) (by decide) ml353 pp353 (Nat.le_of_ble_eq_true rfl) rfl (by decide) (by decide) ?_
                  refine ev_iload_n rfl ?_
                  refine ev_bipush ?_
                  have q127 := jidiv_b (x := (xs 1)) (y := 100) (by decide)
                  refine ev_idiv (r := (Int.tdiv (xs 1) 100)) (by decide) (by unfold w32; omega) ?_
                  refine ev_istore (L' := [(2, 42), (0, (xs 1)), (0, (xs 2)), (0, (xs 3)), (0, (Int.tdiv (xs 1) 100)), (9, 0), (9, 0), (9, 0), (9, 0), (9, 0), (9, 0), (9, 0), (9, 0), (9, 0), (9, 0)]) (Nat.le_of_ble_eq_true rfl) rfl ?_
                  refine ev_iload_n rfl ?_
                  refine ev_bipush ?_
                  have q128 := jirem_b (x := (xs 1)) (y := 100) (by decide)
                  refine ev_irem (r := (Int.tmod (xs 1) 100)) (by decide) rfl ?_
                  refine ev_istore (L' := [(2, 42), (0, (xs 1)), (0, (xs 2)), (0, (xs 3)), (0, (Int.tdiv (xs 1) 100)), (0, (Int.tmod (xs 1) 100)), (9, 0), (9, 0), (9, 0), (9, 0), (9, 0), (9, 0), (9, 0), (9, 0), (9, 0)]) (Nat.le_of_ble_eq_true rfl) rfl ?_
                  refine ev_iload_n rfl ?_
                  refine ev_iflt f353_56 (fun c129 => absurd c129 (by omega)) (fun c129 => ?_)
                  refine ev_iload rfl ?_
                  refine ev_iconst ?_
                  refine ev_bipush ?_
                  refine ev_in (d := 6) (a := 0) (b := 0) (cd' := c242_0) (m := 3) (L0 := [(0, (Int.tmod (xs 1) 100)), (0, 1), (0, 20)]) (jcall_s (A := [(0, 20), (0, 1), (0, (Int.tmod (xs 1) 100))]) (S' := []) (by decide) rfl (Nat.le_of_ble_eq_true rfl)) (by decide) ml242 pp242 (Nat.le_of_ble_eq_true rfl) rfl (by decide) (by decide) ?_
                  refine ev_iload_n rfl ?_
                  refine ev_iload_n rfl ?_
                  refine ev_icmplt f242_14 (fun c130 => absurd c130 (by omega)) (fun c130 => ?_)
                  refine ev_iload_n rfl ?_
                  refine ev_iload_n rfl ?_
                  refine ev_icmpgt f242_14 (fun c131 => absurd c131 (by omega)) (fun c131 => ?_)
                  refine ev_iconst ?_
                  refine ev_goto f242_15 ?_
                  refine ev_ret rfl (by decide) (by decide) ?_
                  show jEv _ _ _ _ _ _ _ (_, [(2, 42), (0, (xs 1)), (0, (xs 2)), (0, (xs 3)), (0, (Int.tdiv (xs 1) 100)), (0, (Int.tmod (xs 1) 100)), (9, 0), (9, 0), (9, 0), (9, 0), (9, 0), (9, 0), (9, 0), (9, 0), (9, 0)], [(0, 1)], _, _, _)
                  refine ev_ifeq f353_56 (fun c132 => absurd c132 (by omega)) (fun c132 => ?_)
                  refine ev_iload rfl ?_
                  refine ev_iload rfl ?_
                  refine ev_icmpge f353_56 (fun c133 => absurd c133 (by omega)) (fun c133 => ?_)
                  refine ev_iload_n rfl ?_
                  refine ev_sipush ?_
                  refine ev_sipush ?_
                  refine ev_in (d := 6) (a := 0) (b := 0) (cd' := c242_0) (m := 3) (L0 := [(0, (xs 2)), (0, (-999)), (0, 999)]) (jcall_s (A := [(0, 999), (0, (-999)), (0, (xs 2))]) (S' := []) (by decide) rfl (Nat.le_of_ble_eq_true rfl)) (by decide) ml242 pp242 (Nat.le_of_ble_eq_true rfl) rfl (by decide) (by decide) ?_
                  refine ev_iload_n rfl ?_
                  refine ev_iload_n rfl ?_
                  refine ev_icmplt f242_14 (fun c134 => absurd c134 (by omega)) (fun c134 => ?_)
                  refine ev_iload_n rfl ?_
                  refine ev_iload_n rfl ?_
                  refine ev_icmpgt f242_14 (fun c135 => absurd c135 (by omega)) (fun c135 => ?_)
                  refine ev_iconst ?_
                  refine ev_goto f242_15 ?_
                  refine ev_ret rfl (by decide) (by decide) ?_
                  show jEv _ _ _ _ _ _ _ (_, [(2, 42), (0, (xs 1)), (0, (xs 2)), (0, (xs 3)), (0, (Int.tdiv (xs 1) 100)), (0, (Int.tmod (xs 1) 100)), (9, 0), (9, 0), (9, 0), (9, 0), (9, 0), (9, 0), (9, 0), (9, 0), (9, 0)], [(0, 1)], _, _, _)
                  refine ev_ifeq f353_56 (fun c136 => absurd c136 (by omega)) (fun c136 => ?_)
                  refine ev_iload_n rfl ?_
                  refine ev_iconst ?_
                  refine ev_iconst ?_
                  refine ev_in (d := 6) (a := 0) (b := 0) (cd' := c242_0) (m := 3) (L0 := [(0, (xs 3)), (0, 0), (0, 1)]) (jcall_s (A := [(0, 1), (0, 0), (0, (xs 3))]) (S' := []) (by decide) rfl (Nat.le_of_ble_eq_true rfl)) (by decide) ml242 pp242 (Nat.le_of_ble_eq_true rfl) rfl (by decide) (by decide) ?_
                  refine ev_iload_n rfl ?_
                  refine ev_iload_n rfl ?_
                  refine ev_icmplt f242_14 (fun c137 => absurd c137 (by omega)) (fun c137 => ?_)
                  refine ev_iload_n rfl ?_
                  refine ev_iload_n rfl ?_
                  refine ev_icmpgt f242_14 (fun c138 => absurd c138 (by omega)) (fun c138 => ?_)
                  refine ev_iconst ?_
                  refine ev_goto f242_15 ?_
                  refine ev_ret rfl (by decide) (by decide) ?_
                  show jEv _ _ _ _ _ _ _ (_, [(2, 42), (0, (xs 1)), (0, (xs 2)), (0, (xs 3)), (0, (Int.tdiv (xs 1) 100)), (0, (Int.tmod (xs 1) 100)), (9, 0), (9, 0), (9, 0), (9, 0), (9, 0), (9, 0), (9, 0), (9, 0), (9, 0)], [(0, 1)], _, _, _)
                  refine ev_ifne f353_60 (fun c139 => ?_) (fun c139 => absurd c139 (by omega))
                  refine ev_ldc2_w ?_
                  refine ev_iload_n rfl ?_
                  refine ev_i2l ?_
                  refine ev_lmul (r := (1000000 * (xs 2))) (by unfold w64; omega) ?_
                  refine ev_lstore (L' := [(2, 42), (0, (xs 1)), (0, (xs 2)), (0, (xs 3)), (0, (Int.tdiv (xs 1) 100)), (0, (Int.tmod (xs 1) 100)), (1, (1000000 * (xs 2))), (9, 0), (9, 0), (9, 0), (9, 0), (9, 0), (9, 0), (9, 0), (9, 0)]) (Nat.le_of_ble_eq_true rfl) rfl ?_
                  refine ev_lconst ?_
                  refine ev_lstore (L' := [(2, 42), (0, (xs 1)), (0, (xs 2)), (0, (xs 3)), (0, (Int.tdiv (xs 1) 100)), (0, (Int.tmod (xs 1) 100)), (1, (1000000 * (xs 2))), (9, 0), (1, 0), (9, 0), (9, 0), (9, 0), (9, 0), (9, 0), (9, 0)]) (Nat.le_of_ble_eq_true rfl) rfl ?_
                  refine ev_iload rfl ?_
                  refine ev_iconst ?_
                  refine ev_isub (r := ((Int.tmod (xs 1) 100) - 1)) (by unfold w32; omega) ?_
                  refine ev_istore (L' := [(2, 42), (0, (xs 1)), (0, (xs 2)), (0, (xs 3)), (0, (Int.tdiv (xs 1) 100)), (0, (Int.tmod (xs 1) 100)), (1, (1000000 * (xs 2))), (9, 0), (1, 0), (9, 0), (0, ((Int.tmod (xs 1) 100) - 1)), (9, 0), (9, 0), (9, 0), (9, 0)]) (Nat.le_of_ble_eq_true rfl) rfl ?_
                  refine wt_m (court := (xs 2)) (day := (Int.tdiv (xs 1) 100)) (many := (Int.tmod (xs 1) 100)) hF (by omega) (by omega) (by omega) (by omega) (by omega) ((Int.tmod (xs 1) 100) - (Int.tdiv (xs 1) 100)).toNat _ _ _ _ _ _ (by omega) (by omega) (fun a11 a12 a13 a14 => ?_)
                  refine ev_iload_n rfl ?_
                  refine ev_iconst ?_
                  refine ev_icmpne f353_180 (fun c140 => absurd c140 (by omega)) (fun c140 => ?_)
                  refine ev_lload rfl ?_
                  refine ev_ret rfl (by decide) (by decide) ?_
                  show jEv _ _ _ _ _ _ _ (_, [(2, (-2)), (2, 0), (2, 42), (0, 0)], [(1, (1000000 * (xs 2))), (1, (1000000 * (xs 2)))], _, _, _)
                  refine ev_lcmp ?_
                  refine ev_ifeq f384_2190 (fun c141 => ?_) (fun c141 => absurd (show _ from by unfold jcmpL; (repeat' split) <;> omega) c141)
                  exact law_tail _

/-! run -/
set_option maxHeartbeats 4000000 in
theorem case_43 {xs : Nat → Int} (hr : ∀ j, -2147483648 ≤ xs j ∧ xs j < 2147483648) {h : JH} (hF : Fresh h) : jEv (jOk 8) (some 6) xs c384_0 600000 7302250 (fun v _ => v = some (0, 1)) (c384_1779, [(2, -2), (2, 0), (2, 42), (0, 0)], [], h, 83, 23761) := by
  have r1 := hr 1
  have r2 := hr 2
  have r3 := hr 3
  have r4 := hr 4
  have r5 := hr 5
  refine ev_aload_n rfl ?_
  refine ev_aload_n rfl ?_
  refine ev_iload_n rfl ?_
  refine ev_iconst ?_
  refine ev_iadd (r := 1) (by decide) ?_
  refine ev_sald (j := 1) (v := (xs 1)) rfl rfl rfl ?_
  refine ev_aload_n rfl ?_
  refine ev_iload_n rfl ?_
  refine ev_iconst ?_
  refine ev_iadd (r := 2) (by decide) ?_
  refine ev_sald (j := 2) (v := (xs 2)) rfl rfl rfl ?_
  refine ev_aload_n rfl ?_
  refine ev_iload_n rfl ?_
  refine ev_iconst ?_
  refine ev_iadd (r := 3) (by decide) ?_
  refine ev_sald (j := 3) (v := (xs 3)) rfl rfl rfl ?_
  refine ev_in (d := 7) (a := 0) (b := 0) (cd' := c209_0) (m := 10) (L0 := [(2, 0), (0, (xs 1)), (0, (xs 2)), (0, (xs 3)), (9, 0), (9, 0), (9, 0), (9, 0), (9, 0), (9, 0)]) (jcall_v (A := [(0, (xs 3)), (0, (xs 2)), (0, (xs 1))]) (S' := []) (r := 0) rfl (hF.1.lt (by decide)) (hF.1.sh (by decide) rfl).1 (Nat.le_of_ble_eq_true rfl)) (by decide) ml209 pp209 (Nat.le_of_ble_eq_true rfl) rfl (by decide) (by decide) ?_
  refine ev_aload_n rfl ?_
  refine ev_iload_n rfl ?_
  refine ev_in (d := 6) (a := 0) (b := 0) (cd' := c219_0) (m := 2) (L0 := [(2, 0), (0, (xs 1))]) (jcall_v (A := [(0, (xs 1))]) (S' := []) (r := 0) rfl (hF.1.lt (by decide)) (hF.1.sh (by decide) rfl).1 (Nat.le_of_ble_eq_true rfl)) (by decide) ml219 pp219 (Nat.le_of_ble_eq_true rfl) rfl (by decide) (by decide) ?_
  refine ev_iload_n rfl ?_
  refine ev_iflt f219_12 (fun c1 => ?_) (fun c1 => ?_)
  · refine ev_aconst_null ?_
    refine ev_goto f219_22 ?_
    refine ev_ret rfl (by decide) (by decide) ?_
    show jEv _ _ _ _ _ _ _ (_, [(2, 0), (0, (xs 1)), (0, (xs 2)), (0, (xs 3)), (9, 0), (9, 0), (9, 0), (9, 0), (9, 0), (9, 0)], [(2, (-1))], _, _, _)
    refine ev_astore (L' := [(2, 0), (0, (xs 1)), (0, (xs 2)), (0, (xs 3)), (2, (-1)), (9, 0), (9, 0), (9, 0), (9, 0), (9, 0)]) (Nat.le_of_ble_eq_true rfl) rfl ?_
    refine ev_aload rfl ?_
    refine ev_ifnull f209_24 (fun c2 => ?_) (fun c2 => absurd c2 (by decide))
    refine ev_ldc ?_
    refine ev_ret rfl (by decide) (by decide) ?_
    show jEv _ _ _ _ _ _ _ (_, [(2, (-2)), (2, 0), (2, 42), (0, 0)], [(0, (-2000000000))], _, _, _)
    refine ev_aload_n rfl ?_
    refine ev_aload_n rfl ?_
    refine ev_iload_n rfl ?_
    refine ev_iconst ?_
    refine ev_iadd (r := 1) (by decide) ?_
    refine ev_sald (j := 1) (v := (xs 1)) rfl rfl rfl ?_
    refine ev_aload_n rfl ?_
    refine ev_iload_n rfl ?_
    refine ev_iconst ?_
    refine ev_iadd (r := 2) (by decide) ?_
    refine ev_sald (j := 2) (v := (xs 2)) rfl rfl rfl ?_
    refine ev_aload_n rfl ?_
    refine ev_iload_n rfl ?_
    refine ev_iconst ?_
    refine ev_iadd (r := 3) (by decide) ?_
    refine ev_sald (j := 3) (v := (xs 3)) rfl rfl rfl ?_
    refine ev_in (d := 7) (a := 0) (b := 0) (cd' := c354_0) (m := 11) (L0 := [(2, 42), (0, (xs 1)), (0, (xs 2)), (0, (xs 3)), (9, 0), (9, 0), (9, 0), (9, 0), (9, 0), (9, 0), (9, 0)]) (jcall_v (A := [(0, (xs 3)), (0, (xs 2)), (0, (xs 1))]) (S' := [(0, (-2000000000))]) (r := 42) rfl (hF.1.lt (by decide)) (hF.1.sh (by decide) rfl).1 (Nat.le_of_ble_eq_true rfl)) (by decide) ml354 pp354 (Nat.le_of_ble_eq_true rfl) rfl (by decide) (by decide) ?_
    refine ev_aload_n rfl ?_
    refine ev_iload_n rfl ?_
    refine ev_in (d := 6) (a := 0) (b := 0) (cd' := c261_0) (m := 2) (L0 := [(2, 42), (0, (xs 1))]) (jcall_v (A := [(0, (xs 1))]) (S' := []) (r := 42) rfl (hF.1.lt (by decide)) (hF.1.sh (by decide) rfl).1 (Nat.le_of_ble_eq_true rfl)) (by decide) ml261 pp261 (Nat.le_of_ble_eq_true rfl) rfl (by decide) (by decide) ?_
    refine ev_iload_n rfl ?_
    refine ev_iconst ?_
    refine ev_aload_n rfl ?_
    refine ev_getf (r := 42) (v := 0) (hF.1.lt (by decide)) (hF.1.fam (by decide) (by decide)) ft12_9 ((hF.v rfl)) ?_
    refine ev_iconst ?_
    refine ev_isub (r := (-1)) (by decide) ?_
    refine ev_in (d := 5) (a := 0) (b := 0) (cd' := c242_0) (m := 3) (L0 := [(0, (xs 1)), (0, 0), (0, (-1))]) (jcall_s (A := [(0, (-1)), (0, 0), (0, (xs 1))]) (S' := []) (by decide) rfl (Nat.le_of_ble_eq_true rfl)) (by decide) ml242 pp242 (Nat.le_of_ble_eq_true rfl) rfl (by decide) (by decide) ?_
    refine ev_iload_n rfl ?_
    refine ev_iload_n rfl ?_
    refine ev_icmplt f242_14 (fun c3 => ?_) (fun c3 => absurd c3 (by omega))
    refine ev_iconst ?_
    refine ev_ret rfl (by decide) (by decide) ?_
    show jEv _ _ _ _ _ _ _ (_, [(2, 42), (0, (xs 1))], [(0, 0)], _, _, _)
    refine ev_ret rfl (by decide) (by decide) ?_
    show jEv _ _ _ _ _ _ _ (_, [(2, 42), (0, (xs 1)), (0, (xs 2)), (0, (xs 3)), (9, 0), (9, 0), (9, 0), (9, 0), (9, 0), (9, 0), (9, 0)], [(0, 0)], _, _, _)
    refine ev_ifeq f354_19 (fun c4 => ?_) (fun c4 => absurd c4 (by omega))
    refine ev_ldc_w ?_
    refine ev_ret rfl (by decide) (by decide) ?_
    show jEv _ _ _ _ _ _ _ (_, [(2, (-2)), (2, 0), (2, 42), (0, 0)], [(0, (-2000000000)), (0, (-2000000000))], _, _, _)
    refine ev_icmpeq f384_2190 (fun c5 => ?_) (fun c5 => absurd c5 (by omega))
    exact law_tail _
  · refine ev_iload_n rfl ?_
    refine ev_aload_n rfl ?_
    refine ev_getf (r := 0) (v := 0) (hF.1.lt (by decide)) (hF.1.fam (by decide) (by decide)) ft11_3 ((hF.v rfl)) ?_
    refine ev_icmplt f219_16 (fun c6 => absurd c6 (by omega)) (fun c6 => ?_)
    refine ev_aconst_null ?_
    refine ev_goto f219_22 ?_
    refine ev_ret rfl (by decide) (by decide) ?_
    show jEv _ _ _ _ _ _ _ (_, [(2, 0), (0, (xs 1)), (0, (xs 2)), (0, (xs 3)), (9, 0), (9, 0), (9, 0), (9, 0), (9, 0), (9, 0)], [(2, (-1))], _, _, _)
    refine ev_astore (L' := [(2, 0), (0, (xs 1)), (0, (xs 2)), (0, (xs 3)), (2, (-1)), (9, 0), (9, 0), (9, 0), (9, 0), (9, 0)]) (Nat.le_of_ble_eq_true rfl) rfl ?_
    refine ev_aload rfl ?_
    refine ev_ifnull f209_24 (fun c7 => ?_) (fun c7 => absurd c7 (by decide))
    refine ev_ldc ?_
    refine ev_ret rfl (by decide) (by decide) ?_
    show jEv _ _ _ _ _ _ _ (_, [(2, (-2)), (2, 0), (2, 42), (0, 0)], [(0, (-2000000000))], _, _, _)
    refine ev_aload_n rfl ?_
    refine ev_aload_n rfl ?_
    refine ev_iload_n rfl ?_
    refine ev_iconst ?_
    refine ev_iadd (r := 1) (by decide) ?_
    refine ev_sald (j := 1) (v := (xs 1)) rfl rfl rfl ?_
    refine ev_aload_n rfl ?_
    refine ev_iload_n rfl ?_
    refine ev_iconst ?_
    refine ev_iadd (r := 2) (by decide) ?_
    refine ev_sald (j := 2) (v := (xs 2)) rfl rfl rfl ?_
    refine ev_aload_n rfl ?_
    refine ev_iload_n rfl ?_
    refine ev_iconst ?_
    refine ev_iadd (r := 3) (by decide) ?_
    refine ev_sald (j := 3) (v := (xs 3)) rfl rfl rfl ?_
    refine ev_in (d := 7) (a := 0) (b := 0) (cd' := c354_0) (m := 11) (L0 := [(2, 42), (0, (xs 1)), (0, (xs 2)), (0, (xs 3)), (9, 0), (9, 0), (9, 0), (9, 0), (9, 0), (9, 0), (9, 0)]) (jcall_v (A := [(0, (xs 3)), (0, (xs 2)), (0, (xs 1))]) (S' := [(0, (-2000000000))]) (r := 42) rfl (hF.1.lt (by decide)) (hF.1.sh (by decide) rfl).1 (Nat.le_of_ble_eq_true rfl)) (by decide) ml354 pp354 (Nat.le_of_ble_eq_true rfl) rfl (by decide) (by decide) ?_
    refine ev_aload_n rfl ?_
    refine ev_iload_n rfl ?_
    refine ev_in (d := 6) (a := 0) (b := 0) (cd' := c261_0) (m := 2) (L0 := [(2, 42), (0, (xs 1))]) (jcall_v (A := [(0, (xs 1))]) (S' := []) (r := 42) rfl (hF.1.lt (by decide)) (hF.1.sh (by decide) rfl).1 (Nat.le_of_ble_eq_true rfl)) (by decide) ml261 pp261 (Nat.le_of_ble_eq_true rfl) rfl (by decide) (by decide) ?_
    refine ev_iload_n rfl ?_
    refine ev_iconst ?_
    refine ev_aload_n rfl ?_
    refine ev_getf (r := 42) (v := 0) (hF.1.lt (by decide)) (hF.1.fam (by decide) (by decide)) ft12_9 ((hF.v rfl)) ?_
    refine ev_iconst ?_
    refine ev_isub (r := (-1)) (by decide) ?_
    refine ev_in (d := 5) (a := 0) (b := 0) (cd' := c242_0) (m := 3) (L0 := [(0, (xs 1)), (0, 0), (0, (-1))]) (jcall_s (A := [(0, (-1)), (0, 0), (0, (xs 1))]) (S' := []) (by decide) rfl (Nat.le_of_ble_eq_true rfl)) (by decide) ml242 pp242 (Nat.le_of_ble_eq_true rfl) rfl (by decide) (by decide) ?_
    refine ev_iload_n rfl ?_
    refine ev_iload_n rfl ?_
    refine ev_icmplt f242_14 (fun c8 => absurd c8 (by omega)) (fun c8 => ?_)
    refine ev_iload_n rfl ?_
    refine ev_iload_n rfl ?_
    refine ev_icmpgt f242_14 (fun c9 => ?_) (fun c9 => absurd c9 (by omega))
    refine ev_iconst ?_
    refine ev_ret rfl (by decide) (by decide) ?_
    show jEv _ _ _ _ _ _ _ (_, [(2, 42), (0, (xs 1))], [(0, 0)], _, _, _)
    refine ev_ret rfl (by decide) (by decide) ?_
    show jEv _ _ _ _ _ _ _ (_, [(2, 42), (0, (xs 1)), (0, (xs 2)), (0, (xs 3)), (9, 0), (9, 0), (9, 0), (9, 0), (9, 0), (9, 0), (9, 0)], [(0, 0)], _, _, _)
    refine ev_ifeq f354_19 (fun c10 => ?_) (fun c10 => absurd c10 (by omega))
    refine ev_ldc_w ?_
    refine ev_ret rfl (by decide) (by decide) ?_
    show jEv _ _ _ _ _ _ _ (_, [(2, (-2)), (2, 0), (2, 42), (0, 0)], [(0, (-2000000000)), (0, (-2000000000))], _, _, _)
    refine ev_icmpeq f384_2190 (fun c11 => ?_) (fun c11 => absurd c11 (by omega))
    exact law_tail _

/-! act -/
set_option maxHeartbeats 4000000 in
theorem case_44 {xs : Nat → Int} (hr : ∀ j, -2147483648 ≤ xs j ∧ xs j < 2147483648) {h : JH} (hF : Fresh h) : jEv (jOk 8) (some 6) xs c384_0 600000 7302250 (fun v _ => v = some (0, 1)) (c384_1822, [(2, -2), (2, 0), (2, 42), (0, 0)], [], h, 83, 23761) := by
  have r1 := hr 1
  have r2 := hr 2
  have r3 := hr 3
  have r4 := hr 4
  have r5 := hr 5
  refine ev_aload_n rfl ?_
  refine ev_aload_n rfl ?_
  refine ev_iload_n rfl ?_
  refine ev_iconst ?_
  refine ev_iadd (r := 1) (by decide) ?_
  refine ev_sald (j := 1) (v := (xs 1)) rfl rfl rfl ?_
  refine ev_aload_n rfl ?_
  refine ev_iload_n rfl ?_
  refine ev_iconst ?_
  refine ev_iadd (r := 2) (by decide) ?_
  refine ev_sald (j := 2) (v := (xs 2)) rfl rfl rfl ?_
  refine ev_aload_n rfl ?_
  refine ev_iload_n rfl ?_
  refine ev_iconst ?_
  refine ev_iadd (r := 3) (by decide) ?_
  refine ev_sald (j := 3) (v := (xs 3)) rfl rfl rfl ?_
  refine ev_in (d := 7) (a := 0) (b := 0) (cd' := c210_0) (m := 5) (L0 := [(2, 0), (0, (xs 1)), (0, (xs 2)), (0, (xs 3)), (9, 0)]) (jcall_v (A := [(0, (xs 3)), (0, (xs 2)), (0, (xs 1))]) (S' := []) (r := 0) rfl (hF.1.lt (by decide)) (hF.1.sh (by decide) rfl).1 (Nat.le_of_ble_eq_true rfl)) (by decide) ml210 pp210 (Nat.le_of_ble_eq_true rfl) rfl (by decide) (by decide) ?_
  refine ev_aload_n rfl ?_
  refine ev_iload_n rfl ?_
  refine ev_in (d := 6) (a := 0) (b := 0) (cd' := c220_0) (m := 2) (L0 := [(2, 0), (0, (xs 1))]) (jcall_v (A := [(0, (xs 1))]) (S' := []) (r := 0) rfl (hF.1.lt (by decide)) (hF.1.sh (by decide) rfl).1 (Nat.le_of_ble_eq_true rfl)) (by decide) ml220 pp220 (Nat.le_of_ble_eq_true rfl) rfl (by decide) (by decide) ?_
  refine ev_iload_n rfl ?_
  refine ev_iflt f220_12 (fun c1 => ?_) (fun c1 => ?_)
  · refine ev_aconst_null ?_
    refine ev_goto f220_22 ?_
    refine ev_ret rfl (by decide) (by decide) ?_
    show jEv _ _ _ _ _ _ _ (_, [(2, 0), (0, (xs 1)), (0, (xs 2)), (0, (xs 3)), (9, 0)], [(2, (-1))], _, _, _)
    refine ev_astore (L' := [(2, 0), (0, (xs 1)), (0, (xs 2)), (0, (xs 3)), (2, (-1))]) (Nat.le_of_ble_eq_true rfl) rfl ?_
    refine ev_aload_n rfl ?_
    refine ev_getf (r := 0) (v := 19) (hF.1.lt (by decide)) (hF.1.fam (by decide) (by decide)) ft11_4 ((hF.v rfl)) ?_
    refine ev_in (d := 6) (a := 0) (b := 0) (cd' := c93_0) (m := 1) (L0 := [(2, 19)]) (jcall_v (A := []) (S' := []) (r := 19) rfl (hF.1.lt (by decide)) (hF.1.sh (by decide) rfl).1 (Nat.le_of_ble_eq_true rfl)) (by decide) ml93 pp93 (Nat.le_of_ble_eq_true rfl) rfl (by decide) (by decide) ?_
    refine ev_aload_n rfl ?_
    refine ev_iconst ?_
    refine ev_putfG (r := 19) (hF.1.lt (by decide)) (hF.1.fam (by decide) (by decide)) ft7_5 (fun e => absurd e nz7_5) (fun e => absurd e (by decide)) (fun h212 e212 => ?_)
    have hS212 := hF.1.wr e212
    refine ev_ret rfl (by decide) (by decide) ?_
    show jEv _ _ _ _ _ _ _ (_, [(2, 0), (0, (xs 1)), (0, (xs 2)), (0, (xs 3)), (2, (-1))], [], _, _, _)
    refine ev_aload rfl ?_
    refine ev_ifnull f210_28 (fun c2 => ?_) (fun c2 => absurd c2 (by decide))
    refine ev_iconst ?_
    refine ev_ret rfl (by decide) (by decide) ?_
    show jEv _ _ _ _ _ _ _ (_, [(2, (-2)), (2, 0), (2, 42), (0, 0)], [(0, 0)], _, _, _)
    refine ev_aload_n rfl ?_
    refine ev_aload_n rfl ?_
    refine ev_iload_n rfl ?_
    refine ev_iconst ?_
    refine ev_iadd (r := 1) (by decide) ?_
    refine ev_sald (j := 1) (v := (xs 1)) rfl rfl rfl ?_
    refine ev_aload_n rfl ?_
    refine ev_iload_n rfl ?_
    refine ev_iconst ?_
    refine ev_iadd (r := 2) (by decide) ?_
    refine ev_sald (j := 2) (v := (xs 2)) rfl rfl rfl ?_
    refine ev_aload_n rfl ?_
    refine ev_iload_n rfl ?_
    refine ev_iconst ?_
    refine ev_iadd (r := 3) (by decide) ?_
    refine ev_sald (j := 3) (v := (xs 3)) rfl rfl rfl ?_
    refine ev_in (d := 7) (a := 0) (b := 0) (cd' := c367_0) (m := 4) (L0 := [(2, 42), (0, (xs 1)), (0, (xs 2)), (0, (xs 3))]) (jcall_v (A := [(0, (xs 3)), (0, (xs 2)), (0, (xs 1))]) (S' := [(0, 0)]) (r := 42) rfl (hS212.lt (by decide)) (hS212.sh (by decide) rfl).1 (Nat.le_of_ble_eq_true rfl)) (by decide) ml367 pp367 (Nat.le_of_ble_eq_true rfl) rfl (by decide) (by decide) ?_
    refine ev_aload_n rfl ?_
    refine ev_iconst ?_
    refine ev_putfG (r := 42) (hS212.lt (by decide)) (hS212.fam (by decide) (by decide)) ft12_60 (fun e => absurd e nz12_60) (fun e => absurd e (by decide)) (fun h213 e213 => ?_)
    have hS213 := hS212.wr e213
    refine ev_aload_n rfl ?_
    refine ev_iload_n rfl ?_
    refine ev_in (d := 6) (a := 0) (b := 0) (cd' := c284_0) (m := 2) (L0 := [(2, 42), (0, (xs 1))]) (jcall_v (A := [(0, (xs 1))]) (S' := []) (r := 42) rfl (hS213.lt (by decide)) (hS213.sh (by decide) rfl).1 (Nat.le_of_ble_eq_true rfl)) (by decide) ml284 pp284 (Nat.le_of_ble_eq_true rfl) rfl (by decide) (by decide) ?_
    refine ev_iload_n rfl ?_
    refine ev_iconst ?_
    refine ev_aload_n rfl ?_
    refine ev_getf (r := 42) (v := 0) (hS213.lt (by decide)) (hS213.fam (by decide) (by decide)) ft12_28 ((jw_ne e213 (Or.inr (by decide))).trans ((jw_ne e212 (Or.inl (by decide))).trans ((hF.v rfl)))) ?_
    refine ev_iconst ?_
    refine ev_isub (r := (-1)) (by decide) ?_
    refine ev_in (d := 5) (a := 0) (b := 0) (cd' := c242_0) (m := 3) (L0 := [(0, (xs 1)), (0, 0), (0, (-1))]) (jcall_s (A := [(0, (-1)), (0, 0), (0, (xs 1))]) (S' := []) (by decide) rfl (Nat.le_of_ble_eq_true rfl)) (by decide) ml242 pp242 (Nat.le_of_ble_eq_true rfl) rfl (by decide) (by decide) ?_
    refine ev_iload_n rfl ?_
    refine ev_iload_n rfl ?_
    refine ev_icmplt f242_14 (fun c3 => ?_) (fun c3 => absurd c3 (by omega))
    refine ev_iconst ?_
    refine ev_ret rfl (by decide) (by decide) ?_
    show jEv _ _ _ _ _ _ _ (_, [(2, 42), (0, (xs 1))], [(0, 0)], _, _, _)
    refine ev_ret rfl (by decide) (by decide) ?_
    show jEv _ _ _ _ _ _ _ (_, [(2, 42), (0, (xs 1)), (0, (xs 2)), (0, (xs 3))], [(0, 0)], _, _, _)
    refine ev_ifeq f367_22 (fun c4 => ?_) (fun c4 => absurd c4 (by omega))
    refine ev_iconst ?_
    refine ev_ret rfl (by decide) (by decide) ?_
    show jEv _ _ _ _ _ _ _ (_, [(2, (-2)), (2, 0), (2, 42), (0, 0)], [(0, 0), (0, 0)], _, _, _)
    refine ev_icmpeq f384_2190 (fun c5 => ?_) (fun c5 => absurd c5 (by omega))
    exact law_tail _
  · refine ev_iload_n rfl ?_
    refine ev_aload_n rfl ?_
    refine ev_getf (r := 0) (v := 0) (hF.1.lt (by decide)) (hF.1.fam (by decide) (by decide)) ft11_7 ((hF.v rfl)) ?_
    refine ev_icmplt f220_16 (fun c6 => absurd c6 (by omega)) (fun c6 => ?_)
    refine ev_aconst_null ?_
    refine ev_goto f220_22 ?_
    refine ev_ret rfl (by decide) (by decide) ?_
    show jEv _ _ _ _ _ _ _ (_, [(2, 0), (0, (xs 1)), (0, (xs 2)), (0, (xs 3)), (9, 0)], [(2, (-1))], _, _, _)
    refine ev_astore (L' := [(2, 0), (0, (xs 1)), (0, (xs 2)), (0, (xs 3)), (2, (-1))]) (Nat.le_of_ble_eq_true rfl) rfl ?_
    refine ev_aload_n rfl ?_
    refine ev_getf (r := 0) (v := 19) (hF.1.lt (by decide)) (hF.1.fam (by decide) (by decide)) ft11_4 ((hF.v rfl)) ?_
    refine ev_in (d := 6) (a := 0) (b := 0) (cd' := c93_0) (m := 1) (L0 := [(2, 19)]) (jcall_v (A := []) (S' := []) (r := 19) rfl (hF.1.lt (by decide)) (hF.1.sh (by decide) rfl).1 (Nat.le_of_ble_eq_true rfl)) (by decide) ml93 pp93 (Nat.le_of_ble_eq_true rfl) rfl (by decide) (by decide) ?_
    refine ev_aload_n rfl ?_
    refine ev_iconst ?_
    refine ev_putfG (r := 19) (hF.1.lt (by decide)) (hF.1.fam (by decide) (by decide)) ft7_5 (fun e => absurd e nz7_5) (fun e => absurd e (by decide)) (fun h214 e214 => ?_)
    have hS214 := hF.1.wr e214
    refine ev_ret rfl (by decide) (by decide) ?_
    show jEv _ _ _ _ _ _ _ (_, [(2, 0), (0, (xs 1)), (0, (xs 2)), (0, (xs 3)), (2, (-1))], [], _, _, _)
    refine ev_aload rfl ?_
    refine ev_ifnull f210_28 (fun c7 => ?_) (fun c7 => absurd c7 (by decide))
    refine ev_iconst ?_
    refine ev_ret rfl (by decide) (by decide) ?_
    show jEv _ _ _ _ _ _ _ (_, [(2, (-2)), (2, 0), (2, 42), (0, 0)], [(0, 0)], _, _, _)
    refine ev_aload_n rfl ?_
    refine ev_aload_n rfl ?_
    refine ev_iload_n rfl ?_
    refine ev_iconst ?_
    refine ev_iadd (r := 1) (by decide) ?_
    refine ev_sald (j := 1) (v := (xs 1)) rfl rfl rfl ?_
    refine ev_aload_n rfl ?_
    refine ev_iload_n rfl ?_
    refine ev_iconst ?_
    refine ev_iadd (r := 2) (by decide) ?_
    refine ev_sald (j := 2) (v := (xs 2)) rfl rfl rfl ?_
    refine ev_aload_n rfl ?_
    refine ev_iload_n rfl ?_
    refine ev_iconst ?_
    refine ev_iadd (r := 3) (by decide) ?_
    refine ev_sald (j := 3) (v := (xs 3)) rfl rfl rfl ?_
    refine ev_in (d := 7) (a := 0) (b := 0) (cd' := c367_0) (m := 4) (L0 := [(2, 42), (0, (xs 1)), (0, (xs 2)), (0, (xs 3))]) (jcall_v (A := [(0, (xs 3)), (0, (xs 2)), (0, (xs 1))]) (S' := [(0, 0)]) (r := 42) rfl (hS214.lt (by decide)) (hS214.sh (by decide) rfl).1 (Nat.le_of_ble_eq_true rfl)) (by decide) ml367 pp367 (Nat.le_of_ble_eq_true rfl) rfl (by decide) (by decide) ?_
    refine ev_aload_n rfl ?_
    refine ev_iconst ?_
    refine ev_putfG (r := 42) (hS214.lt (by decide)) (hS214.fam (by decide) (by decide)) ft12_60 (fun e => absurd e nz12_60) (fun e => absurd e (by decide)) (fun h215 e215 => ?_)
    have hS215 := hS214.wr e215
    refine ev_aload_n rfl ?_
    refine ev_iload_n rfl ?_
    refine ev_in (d := 6) (a := 0) (b := 0) (cd' := c284_0) (m := 2) (L0 := [(2, 42), (0, (xs 1))]) (jcall_v (A := [(0, (xs 1))]) (S' := []) (r := 42) rfl (hS215.lt (by decide)) (hS215.sh (by decide) rfl).1 (Nat.le_of_ble_eq_true rfl)) (by decide) ml284 pp284 (Nat.le_of_ble_eq_true rfl) rfl (by decide) (by decide) ?_
    refine ev_iload_n rfl ?_
    refine ev_iconst ?_
    refine ev_aload_n rfl ?_
    refine ev_getf (r := 42) (v := 0) (hS215.lt (by decide)) (hS215.fam (by decide) (by decide)) ft12_28 ((jw_ne e215 (Or.inr (by decide))).trans ((jw_ne e214 (Or.inl (by decide))).trans ((hF.v rfl)))) ?_
    refine ev_iconst ?_
    refine ev_isub (r := (-1)) (by decide) ?_
    refine ev_in (d := 5) (a := 0) (b := 0) (cd' := c242_0) (m := 3) (L0 := [(0, (xs 1)), (0, 0), (0, (-1))]) (jcall_s (A := [(0, (-1)), (0, 0), (0, (xs 1))]) (S' := []) (by decide) rfl (Nat.le_of_ble_eq_true rfl)) (by decide) ml242 pp242 (Nat.le_of_ble_eq_true rfl) rfl (by decide) (by decide) ?_
    refine ev_iload_n rfl ?_
    refine ev_iload_n rfl ?_
    refine ev_icmplt f242_14 (fun c8 => absurd c8 (by omega)) (fun c8 => ?_)
    refine ev_iload_n rfl ?_
    refine ev_iload_n rfl ?_
    refine ev_icmpgt f242_14 (fun c9 => ?_) (fun c9 => absurd c9 (by omega))
    refine ev_iconst ?_
    refine ev_ret rfl (by decide) (by decide) ?_
    show jEv _ _ _ _ _ _ _ (_, [(2, 42), (0, (xs 1))], [(0, 0)], _, _, _)
    refine ev_ret rfl (by decide) (by decide) ?_
    show jEv _ _ _ _ _ _ _ (_, [(2, 42), (0, (xs 1)), (0, (xs 2)), (0, (xs 3))], [(0, 0)], _, _, _)
    refine ev_ifeq f367_22 (fun c10 => ?_) (fun c10 => absurd c10 (by omega))
    refine ev_iconst ?_
    refine ev_ret rfl (by decide) (by decide) ?_
    show jEv _ _ _ _ _ _ _ (_, [(2, (-2)), (2, 0), (2, 42), (0, 0)], [(0, 0), (0, 0)], _, _, _)
    refine ev_icmpeq f384_2190 (fun c11 => ?_) (fun c11 => absurd c11 (by omega))
    exact law_tail _

/-! trace -/
set_option maxHeartbeats 4000000 in
theorem case_45 {xs : Nat → Int} (hr : ∀ j, -2147483648 ≤ xs j ∧ xs j < 2147483648) {h : JH} (hF : Fresh h) : jEv (jOk 8) (some 6) xs c384_0 600000 7302250 (fun v _ => v = some (0, 1)) (c384_1865, [(2, -2), (2, 0), (2, 42), (0, 0)], [], h, 83, 23761) := by
  have r1 := hr 1
  have r2 := hr 2
  have r3 := hr 3
  have r4 := hr 4
  have r5 := hr 5
  refine ev_aload_n rfl ?_
  refine ev_aload_n rfl ?_
  refine ev_iload_n rfl ?_
  refine ev_iconst ?_
  refine ev_iadd (r := 1) (by decide) ?_
  refine ev_sald (j := 1) (v := (xs 1)) rfl rfl rfl ?_
  refine ev_in (d := 7) (a := 0) (b := 0) (cd' := c211_0) (m := 2) (L0 := [(2, 0), (0, (xs 1))]) (jcall_v (A := [(0, (xs 1))]) (S' := []) (r := 0) rfl (hF.1.lt (by decide)) (hF.1.sh (by decide) rfl).1 (Nat.le_of_ble_eq_true rfl)) (by decide) ml211 pp211 (Nat.le_of_ble_eq_true rfl) rfl (by decide) (by decide) ?_
  refine ev_aload_n rfl ?_
  refine ev_getf (r := 0) (v := 19) (hF.1.lt (by decide)) (hF.1.fam (by decide) (by decide)) ft11_4 ((hF.v rfl)) ?_
  refine ev_iload_n rfl ?_
  refine ev_in (d := 6) (a := 0) (b := 0) (cd' := c95_0) (m := 2) (L0 := [(2, 19), (0, (xs 1))]) (jcall_v (A := [(0, (xs 1))]) (S' := []) (r := 19) rfl (hF.1.lt (by decide)) (hF.1.sh (by decide) rfl).1 (Nat.le_of_ble_eq_true rfl)) (by decide) ml95 pp95 (Nat.le_of_ble_eq_true rfl) rfl (by decide) (by decide) ?_
  refine ev_iload_n rfl ?_
  refine ev_iflt f95_22 (fun c1 => ?_) (fun c1 => ?_)
  · refine ev_iconst ?_
    refine ev_ret rfl (by decide) (by decide) ?_
    show jEv _ _ _ _ _ _ _ (_, [(2, 0), (0, (xs 1))], [(0, 0)], _, _, _)
    refine ev_ifeq f211_22 (fun c2 => ?_) (fun c2 => absurd c2 (by omega))
    refine ev_iconst ?_
    refine ev_ret rfl (by decide) (by decide) ?_
    show jEv _ _ _ _ _ _ _ (_, [(2, (-2)), (2, 0), (2, 42), (0, 0)], [(0, (-1))], _, _, _)
    refine ev_aload_n rfl ?_
    refine ev_aload_n rfl ?_
    refine ev_iload_n rfl ?_
    refine ev_iconst ?_
    refine ev_iadd (r := 1) (by decide) ?_
    refine ev_sald (j := 1) (v := (xs 1)) rfl rfl rfl ?_
    refine ev_in (d := 7) (a := 0) (b := 0) (cd' := c368_0) (m := 2) (L0 := [(2, 42), (0, (xs 1))]) (jcall_v (A := [(0, (xs 1))]) (S' := [(0, (-1))]) (r := 42) rfl (hF.1.lt (by decide)) (hF.1.sh (by decide) rfl).1 (Nat.le_of_ble_eq_true rfl)) (by decide) ml368 pp368 (Nat.le_of_ble_eq_true rfl) rfl (by decide) (by decide) ?_
    refine ev_iload_n rfl ?_
    refine ev_iflt f368_27 (fun c3 => ?_) (fun c3 => absurd c3 (by omega))
    refine ev_iconst ?_
    refine ev_ret rfl (by decide) (by decide) ?_
    show jEv _ _ _ _ _ _ _ (_, [(2, (-2)), (2, 0), (2, 42), (0, 0)], [(0, (-1)), (0, (-1))], _, _, _)
    refine ev_icmpeq f384_2190 (fun c4 => ?_) (fun c4 => absurd c4 (by omega))
    exact law_tail _
  · refine ev_iload_n rfl ?_
    refine ev_aload_n rfl ?_
    refine ev_getf (r := 19) (v := 0) (hF.1.lt (by decide)) (hF.1.fam (by decide) (by decide)) ft7_5 ((hF.v rfl)) ?_
    refine ev_icmpge f95_22 (fun c5 => ?_) (fun c5 => absurd c5 (by omega))
    refine ev_iconst ?_
    refine ev_ret rfl (by decide) (by decide) ?_
    show jEv _ _ _ _ _ _ _ (_, [(2, 0), (0, (xs 1))], [(0, 0)], _, _, _)
    refine ev_ifeq f211_22 (fun c6 => ?_) (fun c6 => absurd c6 (by omega))
    refine ev_iconst ?_
    refine ev_ret rfl (by decide) (by decide) ?_
    show jEv _ _ _ _ _ _ _ (_, [(2, (-2)), (2, 0), (2, 42), (0, 0)], [(0, (-1))], _, _, _)
    refine ev_aload_n rfl ?_
    refine ev_aload_n rfl ?_
    refine ev_iload_n rfl ?_
    refine ev_iconst ?_
    refine ev_iadd (r := 1) (by decide) ?_
    refine ev_sald (j := 1) (v := (xs 1)) rfl rfl rfl ?_
    refine ev_in (d := 7) (a := 0) (b := 0) (cd' := c368_0) (m := 2) (L0 := [(2, 42), (0, (xs 1))]) (jcall_v (A := [(0, (xs 1))]) (S' := [(0, (-1))]) (r := 42) rfl (hF.1.lt (by decide)) (hF.1.sh (by decide) rfl).1 (Nat.le_of_ble_eq_true rfl)) (by decide) ml368 pp368 (Nat.le_of_ble_eq_true rfl) rfl (by decide) (by decide) ?_
    refine ev_iload_n rfl ?_
    refine ev_iflt f368_27 (fun c7 => absurd c7 (by omega)) (fun c7 => ?_)
    refine ev_iload_n rfl ?_
    refine ev_aload_n rfl ?_
    refine ev_getf (r := 42) (v := 0) (hF.1.lt (by decide)) (hF.1.fam (by decide) (by decide)) ft12_60 ((hF.v rfl)) ?_
    refine ev_icmpge f368_27 (fun c8 => ?_) (fun c8 => absurd c8 (by omega))
    refine ev_iconst ?_
    refine ev_ret rfl (by decide) (by decide) ?_
    show jEv _ _ _ _ _ _ _ (_, [(2, (-2)), (2, 0), (2, 42), (0, 0)], [(0, (-1)), (0, (-1))], _, _, _)
    refine ev_icmpeq f384_2190 (fun c9 => ?_) (fun c9 => absurd c9 (by omega))
    exact law_tail _

/-! keep -/
set_option maxHeartbeats 4000000 in
theorem case_46 {xs : Nat → Int} (hr : ∀ j, -2147483648 ≤ xs j ∧ xs j < 2147483648) {h : JH} (hF : Fresh h) : jEv (jOk 8) (some 6) xs c384_0 600000 7302250 (fun v _ => v = some (0, 1)) (c384_1888, [(2, -2), (2, 0), (2, 42), (0, 0)], [], h, 83, 23761) := by
  have r1 := hr 1
  have r2 := hr 2
  have r3 := hr 3
  have r4 := hr 4
  have r5 := hr 5
  refine ev_aload_n rfl ?_
  refine ev_aload_n rfl ?_
  refine ev_iload_n rfl ?_
  refine ev_iconst ?_
  refine ev_iadd (r := 1) (by decide) ?_
  refine ev_sald (j := 1) (v := (xs 1)) rfl rfl rfl ?_
  refine ev_aload_n rfl ?_
  refine ev_iload_n rfl ?_
  refine ev_iconst ?_
  refine ev_iadd (r := 2) (by decide) ?_
  refine ev_sald (j := 2) (v := (xs 2)) rfl rfl rfl ?_
  refine ev_in (d := 7) (a := 0) (b := 0) (cd' := c212_0) (m := 3) (L0 := [(2, 0), (0, (xs 1)), (0, (xs 2))]) (jcall_v (A := [(0, (xs 2)), (0, (xs 1))]) (S' := []) (r := 0) rfl (hF.1.lt (by decide)) (hF.1.sh (by decide) rfl).1 (Nat.le_of_ble_eq_true rfl)) (by decide) ml212 pp212 (Nat.le_of_ble_eq_true rfl) rfl (by decide) (by decide) ?_
  refine ev_iload_n rfl ?_
  refine ev_in (d := 6) (a := 0) (b := 0) (cd' := c222_0) (m := 1) (L0 := [(0, (xs 1))]) (jcall_s (A := [(0, (xs 1))]) (S' := []) (by decide) rfl (Nat.le_of_ble_eq_true rfl)) (by decide) ml222 pp222 (Nat.le_of_ble_eq_true rfl) rfl (by decide) (by decide) ?_
  refine ev_iload_n rfl ?_
  refine ev_iflt f222_14 (fun c1 => ?_) (fun c1 => ?_)
  · refine ev_iconst ?_
    refine ev_ret rfl (by decide) (by decide) ?_
    show jEv _ _ _ _ _ _ _ (_, [(2, 0), (0, (xs 1)), (0, (xs 2))], [(0, 0)], _, _, _)
    refine ev_ifeq f212_20 (fun c2 => ?_) (fun c2 => absurd c2 (by omega))
    refine ev_iconst ?_
    refine ev_ret rfl (by decide) (by decide) ?_
    show jEv _ _ _ _ _ _ _ (_, [(2, (-2)), (2, 0), (2, 42), (0, 0)], [(0, (-1))], _, _, _)
    refine ev_aload_n rfl ?_
    refine ev_aload_n rfl ?_
    refine ev_iload_n rfl ?_
    refine ev_iconst ?_
    refine ev_iadd (r := 1) (by decide) ?_
    refine ev_sald (j := 1) (v := (xs 1)) rfl rfl rfl ?_
    refine ev_aload_n rfl ?_
    refine ev_iload_n rfl ?_
    refine ev_iconst ?_
    refine ev_iadd (r := 2) (by decide) ?_
    refine ev_sald (j := 2) (v := (xs 2)) rfl rfl rfl ?_
    refine ev_in (d := 7) (a := 0) (b := 0) (cd' := c371_0) (m := 3) (L0 := [(2, 42), (0, (xs 1)), (0, (xs 2))]) (jcall_v (A := [(0, (xs 2)), (0, (xs 1))]) (S' := [(0, (-1))]) (r := 42) rfl (hF.1.lt (by decide)) (hF.1.sh (by decide) rfl).1 (Nat.le_of_ble_eq_true rfl)) (by decide) ml371 pp371 (Nat.le_of_ble_eq_true rfl) rfl (by decide) (by decide) ?_
    refine ev_iload_n rfl ?_
    refine ev_in (d := 6) (a := 0) (b := 0) (cd' := c370_0) (m := 1) (L0 := [(0, (xs 1))]) (jcall_s (A := [(0, (xs 1))]) (S' := []) (by decide) rfl (Nat.le_of_ble_eq_true rfl)) (by decide) ml370 pp370 (Nat.le_of_ble_eq_true rfl) rfl (by decide) (by decide) ?_
    refine ev_iload_n rfl ?_
    refine ev_iconst ?_
    refine ev_iconst ?_
    refine ev_in (d := 5) (a := 0) (b := 0) (cd' := c242_0) (m := 3) (L0 := [(0, (xs 1)), (0, 0), (0, 5)]) (jcall_s (A := [(0, 5), (0, 0), (0, (xs 1))]) (S' := []) (by decide) rfl (Nat.le_of_ble_eq_true rfl)) (by decide) ml242 pp242 (Nat.le_of_ble_eq_true rfl) rfl (by decide) (by decide) ?_
    refine ev_iload_n rfl ?_
    refine ev_iload_n rfl ?_
    refine ev_icmplt f242_14 (fun c3 => ?_) (fun c3 => absurd c3 (by omega))
    refine ev_iconst ?_
    refine ev_ret rfl (by decide) (by decide) ?_
    show jEv _ _ _ _ _ _ _ (_, [(0, (xs 1))], [(0, 0)], _, _, _)
    refine ev_ret rfl (by decide) (by decide) ?_
    show jEv _ _ _ _ _ _ _ (_, [(2, 42), (0, (xs 1)), (0, (xs 2))], [(0, 0)], _, _, _)
    refine ev_ifeq f371_20 (fun c4 => ?_) (fun c4 => absurd c4 (by omega))
    refine ev_iconst ?_
    refine ev_ret rfl (by decide) (by decide) ?_
    show jEv _ _ _ _ _ _ _ (_, [(2, (-2)), (2, 0), (2, 42), (0, 0)], [(0, (-1)), (0, (-1))], _, _, _)
    refine ev_icmpeq f384_2190 (fun c5 => ?_) (fun c5 => absurd c5 (by omega))
    exact law_tail _
  · refine ev_iload_n rfl ?_
    refine ev_bipush ?_
    refine ev_icmpge f222_14 (fun c6 => ?_) (fun c6 => ?_)
    · refine ev_iconst ?_
      refine ev_ret rfl (by decide) (by decide) ?_
      show jEv _ _ _ _ _ _ _ (_, [(2, 0), (0, (xs 1)), (0, (xs 2))], [(0, 0)], _, _, _)
      refine ev_ifeq f212_20 (fun c7 => ?_) (fun c7 => absurd c7 (by omega))
      refine ev_iconst ?_
      refine ev_ret rfl (by decide) (by decide) ?_
      show jEv _ _ _ _ _ _ _ (_, [(2, (-2)), (2, 0), (2, 42), (0, 0)], [(0, (-1))], _, _, _)
      refine ev_aload_n rfl ?_
      refine ev_aload_n rfl ?_
      refine ev_iload_n rfl ?_
      refine ev_iconst ?_
      refine ev_iadd (r := 1) (by decide) ?_
      refine ev_sald (j := 1) (v := (xs 1)) rfl rfl rfl ?_
      refine ev_aload_n rfl ?_
      refine ev_iload_n rfl ?_
      refine ev_iconst ?_
      refine ev_iadd (r := 2) (by decide) ?_
      refine ev_sald (j := 2) (v := (xs 2)) rfl rfl rfl ?_
      refine ev_in (d := 7) (a := 0) (b := 0) (cd' := c371_0) (m := 3) (L0 := [(2, 42), (0, (xs 1)), (0, (xs 2))]) (jcall_v (A := [(0, (xs 2)), (0, (xs 1))]) (S' := [(0, (-1))]) (r := 42) rfl (hF.1.lt (by decide)) (hF.1.sh (by decide) rfl).1 (Nat.le_of_ble_eq_true rfl)) (by decide) ml371 pp371 (Nat.le_of_ble_eq_true rfl) rfl (by decide) (by decide) ?_
      refine ev_iload_n rfl ?_
      refine ev_in (d := 6) (a := 0) (b := 0) (cd' := c370_0) (m := 1) (L0 := [(0, (xs 1))]) (jcall_s (A := [(0, (xs 1))]) (S' := []) (by decide) rfl (Nat.le_of_ble_eq_true rfl)) (by decide) ml370 pp370 (Nat.le_of_ble_eq_true rfl) rfl (by decide) (by decide) ?_
      refine ev_iload_n rfl ?_
      refine ev_iconst ?_
      refine ev_iconst ?_
      refine ev_in (d := 5) (a := 0) (b := 0) (cd' := c242_0) (m := 3) (L0 := [(0, (xs 1)), (0, 0), (0, 5)]) (jcall_s (A := [(0, 5), (0, 0), (0, (xs 1))]) (S' := []) (by decide) rfl (Nat.le_of_ble_eq_true rfl)) (by decide) ml242 pp242 (Nat.le_of_ble_eq_true rfl) rfl (by decide) (by decide) ?_
      refine ev_iload_n rfl ?_
      refine ev_iload_n rfl ?_
      refine ev_icmplt f242_14 (fun c8 => absurd c8 (by omega)) (fun c8 => ?_)
      refine ev_iload_n rfl ?_
      refine ev_iload_n rfl ?_
      refine ev_icmpgt f242_14 (fun c9 => ?_) (fun c9 => absurd c9 (by omega))
      refine ev_iconst ?_
      refine ev_ret rfl (by decide) (by decide) ?_
      show jEv _ _ _ _ _ _ _ (_, [(0, (xs 1))], [(0, 0)], _, _, _)
      refine ev_ret rfl (by decide) (by decide) ?_
      show jEv _ _ _ _ _ _ _ (_, [(2, 42), (0, (xs 1)), (0, (xs 2))], [(0, 0)], _, _, _)
      refine ev_ifeq f371_20 (fun c10 => ?_) (fun c10 => absurd c10 (by omega))
      refine ev_iconst ?_
      refine ev_ret rfl (by decide) (by decide) ?_
      show jEv _ _ _ _ _ _ _ (_, [(2, (-2)), (2, 0), (2, 42), (0, 0)], [(0, (-1)), (0, (-1))], _, _, _)
      refine ev_icmpeq f384_2190 (fun c11 => ?_) (fun c11 => absurd c11 (by omega))
      exact law_tail _
    · refine ev_iconst ?_
      refine ev_goto f222_15 ?_
      refine ev_ret rfl (by decide) (by decide) ?_
      show jEv _ _ _ _ _ _ _ (_, [(2, 0), (0, (xs 1)), (0, (xs 2))], [(0, 1)], _, _, _)
      refine ev_ifeq f212_20 (fun c12 => absurd c12 (by omega)) (fun c12 => ?_)
      refine ev_iload_n rfl ?_
      refine ev_iconst ?_
      refine ev_icmpeq f212_22 (fun c13 => ?_) (fun c13 => ?_)
      · refine ev_aload_n rfl ?_
        refine ev_getf (r := 0) (v := 37) (hF.1.lt (by decide)) (hF.1.fam (by decide) (by decide)) ft11_12 ((hF.v rfl)) ?_
        refine ev_iload_n rfl ?_
        refine ev_iload_n rfl ?_
        refine ev_iconst ?_
        refine ev_icmpne f212_36 (fun c14 => absurd c14 (by omega)) (fun c14 => ?_)
        refine ev_iconst ?_
        refine ev_goto f212_40 ?_
        refine ev_iastG (r := 37) (j := ((xs 1)).toNat) (hF.1.lt (by decide)) (hF.1.sh (by decide) rfl).1 (by omega) (hF.1.inbx (by decide) (n := 6) (by decide) (by omega)) (fun h216 e216 => ?_)
        have hS216 := hF.1.wr e216
        refine ev_aload_n rfl ?_
        refine ev_getf (r := 0) (v := 38) (hS216.lt (by decide)) (hS216.fam (by decide) (by decide)) ft11_13 ((jw_ne e216 (Or.inl (by decide))).trans ((hF.v rfl))) ?_
        refine ev_iload_n rfl ?_
        refine ev_iconst ?_
        refine ev_iastG (r := 38) (j := ((xs 1)).toNat) (hS216.lt (by decide)) (hS216.sh (by decide) rfl).1 (by omega) (hS216.inbx (by decide) (n := 6) (by decide) (by omega)) (fun h217 e217 => ?_)
        have hS217 := hS216.wr e217
        refine ev_iconst ?_
        refine ev_ret rfl (by decide) (by decide) ?_
        show jEv _ _ _ _ _ _ _ (_, [(2, (-2)), (2, 0), (2, 42), (0, 0)], [(0, 1)], _, _, _)
        refine ev_aload_n rfl ?_
        refine ev_aload_n rfl ?_
        refine ev_iload_n rfl ?_
        refine ev_iconst ?_
        refine ev_iadd (r := 1) (by decide) ?_
        refine ev_sald (j := 1) (v := (xs 1)) rfl rfl rfl ?_
        refine ev_aload_n rfl ?_
        refine ev_iload_n rfl ?_
        refine ev_iconst ?_
        refine ev_iadd (r := 2) (by decide) ?_
        refine ev_sald (j := 2) (v := (xs 2)) rfl rfl rfl ?_
        refine ev_in (d := 7) (a := 0) (b := 0) (cd' := c371_0) (m := 3) (L0 := [(2, 42), (0, (xs 1)), (0, (xs 2))]) (jcall_v (A := [(0, (xs 2)), (0, (xs 1))]) (S' := [(0, 1)]) (r := 42) rfl (hS217.lt (by decide)) (hS217.sh (by decide) rfl).1 (Nat.le_of_ble_eq_true rfl)) (by decide) ml371 pp371 (Nat.le_of_ble_eq_true rfl) rfl (by decide) (by decide) ?_
        refine ev_iload_n rfl ?_
        refine ev_in (d := 6) (a := 0) (b := 0) (cd' := c370_0) (m := 1) (L0 := [(0, (xs 1))]) (jcall_s (A := [(0, (xs 1))]) (S' := []) (by decide) rfl (Nat.le_of_ble_eq_true rfl)) (by decide) ml370 pp370 (Nat.le_of_ble_eq_true rfl) rfl (by decide) (by decide) ?_
        refine ev_iload_n rfl ?_
        refine ev_iconst ?_
        refine ev_iconst ?_
        refine ev_in (d := 5) (a := 0) (b := 0) (cd' := c242_0) (m := 3) (L0 := [(0, (xs 1)), (0, 0), (0, 5)]) (jcall_s (A := [(0, 5), (0, 0), (0, (xs 1))]) (S' := []) (by decide) rfl (Nat.le_of_ble_eq_true rfl)) (by decide) ml242 pp242 (Nat.le_of_ble_eq_true rfl) rfl (by decide) (by decide) ?_
        refine ev_iload_n rfl ?_
        refine ev_iload_n rfl ?_
        refine ev_icmplt f242_14 (fun c15 => absurd c15 (by omega)) (fun c15 => ?_)
        refine ev_iload_n rfl ?_
        refine ev_iload_n rfl ?_
        refine ev_icmpgt f242_14 (fun c16 => absurd c16 (by omega)) (fun c16 => ?_)
        refine ev_iconst ?_
        refine ev_goto f242_15 ?_
        refine ev_ret rfl (by decide) (by decide) ?_
        show jEv _ _ _ _ _ _ _ (_, [(0, (xs 1))], [(0, 1)], _, _, _)
        refine ev_ret rfl (by decide) (by decide) ?_
        show jEv _ _ _ _ _ _ _ (_, [(2, 42), (0, (xs 1)), (0, (xs 2))], [(0, 1)], _, _, _)
        refine ev_ifeq f371_20 (fun c17 => absurd c17 (by omega)) (fun c17 => ?_)
        refine ev_iload_n rfl ?_
        refine ev_iconst ?_
        refine ev_icmpeq f371_22 (fun c18 => ?_) (fun c18 => absurd c18 (by omega))
        refine ev_aload_n rfl ?_
        refine ev_getf (r := 42) (v := 79) (hS217.lt (by decide)) (hS217.fam (by decide) (by decide)) ft12_62 ((jw_ne e217 (Or.inl (by decide))).trans ((jw_ne e216 (Or.inl (by decide))).trans ((hF.v rfl)))) ?_
        refine ev_iload_n rfl ?_
        refine ev_iload_n rfl ?_
        refine ev_iastG (r := 79) (j := ((xs 1)).toNat) (hS217.lt (by decide)) (hS217.sh (by decide) rfl).1 (by omega) (hS217.inbx (by decide) (n := 6) (by decide) (by omega)) (fun h218 e218 => ?_)
        have hS218 := hS217.wr e218
        refine ev_iconst ?_
        refine ev_ret rfl (by decide) (by decide) ?_
        show jEv _ _ _ _ _ _ _ (_, [(2, (-2)), (2, 0), (2, 42), (0, 0)], [(0, 1), (0, 1)], _, _, _)
        refine ev_icmpeq f384_2190 (fun c19 => ?_) (fun c19 => absurd c19 (by omega))
        exact law_tail _
      · refine ev_aload_n rfl ?_
        refine ev_iload_n rfl ?_
        refine ev_in (d := 6) (a := 0) (b := 0) (cd' := c220_0) (m := 2) (L0 := [(2, 0), (0, (xs 2))]) (jcall_v (A := [(0, (xs 2))]) (S' := []) (r := 0) rfl (hF.1.lt (by decide)) (hF.1.sh (by decide) rfl).1 (Nat.le_of_ble_eq_true rfl)) (by decide) ml220 pp220 (Nat.le_of_ble_eq_true rfl) rfl (by decide) (by decide) ?_
        refine ev_iload_n rfl ?_
        refine ev_iflt f220_12 (fun c20 => ?_) (fun c20 => ?_)
        · refine ev_aconst_null ?_
          refine ev_goto f220_22 ?_
          refine ev_ret rfl (by decide) (by decide) ?_
          show jEv _ _ _ _ _ _ _ (_, [(2, 0), (0, (xs 1)), (0, (xs 2))], [(2, (-1))], _, _, _)
          refine ev_ifnonnull f212_22 (fun c21 => absurd c21 (by decide)) (fun c21 => ?_)
          refine ev_iconst ?_
          refine ev_ret rfl (by decide) (by decide) ?_
          show jEv _ _ _ _ _ _ _ (_, [(2, (-2)), (2, 0), (2, 42), (0, 0)], [(0, (-1))], _, _, _)
          refine ev_aload_n rfl ?_
          refine ev_aload_n rfl ?_
          refine ev_iload_n rfl ?_
          refine ev_iconst ?_
          refine ev_iadd (r := 1) (by decide) ?_
          refine ev_sald (j := 1) (v := (xs 1)) rfl rfl rfl ?_
          refine ev_aload_n rfl ?_
          refine ev_iload_n rfl ?_
          refine ev_iconst ?_
          refine ev_iadd (r := 2) (by decide) ?_
          refine ev_sald (j := 2) (v := (xs 2)) rfl rfl rfl ?_
          refine ev_in (d := 7) (a := 0) (b := 0) (cd' := c371_0) (m := 3) (L0 := [(2, 42), (0, (xs 1)), (0, (xs 2))]) (jcall_v (A := [(0, (xs 2)), (0, (xs 1))]) (S' := [(0, (-1))]) (r := 42) rfl (hF.1.lt (by decide)) (hF.1.sh (by decide) rfl).1 (Nat.le_of_ble_eq_true rfl)) (by decide) ml371 pp371 (Nat.le_of_ble_eq_true rfl) rfl (by decide) (by decide) ?_
          refine ev_iload_n rfl ?_
          refine ev_in (d := 6) (a := 0) (b := 0) (cd' := c370_0) (m := 1) (L0 := [(0, (xs 1))]) (jcall_s (A := [(0, (xs 1))]) (S' := []) (by decide) rfl (Nat.le_of_ble_eq_true rfl)) (by decide) ml370 pp370 (Nat.le_of_ble_eq_true rfl) rfl (by decide) (by decide) ?_
          refine ev_iload_n rfl ?_
          refine ev_iconst ?_
          refine ev_iconst ?_
          refine ev_in (d := 5) (a := 0) (b := 0) (cd' := c242_0) (m := 3) (L0 := [(0, (xs 1)), (0, 0), (0, 5)]) (jcall_s (A := [(0, 5), (0, 0), (0, (xs 1))]) (S' := []) (by decide) rfl (Nat.le_of_ble_eq_true rfl)) (by decide) ml242 pp242 (Nat.le_of_ble_eq_true rfl) rfl (by decide) (by decide) ?_
          refine ev_iload_n rfl ?_
          refine ev_iload_n rfl ?_
          refine ev_icmplt f242_14 (fun c22 => absurd c22 (by omega)) (fun c22 => ?_)
          refine ev_iload_n rfl ?_
          refine ev_iload_n rfl ?_
          refine ev_icmpgt f242_14 (fun c23 => absurd c23 (by omega)) (fun c23 => ?_)
          refine ev_iconst ?_
          refine ev_goto f242_15 ?_
          refine ev_ret rfl (by decide) (by decide) ?_
          show jEv _ _ _ _ _ _ _ (_, [(0, (xs 1))], [(0, 1)], _, _, _)
          refine ev_ret rfl (by decide) (by decide) ?_
          show jEv _ _ _ _ _ _ _ (_, [(2, 42), (0, (xs 1)), (0, (xs 2))], [(0, 1)], _, _, _)
          refine ev_ifeq f371_20 (fun c24 => absurd c24 (by omega)) (fun c24 => ?_)
          refine ev_iload_n rfl ?_
          refine ev_iconst ?_
          refine ev_icmpeq f371_22 (fun c25 => absurd c25 (by omega)) (fun c25 => ?_)
          refine ev_aload_n rfl ?_
          refine ev_iload_n rfl ?_
          refine ev_in (d := 6) (a := 0) (b := 0) (cd' := c284_0) (m := 2) (L0 := [(2, 42), (0, (xs 2))]) (jcall_v (A := [(0, (xs 2))]) (S' := []) (r := 42) rfl (hF.1.lt (by decide)) (hF.1.sh (by decide) rfl).1 (Nat.le_of_ble_eq_true rfl)) (by decide) ml284 pp284 (Nat.le_of_ble_eq_true rfl) rfl (by decide) (by decide) ?_
          refine ev_iload_n rfl ?_
          refine ev_iconst ?_
          refine ev_aload_n rfl ?_
          refine ev_getf (r := 42) (v := 0) (hF.1.lt (by decide)) (hF.1.fam (by decide) (by decide)) ft12_28 ((hF.v rfl)) ?_
          refine ev_iconst ?_
          refine ev_isub (r := (-1)) (by decide) ?_
          refine ev_in (d := 5) (a := 0) (b := 0) (cd' := c242_0) (m := 3) (L0 := [(0, (xs 2)), (0, 0), (0, (-1))]) (jcall_s (A := [(0, (-1)), (0, 0), (0, (xs 2))]) (S' := []) (by decide) rfl (Nat.le_of_ble_eq_true rfl)) (by decide) ml242 pp242 (Nat.le_of_ble_eq_true rfl) rfl (by decide) (by decide) ?_
          refine ev_iload_n rfl ?_
          refine ev_iload_n rfl ?_
          refine ev_icmplt f242_14 (fun c26 => ?_) (fun c26 => absurd c26 (by omega))
          refine ev_iconst ?_
          refine ev_ret rfl (by decide) (by decide) ?_
          show jEv _ _ _ _ _ _ _ (_, [(2, 42), (0, (xs 2))], [(0, 0)], _, _, _)
          refine ev_ret rfl (by decide) (by decide) ?_
          show jEv _ _ _ _ _ _ _ (_, [(2, 42), (0, (xs 1)), (0, (xs 2))], [(0, 0)], _, _, _)
          refine ev_ifne f371_22 (fun c27 => absurd c27 (by omega)) (fun c27 => ?_)
          refine ev_iconst ?_
          refine ev_ret rfl (by decide) (by decide) ?_
          show jEv _ _ _ _ _ _ _ (_, [(2, (-2)), (2, 0), (2, 42), (0, 0)], [(0, (-1)), (0, (-1))], _, _, _)
          refine ev_icmpeq f384_2190 (fun c28 => ?_) (fun c28 => absurd c28 (by omega))
          exact law_tail _
        · refine ev_iload_n rfl ?_
          refine ev_aload_n rfl ?_
          refine ev_getf (r := 0) (v := 0) (hF.1.lt (by decide)) (hF.1.fam (by decide) (by decide)) ft11_7 ((hF.v rfl)) ?_
          refine ev_icmplt f220_16 (fun c29 => absurd c29 (by omega)) (fun c29 => ?_)
          refine ev_aconst_null ?_
          refine ev_goto f220_22 ?_
          refine ev_ret rfl (by decide) (by decide) ?_
          show jEv _ _ _ _ _ _ _ (_, [(2, 0), (0, (xs 1)), (0, (xs 2))], [(2, (-1))], _, _, _)
          refine ev_ifnonnull f212_22 (fun c30 => absurd c30 (by decide)) (fun c30 => ?_)
          refine ev_iconst ?_
          refine ev_ret rfl (by decide) (by decide) ?_
          show jEv _ _ _ _ _ _ _ (_, [(2, (-2)), (2, 0), (2, 42), (0, 0)], [(0, (-1))], _, _, _)
          refine ev_aload_n rfl ?_
          refine ev_aload_n rfl ?_
          refine ev_iload_n rfl ?_
          refine ev_iconst ?_
          refine ev_iadd (r := 1) (by decide) ?_
          refine ev_sald (j := 1) (v := (xs 1)) rfl rfl rfl ?_
          refine ev_aload_n rfl ?_
          refine ev_iload_n rfl ?_
          refine ev_iconst ?_
          refine ev_iadd (r := 2) (by decide) ?_
          refine ev_sald (j := 2) (v := (xs 2)) rfl rfl rfl ?_
          refine ev_in (d := 7) (a := 0) (b := 0) (cd' := c371_0) (m := 3) (L0 := [(2, 42), (0, (xs 1)), (0, (xs 2))]) (jcall_v (A := [(0, (xs 2)), (0, (xs 1))]) (S' := [(0, (-1))]) (r := 42) rfl (hF.1.lt (by decide)) (hF.1.sh (by decide) rfl).1 (Nat.le_of_ble_eq_true rfl)) (by decide) ml371 pp371 (Nat.le_of_ble_eq_true rfl) rfl (by decide) (by decide) ?_
          refine ev_iload_n rfl ?_
          refine ev_in (d := 6) (a := 0) (b := 0) (cd' := c370_0) (m := 1) (L0 := [(0, (xs 1))]) (jcall_s (A := [(0, (xs 1))]) (S' := []) (by decide) rfl (Nat.le_of_ble_eq_true rfl)) (by decide) ml370 pp370 (Nat.le_of_ble_eq_true rfl) rfl (by decide) (by decide) ?_
          refine ev_iload_n rfl ?_
          refine ev_iconst ?_
          refine ev_iconst ?_
          refine ev_in (d := 5) (a := 0) (b := 0) (cd' := c242_0) (m := 3) (L0 := [(0, (xs 1)), (0, 0), (0, 5)]) (jcall_s (A := [(0, 5), (0, 0), (0, (xs 1))]) (S' := []) (by decide) rfl (Nat.le_of_ble_eq_true rfl)) (by decide) ml242 pp242 (Nat.le_of_ble_eq_true rfl) rfl (by decide) (by decide) ?_
          refine ev_iload_n rfl ?_
          refine ev_iload_n rfl ?_
          refine ev_icmplt f242_14 (fun c31 => absurd c31 (by omega)) (fun c31 => ?_)
          refine ev_iload_n rfl ?_
          refine ev_iload_n rfl ?_
          refine ev_icmpgt f242_14 (fun c32 => absurd c32 (by omega)) (fun c32 => ?_)
          refine ev_iconst ?_
          refine ev_goto f242_15 ?_
          refine ev_ret rfl (by decide) (by decide) ?_
          show jEv _ _ _ _ _ _ _ (_, [(0, (xs 1))], [(0, 1)], _, _, _)
          refine ev_ret rfl (by decide) (by decide) ?_
          show jEv _ _ _ _ _ _ _ (_, [(2, 42), (0, (xs 1)), (0, (xs 2))], [(0, 1)], _, _, _)
          refine ev_ifeq f371_20 (fun c33 => absurd c33 (by omega)) (fun c33 => ?_)
          refine ev_iload_n rfl ?_
          refine ev_iconst ?_
          refine ev_icmpeq f371_22 (fun c34 => absurd c34 (by omega)) (fun c34 => ?_)
          refine ev_aload_n rfl ?_
          refine ev_iload_n rfl ?_
          refine ev_in (d := 6) (a := 0) (b := 0) (cd' := c284_0) (m := 2) (L0 := [(2, 42), (0, (xs 2))]) (jcall_v (A := [(0, (xs 2))]) (S' := []) (r := 42) rfl (hF.1.lt (by decide)) (hF.1.sh (by decide) rfl).1 (Nat.le_of_ble_eq_true rfl)) (by decide) ml284 pp284 (Nat.le_of_ble_eq_true rfl) rfl (by decide) (by decide) ?_
          refine ev_iload_n rfl ?_
          refine ev_iconst ?_
          refine ev_aload_n rfl ?_
          refine ev_getf (r := 42) (v := 0) (hF.1.lt (by decide)) (hF.1.fam (by decide) (by decide)) ft12_28 ((hF.v rfl)) ?_
          refine ev_iconst ?_
          refine ev_isub (r := (-1)) (by decide) ?_
          refine ev_in (d := 5) (a := 0) (b := 0) (cd' := c242_0) (m := 3) (L0 := [(0, (xs 2)), (0, 0), (0, (-1))]) (jcall_s (A := [(0, (-1)), (0, 0), (0, (xs 2))]) (S' := []) (by decide) rfl (Nat.le_of_ble_eq_true rfl)) (by decide) ml242 pp242 (Nat.le_of_ble_eq_true rfl) rfl (by decide) (by decide) ?_
          refine ev_iload_n rfl ?_
          refine ev_iload_n rfl ?_
          refine ev_icmplt f242_14 (fun c35 => absurd c35 (by omega)) (fun c35 => ?_)
          refine ev_iload_n rfl ?_
          refine ev_iload_n rfl ?_
          refine ev_icmpgt f242_14 (fun c36 => ?_) (fun c36 => absurd c36 (by omega))
          refine ev_iconst ?_
          refine ev_ret rfl (by decide) (by decide) ?_
          show jEv _ _ _ _ _ _ _ (_, [(2, 42), (0, (xs 2))], [(0, 0)], _, _, _)
          refine ev_ret rfl (by decide) (by decide) ?_
          show jEv _ _ _ _ _ _ _ (_, [(2, 42), (0, (xs 1)), (0, (xs 2))], [(0, 0)], _, _, _)
          refine ev_ifne f371_22 (fun c37 => absurd c37 (by omega)) (fun c37 => ?_)
          refine ev_iconst ?_
          refine ev_ret rfl (by decide) (by decide) ?_
          show jEv _ _ _ _ _ _ _ (_, [(2, (-2)), (2, 0), (2, 42), (0, 0)], [(0, (-1)), (0, (-1))], _, _, _)
          refine ev_icmpeq f384_2190 (fun c38 => ?_) (fun c38 => absurd c38 (by omega))
          exact law_tail _

/-! row -/
set_option maxHeartbeats 4000000 in
theorem case_47 {xs : Nat → Int} (hr : ∀ j, -2147483648 ≤ xs j ∧ xs j < 2147483648) {h : JH} (hF : Fresh h) : jEv (jOk 8) (some 6) xs c384_0 600000 7302250 (fun v _ => v = some (0, 1)) (c384_1921, [(2, -2), (2, 0), (2, 42), (0, 0)], [], h, 83, 23761) := by
  have r1 := hr 1
  have r2 := hr 2
  have r3 := hr 3
  have r4 := hr 4
  have r5 := hr 5
  refine ev_aload_n rfl ?_
  refine ev_aload_n rfl ?_
  refine ev_iload_n rfl ?_
  refine ev_iconst ?_
  refine ev_iadd (r := 1) (by decide) ?_
  refine ev_sald (j := 1) (v := (xs 1)) rfl rfl rfl ?_
  refine ev_aload_n rfl ?_
  refine ev_iload_n rfl ?_
  refine ev_iconst ?_
  refine ev_iadd (r := 2) (by decide) ?_
  refine ev_sald (j := 2) (v := (xs 2)) rfl rfl rfl ?_
  refine ev_aload_n rfl ?_
  refine ev_iload_n rfl ?_
  refine ev_iconst ?_
  refine ev_iadd (r := 3) (by decide) ?_
  refine ev_sald (j := 3) (v := (xs 3)) rfl rfl rfl ?_
  refine ev_in (d := 7) (a := 0) (b := 0) (cd' := c213_0) (m := 5) (L0 := [(2, 0), (0, (xs 1)), (0, (xs 2)), (0, (xs 3)), (9, 0)]) (jcall_v (A := [(0, (xs 3)), (0, (xs 2)), (0, (xs 1))]) (S' := []) (r := 0) rfl (hF.1.lt (by decide)) (hF.1.sh (by decide) rfl).1 (Nat.le_of_ble_eq_true rfl)) (by decide) ml213 pp213 (Nat.le_of_ble_eq_true rfl) rfl (by decide) (by decide) ?_
  refine ev_iload_n rfl ?_
  refine ev_in (d := 6) (a := 0) (b := 0) (cd' := c222_0) (m := 1) (L0 := [(0, (xs 1))]) (jcall_s (A := [(0, (xs 1))]) (S' := []) (by decide) rfl (Nat.le_of_ble_eq_true rfl)) (by decide) ml222 pp222 (Nat.le_of_ble_eq_true rfl) rfl (by decide) (by decide) ?_
  refine ev_iload_n rfl ?_
  refine ev_iflt f222_14 (fun c1 => ?_) (fun c1 => ?_)
  · refine ev_iconst ?_
    refine ev_ret rfl (by decide) (by decide) ?_
    show jEv _ _ _ _ _ _ _ (_, [(2, 0), (0, (xs 1)), (0, (xs 2)), (0, (xs 3)), (9, 0)], [(0, 0)], _, _, _)
    refine ev_ifeq f213_22 (fun c2 => ?_) (fun c2 => absurd c2 (by omega))
    refine ev_iconst ?_
    refine ev_ret rfl (by decide) (by decide) ?_
    show jEv _ _ _ _ _ _ _ (_, [(2, (-2)), (2, 0), (2, 42), (0, 0)], [(0, (-1))], _, _, _)
    refine ev_aload_n rfl ?_
    refine ev_aload_n rfl ?_
    refine ev_iload_n rfl ?_
    refine ev_iconst ?_
    refine ev_iadd (r := 1) (by decide) ?_
    refine ev_sald (j := 1) (v := (xs 1)) rfl rfl rfl ?_
    refine ev_aload_n rfl ?_
    refine ev_iload_n rfl ?_
    refine ev_iconst ?_
    refine ev_iadd (r := 2) (by decide) ?_
    refine ev_sald (j := 2) (v := (xs 2)) rfl rfl rfl ?_
    refine ev_aload_n rfl ?_
    refine ev_iload_n rfl ?_
    refine ev_iconst ?_
    refine ev_iadd (r := 3) (by decide) ?_
    refine ev_sald (j := 3) (v := (xs 3)) rfl rfl rfl ?_
    refine ev_in (d := 7) (a := 0) (b := 0) (cd' := c372_0) (m := 5) (L0 := [(2, 42), (0, (xs 1)), (0, (xs 2)), (0, (xs 3)), (9, 0)]) (jcall_v (A := [(0, (xs 3)), (0, (xs 2)), (0, (xs 1))]) (S' := [(0, (-1))]) (r := 42) rfl (hF.1.lt (by decide)) (hF.1.sh (by decide) rfl).1 (Nat.le_of_ble_eq_true rfl)) (by decide) ml372 pp372 (Nat.le_of_ble_eq_true rfl) rfl (by decide) (by decide) ?_
    refine ev_iload_n rfl ?_
    refine ev_in (d := 6) (a := 0) (b := 0) (cd' := c370_0) (m := 1) (L0 := [(0, (xs 1))]) (jcall_s (A := [(0, (xs 1))]) (S' := []) (by decide) rfl (Nat.le_of_ble_eq_true rfl)) (by decide) ml370 pp370 (Nat.le_of_ble_eq_true rfl) rfl (by decide) (by decide) ?_
    refine ev_iload_n rfl ?_
    refine ev_iconst ?_
    refine ev_iconst ?_
    refine ev_in (d := 5) (a := 0) (b := 0) (cd' := c242_0) (m := 3) (L0 := [(0, (xs 1)), (0, 0), (0, 5)]) (jcall_s (A := [(0, 5), (0, 0), (0, (xs 1))]) (S' := []) (by decide) rfl (Nat.le_of_ble_eq_true rfl)) (by decide) ml242 pp242 (Nat.le_of_ble_eq_true rfl) rfl (by decide) (by decide) ?_
    refine ev_iload_n rfl ?_
    refine ev_iload_n rfl ?_
    refine ev_icmplt f242_14 (fun c3 => ?_) (fun c3 => absurd c3 (by omega))
    refine ev_iconst ?_
    refine ev_ret rfl (by decide) (by decide) ?_
    show jEv _ _ _ _ _ _ _ (_, [(0, (xs 1))], [(0, 0)], _, _, _)
    refine ev_ret rfl (by decide) (by decide) ?_
    show jEv _ _ _ _ _ _ _ (_, [(2, 42), (0, (xs 1)), (0, (xs 2)), (0, (xs 3)), (9, 0)], [(0, 0)], _, _, _)
    refine ev_ifeq f372_22 (fun c4 => ?_) (fun c4 => absurd c4 (by omega))
    refine ev_iconst ?_
    refine ev_ret rfl (by decide) (by decide) ?_
    show jEv _ _ _ _ _ _ _ (_, [(2, (-2)), (2, 0), (2, 42), (0, 0)], [(0, (-1)), (0, (-1))], _, _, _)
    refine ev_icmpeq f384_2190 (fun c5 => ?_) (fun c5 => absurd c5 (by omega))
    exact law_tail _
  · refine ev_iload_n rfl ?_
    refine ev_bipush ?_
    refine ev_icmpge f222_14 (fun c6 => ?_) (fun c6 => ?_)
    · refine ev_iconst ?_
      refine ev_ret rfl (by decide) (by decide) ?_
      show jEv _ _ _ _ _ _ _ (_, [(2, 0), (0, (xs 1)), (0, (xs 2)), (0, (xs 3)), (9, 0)], [(0, 0)], _, _, _)
      refine ev_ifeq f213_22 (fun c7 => ?_) (fun c7 => absurd c7 (by omega))
      refine ev_iconst ?_
      refine ev_ret rfl (by decide) (by decide) ?_
      show jEv _ _ _ _ _ _ _ (_, [(2, (-2)), (2, 0), (2, 42), (0, 0)], [(0, (-1))], _, _, _)
      refine ev_aload_n rfl ?_
      refine ev_aload_n rfl ?_
      refine ev_iload_n rfl ?_
      refine ev_iconst ?_
      refine ev_iadd (r := 1) (by decide) ?_
      refine ev_sald (j := 1) (v := (xs 1)) rfl rfl rfl ?_
      refine ev_aload_n rfl ?_
      refine ev_iload_n rfl ?_
      refine ev_iconst ?_
      refine ev_iadd (r := 2) (by decide) ?_
      refine ev_sald (j := 2) (v := (xs 2)) rfl rfl rfl ?_
      refine ev_aload_n rfl ?_
      refine ev_iload_n rfl ?_
      refine ev_iconst ?_
      refine ev_iadd (r := 3) (by decide) ?_
      refine ev_sald (j := 3) (v := (xs 3)) rfl rfl rfl ?_
      refine ev_in (d := 7) (a := 0) (b := 0) (cd' := c372_0) (m := 5) (L0 := [(2, 42), (0, (xs 1)), (0, (xs 2)), (0, (xs 3)), (9, 0)]) (jcall_v (A := [(0, (xs 3)), (0, (xs 2)), (0, (xs 1))]) (S' := [(0, (-1))]) (r := 42) rfl (hF.1.lt (by decide)) (hF.1.sh (by decide) rfl).1 (Nat.le_of_ble_eq_true rfl)) (by decide) ml372 pp372 (Nat.le_of_ble_eq_true rfl) rfl (by decide) (by decide) ?_
      refine ev_iload_n rfl ?_
      refine ev_in (d := 6) (a := 0) (b := 0) (cd' := c370_0) (m := 1) (L0 := [(0, (xs 1))]) (jcall_s (A := [(0, (xs 1))]) (S' := []) (by decide) rfl (Nat.le_of_ble_eq_true rfl)) (by decide) ml370 pp370 (Nat.le_of_ble_eq_true rfl) rfl (by decide) (by decide) ?_
      refine ev_iload_n rfl ?_
      refine ev_iconst ?_
      refine ev_iconst ?_
      refine ev_in (d := 5) (a := 0) (b := 0) (cd' := c242_0) (m := 3) (L0 := [(0, (xs 1)), (0, 0), (0, 5)]) (jcall_s (A := [(0, 5), (0, 0), (0, (xs 1))]) (S' := []) (by decide) rfl (Nat.le_of_ble_eq_true rfl)) (by decide) ml242 pp242 (Nat.le_of_ble_eq_true rfl) rfl (by decide) (by decide) ?_
      refine ev_iload_n rfl ?_
      refine ev_iload_n rfl ?_
      refine ev_icmplt f242_14 (fun c8 => absurd c8 (by omega)) (fun c8 => ?_)
      refine ev_iload_n rfl ?_
      refine ev_iload_n rfl ?_
      refine ev_icmpgt f242_14 (fun c9 => ?_) (fun c9 => absurd c9 (by omega))
      refine ev_iconst ?_
      refine ev_ret rfl (by decide) (by decide) ?_
      show jEv _ _ _ _ _ _ _ (_, [(0, (xs 1))], [(0, 0)], _, _, _)
      refine ev_ret rfl (by decide) (by decide) ?_
      show jEv _ _ _ _ _ _ _ (_, [(2, 42), (0, (xs 1)), (0, (xs 2)), (0, (xs 3)), (9, 0)], [(0, 0)], _, _, _)
      refine ev_ifeq f372_22 (fun c10 => ?_) (fun c10 => absurd c10 (by omega))
      refine ev_iconst ?_
      refine ev_ret rfl (by decide) (by decide) ?_
      show jEv _ _ _ _ _ _ _ (_, [(2, (-2)), (2, 0), (2, 42), (0, 0)], [(0, (-1)), (0, (-1))], _, _, _)
      refine ev_icmpeq f384_2190 (fun c11 => ?_) (fun c11 => absurd c11 (by omega))
      exact law_tail _
    · refine ev_iconst ?_
      refine ev_goto f222_15 ?_
      refine ev_ret rfl (by decide) (by decide) ?_
      show jEv _ _ _ _ _ _ _ (_, [(2, 0), (0, (xs 1)), (0, (xs 2)), (0, (xs 3)), (9, 0)], [(0, 1)], _, _, _)
      refine ev_ifeq f213_22 (fun c12 => absurd c12 (by omega)) (fun c12 => ?_)
      refine ev_iload_n rfl ?_
      refine ev_iflt f213_22 (fun c13 => ?_) (fun c13 => ?_)
      · refine ev_iconst ?_
        refine ev_ret rfl (by decide) (by decide) ?_
        show jEv _ _ _ _ _ _ _ (_, [(2, (-2)), (2, 0), (2, 42), (0, 0)], [(0, (-1))], _, _, _)
        refine ev_aload_n rfl ?_
        refine ev_aload_n rfl ?_
        refine ev_iload_n rfl ?_
        refine ev_iconst ?_
        refine ev_iadd (r := 1) (by decide) ?_
        refine ev_sald (j := 1) (v := (xs 1)) rfl rfl rfl ?_
        refine ev_aload_n rfl ?_
        refine ev_iload_n rfl ?_
        refine ev_iconst ?_
        refine ev_iadd (r := 2) (by decide) ?_
        refine ev_sald (j := 2) (v := (xs 2)) rfl rfl rfl ?_
        refine ev_aload_n rfl ?_
        refine ev_iload_n rfl ?_
        refine ev_iconst ?_
        refine ev_iadd (r := 3) (by decide) ?_
        refine ev_sald (j := 3) (v := (xs 3)) rfl rfl rfl ?_
        refine ev_in (d := 7) (a := 0) (b := 0) (cd' := c372_0) (m := 5) (L0 := [(2, 42), (0, (xs 1)), (0, (xs 2)), (0, (xs 3)), (9, 0)]) (jcall_v (A := [(0, (xs 3)), (0, (xs 2)), (0, (xs 1))]) (S' := [(0, (-1))]) (r := 42) rfl (hF.1.lt (by decide)) (hF.1.sh (by decide) rfl).1 (Nat.le_of_ble_eq_true rfl)) (by decide) ml372 pp372 (Nat.le_of_ble_eq_true rfl) rfl (by decide) (by decide) ?_
        refine ev_iload_n rfl ?_
        refine ev_in (d := 6) (a := 0) (b := 0) (cd' := c370_0) (m := 1) (L0 := [(0, (xs 1))]) (jcall_s (A := [(0, (xs 1))]) (S' := []) (by decide) rfl (Nat.le_of_ble_eq_true rfl)) (by decide) ml370 pp370 (Nat.le_of_ble_eq_true rfl) rfl (by decide) (by decide) ?_
        refine ev_iload_n rfl ?_
        refine ev_iconst ?_
        refine ev_iconst ?_
        refine ev_in (d := 5) (a := 0) (b := 0) (cd' := c242_0) (m := 3) (L0 := [(0, (xs 1)), (0, 0), (0, 5)]) (jcall_s (A := [(0, 5), (0, 0), (0, (xs 1))]) (S' := []) (by decide) rfl (Nat.le_of_ble_eq_true rfl)) (by decide) ml242 pp242 (Nat.le_of_ble_eq_true rfl) rfl (by decide) (by decide) ?_
        refine ev_iload_n rfl ?_
        refine ev_iload_n rfl ?_
        refine ev_icmplt f242_14 (fun c14 => absurd c14 (by omega)) (fun c14 => ?_)
        refine ev_iload_n rfl ?_
        refine ev_iload_n rfl ?_
        refine ev_icmpgt f242_14 (fun c15 => absurd c15 (by omega)) (fun c15 => ?_)
        refine ev_iconst ?_
        refine ev_goto f242_15 ?_
        refine ev_ret rfl (by decide) (by decide) ?_
        show jEv _ _ _ _ _ _ _ (_, [(0, (xs 1))], [(0, 1)], _, _, _)
        refine ev_ret rfl (by decide) (by decide) ?_
        show jEv _ _ _ _ _ _ _ (_, [(2, 42), (0, (xs 1)), (0, (xs 2)), (0, (xs 3)), (9, 0)], [(0, 1)], _, _, _)
        refine ev_ifeq f372_22 (fun c16 => absurd c16 (by omega)) (fun c16 => ?_)
        refine ev_iload_n rfl ?_
        refine ev_iconst ?_
        refine ev_iconst ?_
        refine ev_in (d := 6) (a := 0) (b := 0) (cd' := c242_0) (m := 3) (L0 := [(0, (xs 2)), (0, 0), (0, 4)]) (jcall_s (A := [(0, 4), (0, 0), (0, (xs 2))]) (S' := []) (by decide) rfl (Nat.le_of_ble_eq_true rfl)) (by decide) ml242 pp242 (Nat.le_of_ble_eq_true rfl) rfl (by decide) (by decide) ?_
        refine ev_iload_n rfl ?_
        refine ev_iload_n rfl ?_
        refine ev_icmplt f242_14 (fun c17 => ?_) (fun c17 => absurd c17 (by omega))
        refine ev_iconst ?_
        refine ev_ret rfl (by decide) (by decide) ?_
        show jEv _ _ _ _ _ _ _ (_, [(2, 42), (0, (xs 1)), (0, (xs 2)), (0, (xs 3)), (9, 0)], [(0, 0)], _, _, _)
        refine ev_ifeq f372_22 (fun c18 => ?_) (fun c18 => absurd c18 (by omega))
        refine ev_iconst ?_
        refine ev_ret rfl (by decide) (by decide) ?_
        show jEv _ _ _ _ _ _ _ (_, [(2, (-2)), (2, 0), (2, 42), (0, 0)], [(0, (-1)), (0, (-1))], _, _, _)
        refine ev_icmpeq f384_2190 (fun c19 => ?_) (fun c19 => absurd c19 (by omega))
        exact law_tail _
      · refine ev_iload_n rfl ?_
        refine ev_iconst ?_
        refine ev_icmpge f213_22 (fun c20 => ?_) (fun c20 => ?_)
        · refine ev_iconst ?_
          refine ev_ret rfl (by decide) (by decide) ?_
          show jEv _ _ _ _ _ _ _ (_, [(2, (-2)), (2, 0), (2, 42), (0, 0)], [(0, (-1))], _, _, _)
          refine ev_aload_n rfl ?_
          refine ev_aload_n rfl ?_
          refine ev_iload_n rfl ?_
          refine ev_iconst ?_
          refine ev_iadd (r := 1) (by decide) ?_
          refine ev_sald (j := 1) (v := (xs 1)) rfl rfl rfl ?_
          refine ev_aload_n rfl ?_
          refine ev_iload_n rfl ?_
          refine ev_iconst ?_
          refine ev_iadd (r := 2) (by decide) ?_
          refine ev_sald (j := 2) (v := (xs 2)) rfl rfl rfl ?_
          refine ev_aload_n rfl ?_
          refine ev_iload_n rfl ?_
          refine ev_iconst ?_
          refine ev_iadd (r := 3) (by decide) ?_
          refine ev_sald (j := 3) (v := (xs 3)) rfl rfl rfl ?_
          refine ev_in (d := 7) (a := 0) (b := 0) (cd' := c372_0) (m := 5) (L0 := [(2, 42), (0, (xs 1)), (0, (xs 2)), (0, (xs 3)), (9, 0)]) (jcall_v (A := [(0, (xs 3)), (0, (xs 2)), (0, (xs 1))]) (S' := [(0, (-1))]) (r := 42) rfl (hF.1.lt (by decide)) (hF.1.sh (by decide) rfl).1 (Nat.le_of_ble_eq_true rfl)) (by decide) ml372 pp372 (Nat.le_of_ble_eq_true rfl) rfl (by decide) (by decide) ?_
          refine ev_iload_n rfl ?_
          refine ev_in (d := 6) (a := 0) (b := 0) (cd' := c370_0) (m := 1) (L0 := [(0, (xs 1))]) (jcall_s (A := [(0, (xs 1))]) (S' := []) (by decide) rfl (Nat.le_of_ble_eq_true rfl)) (by decide) ml370 pp370 (Nat.le_of_ble_eq_true rfl) rfl (by decide) (by decide) ?_
          refine ev_iload_n rfl ?_
          refine ev_iconst ?_
          refine ev_iconst ?_
          refine ev_in (d := 5) (a := 0) (b := 0) (cd' := c242_0) (m := 3) (L0 := [(0, (xs 1)), (0, 0), (0, 5)]) (jcall_s (A := [(0, 5), (0, 0), (0, (xs 1))]) (S' := []) (by decide) rfl (Nat.le_of_ble_eq_true rfl)) (by decide) ml242 pp242 (Nat.le_of_ble_eq_true rfl) rfl (by decide) (by decide) ?_
          refine ev_iload_n rfl ?_
          refine ev_iload_n rfl ?_
          refine ev_icmplt f242_14 (fun c21 => absurd c21 (by omega)) (fun c21 => ?_)
          refine ev_iload_n rfl ?_
          refine ev_iload_n rfl ?_
          refine ev_icmpgt f242_14 (fun c22 => absurd c22 (by omega)) (fun c22 => ?_)
          refine ev_iconst ?_
          refine ev_goto f242_15 ?_
          refine ev_ret rfl (by decide) (by decide) ?_
          show jEv _ _ _ _ _ _ _ (_, [(0, (xs 1))], [(0, 1)], _, _, _)
          refine ev_ret rfl (by decide) (by decide) ?_
          show jEv _ _ _ _ _ _ _ (_, [(2, 42), (0, (xs 1)), (0, (xs 2)), (0, (xs 3)), (9, 0)], [(0, 1)], _, _, _)
          refine ev_ifeq f372_22 (fun c23 => absurd c23 (by omega)) (fun c23 => ?_)
          refine ev_iload_n rfl ?_
          refine ev_iconst ?_
          refine ev_iconst ?_
          refine ev_in (d := 6) (a := 0) (b := 0) (cd' := c242_0) (m := 3) (L0 := [(0, (xs 2)), (0, 0), (0, 4)]) (jcall_s (A := [(0, 4), (0, 0), (0, (xs 2))]) (S' := []) (by decide) rfl (Nat.le_of_ble_eq_true rfl)) (by decide) ml242 pp242 (Nat.le_of_ble_eq_true rfl) rfl (by decide) (by decide) ?_
          refine ev_iload_n rfl ?_
          refine ev_iload_n rfl ?_
          refine ev_icmplt f242_14 (fun c24 => absurd c24 (by omega)) (fun c24 => ?_)
          refine ev_iload_n rfl ?_
          refine ev_iload_n rfl ?_
          refine ev_icmpgt f242_14 (fun c25 => ?_) (fun c25 => absurd c25 (by omega))
          refine ev_iconst ?_
          refine ev_ret rfl (by decide) (by decide) ?_
          show jEv _ _ _ _ _ _ _ (_, [(2, 42), (0, (xs 1)), (0, (xs 2)), (0, (xs 3)), (9, 0)], [(0, 0)], _, _, _)
          refine ev_ifeq f372_22 (fun c26 => ?_) (fun c26 => absurd c26 (by omega))
          refine ev_iconst ?_
          refine ev_ret rfl (by decide) (by decide) ?_
          show jEv _ _ _ _ _ _ _ (_, [(2, (-2)), (2, 0), (2, 42), (0, 0)], [(0, (-1)), (0, (-1))], _, _, _)
          refine ev_icmpeq f384_2190 (fun c27 => ?_) (fun c27 => absurd c27 (by omega))
          exact law_tail _
        · refine ev_iload_n rfl ?_
          refine ev_bipush ?_
          refine ev_icmple f213_24 (fun c28 => ?_) (fun c28 => ?_)
          · refine ev_iload_n rfl ?_
            refine ev_ifge f213_31 (fun c29 => ?_) (fun c29 => ?_)
            · refine ev_aload_n rfl ?_
              refine ev_getf (r := 0) (v := 37) (hF.1.lt (by decide)) (hF.1.fam (by decide) (by decide)) ft11_12 ((hF.v rfl)) ?_
              refine ev_iload_n rfl ?_
              refine ev_iload_n rfl ?_
              refine ev_iastG (r := 37) (j := ((xs 1)).toNat) (hF.1.lt (by decide)) (hF.1.sh (by decide) rfl).1 (by omega) (hF.1.inbx (by decide) (n := 6) (by decide) (by omega)) (fun h219 e219 => ?_)
              have hS219 := hF.1.wr e219
              refine ev_aload_n rfl ?_
              refine ev_getf (r := 0) (v := 38) (hS219.lt (by decide)) (hS219.fam (by decide) (by decide)) ft11_13 ((jw_ne e219 (Or.inl (by decide))).trans ((hF.v rfl))) ?_
              refine ev_iload_n rfl ?_
              refine ev_iload_n rfl ?_
              refine ev_iastG (r := 38) (j := ((xs 1)).toNat) (hS219.lt (by decide)) (hS219.sh (by decide) rfl).1 (by omega) (hS219.inbx (by decide) (n := 6) (by decide) (by omega)) (fun h220 e220 => ?_)
              have hS220 := hS219.wr e220
              refine ev_iconst ?_
              refine ev_istore (L' := [(2, 0), (0, (xs 1)), (0, (xs 2)), (0, (xs 3)), (0, 0)]) (Nat.le_of_ble_eq_true rfl) rfl ?_
              refine row_c (by omega) (by omega) (by omega) ((xs 3)).toNat 0 _ (by omega) (by omega) hS220 ((jw_ne e220 (Or.inl (by decide))).trans ((jw_ne e219 (Or.inl (by decide))).trans ((hF.v rfl)))) (fun h221 e221 => ?_)
              have hS221 := e221.1
              refine ev_iconst ?_
              refine ev_ret rfl (by decide) (by decide) ?_
              show jEv _ _ _ _ _ _ _ (_, [(2, (-2)), (2, 0), (2, 42), (0, 0)], [(0, 1)], _, _, _)
              refine ev_aload_n rfl ?_
              refine ev_aload_n rfl ?_
              refine ev_iload_n rfl ?_
              refine ev_iconst ?_
              refine ev_iadd (r := 1) (by decide) ?_
              refine ev_sald (j := 1) (v := (xs 1)) rfl rfl rfl ?_
              refine ev_aload_n rfl ?_
              refine ev_iload_n rfl ?_
              refine ev_iconst ?_
              refine ev_iadd (r := 2) (by decide) ?_
              refine ev_sald (j := 2) (v := (xs 2)) rfl rfl rfl ?_
              refine ev_aload_n rfl ?_
              refine ev_iload_n rfl ?_
              refine ev_iconst ?_
              refine ev_iadd (r := 3) (by decide) ?_
              refine ev_sald (j := 3) (v := (xs 3)) rfl rfl rfl ?_
              refine ev_in (d := 7) (a := 0) (b := 0) (cd' := c372_0) (m := 5) (L0 := [(2, 42), (0, (xs 1)), (0, (xs 2)), (0, (xs 3)), (9, 0)]) (jcall_v (A := [(0, (xs 3)), (0, (xs 2)), (0, (xs 1))]) (S' := [(0, 1)]) (r := 42) rfl (hS221.lt (by decide)) (hS221.sh (by decide) rfl).1 (Nat.le_of_ble_eq_true rfl)) (by decide) ml372 pp372 (Nat.le_of_ble_eq_true rfl) rfl (by decide) (by decide) ?_
              refine ev_iload_n rfl ?_
              refine ev_in (d := 6) (a := 0) (b := 0) (cd' := c370_0) (m := 1) (L0 := [(0, (xs 1))]) (jcall_s (A := [(0, (xs 1))]) (S' := []) (by decide) rfl (Nat.le_of_ble_eq_true rfl)) (by decide) ml370 pp370 (Nat.le_of_ble_eq_true rfl) rfl (by decide) (by decide) ?_
              refine ev_iload_n rfl ?_
              refine ev_iconst ?_
              refine ev_iconst ?_
              refine ev_in (d := 5) (a := 0) (b := 0) (cd' := c242_0) (m := 3) (L0 := [(0, (xs 1)), (0, 0), (0, 5)]) (jcall_s (A := [(0, 5), (0, 0), (0, (xs 1))]) (S' := []) (by decide) rfl (Nat.le_of_ble_eq_true rfl)) (by decide) ml242 pp242 (Nat.le_of_ble_eq_true rfl) rfl (by decide) (by decide) ?_
              refine ev_iload_n rfl ?_
              refine ev_iload_n rfl ?_
              refine ev_icmplt f242_14 (fun c30 => absurd c30 (by omega)) (fun c30 => ?_)
              refine ev_iload_n rfl ?_
              refine ev_iload_n rfl ?_
              refine ev_icmpgt f242_14 (fun c31 => absurd c31 (by omega)) (fun c31 => ?_)
              refine ev_iconst ?_
              refine ev_goto f242_15 ?_
              refine ev_ret rfl (by decide) (by decide) ?_
              show jEv _ _ _ _ _ _ _ (_, [(0, (xs 1))], [(0, 1)], _, _, _)
              refine ev_ret rfl (by decide) (by decide) ?_
              show jEv _ _ _ _ _ _ _ (_, [(2, 42), (0, (xs 1)), (0, (xs 2)), (0, (xs 3)), (9, 0)], [(0, 1)], _, _, _)
              refine ev_ifeq f372_22 (fun c32 => absurd c32 (by omega)) (fun c32 => ?_)
              refine ev_iload_n rfl ?_
              refine ev_iconst ?_
              refine ev_iconst ?_
              refine ev_in (d := 6) (a := 0) (b := 0) (cd' := c242_0) (m := 3) (L0 := [(0, (xs 2)), (0, 0), (0, 4)]) (jcall_s (A := [(0, 4), (0, 0), (0, (xs 2))]) (S' := []) (by decide) rfl (Nat.le_of_ble_eq_true rfl)) (by decide) ml242 pp242 (Nat.le_of_ble_eq_true rfl) rfl (by decide) (by decide) ?_
              refine ev_iload_n rfl ?_
              refine ev_iload_n rfl ?_
              refine ev_icmplt f242_14 (fun c33 => absurd c33 (by omega)) (fun c33 => ?_)
              refine ev_iload_n rfl ?_
              refine ev_iload_n rfl ?_
              refine ev_icmpgt f242_14 (fun c34 => absurd c34 (by omega)) (fun c34 => ?_)
              refine ev_iconst ?_
              refine ev_goto f242_15 ?_
              refine ev_ret rfl (by decide) (by decide) ?_
              show jEv _ _ _ _ _ _ _ (_, [(2, 42), (0, (xs 1)), (0, (xs 2)), (0, (xs 3)), (9, 0)], [(0, 1)], _, _, _)
              refine ev_ifeq f372_22 (fun c35 => absurd c35 (by omega)) (fun c35 => ?_)
              refine ev_iload_n rfl ?_
              refine ev_bipush ?_
              refine ev_icmple f372_24 (fun c36 => ?_) (fun c36 => absurd c36 (by omega))
              refine ev_iload_n rfl ?_
              refine ev_ifge f372_31 (fun c37 => ?_) (fun c37 => absurd c37 (by omega))
              refine ev_aload_n rfl ?_
              refine ev_getf (r := 42) (v := 79) (hS221.lt (by decide)) (hS221.fam (by decide) (by decide)) ft12_62 ((e221.v (by decide)).trans ((jw_ne e220 (Or.inl (by decide))).trans ((jw_ne e219 (Or.inl (by decide))).trans ((hF.v rfl))))) ?_
              refine ev_iload_n rfl ?_
              refine ev_bipush ?_
              refine ev_iload_n rfl ?_
              refine ev_isub (r := ((-(xs 2)) - 2)) (by unfold w32; omega) ?_
              refine ev_iastG (r := 79) (j := ((xs 1)).toNat) (hS221.lt (by decide)) (hS221.sh (by decide) rfl).1 (by omega) (hS221.inbx (by decide) (n := 6) (by decide) (by omega)) (fun h222 e222 => ?_)
              have hS222 := hS221.wr e222
              refine ev_aload_n rfl ?_
              refine ev_getf (r := 42) (v := 80) (hS222.lt (by decide)) (hS222.fam (by decide) (by decide)) ft12_63 ((jw_ne e222 (Or.inl (by decide))).trans ((e221.v (by decide)).trans ((jw_ne e220 (Or.inl (by decide))).trans ((jw_ne e219 (Or.inl (by decide))).trans ((hF.v rfl)))))) ?_
              refine ev_iload_n rfl ?_
              refine ev_iload_n rfl ?_
              refine ev_iastG (r := 80) (j := ((xs 1)).toNat) (hS222.lt (by decide)) (hS222.sh (by decide) rfl).1 (by omega) (hS222.inbx (by decide) (n := 6) (by decide) (by omega)) (fun h223 e223 => ?_)
              have hS223 := hS222.wr e223
              refine ev_bipush ?_
              refine ev_iload_n rfl ?_
              refine ev_imul (r := (60 * (xs 1))) (by unfold w32; omega) ?_
              refine ev_istore (L' := [(2, 42), (0, (xs 1)), (0, (xs 2)), (0, (xs 3)), (0, (60 * (xs 1)))]) (Nat.le_of_ble_eq_true rfl) rfl ?_
              refine row_m (by omega) (by omega) 60 ((60 * (xs 1))) _ (by omega) (by omega) hS223 ((jw_ne e223 (Or.inl (by decide))).trans ((jw_ne e222 (Or.inl (by decide))).trans ((e221.v (by decide)).trans ((jw_ne e220 (Or.inl (by decide))).trans ((jw_ne e219 (Or.inl (by decide))).trans ((hF.v rfl))))))) (fun h224 e224 => ?_)
              have hS224 := e224.1
              refine ev_iconst ?_
              refine ev_ret rfl (by decide) (by decide) ?_
              show jEv _ _ _ _ _ _ _ (_, [(2, (-2)), (2, 0), (2, 42), (0, 0)], [(0, 1), (0, 1)], _, _, _)
              refine ev_icmpeq f384_2190 (fun c38 => ?_) (fun c38 => absurd c38 (by omega))
              exact law_tail _
            · refine ev_bipush ?_
              refine ev_ret rfl (by decide) (by decide) ?_
              show jEv _ _ _ _ _ _ _ (_, [(2, (-2)), (2, 0), (2, 42), (0, 0)], [(0, (-14))], _, _, _)
              refine ev_aload_n rfl ?_
              refine ev_aload_n rfl ?_
              refine ev_iload_n rfl ?_
              refine ev_iconst ?_
              refine ev_iadd (r := 1) (by decide) ?_
              refine ev_sald (j := 1) (v := (xs 1)) rfl rfl rfl ?_
              refine ev_aload_n rfl ?_
              refine ev_iload_n rfl ?_
              refine ev_iconst ?_
              refine ev_iadd (r := 2) (by decide) ?_
              refine ev_sald (j := 2) (v := (xs 2)) rfl rfl rfl ?_
              refine ev_aload_n rfl ?_
              refine ev_iload_n rfl ?_
              refine ev_iconst ?_
              refine ev_iadd (r := 3) (by decide) ?_
              refine ev_sald (j := 3) (v := (xs 3)) rfl rfl rfl ?_
              refine ev_in (d := 7) (a := 0) (b := 0) (cd' := c372_0) (m := 5) (L0 := [(2, 42), (0, (xs 1)), (0, (xs 2)), (0, (xs 3)), (9, 0)]) (jcall_v (A := [(0, (xs 3)), (0, (xs 2)), (0, (xs 1))]) (S' := [(0, (-14))]) (r := 42) rfl (hF.1.lt (by decide)) (hF.1.sh (by decide) rfl).1 (Nat.le_of_ble_eq_true rfl)) (by decide) ml372 pp372 (Nat.le_of_ble_eq_true rfl) rfl (by decide) (by decide) ?_
              refine ev_iload_n rfl ?_
              refine ev_in (d := 6) (a := 0) (b := 0) (cd' := c370_0) (m := 1) (L0 := [(0, (xs 1))]) (jcall_s (A := [(0, (xs 1))]) (S' := []) (by decide) rfl (Nat.le_of_ble_eq_true rfl)) (by decide) ml370 pp370 (Nat.le_of_ble_eq_true rfl) rfl (by decide) (by decide) ?_
              refine ev_iload_n rfl ?_
              refine ev_iconst ?_
              refine ev_iconst ?_
              refine ev_in (d := 5) (a := 0) (b := 0) (cd' := c242_0) (m := 3) (L0 := [(0, (xs 1)), (0, 0), (0, 5)]) (jcall_s (A := [(0, 5), (0, 0), (0, (xs 1))]) (S' := []) (by decide) rfl (Nat.le_of_ble_eq_true rfl)) (by decide) ml242 pp242 (Nat.le_of_ble_eq_true rfl) rfl (by decide) (by decide) ?_
              refine ev_iload_n rfl ?_
              refine ev_iload_n rfl ?_
              refine ev_icmplt f242_14 (fun c39 => absurd c39 (by omega)) (fun c39 => ?_)
              refine ev_iload_n rfl ?_
              refine ev_iload_n rfl ?_
              refine ev_icmpgt f242_14 (fun c40 => absurd c40 (by omega)) (fun c40 => ?_)
              refine ev_iconst ?_
              refine ev_goto f242_15 ?_
              refine ev_ret rfl (by decide) (by decide) ?_
              show jEv _ _ _ _ _ _ _ (_, [(0, (xs 1))], [(0, 1)], _, _, _)
              refine ev_ret rfl (by decide) (by decide) ?_
              show jEv _ _ _ _ _ _ _ (_, [(2, 42), (0, (xs 1)), (0, (xs 2)), (0, (xs 3)), (9, 0)], [(0, 1)], _, _, _)
              refine ev_ifeq f372_22 (fun c41 => absurd c41 (by omega)) (fun c41 => ?_)
              refine ev_iload_n rfl ?_
              refine ev_iconst ?_
              refine ev_iconst ?_
              refine ev_in (d := 6) (a := 0) (b := 0) (cd' := c242_0) (m := 3) (L0 := [(0, (xs 2)), (0, 0), (0, 4)]) (jcall_s (A := [(0, 4), (0, 0), (0, (xs 2))]) (S' := []) (by decide) rfl (Nat.le_of_ble_eq_true rfl)) (by decide) ml242 pp242 (Nat.le_of_ble_eq_true rfl) rfl (by decide) (by decide) ?_
              refine ev_iload_n rfl ?_
              refine ev_iload_n rfl ?_
              refine ev_icmplt f242_14 (fun c42 => absurd c42 (by omega)) (fun c42 => ?_)
              refine ev_iload_n rfl ?_
              refine ev_iload_n rfl ?_
              refine ev_icmpgt f242_14 (fun c43 => absurd c43 (by omega)) (fun c43 => ?_)
              refine ev_iconst ?_
              refine ev_goto f242_15 ?_
              refine ev_ret rfl (by decide) (by decide) ?_
              show jEv _ _ _ _ _ _ _ (_, [(2, 42), (0, (xs 1)), (0, (xs 2)), (0, (xs 3)), (9, 0)], [(0, 1)], _, _, _)
              refine ev_ifeq f372_22 (fun c44 => absurd c44 (by omega)) (fun c44 => ?_)
              refine ev_iload_n rfl ?_
              refine ev_bipush ?_
              refine ev_icmple f372_24 (fun c45 => ?_) (fun c45 => absurd c45 (by omega))
              refine ev_iload_n rfl ?_
              refine ev_ifge f372_31 (fun c46 => absurd c46 (by omega)) (fun c46 => ?_)
              refine ev_bipush ?_
              refine ev_ret rfl (by decide) (by decide) ?_
              show jEv _ _ _ _ _ _ _ (_, [(2, (-2)), (2, 0), (2, 42), (0, 0)], [(0, (-14)), (0, (-14))], _, _, _)
              refine ev_icmpeq f384_2190 (fun c47 => ?_) (fun c47 => absurd c47 (by omega))
              exact law_tail _
          · refine ev_iconst ?_
            refine ev_ret rfl (by decide) (by decide) ?_
            show jEv _ _ _ _ _ _ _ (_, [(2, (-2)), (2, 0), (2, 42), (0, 0)], [(0, (-1))], _, _, _)
            refine ev_aload_n rfl ?_
            refine ev_aload_n rfl ?_
            refine ev_iload_n rfl ?_
            refine ev_iconst ?_
            refine ev_iadd (r := 1) (by decide) ?_
            refine ev_sald (j := 1) (v := (xs 1)) rfl rfl rfl ?_
            refine ev_aload_n rfl ?_
            refine ev_iload_n rfl ?_
            refine ev_iconst ?_
            refine ev_iadd (r := 2) (by decide) ?_
            refine ev_sald (j := 2) (v := (xs 2)) rfl rfl rfl ?_
            refine ev_aload_n rfl ?_
            refine ev_iload_n rfl ?_
            refine ev_iconst ?_
            refine ev_iadd (r := 3) (by decide) ?_
            refine ev_sald (j := 3) (v := (xs 3)) rfl rfl rfl ?_
            refine ev_in (d := 7) (a := 0) (b := 0) (cd' := c372_0) (m := 5) (L0 := [(2, 42), (0, (xs 1)), (0, (xs 2)), (0, (xs 3)), (9, 0)]) (jcall_v (A := [(0, (xs 3)), (0, (xs 2)), (0, (xs 1))]) (S' := [(0, (-1))]) (r := 42) rfl (hF.1.lt (by decide)) (hF.1.sh (by decide) rfl).1 (Nat.le_of_ble_eq_true rfl)) (by decide) ml372 pp372 (Nat.le_of_ble_eq_true rfl) rfl (by decide) (by decide) ?_
            refine ev_iload_n rfl ?_
            refine ev_in (d := 6) (a := 0) (b := 0) (cd' := c370_0) (m := 1) (L0 := [(0, (xs 1))]) (jcall_s (A := [(0, (xs 1))]) (S' := []) (by decide) rfl (Nat.le_of_ble_eq_true rfl)) (by decide) ml370 pp370 (Nat.le_of_ble_eq_true rfl) rfl (by decide) (by decide) ?_
            refine ev_iload_n rfl ?_
            refine ev_iconst ?_
            refine ev_iconst ?_
            refine ev_in (d := 5) (a := 0) (b := 0) (cd' := c242_0) (m := 3) (L0 := [(0, (xs 1)), (0, 0), (0, 5)]) (jcall_s (A := [(0, 5), (0, 0), (0, (xs 1))]) (S' := []) (by decide) rfl (Nat.le_of_ble_eq_true rfl)) (by decide) ml242 pp242 (Nat.le_of_ble_eq_true rfl) rfl (by decide) (by decide) ?_
            refine ev_iload_n rfl ?_
            refine ev_iload_n rfl ?_
            refine ev_icmplt f242_14 (fun c48 => absurd c48 (by omega)) (fun c48 => ?_)
            refine ev_iload_n rfl ?_
            refine ev_iload_n rfl ?_
            refine ev_icmpgt f242_14 (fun c49 => absurd c49 (by omega)) (fun c49 => ?_)
            refine ev_iconst ?_
            refine ev_goto f242_15 ?_
            refine ev_ret rfl (by decide) (by decide) ?_
            show jEv _ _ _ _ _ _ _ (_, [(0, (xs 1))], [(0, 1)], _, _, _)
            refine ev_ret rfl (by decide) (by decide) ?_
            show jEv _ _ _ _ _ _ _ (_, [(2, 42), (0, (xs 1)), (0, (xs 2)), (0, (xs 3)), (9, 0)], [(0, 1)], _, _, _)
            refine ev_ifeq f372_22 (fun c50 => absurd c50 (by omega)) (fun c50 => ?_)
            refine ev_iload_n rfl ?_
            refine ev_iconst ?_
            refine ev_iconst ?_
            refine ev_in (d := 6) (a := 0) (b := 0) (cd' := c242_0) (m := 3) (L0 := [(0, (xs 2)), (0, 0), (0, 4)]) (jcall_s (A := [(0, 4), (0, 0), (0, (xs 2))]) (S' := []) (by decide) rfl (Nat.le_of_ble_eq_true rfl)) (by decide) ml242 pp242 (Nat.le_of_ble_eq_true rfl) rfl (by decide) (by decide) ?_
            refine ev_iload_n rfl ?_
            refine ev_iload_n rfl ?_
            refine ev_icmplt f242_14 (fun c51 => absurd c51 (by omega)) (fun c51 => ?_)
            refine ev_iload_n rfl ?_
            refine ev_iload_n rfl ?_
            refine ev_icmpgt f242_14 (fun c52 => absurd c52 (by omega)) (fun c52 => ?_)
            refine ev_iconst ?_
            refine ev_goto f242_15 ?_
            refine ev_ret rfl (by decide) (by decide) ?_
            show jEv _ _ _ _ _ _ _ (_, [(2, 42), (0, (xs 1)), (0, (xs 2)), (0, (xs 3)), (9, 0)], [(0, 1)], _, _, _)
            refine ev_ifeq f372_22 (fun c53 => absurd c53 (by omega)) (fun c53 => ?_)
            refine ev_iload_n rfl ?_
            refine ev_bipush ?_
            refine ev_icmple f372_24 (fun c54 => absurd c54 (by omega)) (fun c54 => ?_)
            refine ev_iconst ?_
            refine ev_ret rfl (by decide) (by decide) ?_
            show jEv _ _ _ _ _ _ _ (_, [(2, (-2)), (2, 0), (2, 42), (0, 0)], [(0, (-1)), (0, (-1))], _, _, _)
            refine ev_icmpeq f384_2190 (fun c55 => ?_) (fun c55 => absurd c55 (by omega))
            exact law_tail _
