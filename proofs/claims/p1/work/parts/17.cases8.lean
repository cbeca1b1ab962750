/-! put -/
set_option maxHeartbeats 4000000 in
theorem case_48 {xs : Nat → Int} (hr : ∀ j, -2147483648 ≤ xs j ∧ xs j < 2147483648) {h : JH} (hF : Fresh h) : jEv (jOk 8) (some 6) xs c384_0 600000 7302250 (fun v _ => v = some (0, 1)) (c384_1964, [(2, -2), (2, 0), (2, 42), (0, 0)], [], h, 83, 23761) := by
  have r1 := hr 1
  have r2 := hr 2
  have r3 := hr 3
  have r4 := hr 4
  have r5 := hr 5
  refine ev_aload_n rfl ?_
  refine ev_aload_n rfl ?_
  refine ev_iload_n rfl ?_
  refine ev_iconst ?_
  refine ev_iadd (r := 1) (by decide) ?_
  refine ev_sald (j := 1) (v := (xs 1)) rfl rfl rfl ?_
  refine ev_aload_n rfl ?_
  refine ev_iload_n rfl ?_
  refine ev_iconst ?_
  refine ev_iadd (r := 2) (by decide) ?_
  refine ev_sald (j := 2) (v := (xs 2)) rfl rfl rfl ?_
  refine ev_aload_n rfl ?_
  refine ev_iload_n rfl ?_
  refine ev_iconst ?_
  refine ev_iadd (r := 3) (by decide) ?_
  refine ev_sald (j := 3) (v := (xs 3)) rfl rfl rfl ?_
  refine ev_i2l ?_
  refine ev_bipush ?_
  refine ev_lshl (r := (jshlL (xs 3) 32)) rfl ?_
  refine ev_aload_n rfl ?_
  refine ev_iload_n rfl ?_
  refine ev_iconst ?_
  refine ev_iadd (r := 4) (by decide) ?_
  refine ev_sald (j := 4) (v := (xs 4)) rfl rfl rfl ?_
  refine ev_i2l ?_
  refine ev_ldc2_w ?_
  refine ev_land (r := (jandL (xs 4) 4294967295)) rfl ?_
  refine ev_lor (r := (jorL (jshlL (xs 3) 32) (jandL (xs 4) 4294967295))) rfl ?_
  refine ev_in (d := 7) (a := 0) (b := 0) (cd' := c214_0) (m := 6) (L0 := [(2, 0), (0, (xs 1)), (0, (xs 2)), (1, (jorL (jshlL (xs 3) 32) (jandL (xs 4) 4294967295))), (9, 0), (9, 0)]) (jcall_v (A := [(1, (jorL (jshlL (xs 3) 32) (jandL (xs 4) 4294967295))), (0, (xs 2)), (0, (xs 1))]) (S' := []) (r := 0) rfl (hF.1.lt (by decide)) (hF.1.sh (by decide) rfl).1 (Nat.le_of_ble_eq_true rfl)) (by decide) ml214 pp214 (Nat.le_of_ble_eq_true rfl) rfl (by decide) (by decide) ?_
  refine ev_aload_n rfl ?_
  refine ev_iload_n rfl ?_
  refine ev_iload_n rfl ?_
  refine ev_in (d := 6) (a := 0) (b := 0) (cd' := c239_0) (m := 3) (L0 := [(2, 0), (0, (xs 1)), (0, (xs 2))]) (jcall_v (A := [(0, (xs 2)), (0, (xs 1))]) (S' := []) (r := 0) rfl (hF.1.lt (by decide)) (hF.1.sh (by decide) rfl).1 (Nat.le_of_ble_eq_true rfl)) (by decide) ml239 pp239 (Nat.le_of_ble_eq_true rfl) rfl (by decide) (by decide) ?_
  refine ev_iload_n rfl ?_
  refine ev_in (d := 5) (a := 0) (b := 0) (cd' := c222_0) (m := 1) (L0 := [(0, (xs 1))]) (jcall_s (A := [(0, (xs 1))]) (S' := []) (by decide) rfl (Nat.le_of_ble_eq_true rfl)) (by decide) ml222 pp222 (Nat.le_of_ble_eq_true rfl) rfl (by decide) (by decide) ?_
  refine ev_iload_n rfl ?_
  refine ev_iflt f222_14 (fun c1 => ?_) (fun c1 => ?_)
  · refine ev_iconst ?_
    refine ev_ret rfl (by decide) (by decide) ?_
    show jEv _ _ _ _ _ _ _ (_, [(2, 0), (0, (xs 1)), (0, (xs 2))], [(0, 0)], _, _, _)
    refine ev_ifne f239_9 (fun c2 => absurd c2 (by omega)) (fun c2 => ?_)
    refine ev_iconst ?_
    refine ev_ret rfl (by decide) (by decide) ?_
    show jEv _ _ _ _ _ _ _ (_, [(2, 0), (0, (xs 1)), (0, (xs 2)), (1, (jorL (jshlL (xs 3) 32) (jandL (xs 4) 4294967295))), (9, 0), (9, 0)], [(0, (-1))], _, _, _)
    refine ev_istore (L' := [(2, 0), (0, (xs 1)), (0, (xs 2)), (1, (jorL (jshlL (xs 3) 32) (jandL (xs 4) 4294967295))), (9, 0), (0, (-1))]) (Nat.le_of_ble_eq_true rfl) rfl ?_
    refine ev_iload rfl ?_
    refine ev_ifeq f214_16 (fun c3 => absurd c3 (by omega)) (fun c3 => ?_)
    refine ev_iload rfl ?_
    refine ev_ret rfl (by decide) (by decide) ?_
    show jEv _ _ _ _ _ _ _ (_, [(2, (-2)), (2, 0), (2, 42), (0, 0)], [(0, (-1))], _, _, _)
    refine ev_aload_n rfl ?_
    refine ev_aload_n rfl ?_
    refine ev_iload_n rfl ?_
    refine ev_iconst ?_
    refine ev_iadd (r := 1) (by decide) ?_
    refine ev_sald (j := 1) (v := (xs 1)) rfl rfl rfl ?_
    refine ev_aload_n rfl ?_
    refine ev_iload_n rfl ?_
    refine ev_iconst ?_
    refine ev_iadd (r := 2) (by decide) ?_
    refine ev_sald (j := 2) (v := (xs 2)) rfl rfl rfl ?_
    refine ev_aload_n rfl ?_
    refine ev_iload_n rfl ?_
    refine ev_iconst ?_
    refine ev_iadd (r := 3) (by decide) ?_
    refine ev_sald (j := 3) (v := (xs 3)) rfl rfl rfl ?_
    refine ev_i2l ?_
    refine ev_bipush ?_
    refine ev_lshl (r := (jshlL (xs 3) 32)) rfl ?_
    refine ev_aload_n rfl ?_
    refine ev_iload_n rfl ?_
    refine ev_iconst ?_
    refine ev_iadd (r := 4) (by decide) ?_
    refine ev_sald (j := 4) (v := (xs 4)) rfl rfl rfl ?_
    refine ev_i2l ?_
    refine ev_ldc2_w ?_
    refine ev_land (r := (jandL (xs 4) 4294967295)) rfl ?_
    refine ev_lor (r := (jorL (jshlL (xs 3) 32) (jandL (xs 4) 4294967295))) rfl ?_
    refine ev_in (d := 7) (a := 0) (b := 0) (cd' := c374_0) (m := 7) (L0 := [(2, 42), (0, (xs 1)), (0, (xs 2)), (1, (jorL (jshlL (xs 3) 32) (jandL (xs 4) 4294967295))), (9, 0), (9, 0), (9, 0)]) (jcall_v (A := [(1, (jorL (jshlL (xs 3) 32) (jandL (xs 4) 4294967295))), (0, (xs 2)), (0, (xs 1))]) (S' := [(0, (-1))]) (r := 42) rfl (hF.1.lt (by decide)) (hF.1.sh (by decide) rfl).1 (Nat.le_of_ble_eq_true rfl)) (by decide) ml374 pp374 (Nat.le_of_ble_eq_true rfl) rfl (by decide) (by decide) ?_
    refine ev_aload_n rfl ?_
    refine ev_iload_n rfl ?_
    refine ev_iload_n rfl ?_
    refine ev_in (d := 6) (a := 0) (b := 0) (cd' := c373_0) (m := 3) (L0 := [(2, 42), (0, (xs 1)), (0, (xs 2))]) (jcall_v (A := [(0, (xs 2)), (0, (xs 1))]) (S' := []) (r := 42) rfl (hF.1.lt (by decide)) (hF.1.sh (by decide) rfl).1 (Nat.le_of_ble_eq_true rfl)) (by decide) ml373 pp373 (Nat.le_of_ble_eq_true rfl) rfl (by decide) (by decide) ?_
    refine ev_iload_n rfl ?_
    refine ev_in (d := 5) (a := 0) (b := 0) (cd' := c370_0) (m := 1) (L0 := [(0, (xs 1))]) (jcall_s (A := [(0, (xs 1))]) (S' := []) (by decide) rfl (Nat.le_of_ble_eq_true rfl)) (by decide) ml370 pp370 (Nat.le_of_ble_eq_true rfl) rfl (by decide) (by decide) ?_
    refine ev_iload_n rfl ?_
    refine ev_iconst ?_
    refine ev_iconst ?_
    refine ev_in (d := 4) (a := 0) (b := 0) (cd' := c242_0) (m := 3) (L0 := [(0, (xs 1)), (0, 0), (0, 5)]) (jcall_s (A := [(0, 5), (0, 0), (0, (xs 1))]) (S' := []) (by decide) rfl (Nat.le_of_ble_eq_true rfl)) (by decide) ml242 pp242 (Nat.le_of_ble_eq_true rfl) rfl (by decide) (by decide) ?_
    refine ev_iload_n rfl ?_
    refine ev_iload_n rfl ?_
    refine ev_icmplt f242_14 (fun c4 => ?_) (fun c4 => absurd c4 (by omega))
    refine ev_iconst ?_
    refine ev_ret rfl (by decide) (by decide) ?_
    show jEv _ _ _ _ _ _ _ (_, [(0, (xs 1))], [(0, 0)], _, _, _)
    refine ev_ret rfl (by decide) (by decide) ?_
    show jEv _ _ _ _ _ _ _ (_, [(2, 42), (0, (xs 1)), (0, (xs 2))], [(0, 0)], _, _, _)
    refine ev_ifne f373_9 (fun c5 => absurd c5 (by omega)) (fun c5 => ?_)
    refine ev_iconst ?_
    refine ev_ret rfl (by decide) (by decide) ?_
    show jEv _ _ _ _ _ _ _ (_, [(2, 42), (0, (xs 1)), (0, (xs 2)), (1, (jorL (jshlL (xs 3) 32) (jandL (xs 4) 4294967295))), (9, 0), (9, 0), (9, 0)], [(0, (-1))], _, _, _)
    refine ev_istore (L' := [(2, 42), (0, (xs 1)), (0, (xs 2)), (1, (jorL (jshlL (xs 3) 32) (jandL (xs 4) 4294967295))), (9, 0), (0, (-1)), (9, 0)]) (Nat.le_of_ble_eq_true rfl) rfl ?_
    refine ev_iload rfl ?_
    refine ev_ifge f374_16 (fun c6 => absurd c6 (by omega)) (fun c6 => ?_)
    refine ev_iload rfl ?_
    refine ev_ret rfl (by decide) (by decide) ?_
    show jEv _ _ _ _ _ _ _ (_, [(2, (-2)), (2, 0), (2, 42), (0, 0)], [(0, (-1)), (0, (-1))], _, _, _)
    refine ev_icmpeq f384_2190 (fun c7 => ?_) (fun c7 => absurd c7 (by omega))
    exact law_tail _
  · refine ev_iload_n rfl ?_
    refine ev_bipush ?_
    refine ev_icmpge f222_14 (fun c8 => ?_) (fun c8 => ?_)
    · refine ev_iconst ?_
      refine ev_ret rfl (by decide) (by decide) ?_
      show jEv _ _ _ _ _ _ _ (_, [(2, 0), (0, (xs 1)), (0, (xs 2))], [(0, 0)], _, _, _)
      refine ev_ifne f239_9 (fun c9 => absurd c9 (by omega)) (fun c9 => ?_)
      refine ev_iconst ?_
      refine ev_ret rfl (by decide) (by decide) ?_
      show jEv _ _ _ _ _ _ _ (_, [(2, 0), (0, (xs 1)), (0, (xs 2)), (1, (jorL (jshlL (xs 3) 32) (jandL (xs 4) 4294967295))), (9, 0), (9, 0)], [(0, (-1))], _, _, _)
      refine ev_istore (L' := [(2, 0), (0, (xs 1)), (0, (xs 2)), (1, (jorL (jshlL (xs 3) 32) (jandL (xs 4) 4294967295))), (9, 0), (0, (-1))]) (Nat.le_of_ble_eq_true rfl) rfl ?_
      refine ev_iload rfl ?_
      refine ev_ifeq f214_16 (fun c10 => absurd c10 (by omega)) (fun c10 => ?_)
      refine ev_iload rfl ?_
      refine ev_ret rfl (by decide) (by decide) ?_
      show jEv _ _ _ _ _ _ _ (_, [(2, (-2)), (2, 0), (2, 42), (0, 0)], [(0, (-1))], _, _, _)
      refine ev_aload_n rfl ?_
      refine ev_aload_n rfl ?_
      refine ev_iload_n rfl ?_
      refine ev_iconst ?_
      refine ev_iadd (r := 1) (by decide) ?_
      refine ev_sald (j := 1) (v := (xs 1)) rfl rfl rfl ?_
      refine ev_aload_n rfl ?_
      refine ev_iload_n rfl ?_
      refine ev_iconst ?_
      refine ev_iadd (r := 2) (by decide) ?_
      refine ev_sald (j := 2) (v := (xs 2)) rfl rfl rfl ?_
      refine ev_aload_n rfl ?_
      refine ev_iload_n rfl ?_
      refine ev_iconst ?_
      refine ev_iadd (r := 3) (by decide) ?_
      refine ev_sald (j := 3) (v := (xs 3)) rfl rfl rfl ?_
      refine ev_i2l ?_
      refine ev_bipush ?_
      refine ev_lshl (r := (jshlL (xs 3) 32)) rfl ?_
      refine ev_aload_n rfl ?_
      refine ev_iload_n rfl ?_
      refine ev_iconst ?_
      refine ev_iadd (r := 4) (by decide) ?_
      refine ev_sald (j := 4) (v := (xs 4)) rfl rfl rfl ?_
      refine ev_i2l ?_
      refine ev_ldc2_w ?_
      refine ev_land (r := (jandL (xs 4) 4294967295)) rfl ?_
      refine ev_lor (r := (jorL (jshlL (xs 3) 32) (jandL (xs 4) 4294967295))) rfl ?_
      refine ev_in (d := 7) (a := 0) (b := 0) (cd' := c374_0) (m := 7) (L0 := [(2, 42), (0, (xs 1)), (0, (xs 2)), (1, (jorL (jshlL (xs 3) 32) (jandL (xs 4) 4294967295))), (9, 0), (9, 0), (9, 0)]) (jcall_v (A := [(1, (jorL (jshlL (xs 3) 32) (jandL (xs 4) 4294967295))), (0, (xs 2)), (0, (xs 1))]) (S' := [(0, (-1))]) (r := 42) rfl (hF.1.lt (by decide)) (hF.1.sh (by decide) rfl).1 (Nat.le_of_ble_eq_true rfl)) (by decide) ml374 pp374 (Nat.le_of_ble_eq_true rfl) rfl (by decide) (by decide) ?_
      refine ev_aload_n rfl ?_
      refine ev_iload_n rfl ?_
      refine ev_iload_n rfl ?_
      refine ev_in (d := 6) (a := 0) (b := 0) (cd' := c373_0) (m := 3) (L0 := [(2, 42), (0, (xs 1)), (0, (xs 2))]) (jcall_v (A := [(0, (xs 2)), (0, (xs 1))]) (S' := []) (r := 42) rfl (hF.1.lt (by decide)) (hF.1.sh (by decide) rfl).1 (Nat.le_of_ble_eq_true rfl)) (by decide) ml373 pp373 (Nat.le_of_ble_eq_true rfl) rfl (by decide) (by decide) ?_
      refine ev_iload_n rfl ?_
      refine ev_in (d := 5) (a := 0) (b := 0) (cd' := c370_0) (m := 1) (L0 := [(0, (xs 1))]) (jcall_s (A := [(0, (xs 1))]) (S' := []) (by decide) rfl (Nat.le_of_ble_eq_true rfl)) (by decide) ml370 pp370 (Nat.le_of_ble_eq_true rfl) rfl (by decide) (by decide) ?_
      refine ev_iload_n rfl ?_
      refine ev_iconst ?_
      refine ev_iconst ?_
      refine ev_in (d := 4) (a := 0) (b := 0) (cd' := c242_0) (m := 3) (L0 := [(0, (xs 1)), (0, 0), (0, 5)]) (jcall_s (A := [(0, 5), (0, 0), (0, (xs 1))]) (S' := []) (by decide) rfl (Nat.le_of_ble_eq_true rfl)) (by decide) ml242 pp242 (Nat.le_of_ble_eq_true rfl) rfl (by decide) (by decide) ?_
      refine ev_iload_n rfl ?_
      refine ev_iload_n rfl ?_
      refine ev_icmplt f242_14 (fun c11 => absurd c11 (by omega)) (fun c11 => ?_)
      refine ev_iload_n rfl ?_
      refine ev_iload_n rfl ?_
      refine ev_icmpgt f242_14 (fun c12 => ?_) (fun c12 => absurd c12 (by omega))
      refine ev_iconst ?_
      refine ev_ret rfl (by decide) (by decide) ?_
      show jEv _ _ _ _ _ _ _ (_, [(0, (xs 1))], [(0, 0)], _, _, _)
      refine ev_ret rfl (by decide) (by decide) ?_
      show jEv _ _ _ _ _ _ _ (_, [(2, 42), (0, (xs 1)), (0, (xs 2))], [(0, 0)], _, _, _)
      refine ev_ifne f373_9 (fun c13 => absurd c13 (by omega)) (fun c13 => ?_)
      refine ev_iconst ?_
      refine ev_ret rfl (by decide) (by decide) ?_
      show jEv _ _ _ _ _ _ _ (_, [(2, 42), (0, (xs 1)), (0, (xs 2)), (1, (jorL (jshlL (xs 3) 32) (jandL (xs 4) 4294967295))), (9, 0), (9, 0), (9, 0)], [(0, (-1))], _, _, _)
      refine ev_istore (L' := [(2, 42), (0, (xs 1)), (0, (xs 2)), (1, (jorL (jshlL (xs 3) 32) (jandL (xs 4) 4294967295))), (9, 0), (0, (-1)), (9, 0)]) (Nat.le_of_ble_eq_true rfl) rfl ?_
      refine ev_iload rfl ?_
      refine ev_ifge f374_16 (fun c14 => absurd c14 (by omega)) (fun c14 => ?_)
      refine ev_iload rfl ?_
      refine ev_ret rfl (by decide) (by decide) ?_
      show jEv _ _ _ _ _ _ _ (_, [(2, (-2)), (2, 0), (2, 42), (0, 0)], [(0, (-1)), (0, (-1))], _, _, _)
      refine ev_icmpeq f384_2190 (fun c15 => ?_) (fun c15 => absurd c15 (by omega))
      exact law_tail _
    · refine ev_iconst ?_
      refine ev_goto f222_15 ?_
      refine ev_ret rfl (by decide) (by decide) ?_
      show jEv _ _ _ _ _ _ _ (_, [(2, 0), (0, (xs 1)), (0, (xs 2))], [(0, 1)], _, _, _)
      refine ev_ifne f239_9 (fun c16 => ?_) (fun c16 => absurd c16 (by omega))
      refine ev_aload_n rfl ?_
      refine ev_getf (r := 0) (v := 37) (hF.1.lt (by decide)) (hF.1.fam (by decide) (by decide)) ft11_12 ((hF.v rfl)) ?_
      refine ev_iload_n rfl ?_
      refine ev_iald (r := 37) (j := ((xs 1)).toNat) (v := (-1)) (hF.1.lt (by decide)) (hF.1.sh (by decide) rfl).1 (by omega) (hF.1.inbx (by decide) (n := 6) (by decide) (by omega)) (hF.uni (n := 6) (by decide) (by omega)) ?_
      refine ev_iconst ?_
      refine ev_icmpne f239_22 (fun c17 => absurd c17 (by omega)) (fun c17 => ?_)
      refine ev_bipush ?_
      refine ev_ret rfl (by decide) (by decide) ?_
      show jEv _ _ _ _ _ _ _ (_, [(2, 0), (0, (xs 1)), (0, (xs 2)), (1, (jorL (jshlL (xs 3) 32) (jandL (xs 4) 4294967295))), (9, 0), (9, 0)], [(0, (-11))], _, _, _)
      refine ev_istore (L' := [(2, 0), (0, (xs 1)), (0, (xs 2)), (1, (jorL (jshlL (xs 3) 32) (jandL (xs 4) 4294967295))), (9, 0), (0, (-11))]) (Nat.le_of_ble_eq_true rfl) rfl ?_
      refine ev_iload rfl ?_
      refine ev_ifeq f214_16 (fun c18 => absurd c18 (by omega)) (fun c18 => ?_)
      refine ev_iload rfl ?_
      refine ev_ret rfl (by decide) (by decide) ?_
      show jEv _ _ _ _ _ _ _ (_, [(2, (-2)), (2, 0), (2, 42), (0, 0)], [(0, (-11))], _, _, _)
      refine ev_aload_n rfl ?_
      refine ev_aload_n rfl ?_
      refine ev_iload_n rfl ?_
      refine ev_iconst ?_
      refine ev_iadd (r := 1) (by decide) ?_
      refine ev_sald (j := 1) (v := (xs 1)) rfl rfl rfl ?_
      refine ev_aload_n rfl ?_
      refine ev_iload_n rfl ?_
      refine ev_iconst ?_
      refine ev_iadd (r := 2) (by decide) ?_
      refine ev_sald (j := 2) (v := (xs 2)) rfl rfl rfl ?_
      refine ev_aload_n rfl ?_
      refine ev_iload_n rfl ?_
      refine ev_iconst ?_
      refine ev_iadd (r := 3) (by decide) ?_
      refine ev_sald (j := 3) (v := (xs 3)) rfl rfl rfl ?_
      refine ev_i2l ?_
      refine ev_bipush ?_
      refine ev_lshl (r := (jshlL (xs 3) 32)) rfl ?_
      refine ev_aload_n rfl ?_
      refine ev_iload_n rfl ?_
      refine ev_iconst ?_
      refine ev_iadd (r := 4) (by decide) ?_
      refine ev_sald (j := 4) (v := (xs 4)) rfl rfl rfl ?_
      refine ev_i2l ?_
      refine ev_ldc2_w ?_
      refine ev_land (r := (jandL (xs 4) 4294967295)) rfl ?_
      refine ev_lor (r := (jorL (jshlL (xs 3) 32) (jandL (xs 4) 4294967295))) rfl ?_
      refine ev_in (d := 7) (a := 0) (b := 0) (cd' := c374_0) (m := 7) (L0 := [(2, 42), (0, (xs 1)), (0, (xs 2)), (1, (jorL (jshlL (xs 3) 32) (jandL (xs 4) 4294967295))), (9, 0), (9, 0), (9, 0)]) (jcall_v (A := [(1, (jorL (jshlL (xs 3) 32) (jandL (xs 4) 4294967295))), (0, (xs 2)), (0, (xs 1))]) (S' := [(0, (-11))]) (r := 42) rfl (hF.1.lt (by decide)) (hF.1.sh (by decide) rfl).1 (Nat.le_of_ble_eq_true rfl)) (by decide) ml374 pp374 (Nat.le_of_ble_eq_true rfl) rfl (by decide) (by decide) ?_
      refine ev_aload_n rfl ?_
      refine ev_iload_n rfl ?_
      refine ev_iload_n rfl ?_
      refine ev_in (d := 6) (a := 0) (b := 0) (cd' := c373_0) (m := 3) (L0 := [(2, 42), (0, (xs 1)), (0, (xs 2))]) (jcall_v (A := [(0, (xs 2)), (0, (xs 1))]) (S' := []) (r := 42) rfl (hF.1.lt (by decide)) (hF.1.sh (by decide) rfl).1 (Nat.le_of_ble_eq_true rfl)) (by decide) ml373 pp373 (Nat.le_of_ble_eq_true rfl) rfl (by decide) (by decide) ?_
      refine ev_iload_n rfl ?_
      refine ev_in (d := 5) (a := 0) (b := 0) (cd' := c370_0) (m := 1) (L0 := [(0, (xs 1))]) (jcall_s (A := [(0, (xs 1))]) (S' := []) (by decide) rfl (Nat.le_of_ble_eq_true rfl)) (by decide) ml370 pp370 (Nat.le_of_ble_eq_true rfl) rfl (by decide) (by decide) ?_
      refine ev_iload_n rfl ?_
      refine ev_iconst ?_
      refine ev_iconst ?_
      refine ev_in (d := 4) (a := 0) (b := 0) (cd' := c242_0) (m := 3) (L0 := [(0, (xs 1)), (0, 0), (0, 5)]) (jcall_s (A := [(0, 5), (0, 0), (0, (xs 1))]) (S' := []) (by decide) rfl (Nat.le_of_ble_eq_true rfl)) (by decide) ml242 pp242 (Nat.le_of_ble_eq_true rfl) rfl (by decide) (by decide) ?_
      refine ev_iload_n rfl ?_
      refine ev_iload_n rfl ?_
      refine ev_icmplt f242_14 (fun c19 => absurd c19 (by omega)) (fun c19 => ?_)
      refine ev_iload_n rfl ?_
      refine ev_iload_n rfl ?_
      refine ev_icmpgt f242_14 (fun c20 => absurd c20 (by omega)) (fun c20 => ?_)
      refine ev_iconst ?_
      refine ev_goto f242_15 ?_
      refine ev_ret rfl (by decide) (by decide) ?_
      show jEv _ _ _ _ _ _ _ (_, [(0, (xs 1))], [(0, 1)], _, _, _)
      refine ev_ret rfl (by decide) (by decide) ?_
      show jEv _ _ _ _ _ _ _ (_, [(2, 42), (0, (xs 1)), (0, (xs 2))], [(0, 1)], _, _, _)
      refine ev_ifne f373_9 (fun c21 => ?_) (fun c21 => absurd c21 (by omega))
      refine ev_aload_n rfl ?_
      refine ev_getf (r := 42) (v := 79) (hF.1.lt (by decide)) (hF.1.fam (by decide) (by decide)) ft12_62 ((hF.v rfl)) ?_
      refine ev_iload_n rfl ?_
      refine ev_iald (r := 79) (j := ((xs 1)).toNat) (v := (-1)) (hF.1.lt (by decide)) (hF.1.sh (by decide) rfl).1 (by omega) (hF.1.inbx (by decide) (n := 6) (by decide) (by omega)) (hF.uni (n := 6) (by decide) (by omega)) ?_
      refine ev_iconst ?_
      refine ev_icmpne f373_22 (fun c22 => absurd c22 (by omega)) (fun c22 => ?_)
      refine ev_bipush ?_
      refine ev_ret rfl (by decide) (by decide) ?_
      show jEv _ _ _ _ _ _ _ (_, [(2, 42), (0, (xs 1)), (0, (xs 2)), (1, (jorL (jshlL (xs 3) 32) (jandL (xs 4) 4294967295))), (9, 0), (9, 0), (9, 0)], [(0, (-11))], _, _, _)
      refine ev_istore (L' := [(2, 42), (0, (xs 1)), (0, (xs 2)), (1, (jorL (jshlL (xs 3) 32) (jandL (xs 4) 4294967295))), (9, 0), (0, (-11)), (9, 0)]) (Nat.le_of_ble_eq_true rfl) rfl ?_
      refine ev_iload rfl ?_
      refine ev_ifge f374_16 (fun c23 => absurd c23 (by omega)) (fun c23 => ?_)
      refine ev_iload rfl ?_
      refine ev_ret rfl (by decide) (by decide) ?_
      show jEv _ _ _ _ _ _ _ (_, [(2, (-2)), (2, 0), (2, 42), (0, 0)], [(0, (-11)), (0, (-11))], _, _, _)
      refine ev_icmpeq f384_2190 (fun c24 => ?_) (fun c24 => absurd c24 (by omega))
      exact law_tail _

/-! element -/
set_option maxHeartbeats 4000000 in
theorem case_49 {xs : Nat → Int} (hr : ∀ j, -2147483648 ≤ xs j ∧ xs j < 2147483648) {h : JH} (hF : Fresh h) : jEv (jOk 8) (some 6) xs c384_0 600000 7302250 (fun v _ => v = some (0, 1)) (c384_2037, [(2, -2), (2, 0), (2, 42), (0, 0)], [], h, 83, 23761) := by
  have r1 := hr 1
  have r2 := hr 2
  have r3 := hr 3
  have r4 := hr 4
  have r5 := hr 5
  refine ev_aload_n rfl ?_
  refine ev_aload_n rfl ?_
  refine ev_iload_n rfl ?_
  refine ev_iconst ?_
  refine ev_iadd (r := 1) (by decide) ?_
  refine ev_sald (j := 1) (v := (xs 1)) rfl rfl rfl ?_
  refine ev_aload_n rfl ?_
  refine ev_iload_n rfl ?_
  refine ev_iconst ?_
  refine ev_iadd (r := 2) (by decide) ?_
  refine ev_sald (j := 2) (v := (xs 2)) rfl rfl rfl ?_
  refine ev_in (d := 7) (a := 0) (b := 0) (cd' := c215_0) (m := 3) (L0 := [(2, 0), (0, (xs 1)), (0, (xs 2))]) (jcall_v (A := [(0, (xs 2)), (0, (xs 1))]) (S' := []) (r := 0) rfl (hF.1.lt (by decide)) (hF.1.sh (by decide) rfl).1 (Nat.le_of_ble_eq_true rfl)) (by decide) ml215 pp215 (Nat.le_of_ble_eq_true rfl) rfl (by decide) (by decide) ?_
  refine ev_aload_n rfl ?_
  refine ev_iload_n rfl ?_
  refine ev_iload_n rfl ?_
  refine ev_in (d := 6) (a := 0) (b := 0) (cd' := c239_0) (m := 3) (L0 := [(2, 0), (0, (xs 1)), (0, (xs 2))]) (jcall_v (A := [(0, (xs 2)), (0, (xs 1))]) (S' := []) (r := 0) rfl (hF.1.lt (by decide)) (hF.1.sh (by decide) rfl).1 (Nat.le_of_ble_eq_true rfl)) (by decide) ml239 pp239 (Nat.le_of_ble_eq_true rfl) rfl (by decide) (by decide) ?_
  refine ev_iload_n rfl ?_
  refine ev_in (d := 5) (a := 0) (b := 0) (cd' := c222_0) (m := 1) (L0 := [(0, (xs 1))]) (jcall_s (A := [(0, (xs 1))]) (S' := []) (by decide) rfl (Nat.le_of_ble_eq_true rfl)) (by decide) ml222 pp222 (Nat.le_of_ble_eq_true rfl) rfl (by decide) (by decide) ?_
  refine ev_iload_n rfl ?_
  refine ev_iflt f222_14 (fun c1 => ?_) (fun c1 => ?_)
  · refine ev_iconst ?_
    refine ev_ret rfl (by decide) (by decide) ?_
    show jEv _ _ _ _ _ _ _ (_, [(2, 0), (0, (xs 1)), (0, (xs 2))], [(0, 0)], _, _, _)
    refine ev_ifne f239_9 (fun c2 => absurd c2 (by omega)) (fun c2 => ?_)
    refine ev_iconst ?_
    refine ev_ret rfl (by decide) (by decide) ?_
    show jEv _ _ _ _ _ _ _ (_, [(2, 0), (0, (xs 1)), (0, (xs 2))], [(0, (-1))], _, _, _)
    refine ev_ifeq f215_15 (fun c3 => absurd c3 (by omega)) (fun c3 => ?_)
    refine ev_ldc2_w ?_
    refine ev_goto f215_26 ?_
    refine ev_ret rfl (by decide) (by decide) ?_
    show jEv _ _ _ _ _ _ _ (_, [(2, (-2)), (2, 0), (2, 42), (0, 0)], [(1, (-9223372036854775808))], _, _, _)
    refine ev_aload_n rfl ?_
    refine ev_aload_n rfl ?_
    refine ev_iload_n rfl ?_
    refine ev_iconst ?_
    refine ev_iadd (r := 1) (by decide) ?_
    refine ev_sald (j := 1) (v := (xs 1)) rfl rfl rfl ?_
    refine ev_aload_n rfl ?_
    refine ev_iload_n rfl ?_
    refine ev_iconst ?_
    refine ev_iadd (r := 2) (by decide) ?_
    refine ev_sald (j := 2) (v := (xs 2)) rfl rfl rfl ?_
    refine ev_in (d := 7) (a := 0) (b := 0) (cd' := c375_0) (m := 3) (L0 := [(2, 42), (0, (xs 1)), (0, (xs 2))]) (jcall_v (A := [(0, (xs 2)), (0, (xs 1))]) (S' := [(1, (-9223372036854775808))]) (r := 42) rfl (hF.1.lt (by decide)) (hF.1.sh (by decide) rfl).1 (Nat.le_of_ble_eq_true rfl)) (by decide) ml375 pp375 (Nat.le_of_ble_eq_true rfl) rfl (by decide) (by decide) ?_
    refine ev_aload_n rfl ?_
    refine ev_iload_n rfl ?_
    refine ev_iload_n rfl ?_
    refine ev_in (d := 6) (a := 0) (b := 0) (cd' := c373_0) (m := 3) (L0 := [(2, 42), (0, (xs 1)), (0, (xs 2))]) (jcall_v (A := [(0, (xs 2)), (0, (xs 1))]) (S' := []) (r := 42) rfl (hF.1.lt (by decide)) (hF.1.sh (by decide) rfl).1 (Nat.le_of_ble_eq_true rfl)) (by decide) ml373 pp373 (Nat.le_of_ble_eq_true rfl) rfl (by decide) (by decide) ?_
    refine ev_iload_n rfl ?_
    refine ev_in (d := 5) (a := 0) (b := 0) (cd' := c370_0) (m := 1) (L0 := [(0, (xs 1))]) (jcall_s (A := [(0, (xs 1))]) (S' := []) (by decide) rfl (Nat.le_of_ble_eq_true rfl)) (by decide) ml370 pp370 (Nat.le_of_ble_eq_true rfl) rfl (by decide) (by decide) ?_
    refine ev_iload_n rfl ?_
    refine ev_iconst ?_
    refine ev_iconst ?_
    refine ev_in (d := 4) (a := 0) (b := 0) (cd' := c242_0) (m := 3) (L0 := [(0, (xs 1)), (0, 0), (0, 5)]) (jcall_s (A := [(0, 5), (0, 0), (0, (xs 1))]) (S' := []) (by decide) rfl (Nat.le_of_ble_eq_true rfl)) (by decide) ml242 pp242 (Nat.le_of_ble_eq_true rfl) rfl (by decide) (by decide) ?_
    refine ev_iload_n rfl ?_
    refine ev_iload_n rfl ?_
    refine ev_icmplt f242_14 (fun c4 => ?_) (fun c4 => absurd c4 (by omega))
    refine ev_iconst ?_
    refine ev_ret rfl (by decide) (by decide) ?_
    show jEv _ _ _ _ _ _ _ (_, [(0, (xs 1))], [(0, 0)], _, _, _)
    refine ev_ret rfl (by decide) (by decide) ?_
    show jEv _ _ _ _ _ _ _ (_, [(2, 42), (0, (xs 1)), (0, (xs 2))], [(0, 0)], _, _, _)
    refine ev_ifne f373_9 (fun c5 => absurd c5 (by omega)) (fun c5 => ?_)
    refine ev_iconst ?_
    refine ev_ret rfl (by decide) (by decide) ?_
    show jEv _ _ _ _ _ _ _ (_, [(2, 42), (0, (xs 1)), (0, (xs 2))], [(0, (-1))], _, _, _)
    refine ev_ifge f375_15 (fun c6 => absurd c6 (by omega)) (fun c6 => ?_)
    refine ev_ldc2_w ?_
    refine ev_goto f375_26 ?_
    refine ev_ret rfl (by decide) (by decide) ?_
    show jEv _ _ _ _ _ _ _ (_, [(2, (-2)), (2, 0), (2, 42), (0, 0)], [(1, (-9223372036854775808)), (1, (-9223372036854775808))], _, _, _)
    refine ev_lcmp ?_
    refine ev_ifeq f384_2190 (fun c7 => ?_) (fun c7 => absurd (show _ from by unfold jcmpL; (repeat' split) <;> omega) c7)
    exact law_tail _
  · refine ev_iload_n rfl ?_
    refine ev_bipush ?_
    refine ev_icmpge f222_14 (fun c8 => ?_) (fun c8 => ?_)
    · refine ev_iconst ?_
      refine ev_ret rfl (by decide) (by decide) ?_
      show jEv _ _ _ _ _ _ _ (_, [(2, 0), (0, (xs 1)), (0, (xs 2))], [(0, 0)], _, _, _)
      refine ev_ifne f239_9 (fun c9 => absurd c9 (by omega)) (fun c9 => ?_)
      refine ev_iconst ?_
      refine ev_ret rfl (by decide) (by decide) ?_
      show jEv _ _ _ _ _ _ _ (_, [(2, 0), (0, (xs 1)), (0, (xs 2))], [(0, (-1))], _, _, _)
      refine ev_ifeq f215_15 (fun c10 => absurd c10 (by omega)) (fun c10 => ?_)
      refine ev_ldc2_w ?_
      refine ev_goto f215_26 ?_
      refine ev_ret rfl (by decide) (by decide) ?_
      show jEv _ _ _ _ _ _ _ (_, [(2, (-2)), (2, 0), (2, 42), (0, 0)], [(1, (-9223372036854775808))], _, _, _)
      refine ev_aload_n rfl ?_
      refine ev_aload_n rfl ?_
      refine ev_iload_n rfl ?_
      refine ev_iconst ?_
      refine ev_iadd (r := 1) (by decide) ?_
      refine ev_sald (j := 1) (v := (xs 1)) rfl rfl rfl ?_
      refine ev_aload_n rfl ?_
      refine ev_iload_n rfl ?_
      refine ev_iconst ?_
      refine ev_iadd (r := 2) (by decide) ?_
      refine ev_sald (j := 2) (v := (xs 2)) rfl rfl rfl ?_
      refine ev_in (d := 7) (a := 0) (b := 0) (cd' := c375_0) (m := 3) (L0 := [(2, 42), (0, (xs 1)), (0, (xs 2))]) (jcall_v (A := [(0, (xs 2)), (0, (xs 1))]) (S' := [(1, (-9223372036854775808))]) (r := 42) rfl (hF.1.lt (by decide)) (hF.1.sh (by decide) rfl).1 (Nat.le_of_ble_eq_true rfl)) (by decide) ml375 pp375 (Nat.le_of_ble_eq_true rfl) rfl (by decide) (by decide) ?_
      refine ev_aload_n rfl ?_
      refine ev_iload_n rfl ?_
      refine ev_iload_n rfl ?_
      refine ev_in (d := 6) (a := 0) (b := 0) (cd' := c373_0) (m := 3) (L0 := [(2, 42), (0, (xs 1)), (0, (xs 2))]) (jcall_v (A := [(0, (xs 2)), (0, (xs 1))]) (S' := []) (r := 42) rfl (hF.1.lt (by decide)) (hF.1.sh (by decide) rfl).1 (Nat.le_of_ble_eq_true rfl)) (by decide) ml373 pp373 (Nat.le_of_ble_eq_true rfl) rfl (by decide) (by decide) ?_
      refine ev_iload_n rfl ?_
      refine ev_in (d := 5) (a := 0) (b := 0) (cd' := c370_0) (m := 1) (L0 := [(0, (xs 1))]) (jcall_s (A := [(0, (xs 1))]) (S' := []) (by decide) rfl (Nat.le_of_ble_eq_true rfl)) (by decide) ml370 pp370 (Nat.le_of_ble_eq_true rfl) rfl (by decide) (by decide) ?_
      refine ev_iload_n rfl ?_
      refine ev_iconst ?_
      refine ev_iconst ?_
      refine ev_in (d := 4) (a := 0) (b := 0) (cd' := c242_0) (m := 3) (L0 := [(0, (xs 1)), (0, 0), (0, 5)]) (jcall_s (A := [(0, 5), (0, 0), (0, (xs 1))]) (S' := []) (by decide) rfl (Nat.le_of_ble_eq_true rfl)) (by decide) ml242 pp242 (Nat.le_of_ble_eq_true rfl) rfl (by decide) (by decide) ?_
      refine ev_iload_n rfl ?_
      refine ev_iload_n rfl ?_
      refine ev_icmplt f242_14 (fun c11 => absurd c11 (by omega)) (fun c11 => ?_)
      refine ev_iload_n rfl ?_
      refine ev_iload_n rfl ?_
      refine ev_icmpgt f242_14 (fun c12 => ?_) (fun c12 => absurd c12 (by omega))
      refine ev_iconst ?_
      refine ev_ret rfl (by decide) (by decide) ?_
      show jEv _ _ _ _ _ _ _ (_, [(0, (xs 1))], [(0, 0)], _, _, _)
      refine ev_ret rfl (by decide) (by decide) ?_
      show jEv _ _ _ _ _ _ _ (_, [(2, 42), (0, (xs 1)), (0, (xs 2))], [(0, 0)], _, _, _)
      refine ev_ifne f373_9 (fun c13 => absurd c13 (by omega)) (fun c13 => ?_)
      refine ev_iconst ?_
      refine ev_ret rfl (by decide) (by decide) ?_
      show jEv _ _ _ _ _ _ _ (_, [(2, 42), (0, (xs 1)), (0, (xs 2))], [(0, (-1))], _, _, _)
      refine ev_ifge f375_15 (fun c14 => absurd c14 (by omega)) (fun c14 => ?_)
      refine ev_ldc2_w ?_
      refine ev_goto f375_26 ?_
      refine ev_ret rfl (by decide) (by decide) ?_
      show jEv _ _ _ _ _ _ _ (_, [(2, (-2)), (2, 0), (2, 42), (0, 0)], [(1, (-9223372036854775808)), (1, (-9223372036854775808))], _, _, _)
      refine ev_lcmp ?_
      refine ev_ifeq f384_2190 (fun c15 => ?_) (fun c15 => absurd (show _ from by unfold jcmpL; (repeat' split) <;> omega) c15)
      exact law_tail _
    · refine ev_iconst ?_
      refine ev_goto f222_15 ?_
      refine ev_ret rfl (by decide) (by decide) ?_
      show jEv _ _ _ _ _ _ _ (_, [(2, 0), (0, (xs 1)), (0, (xs 2))], [(0, 1)], _, _, _)
      refine ev_ifne f239_9 (fun c16 => ?_) (fun c16 => absurd c16 (by omega))
      refine ev_aload_n rfl ?_
      refine ev_getf (r := 0) (v := 37) (hF.1.lt (by decide)) (hF.1.fam (by decide) (by decide)) ft11_12 ((hF.v rfl)) ?_
      refine ev_iload_n rfl ?_
      refine ev_iald (r := 37) (j := ((xs 1)).toNat) (v := (-1)) (hF.1.lt (by decide)) (hF.1.sh (by decide) rfl).1 (by omega) (hF.1.inbx (by decide) (n := 6) (by decide) (by omega)) (hF.uni (n := 6) (by decide) (by omega)) ?_
      refine ev_iconst ?_
      refine ev_icmpne f239_22 (fun c17 => absurd c17 (by omega)) (fun c17 => ?_)
      refine ev_bipush ?_
      refine ev_ret rfl (by decide) (by decide) ?_
      show jEv _ _ _ _ _ _ _ (_, [(2, 0), (0, (xs 1)), (0, (xs 2))], [(0, (-11))], _, _, _)
      refine ev_ifeq f215_15 (fun c18 => absurd c18 (by omega)) (fun c18 => ?_)
      refine ev_ldc2_w ?_
      refine ev_goto f215_26 ?_
      refine ev_ret rfl (by decide) (by decide) ?_
      show jEv _ _ _ _ _ _ _ (_, [(2, (-2)), (2, 0), (2, 42), (0, 0)], [(1, (-9223372036854775808))], _, _, _)
      refine ev_aload_n rfl ?_
      refine ev_aload_n rfl ?_
      refine ev_iload_n rfl ?_
      refine ev_iconst ?_
      refine ev_iadd (r := 1) (by decide) ?_
      refine ev_sald (j := 1) (v := (xs 1)) rfl rfl rfl ?_
      refine ev_aload_n rfl ?_
      refine ev_iload_n rfl ?_
      refine ev_iconst ?_
      refine ev_iadd (r := 2) (by decide) ?_
      refine ev_sald (j := 2) (v := (xs 2)) rfl rfl rfl ?_
      refine ev_in (d := 7) (a := 0) (b := 0) (cd' := c375_0) (m := 3) (L0 := [(2, 42), (0, (xs 1)), (0, (xs 2))]) (jcall_v (A := [(0, (xs 2)), (0, (xs 1))]) (S' := [(1, (-9223372036854775808))]) (r := 42) rfl (hF.1.lt (by decide)) (hF.1.sh (by decide) rfl).1 (Nat.le_of_ble_eq_true rfl)) (by decide) ml375 pp375 (Nat.le_of_ble_eq_true rfl) rfl (by decide) (by decide) ?_
      refine ev_aload_n rfl ?_
      refine ev_iload_n rfl ?_
      refine ev_iload_n rfl ?_
      refine ev_in (d := 6) (a := 0) (b := 0) (cd' := c373_0) (m := 3) (L0 := [(2, 42), (0, (xs 1)), (0, (xs 2))]) (jcall_v (A := [(0, (xs 2)), (0, (xs 1))]) (S' := []) (r := 42) rfl (hF.1.lt (by decide)) (hF.1.sh (by decide) rfl).1 (Nat.le_of_ble_eq_true rfl)) (by decide) ml373 pp373 (Nat.le_of_ble_eq_true rfl) rfl (by decide) (by decide) ?_
      refine ev_iload_n rfl ?_
      refine ev_in (d := 5) (a := 0) (b := 0) (cd' := c370_0) (m := 1) (L0 := [(0, (xs 1))]) (jcall_s (A := [(0, (xs 1))]) (S' := []) (by decide) rfl (Nat.le_of_ble_eq_true rfl)) (by decide) ml370 pp370 (Nat.le_of_ble_eq_true rfl) rfl (by decide) (by decide) ?_
      refine ev_iload_n rfl ?_
      refine ev_iconst ?_
      refine ev_iconst ?_
      refine ev_in (d := 4) (a := 0) (b := 0) (cd' := c242_0) (m := 3) (L0 := [(0, (xs 1)), (0, 0), (0, 5)]) (jcall_s (A := [(0, 5), (0, 0), (0, (xs 1))]) (S' := []) (by decide) rfl (Nat.le_of_ble_eq_true rfl)) (by decide) ml242 pp242 (Nat.le_of_ble_eq_true rfl) rfl (by decide) (by decide) ?_
      refine ev_iload_n rfl ?_
      refine ev_iload_n rfl ?_
      refine ev_icmplt f242_14 (fun c19 => absurd c19 (by omega)) (fun c19 => ?_)
      refine ev_iload_n rfl ?_
      refine ev_iload_n rfl ?_
      refine ev_icmpgt f242_14 (fun c20 => absurd c20 (by omega)) (fun c20 => ?_)
      refine ev_iconst ?_
      refine ev_goto f242_15 ?_
      refine ev_ret rfl (by decide) (by decide) ?_
      show jEv _ _ _ _ _ _ _ (_, [(0, (xs 1))], [(0, 1)], _, _, _)
      refine ev_ret rfl (by decide) (by decide) ?_
      show jEv _ _ _ _ _ _ _ (_, [(2, 42), (0, (xs 1)), (0, (xs 2))], [(0, 1)], _, _, _)
      refine ev_ifne f373_9 (fun c21 => ?_) (fun c21 => absurd c21 (by omega))
      refine ev_aload_n rfl ?_
      refine ev_getf (r := 42) (v := 79) (hF.1.lt (by decide)) (hF.1.fam (by decide) (by decide)) ft12_62 ((hF.v rfl)) ?_
      refine ev_iload_n rfl ?_
      refine ev_iald (r := 79) (j := ((xs 1)).toNat) (v := (-1)) (hF.1.lt (by decide)) (hF.1.sh (by decide) rfl).1 (by omega) (hF.1.inbx (by decide) (n := 6) (by decide) (by omega)) (hF.uni (n := 6) (by decide) (by omega)) ?_
      refine ev_iconst ?_
      refine ev_icmpne f373_22 (fun c22 => absurd c22 (by omega)) (fun c22 => ?_)
      refine ev_bipush ?_
      refine ev_ret rfl (by decide) (by decide) ?_
      show jEv _ _ _ _ _ _ _ (_, [(2, 42), (0, (xs 1)), (0, (xs 2))], [(0, (-11))], _, _, _)
      refine ev_ifge f375_15 (fun c23 => absurd c23 (by omega)) (fun c23 => ?_)
      refine ev_ldc2_w ?_
      refine ev_goto f375_26 ?_
      refine ev_ret rfl (by decide) (by decide) ?_
      show jEv _ _ _ _ _ _ _ (_, [(2, (-2)), (2, 0), (2, 42), (0, 0)], [(1, (-9223372036854775808)), (1, (-9223372036854775808))], _, _, _)
      refine ev_lcmp ?_
      refine ev_ifeq f384_2190 (fun c24 => ?_) (fun c24 => absurd (show _ from by unfold jcmpL; (repeat' split) <;> omega) c24)
      exact law_tail _

/-! shift -/
set_option maxHeartbeats 4000000 in
theorem case_50 {xs : Nat → Int} (hr : ∀ j, -2147483648 ≤ xs j ∧ xs j < 2147483648) {h : JH} (hF : Fresh h) : jEv (jOk 8) (some 6) xs c384_0 600000 7302250 (fun v _ => v = some (0, 1)) (c384_2071, [(2, -2), (2, 0), (2, 42), (0, 0)], [], h, 83, 23761) := by
  have r1 := hr 1
  have r2 := hr 2
  have r3 := hr 3
  have r4 := hr 4
  have r5 := hr 5
  refine ev_aload_n rfl ?_
  refine ev_aload_n rfl ?_
  refine ev_iload_n rfl ?_
  refine ev_iconst ?_
  refine ev_iadd (r := 1) (by decide) ?_
  refine ev_sald (j := 1) (v := (xs 1)) rfl rfl rfl ?_
  refine ev_aload_n rfl ?_
  refine ev_iload_n rfl ?_
  refine ev_iconst ?_
  refine ev_iadd (r := 2) (by decide) ?_
  refine ev_sald (j := 2) (v := (xs 2)) rfl rfl rfl ?_
  refine ev_aload_n rfl ?_
  refine ev_iload_n rfl ?_
  refine ev_iconst ?_
  refine ev_iadd (r := 3) (by decide) ?_
  refine ev_sald (j := 3) (v := (xs 3)) rfl rfl rfl ?_
  refine ev_aload_n rfl ?_
  refine ev_iload_n rfl ?_
  refine ev_iconst ?_
  refine ev_iadd (r := 4) (by decide) ?_
  refine ev_sald (j := 4) (v := (xs 4)) rfl rfl rfl ?_
  refine ev_aload_n rfl ?_
  refine ev_iload_n rfl ?_
  refine ev_iconst ?_
  refine ev_iadd (r := 5) (by decide) ?_
  refine ev_sald (j := 5) (v := (xs 5)) rfl rfl rfl ?_
  refine ev_in (d := 7) (a := 0) (b := 0) (cd' := c216_0) (m := 6) (L0 := [(2, 0), (0, (xs 1)), (0, (xs 2)), (0, (xs 3)), (0, (xs 4)), (0, (xs 5))]) (jcall_v (A := [(0, (xs 5)), (0, (xs 4)), (0, (xs 3)), (0, (xs 2)), (0, (xs 1))]) (S' := []) (r := 0) rfl (hF.1.lt (by decide)) (hF.1.sh (by decide) rfl).1 (Nat.le_of_ble_eq_true rfl)) (by decide) ml216 pp216 (Nat.le_of_ble_eq_true rfl) rfl (by decide) (by decide) ?_
  refine ev_iload_n rfl ?_
  refine ev_in (d := 6) (a := 0) (b := 0) (cd' := c222_0) (m := 1) (L0 := [(0, (xs 1))]) (jcall_s (A := [(0, (xs 1))]) (S' := []) (by decide) rfl (Nat.le_of_ble_eq_true rfl)) (by decide) ml222 pp222 (Nat.le_of_ble_eq_true rfl) rfl (by decide) (by decide) ?_
  refine ev_iload_n rfl ?_
  refine ev_iflt f222_14 (fun c1 => ?_) (fun c1 => ?_)
  · refine ev_iconst ?_
    refine ev_ret rfl (by decide) (by decide) ?_
    show jEv _ _ _ _ _ _ _ (_, [(2, 0), (0, (xs 1)), (0, (xs 2)), (0, (xs 3)), (0, (xs 4)), (0, (xs 5))], [(0, 0)], _, _, _)
    refine ev_ifeq f216_14 (fun c2 => ?_) (fun c2 => absurd c2 (by omega))
    refine ev_iconst ?_
    refine ev_ret rfl (by decide) (by decide) ?_
    show jEv _ _ _ _ _ _ _ (_, [(2, (-2)), (2, 0), (2, 42), (0, 0)], [(0, (-1))], _, _, _)
    refine ev_aload_n rfl ?_
    refine ev_aload_n rfl ?_
    refine ev_iload_n rfl ?_
    refine ev_iconst ?_
    refine ev_iadd (r := 1) (by decide) ?_
    refine ev_sald (j := 1) (v := (xs 1)) rfl rfl rfl ?_
    refine ev_aload_n rfl ?_
    refine ev_iload_n rfl ?_
    refine ev_iconst ?_
    refine ev_iadd (r := 2) (by decide) ?_
    refine ev_sald (j := 2) (v := (xs 2)) rfl rfl rfl ?_
    refine ev_aload_n rfl ?_
    refine ev_iload_n rfl ?_
    refine ev_iconst ?_
    refine ev_iadd (r := 3) (by decide) ?_
    refine ev_sald (j := 3) (v := (xs 3)) rfl rfl rfl ?_
    refine ev_aload_n rfl ?_
    refine ev_iload_n rfl ?_
    refine ev_iconst ?_
    refine ev_iadd (r := 4) (by decide) ?_
    refine ev_sald (j := 4) (v := (xs 4)) rfl rfl rfl ?_
    refine ev_aload_n rfl ?_
    refine ev_iload_n rfl ?_
    refine ev_iconst ?_
    refine ev_iadd (r := 5) (by decide) ?_
    refine ev_sald (j := 5) (v := (xs 5)) rfl rfl rfl ?_
    refine ev_in (d := 7) (a := 0) (b := 0) (cd' := c376_0) (m := 7) (L0 := [(2, 42), (0, (xs 1)), (0, (xs 2)), (0, (xs 3)), (0, (xs 4)), (0, (xs 5)), (9, 0)]) (jcall_v (A := [(0, (xs 5)), (0, (xs 4)), (0, (xs 3)), (0, (xs 2)), (0, (xs 1))]) (S' := [(0, (-1))]) (r := 42) rfl (hF.1.lt (by decide)) (hF.1.sh (by decide) rfl).1 (Nat.le_of_ble_eq_true rfl)) (by decide) ml376 pp376 (Nat.le_of_ble_eq_true rfl) rfl (by decide) (by decide) ?_
    refine ev_iload_n rfl ?_
    refine ev_in (d := 6) (a := 0) (b := 0) (cd' := c370_0) (m := 1) (L0 := [(0, (xs 1))]) (jcall_s (A := [(0, (xs 1))]) (S' := []) (by decide) rfl (Nat.le_of_ble_eq_true rfl)) (by decide) ml370 pp370 (Nat.le_of_ble_eq_true rfl) rfl (by decide) (by decide) ?_
    refine ev_iload_n rfl ?_
    refine ev_iconst ?_
    refine ev_iconst ?_
    refine ev_in (d := 5) (a := 0) (b := 0) (cd' := c242_0) (m := 3) (L0 := [(0, (xs 1)), (0, 0), (0, 5)]) (jcall_s (A := [(0, 5), (0, 0), (0, (xs 1))]) (S' := []) (by decide) rfl (Nat.le_of_ble_eq_true rfl)) (by decide) ml242 pp242 (Nat.le_of_ble_eq_true rfl) rfl (by decide) (by decide) ?_
    refine ev_iload_n rfl ?_
    refine ev_iload_n rfl ?_
    refine ev_icmplt f242_14 (fun c3 => ?_) (fun c3 => absurd c3 (by omega))
    refine ev_iconst ?_
    refine ev_ret rfl (by decide) (by decide) ?_
    show jEv _ _ _ _ _ _ _ (_, [(0, (xs 1))], [(0, 0)], _, _, _)
    refine ev_ret rfl (by decide) (by decide) ?_
    show jEv _ _ _ _ _ _ _ (_, [(2, 42), (0, (xs 1)), (0, (xs 2)), (0, (xs 3)), (0, (xs 4)), (0, (xs 5)), (9, 0)], [(0, 0)], _, _, _)
    refine ev_ifeq f376_14 (fun c4 => ?_) (fun c4 => absurd c4 (by omega))
    refine ev_iconst ?_
    refine ev_ret rfl (by decide) (by decide) ?_
    show jEv _ _ _ _ _ _ _ (_, [(2, (-2)), (2, 0), (2, 42), (0, 0)], [(0, (-1)), (0, (-1))], _, _, _)
    refine ev_icmpeq f384_2190 (fun c5 => ?_) (fun c5 => absurd c5 (by omega))
    exact law_tail _
  · refine ev_iload_n rfl ?_
    refine ev_bipush ?_
    refine ev_icmpge f222_14 (fun c6 => ?_) (fun c6 => ?_)
    · refine ev_iconst ?_
      refine ev_ret rfl (by decide) (by decide) ?_
      show jEv _ _ _ _ _ _ _ (_, [(2, 0), (0, (xs 1)), (0, (xs 2)), (0, (xs 3)), (0, (xs 4)), (0, (xs 5))], [(0, 0)], _, _, _)
      refine ev_ifeq f216_14 (fun c7 => ?_) (fun c7 => absurd c7 (by omega))
      refine ev_iconst ?_
      refine ev_ret rfl (by decide) (by decide) ?_
      show jEv _ _ _ _ _ _ _ (_, [(2, (-2)), (2, 0), (2, 42), (0, 0)], [(0, (-1))], _, _, _)
      refine ev_aload_n rfl ?_
      refine ev_aload_n rfl ?_
      refine ev_iload_n rfl ?_
      refine ev_iconst ?_
      refine ev_iadd (r := 1) (by decide) ?_
      refine ev_sald (j := 1) (v := (xs 1)) rfl rfl rfl ?_
      refine ev_aload_n rfl ?_
      refine ev_iload_n rfl ?_
      refine ev_iconst ?_
      refine ev_iadd (r := 2) (by decide) ?_
      refine ev_sald (j := 2) (v := (xs 2)) rfl rfl rfl ?_
      refine ev_aload_n rfl ?_
      refine ev_iload_n rfl ?_
      refine ev_iconst ?_
      refine ev_iadd (r := 3) (by decide) ?_
      refine ev_sald (j := 3) (v := (xs 3)) rfl rfl rfl ?_
      refine ev_aload_n rfl ?_
      refine ev_iload_n rfl ?_
      refine ev_iconst ?_
      refine ev_iadd (r := 4) (by decide) ?_
      refine ev_sald (j := 4) (v := (xs 4)) rfl rfl rfl ?_
      refine ev_aload_n rfl ?_
      refine ev_iload_n rfl ?_
      refine ev_iconst ?_
      refine ev_iadd (r := 5) (by decide) ?_
      refine ev_sald (j := 5) (v := (xs 5)) rfl rfl rfl ?_
      refine ev_in (d := 7) (a := 0) (b := 0) (cd' := c376_0) (m := 7) (L0 := [(2, 42), (0, (xs 1)), (0, (xs 2)), (0, (xs 3)), (0, (xs 4)), (0, (xs 5)), (9, 0)]) (jcall_v (A := [(0, (xs 5)), (0, (xs 4)), (0, (xs 3)), (0, (xs 2)), (0, (xs 1))]) (S' := [(0, (-1))]) (r := 42) rfl (hF.1.lt (by decide)) (hF.1.sh (by decide) rfl).1 (Nat.le_of_ble_eq_true rfl)) (by decide) ml376 pp376 (Nat.le_of_ble_eq_true rfl) rfl (by decide) (by decide) ?_
      refine ev_iload_n rfl ?_
      refine ev_in (d := 6) (a := 0) (b := 0) (cd' := c370_0) (m := 1) (L0 := [(0, (xs 1))]) (jcall_s (A := [(0, (xs 1))]) (S' := []) (by decide) rfl (Nat.le_of_ble_eq_true rfl)) (by decide) ml370 pp370 (Nat.le_of_ble_eq_true rfl) rfl (by decide) (by decide) ?_
      refine ev_iload_n rfl ?_
      refine ev_iconst ?_
      refine ev_iconst ?_
      refine ev_in (d := 5) (a := 0) (b := 0) (cd' := c242_0) (m := 3) (L0 := [(0, (xs 1)), (0, 0), (0, 5)]) (jcall_s (A := [(0, 5), (0, 0), (0, (xs 1))]) (S' := []) (by decide) rfl (Nat.le_of_ble_eq_true rfl)) (by decide) ml242 pp242 (Nat.le_of_ble_eq_true rfl) rfl (by decide) (by decide) ?_
      refine ev_iload_n rfl ?_
      refine ev_iload_n rfl ?_
      refine ev_icmplt f242_14 (fun c8 => absurd c8 (by omega)) (fun c8 => ?_)
      refine ev_iload_n rfl ?_
      refine ev_iload_n rfl ?_
      refine ev_icmpgt f242_14 (fun c9 => ?_) (fun c9 => absurd c9 (by omega))
      refine ev_iconst ?_
      refine ev_ret rfl (by decide) (by decide) ?_
      show jEv _ _ _ _ _ _ _ (_, [(0, (xs 1))], [(0, 0)], _, _, _)
      refine ev_ret rfl (by decide) (by decide) ?_
      show jEv _ _ _ _ _ _ _ (_, [(2, 42), (0, (xs 1)), (0, (xs 2)), (0, (xs 3)), (0, (xs 4)), (0, (xs 5)), (9, 0)], [(0, 0)], _, _, _)
      refine ev_ifeq f376_14 (fun c10 => ?_) (fun c10 => absurd c10 (by omega))
      refine ev_iconst ?_
      refine ev_ret rfl (by decide) (by decide) ?_
      show jEv _ _ _ _ _ _ _ (_, [(2, (-2)), (2, 0), (2, 42), (0, 0)], [(0, (-1)), (0, (-1))], _, _, _)
      refine ev_icmpeq f384_2190 (fun c11 => ?_) (fun c11 => absurd c11 (by omega))
      exact law_tail _
    · refine ev_iconst ?_
      refine ev_goto f222_15 ?_
      refine ev_ret rfl (by decide) (by decide) ?_
      show jEv _ _ _ _ _ _ _ (_, [(2, 0), (0, (xs 1)), (0, (xs 2)), (0, (xs 3)), (0, (xs 4)), (0, (xs 5))], [(0, 1)], _, _, _)
      refine ev_ifeq f216_14 (fun c12 => absurd c12 (by omega)) (fun c12 => ?_)
      refine ev_iload_n rfl ?_
      refine ev_in (d := 6) (a := 0) (b := 0) (cd' := c222_0) (m := 1) (L0 := [(0, (xs 3))]) (jcall_s (A := [(0, (xs 3))]) (S' := []) (by decide) rfl (Nat.le_of_ble_eq_true rfl)) (by decide) ml222 pp222 (Nat.le_of_ble_eq_true rfl) rfl (by decide) (by decide) ?_
      refine ev_iload_n rfl ?_
      refine ev_iflt f222_14 (fun c13 => ?_) (fun c13 => ?_)
      · refine ev_iconst ?_
        refine ev_ret rfl (by decide) (by decide) ?_
        show jEv _ _ _ _ _ _ _ (_, [(2, 0), (0, (xs 1)), (0, (xs 2)), (0, (xs 3)), (0, (xs 4)), (0, (xs 5))], [(0, 0)], _, _, _)
        refine ev_ifne f216_16 (fun c14 => absurd c14 (by omega)) (fun c14 => ?_)
        refine ev_iconst ?_
        refine ev_ret rfl (by decide) (by decide) ?_
        show jEv _ _ _ _ _ _ _ (_, [(2, (-2)), (2, 0), (2, 42), (0, 0)], [(0, (-1))], _, _, _)
        refine ev_aload_n rfl ?_
        refine ev_aload_n rfl ?_
        refine ev_iload_n rfl ?_
        refine ev_iconst ?_
        refine ev_iadd (r := 1) (by decide) ?_
        refine ev_sald (j := 1) (v := (xs 1)) rfl rfl rfl ?_
        refine ev_aload_n rfl ?_
        refine ev_iload_n rfl ?_
        refine ev_iconst ?_
        refine ev_iadd (r := 2) (by decide) ?_
        refine ev_sald (j := 2) (v := (xs 2)) rfl rfl rfl ?_
        refine ev_aload_n rfl ?_
        refine ev_iload_n rfl ?_
        refine ev_iconst ?_
        refine ev_iadd (r := 3) (by decide) ?_
        refine ev_sald (j := 3) (v := (xs 3)) rfl rfl rfl ?_
        refine ev_aload_n rfl ?_
        refine ev_iload_n rfl ?_
        refine ev_iconst ?_
        refine ev_iadd (r := 4) (by decide) ?_
        refine ev_sald (j := 4) (v := (xs 4)) rfl rfl rfl ?_
        refine ev_aload_n rfl ?_
        refine ev_iload_n rfl ?_
        refine ev_iconst ?_
        refine ev_iadd (r := 5) (by decide) ?_
        refine ev_sald (j := 5) (v := (xs 5)) rfl rfl rfl ?_
        refine ev_in (d := 7) (a := 0) (b := 0) (cd' := c376_0) (m := 7) (L0 := [(2, 42), (0, (xs 1)), (0, (xs 2)), (0, (xs 3)), (0, (xs 4)), (0, (xs 5)), (9, 0)]) (jcall_v (A := [(0, (xs 5)), (0, (xs 4)), (0, (xs 3)), (0, (xs 2)), (0, (xs 1))]) (S' := [(0, (-1))]) (r := 42) rfl (hF.1.lt (by decide)) (hF.1.sh (by decide) rfl).1 (Nat.le_of_ble_eq_true rfl)) (by decide) ml376 pp376 (Nat.le_of_ble_eq_true rfl) rfl (by decide) (by decide) ?_
        refine ev_iload_n rfl ?_
        refine ev_in (d := 6) (a := 0) (b := 0) (cd' := c370_0) (m := 1) (L0 := [(0, (xs 1))]) (jcall_s (A := [(0, (xs 1))]) (S' := []) (by decide) rfl (Nat.le_of_ble_eq_true rfl)) (by decide) ml370 pp370 (Nat.le_of_ble_eq_true rfl) rfl (by decide) (by decide) ?_
        refine ev_iload_n rfl ?_
        refine ev_iconst ?_
        refine ev_iconst ?_
        refine ev_in (d := 5) (a := 0) (b := 0) (cd' := c242_0) (m := 3) (L0 := [(0, (xs 1)), (0, 0), (0, 5)]) (jcall_s (A := [(0, 5), (0, 0), (0, (xs 1))]) (S' := []) (by decide) rfl (Nat.le_of_ble_eq_true rfl)) (by decide) ml242 pp242 (Nat.le_of_ble_eq_true rfl) rfl (by decide) (by decide) ?_
        refine ev_iload_n rfl ?_
        refine ev_iload_n rfl ?_
        refine ev_icmplt f242_14 (fun c15 => absurd c15 (by omega)) (fun c15 => ?_)
        refine ev_iload_n rfl ?_
        refine ev_iload_n rfl ?_
        refine ev_icmpgt f242_14 (fun c16 => absurd c16 (by omega)) (fun c16 => ?_)
        refine ev_iconst ?_
        refine ev_goto f242_15 ?_
        refine ev_ret rfl (by decide) (by decide) ?_
        show jEv _ _ _ _ _ _ _ (_, [(0, (xs 1))], [(0, 1)], _, _, _)
        refine ev_ret rfl (by decide) (by decide) ?_
        show jEv _ _ _ _ _ _ _ (_, [(2, 42), (0, (xs 1)), (0, (xs 2)), (0, (xs 3)), (0, (xs 4)), (0, (xs 5)), (9, 0)], [(0, 1)], _, _, _)
        refine ev_ifeq f376_14 (fun c17 => absurd c17 (by omega)) (fun c17 => ?_)
        refine ev_iload_n rfl ?_
        refine ev_in (d := 6) (a := 0) (b := 0) (cd' := c370_0) (m := 1) (L0 := [(0, (xs 3))]) (jcall_s (A := [(0, (xs 3))]) (S' := []) (by decide) rfl (Nat.le_of_ble_eq_true rfl)) (by decide) ml370 pp370 (Nat.le_of_ble_eq_true rfl) rfl (by decide) (by decide) ?_
        refine ev_iload_n rfl ?_
        refine ev_iconst ?_
        refine ev_iconst ?_
        refine ev_in (d := 5) (a := 0) (b := 0) (cd' := c242_0) (m := 3) (L0 := [(0, (xs 3)), (0, 0), (0, 5)]) (jcall_s (A := [(0, 5), (0, 0), (0, (xs 3))]) (S' := []) (by decide) rfl (Nat.le_of_ble_eq_true rfl)) (by decide) ml242 pp242 (Nat.le_of_ble_eq_true rfl) rfl (by decide) (by decide) ?_
        refine ev_iload_n rfl ?_
        refine ev_iload_n rfl ?_
        refine ev_icmplt f242_14 (fun c18 => ?_) (fun c18 => absurd c18 (by omega))
        refine ev_iconst ?_
        refine ev_ret rfl (by decide) (by decide) ?_
        show jEv _ _ _ _ _ _ _ (_, [(0, (xs 3))], [(0, 0)], _, _, _)
        refine ev_ret rfl (by decide) (by decide) ?_
        show jEv _ _ _ _ _ _ _ (_, [(2, 42), (0, (xs 1)), (0, (xs 2)), (0, (xs 3)), (0, (xs 4)), (0, (xs 5)), (9, 0)], [(0, 0)], _, _, _)
        refine ev_ifne f376_16 (fun c19 => absurd c19 (by omega)) (fun c19 => ?_)
        refine ev_iconst ?_
        refine ev_ret rfl (by decide) (by decide) ?_
        show jEv _ _ _ _ _ _ _ (_, [(2, (-2)), (2, 0), (2, 42), (0, 0)], [(0, (-1)), (0, (-1))], _, _, _)
        refine ev_icmpeq f384_2190 (fun c20 => ?_) (fun c20 => absurd c20 (by omega))
        exact law_tail _
      · refine ev_iload_n rfl ?_
        refine ev_bipush ?_
        refine ev_icmpge f222_14 (fun c21 => ?_) (fun c21 => ?_)
        · refine ev_iconst ?_
          refine ev_ret rfl (by decide) (by decide) ?_
          show jEv _ _ _ _ _ _ _ (_, [(2, 0), (0, (xs 1)), (0, (xs 2)), (0, (xs 3)), (0, (xs 4)), (0, (xs 5))], [(0, 0)], _, _, _)
          refine ev_ifne f216_16 (fun c22 => absurd c22 (by omega)) (fun c22 => ?_)
          refine ev_iconst ?_
          refine ev_ret rfl (by decide) (by decide) ?_
          show jEv _ _ _ _ _ _ _ (_, [(2, (-2)), (2, 0), (2, 42), (0, 0)], [(0, (-1))], _, _, _)
          refine ev_aload_n rfl ?_
          refine ev_aload_n rfl ?_
          refine ev_iload_n rfl ?_
          refine ev_iconst ?_
          refine ev_iadd (r := 1) (by decide) ?_
          refine ev_sald (j := 1) (v := (xs 1)) rfl rfl rfl ?_
          refine ev_aload_n rfl ?_
          refine ev_iload_n rfl ?_
          refine ev_iconst ?_
          refine ev_iadd (r := 2) (by decide) ?_
          refine ev_sald (j := 2) (v := (xs 2)) rfl rfl rfl ?_
          refine ev_aload_n rfl ?_
          refine ev_iload_n rfl ?_
          refine ev_iconst ?_
          refine ev_iadd (r := 3) (by decide) ?_
          refine ev_sald (j := 3) (v := (xs 3)) rfl rfl rfl ?_
          refine ev_aload_n rfl ?_
          refine ev_iload_n rfl ?_
          refine ev_iconst ?_
          refine ev_iadd (r := 4) (by decide) ?_
          refine ev_sald (j := 4) (v := (xs 4)) rfl rfl rfl ?_
          refine ev_aload_n rfl ?_
          refine ev_iload_n rfl ?_
          refine ev_iconst ?_
          refine ev_iadd (r := 5) (by decide) ?_
          refine ev_sald (j := 5) (v := (xs 5)) rfl rfl rfl ?_
          refine ev_in (d := 7) (a := 0) (b := 0) (cd' := c376_0) (m := 7) (L0 := [(2, 42), (0, (xs 1)), (0, (xs 2)), (0, (xs 3)), (0, (xs 4)), (0, (xs 5)), (9, 0)]) (jcall_v (A := [(0, (xs 5)), (0, (xs 4)), (0, (xs 3)), (0, (xs 2)), (0, (xs 1))]) (S' := [(0, (-1))]) (r := 42) rfl (hF.1.lt (by decide)) (hF.1.sh (by decide) rfl).1 (Nat.le_of_ble_eq_true rfl)) (by decide) ml376 pp376 (Nat.le_of_ble_eq_true rfl) rfl (by decide) (by decide) ?_
          refine ev_iload_n rfl ?_
          refine ev_in (d := 6) (a := 0) (b := 0) (cd' := c370_0) (m := 1) (L0 := [(0, (xs 1))]) (jcall_s (A := [(0, (xs 1))]) (S' := []) (by decide) rfl (Nat.le_of_ble_eq_true rfl)) (by decide) ml370 pp370 (Nat.le_of_ble_eq_true rfl) rfl (by decide) (by decide) ?_
          refine ev_iload_n rfl ?_
          refine ev_iconst ?_
          refine ev_iconst ?_
          refine ev_in (d := 5) (a := 0) (b := 0) (cd' := c242_0) (m := 3) (L0 := [(0, (xs 1)), (0, 0), (0, 5)]) (jcall_s (A := [(0, 5), (0, 0), (0, (xs 1))]) (S' := []) (by decide) rfl (Nat.le_of_ble_eq_true rfl)) (by decide) ml242 pp242 (Nat.le_of_ble_eq_true rfl) rfl (by decide) (by decide) ?_
          refine ev_iload_n rfl ?_
          refine ev_iload_n rfl ?_
          refine ev_icmplt f242_14 (fun c23 => absurd c23 (by omega)) (fun c23 => ?_)
          refine ev_iload_n rfl ?_
          refine ev_iload_n rfl ?_
          refine ev_icmpgt f242_14 (fun c24 => absurd c24 (by omega)) (fun c24 => ?_)
          refine ev_iconst ?_
          refine ev_goto f242_15 ?_
          refine ev_ret rfl (by decide) (by decide) ?_
          show jEv _ _ _ _ _ _ _ (_, [(0, (xs 1))], [(0, 1)], _, _, _)
          refine ev_ret rfl (by decide) (by decide) ?_
          show jEv _ _ _ _ _ _ _ (_, [(2, 42), (0, (xs 1)), (0, (xs 2)), (0, (xs 3)), (0, (xs 4)), (0, (xs 5)), (9, 0)], [(0, 1)], _, _, _)
          refine ev_ifeq f376_14 (fun c25 => absurd c25 (by omega)) (fun c25 => ?_)
          refine ev_iload_n rfl ?_
          refine ev_in (d := 6) (a := 0) (b := 0) (cd' := c370_0) (m := 1) (L0 := [(0, (xs 3))]) (jcall_s (A := [(0, (xs 3))]) (S' := []) (by decide) rfl (Nat.le_of_ble_eq_true rfl)) (by decide) ml370 pp370 (Nat.le_of_ble_eq_true rfl) rfl (by decide) (by decide) ?_
          refine ev_iload_n rfl ?_
          refine ev_iconst ?_
          refine ev_iconst ?_
          refine ev_in (d := 5) (a := 0) (b := 0) (cd' := c242_0) (m := 3) (L0 := [(0, (xs 3)), (0, 0), (0, 5)]) (jcall_s (A := [(0, 5), (0, 0), (0, (xs 3))]) (S' := []) (by decide) rfl (Nat.le_of_ble_eq_true rfl)) (by decide) ml242 pp242 (Nat.le_of_ble_eq_true rfl) rfl (by decide) (by decide) ?_
          refine ev_iload_n rfl ?_
          refine ev_iload_n rfl ?_
          refine ev_icmplt f242_14 (fun c26 => absurd c26 (by omega)) (fun c26 => ?_)
          refine ev_iload_n rfl ?_
          refine ev_iload_n rfl ?_
          refine ev_icmpgt f242_14 (fun c27 => ?_) (fun c27 => absurd c27 (by omega))
          refine ev_iconst ?_
          refine ev_ret rfl (by decide) (by decide) ?_
          show jEv _ _ _ _ _ _ _ (_, [(0, (xs 3))], [(0, 0)], _, _, _)
          refine ev_ret rfl (by decide) (by decide) ?_
          show jEv _ _ _ _ _ _ _ (_, [(2, 42), (0, (xs 1)), (0, (xs 2)), (0, (xs 3)), (0, (xs 4)), (0, (xs 5)), (9, 0)], [(0, 0)], _, _, _)
          refine ev_ifne f376_16 (fun c28 => absurd c28 (by omega)) (fun c28 => ?_)
          refine ev_iconst ?_
          refine ev_ret rfl (by decide) (by decide) ?_
          show jEv _ _ _ _ _ _ _ (_, [(2, (-2)), (2, 0), (2, 42), (0, 0)], [(0, (-1)), (0, (-1))], _, _, _)
          refine ev_icmpeq f384_2190 (fun c29 => ?_) (fun c29 => absurd c29 (by omega))
          exact law_tail _
        · refine ev_iconst ?_
          refine ev_goto f222_15 ?_
          refine ev_ret rfl (by decide) (by decide) ?_
          show jEv _ _ _ _ _ _ _ (_, [(2, 0), (0, (xs 1)), (0, (xs 2)), (0, (xs 3)), (0, (xs 4)), (0, (xs 5))], [(0, 1)], _, _, _)
          refine ev_ifne f216_16 (fun c30 => ?_) (fun c30 => absurd c30 (by omega))
          refine ev_aload_n rfl ?_
          refine ev_getf (r := 0) (v := 37) (hF.1.lt (by decide)) (hF.1.fam (by decide) (by decide)) ft11_12 ((hF.v rfl)) ?_
          refine ev_iload_n rfl ?_
          refine ev_iald (r := 37) (j := ((xs 1)).toNat) (v := (-1)) (hF.1.lt (by decide)) (hF.1.sh (by decide) rfl).1 (by omega) (hF.1.inbx (by decide) (n := 6) (by decide) (by omega)) (hF.uni (n := 6) (by decide) (by omega)) ?_
          refine ev_iconst ?_
          refine ev_icmpeq f216_36 (fun c31 => ?_) (fun c31 => absurd c31 (by omega))
          refine ev_bipush ?_
          refine ev_ret rfl (by decide) (by decide) ?_
          show jEv _ _ _ _ _ _ _ (_, [(2, (-2)), (2, 0), (2, 42), (0, 0)], [(0, (-11))], _, _, _)
          refine ev_aload_n rfl ?_
          refine ev_aload_n rfl ?_
          refine ev_iload_n rfl ?_
          refine ev_iconst ?_
          refine ev_iadd (r := 1) (by decide) ?_
          refine ev_sald (j := 1) (v := (xs 1)) rfl rfl rfl ?_
          refine ev_aload_n rfl ?_
          refine ev_iload_n rfl ?_
          refine ev_iconst ?_
          refine ev_iadd (r := 2) (by decide) ?_
          refine ev_sald (j := 2) (v := (xs 2)) rfl rfl rfl ?_
          refine ev_aload_n rfl ?_
          refine ev_iload_n rfl ?_
          refine ev_iconst ?_
          refine ev_iadd (r := 3) (by decide) ?_
          refine ev_sald (j := 3) (v := (xs 3)) rfl rfl rfl ?_
          refine ev_aload_n rfl ?_
          refine ev_iload_n rfl ?_
          refine ev_iconst ?_
          refine ev_iadd (r := 4) (by decide) ?_
          refine ev_sald (j := 4) (v := (xs 4)) rfl rfl rfl ?_
          refine ev_aload_n rfl ?_
          refine ev_iload_n rfl ?_
          refine ev_iconst ?_
          refine ev_iadd (r := 5) (by decide) ?_
          refine ev_sald (j := 5) (v := (xs 5)) rfl rfl rfl ?_
          refine ev_in (d := 7) (a := 0) (b := 0) (cd' := c376_0) (m := 7) (L0 := [(2, 42), (0, (xs 1)), (0, (xs 2)), (0, (xs 3)), (0, (xs 4)), (0, (xs 5)), (9, 0)]) (jcall_v (A := [(0, (xs 5)), (0, (xs 4)), (0, (xs 3)), (0, (xs 2)), (0, (xs 1))]) (S' := [(0, (-11))]) (r := 42) rfl (hF.1.lt (by decide)) (hF.1.sh (by decide) rfl).1 (Nat.le_of_ble_eq_true rfl)) (by decide) ml376 pp376 (Nat.le_of_ble_eq_true rfl) rfl (by decide) (by decide) ?_
          refine ev_iload_n rfl ?_
          refine ev_in (d := 6) (a := 0) (b := 0) (cd' := c370_0) (m := 1) (L0 := [(0, (xs 1))]) (jcall_s (A := [(0, (xs 1))]) (S' := []) (by decide) rfl (Nat.le_of_ble_eq_true rfl)) (by decide) ml370 pp370 (Nat.le_of_ble_eq_true rfl) rfl (by decide) (by decide) ?_
          refine ev_iload_n rfl ?_
          refine ev_iconst ?_
          refine ev_iconst ?_
          refine ev_in (d := 5) (a := 0) (b := 0) (cd' := c242_0) (m := 3) (L0 := [(0, (xs 1)), (0, 0), (0, 5)]) (jcall_s (A := [(0, 5), (0, 0), (0, (xs 1))]) (S' := []) (by decide) rfl (Nat.le_of_ble_eq_true rfl)) (by decide) ml242 pp242 (Nat.le_of_ble_eq_true rfl) rfl (by decide) (by decide) ?_
          refine ev_iload_n rfl ?_
          refine ev_iload_n rfl ?_
          refine ev_icmplt f242_14 (fun c32 => absurd c32 (by omega)) (fun c32 => ?_)
          refine ev_iload_n rfl ?_
          refine ev_iload_n rfl ?_
          refine ev_icmpgt f242_14 (fun c33 => absurd c33 (by omega)) (fun c33 => ?_)
          refine ev_iconst ?_
          refine ev_goto f242_15 ?_
          refine ev_ret rfl (by decide) (by decide) ?_
          show jEv _ _ _ _ _ _ _ (_, [(0, (xs 1))], [(0, 1)], _, _, _)
          refine ev_ret rfl (by decide) (by decide) ?_
          show jEv _ _ _ _ _ _ _ (_, [(2, 42), (0, (xs 1)), (0, (xs 2)), (0, (xs 3)), (0, (xs 4)), (0, (xs 5)), (9, 0)], [(0, 1)], _, _, _)
          refine ev_ifeq f376_14 (fun c34 => absurd c34 (by omega)) (fun c34 => ?_)
          refine ev_iload_n rfl ?_
          refine ev_in (d := 6) (a := 0) (b := 0) (cd' := c370_0) (m := 1) (L0 := [(0, (xs 3))]) (jcall_s (A := [(0, (xs 3))]) (S' := []) (by decide) rfl (Nat.le_of_ble_eq_true rfl)) (by decide) ml370 pp370 (Nat.le_of_ble_eq_true rfl) rfl (by decide) (by decide) ?_
          refine ev_iload_n rfl ?_
          refine ev_iconst ?_
          refine ev_iconst ?_
          refine ev_in (d := 5) (a := 0) (b := 0) (cd' := c242_0) (m := 3) (L0 := [(0, (xs 3)), (0, 0), (0, 5)]) (jcall_s (A := [(0, 5), (0, 0), (0, (xs 3))]) (S' := []) (by decide) rfl (Nat.le_of_ble_eq_true rfl)) (by decide) ml242 pp242 (Nat.le_of_ble_eq_true rfl) rfl (by decide) (by decide) ?_
          refine ev_iload_n rfl ?_
          refine ev_iload_n rfl ?_
          refine ev_icmplt f242_14 (fun c35 => absurd c35 (by omega)) (fun c35 => ?_)
          refine ev_iload_n rfl ?_
          refine ev_iload_n rfl ?_
          refine ev_icmpgt f242_14 (fun c36 => absurd c36 (by omega)) (fun c36 => ?_)
          refine ev_iconst ?_
          refine ev_goto f242_15 ?_
          refine ev_ret rfl (by decide) (by decide) ?_
          show jEv _ _ _ _ _ _ _ (_, [(0, (xs 3))], [(0, 1)], _, _, _)
          refine ev_ret rfl (by decide) (by decide) ?_
          show jEv _ _ _ _ _ _ _ (_, [(2, 42), (0, (xs 1)), (0, (xs 2)), (0, (xs 3)), (0, (xs 4)), (0, (xs 5)), (9, 0)], [(0, 1)], _, _, _)
          refine ev_ifne f376_16 (fun c37 => ?_) (fun c37 => absurd c37 (by omega))
          refine ev_aload_n rfl ?_
          refine ev_getf (r := 42) (v := 79) (hF.1.lt (by decide)) (hF.1.fam (by decide) (by decide)) ft12_62 ((hF.v rfl)) ?_
          refine ev_iload_n rfl ?_
          refine ev_iald (r := 79) (j := ((xs 1)).toNat) (v := (-1)) (hF.1.lt (by decide)) (hF.1.sh (by decide) rfl).1 (by omega) (hF.1.inbx (by decide) (n := 6) (by decide) (by omega)) (hF.uni (n := 6) (by decide) (by omega)) ?_
          refine ev_iconst ?_
          refine ev_icmpeq f376_36 (fun c38 => ?_) (fun c38 => absurd c38 (by omega))
          refine ev_bipush ?_
          refine ev_ret rfl (by decide) (by decide) ?_
          show jEv _ _ _ _ _ _ _ (_, [(2, (-2)), (2, 0), (2, 42), (0, 0)], [(0, (-11)), (0, (-11))], _, _, _)
          refine ev_icmpeq f384_2190 (fun c39 => ?_) (fun c39 => absurd c39 (by omega))
          exact law_tail _

/-! taken -/
set_option maxHeartbeats 4000000 in
theorem case_51 {xs : Nat → Int} (hr : ∀ j, -2147483648 ≤ xs j ∧ xs j < 2147483648) {h : JH} (hF : Fresh h) : jEv (jOk 8) (some 6) xs c384_0 600000 7302250 (fun v _ => v = some (0, 1)) (c384_2134, [(2, -2), (2, 0), (2, 42), (0, 0)], [], h, 83, 23761) := by
  have r1 := hr 1
  have r2 := hr 2
  have r3 := hr 3
  have r4 := hr 4
  have r5 := hr 5
  refine ev_aload_n rfl ?_
  refine ev_aload_n rfl ?_
  refine ev_iload_n rfl ?_
  refine ev_iconst ?_
  refine ev_iadd (r := 1) (by decide) ?_
  refine ev_sald (j := 1) (v := (xs 1)) rfl rfl rfl ?_
  refine ev_aload_n rfl ?_
  refine ev_iload_n rfl ?_
  refine ev_iconst ?_
  refine ev_iadd (r := 2) (by decide) ?_
  refine ev_sald (j := 2) (v := (xs 2)) rfl rfl rfl ?_
  refine ev_in (d := 7) (a := 0) (b := 0) (cd' := c217_0) (m := 4) (L0 := [(2, 0), (0, (xs 1)), (0, (xs 2)), (9, 0)]) (jcall_v (A := [(0, (xs 2)), (0, (xs 1))]) (S' := []) (r := 0) rfl (hF.1.lt (by decide)) (hF.1.sh (by decide) rfl).1 (Nat.le_of_ble_eq_true rfl)) (by decide) ml217 pp217 (Nat.le_of_ble_eq_true rfl) rfl (by decide) (by decide) ?_
  refine ev_iload_n rfl ?_
  refine ev_in (d := 6) (a := 0) (b := 0) (cd' := c222_0) (m := 1) (L0 := [(0, (xs 1))]) (jcall_s (A := [(0, (xs 1))]) (S' := []) (by decide) rfl (Nat.le_of_ble_eq_true rfl)) (by decide) ml222 pp222 (Nat.le_of_ble_eq_true rfl) rfl (by decide) (by decide) ?_
  refine ev_iload_n rfl ?_
  refine ev_iflt f222_14 (fun c1 => ?_) (fun c1 => ?_)
  · refine ev_iconst ?_
    refine ev_ret rfl (by decide) (by decide) ?_
    show jEv _ _ _ _ _ _ _ (_, [(2, 0), (0, (xs 1)), (0, (xs 2)), (9, 0)], [(0, 0)], _, _, _)
    refine ev_ifeq f217_16 (fun c2 => ?_) (fun c2 => absurd c2 (by omega))
    refine ev_iconst ?_
    refine ev_ret rfl (by decide) (by decide) ?_
    show jEv _ _ _ _ _ _ _ (_, [(2, (-2)), (2, 0), (2, 42), (0, 0)], [(0, (-1))], _, _, _)
    refine ev_aload_n rfl ?_
    refine ev_aload_n rfl ?_
    refine ev_iload_n rfl ?_
    refine ev_iconst ?_
    refine ev_iadd (r := 1) (by decide) ?_
    refine ev_sald (j := 1) (v := (xs 1)) rfl rfl rfl ?_
    refine ev_aload_n rfl ?_
    refine ev_iload_n rfl ?_
    refine ev_iconst ?_
    refine ev_iadd (r := 2) (by decide) ?_
    refine ev_sald (j := 2) (v := (xs 2)) rfl rfl rfl ?_
    refine ev_in (d := 7) (a := 0) (b := 0) (cd' := c377_0) (m := 3) (L0 := [(2, 42), (0, (xs 1)), (0, (xs 2))]) (jcall_v (A := [(0, (xs 2)), (0, (xs 1))]) (S' := [(0, (-1))]) (r := 42) rfl (hF.1.lt (by decide)) (hF.1.sh (by decide) rfl).1 (Nat.le_of_ble_eq_true rfl)) (by decide) ml377 pp377 (Nat.le_of_ble_eq_true rfl) rfl (by decide) (by decide) ?_
    refine ev_iload_n rfl ?_
    refine ev_in (d := 6) (a := 0) (b := 0) (cd' := c370_0) (m := 1) (L0 := [(0, (xs 1))]) (jcall_s (A := [(0, (xs 1))]) (S' := []) (by decide) rfl (Nat.le_of_ble_eq_true rfl)) (by decide) ml370 pp370 (Nat.le_of_ble_eq_true rfl) rfl (by decide) (by decide) ?_
    refine ev_iload_n rfl ?_
    refine ev_iconst ?_
    refine ev_iconst ?_
    refine ev_in (d := 5) (a := 0) (b := 0) (cd' := c242_0) (m := 3) (L0 := [(0, (xs 1)), (0, 0), (0, 5)]) (jcall_s (A := [(0, 5), (0, 0), (0, (xs 1))]) (S' := []) (by decide) rfl (Nat.le_of_ble_eq_true rfl)) (by decide) ml242 pp242 (Nat.le_of_ble_eq_true rfl) rfl (by decide) (by decide) ?_
    refine ev_iload_n rfl ?_
    refine ev_iload_n rfl ?_
    refine ev_icmplt f242_14 (fun c3 => ?_) (fun c3 => absurd c3 (by omega))
    refine ev_iconst ?_
    refine ev_ret rfl (by decide) (by decide) ?_
    show jEv _ _ _ _ _ _ _ (_, [(0, (xs 1))], [(0, 0)], _, _, _)
    refine ev_ret rfl (by decide) (by decide) ?_
    show jEv _ _ _ _ _ _ _ (_, [(2, 42), (0, (xs 1)), (0, (xs 2))], [(0, 0)], _, _, _)
    refine ev_ifeq f377_16 (fun c4 => ?_) (fun c4 => absurd c4 (by omega))
    refine ev_iconst ?_
    refine ev_ret rfl (by decide) (by decide) ?_
    show jEv _ _ _ _ _ _ _ (_, [(2, (-2)), (2, 0), (2, 42), (0, 0)], [(0, (-1)), (0, (-1))], _, _, _)
    refine ev_icmpeq f384_2190 (fun c5 => ?_) (fun c5 => absurd c5 (by omega))
    exact law_tail _
  · refine ev_iload_n rfl ?_
    refine ev_bipush ?_
    refine ev_icmpge f222_14 (fun c6 => ?_) (fun c6 => ?_)
    · refine ev_iconst ?_
      refine ev_ret rfl (by decide) (by decide) ?_
      show jEv _ _ _ _ _ _ _ (_, [(2, 0), (0, (xs 1)), (0, (xs 2)), (9, 0)], [(0, 0)], _, _, _)
      refine ev_ifeq f217_16 (fun c7 => ?_) (fun c7 => absurd c7 (by omega))
      refine ev_iconst ?_
      refine ev_ret rfl (by decide) (by decide) ?_
      show jEv _ _ _ _ _ _ _ (_, [(2, (-2)), (2, 0), (2, 42), (0, 0)], [(0, (-1))], _, _, _)
      refine ev_aload_n rfl ?_
      refine ev_aload_n rfl ?_
      refine ev_iload_n rfl ?_
      refine ev_iconst ?_
      refine ev_iadd (r := 1) (by decide) ?_
      refine ev_sald (j := 1) (v := (xs 1)) rfl rfl rfl ?_
      refine ev_aload_n rfl ?_
      refine ev_iload_n rfl ?_
      refine ev_iconst ?_
      refine ev_iadd (r := 2) (by decide) ?_
      refine ev_sald (j := 2) (v := (xs 2)) rfl rfl rfl ?_
      refine ev_in (d := 7) (a := 0) (b := 0) (cd' := c377_0) (m := 3) (L0 := [(2, 42), (0, (xs 1)), (0, (xs 2))]) (jcall_v (A := [(0, (xs 2)), (0, (xs 1))]) (S' := [(0, (-1))]) (r := 42) rfl (hF.1.lt (by decide)) (hF.1.sh (by decide) rfl).1 (Nat.le_of_ble_eq_true rfl)) (by decide) ml377 pp377 (Nat.le_of_ble_eq_true rfl) rfl (by decide) (by decide) ?_
      refine ev_iload_n rfl ?_
      refine ev_in (d := 6) (a := 0) (b := 0) (cd' := c370_0) (m := 1) (L0 := [(0, (xs 1))]) (jcall_s (A := [(0, (xs 1))]) (S' := []) (by decide) rfl (Nat.le_of_ble_eq_true rfl)) (by decide) ml370 pp370 (Nat.le_of_ble_eq_true rfl) rfl (by decide) (by decide) ?_
      refine ev_iload_n rfl ?_
      refine ev_iconst ?_
      refine ev_iconst ?_
      refine ev_in (d := 5) (a := 0) (b := 0) (cd' := c242_0) (m := 3) (L0 := [(0, (xs 1)), (0, 0), (0, 5)]) (jcall_s (A := [(0, 5), (0, 0), (0, (xs 1))]) (S' := []) (by decide) rfl (Nat.le_of_ble_eq_true rfl)) (by decide) ml242 pp242 (Nat.le_of_ble_eq_true rfl) rfl (by decide) (by decide) ?_
      refine ev_iload_n rfl ?_
      refine ev_iload_n rfl ?_
      refine ev_icmplt f242_14 (fun c8 => absurd c8 (by omega)) (fun c8 => ?_)
      refine ev_iload_n rfl ?_
      refine ev_iload_n rfl ?_
      refine ev_icmpgt f242_14 (fun c9 => ?_) (fun c9 => absurd c9 (by omega))
      refine ev_iconst ?_
      refine ev_ret rfl (by decide) (by decide) ?_
      show jEv _ _ _ _ _ _ _ (_, [(0, (xs 1))], [(0, 0)], _, _, _)
      refine ev_ret rfl (by decide) (by decide) ?_
      show jEv _ _ _ _ _ _ _ (_, [(2, 42), (0, (xs 1)), (0, (xs 2))], [(0, 0)], _, _, _)
      refine ev_ifeq f377_16 (fun c10 => ?_) (fun c10 => absurd c10 (by omega))
      refine ev_iconst ?_
      refine ev_ret rfl (by decide) (by decide) ?_
      show jEv _ _ _ _ _ _ _ (_, [(2, (-2)), (2, 0), (2, 42), (0, 0)], [(0, (-1)), (0, (-1))], _, _, _)
      refine ev_icmpeq f384_2190 (fun c11 => ?_) (fun c11 => absurd c11 (by omega))
      exact law_tail _
    · refine ev_iconst ?_
      refine ev_goto f222_15 ?_
      refine ev_ret rfl (by decide) (by decide) ?_
      show jEv _ _ _ _ _ _ _ (_, [(2, 0), (0, (xs 1)), (0, (xs 2)), (9, 0)], [(0, 1)], _, _, _)
      refine ev_ifeq f217_16 (fun c12 => absurd c12 (by omega)) (fun c12 => ?_)
      refine ev_iload_n rfl ?_
      refine ev_iflt f217_16 (fun c13 => ?_) (fun c13 => ?_)
      · refine ev_iconst ?_
        refine ev_ret rfl (by decide) (by decide) ?_
        show jEv _ _ _ _ _ _ _ (_, [(2, (-2)), (2, 0), (2, 42), (0, 0)], [(0, (-1))], _, _, _)
        refine ev_aload_n rfl ?_
        refine ev_aload_n rfl ?_
        refine ev_iload_n rfl ?_
        refine ev_iconst ?_
        refine ev_iadd (r := 1) (by decide) ?_
        refine ev_sald (j := 1) (v := (xs 1)) rfl rfl rfl ?_
        refine ev_aload_n rfl ?_
        refine ev_iload_n rfl ?_
        refine ev_iconst ?_
        refine ev_iadd (r := 2) (by decide) ?_
        refine ev_sald (j := 2) (v := (xs 2)) rfl rfl rfl ?_
        refine ev_in (d := 7) (a := 0) (b := 0) (cd' := c377_0) (m := 3) (L0 := [(2, 42), (0, (xs 1)), (0, (xs 2))]) (jcall_v (A := [(0, (xs 2)), (0, (xs 1))]) (S' := [(0, (-1))]) (r := 42) rfl (hF.1.lt (by decide)) (hF.1.sh (by decide) rfl).1 (Nat.le_of_ble_eq_true rfl)) (by decide) ml377 pp377 (Nat.le_of_ble_eq_true rfl) rfl (by decide) (by decide) ?_
        refine ev_iload_n rfl ?_
        refine ev_in (d := 6) (a := 0) (b := 0) (cd' := c370_0) (m := 1) (L0 := [(0, (xs 1))]) (jcall_s (A := [(0, (xs 1))]) (S' := []) (by decide) rfl (Nat.le_of_ble_eq_true rfl)) (by decide) ml370 pp370 (Nat.le_of_ble_eq_true rfl) rfl (by decide) (by decide) ?_
        refine ev_iload_n rfl ?_
        refine ev_iconst ?_
        refine ev_iconst ?_
        refine ev_in (d := 5) (a := 0) (b := 0) (cd' := c242_0) (m := 3) (L0 := [(0, (xs 1)), (0, 0), (0, 5)]) (jcall_s (A := [(0, 5), (0, 0), (0, (xs 1))]) (S' := []) (by decide) rfl (Nat.le_of_ble_eq_true rfl)) (by decide) ml242 pp242 (Nat.le_of_ble_eq_true rfl) rfl (by decide) (by decide) ?_
        refine ev_iload_n rfl ?_
        refine ev_iload_n rfl ?_
        refine ev_icmplt f242_14 (fun c14 => absurd c14 (by omega)) (fun c14 => ?_)
        refine ev_iload_n rfl ?_
        refine ev_iload_n rfl ?_
        refine ev_icmpgt f242_14 (fun c15 => absurd c15 (by omega)) (fun c15 => ?_)
        refine ev_iconst ?_
        refine ev_goto f242_15 ?_
        refine ev_ret rfl (by decide) (by decide) ?_
        show jEv _ _ _ _ _ _ _ (_, [(0, (xs 1))], [(0, 1)], _, _, _)
        refine ev_ret rfl (by decide) (by decide) ?_
        show jEv _ _ _ _ _ _ _ (_, [(2, 42), (0, (xs 1)), (0, (xs 2))], [(0, 1)], _, _, _)
        refine ev_ifeq f377_16 (fun c16 => absurd c16 (by omega)) (fun c16 => ?_)
        refine ev_iload_n rfl ?_
        refine ev_iconst ?_
        refine ev_iconst ?_
        refine ev_in (d := 6) (a := 0) (b := 0) (cd' := c242_0) (m := 3) (L0 := [(0, (xs 2)), (0, 0), (0, 5)]) (jcall_s (A := [(0, 5), (0, 0), (0, (xs 2))]) (S' := []) (by decide) rfl (Nat.le_of_ble_eq_true rfl)) (by decide) ml242 pp242 (Nat.le_of_ble_eq_true rfl) rfl (by decide) (by decide) ?_
        refine ev_iload_n rfl ?_
        refine ev_iload_n rfl ?_
        refine ev_icmplt f242_14 (fun c17 => ?_) (fun c17 => absurd c17 (by omega))
        refine ev_iconst ?_
        refine ev_ret rfl (by decide) (by decide) ?_
        show jEv _ _ _ _ _ _ _ (_, [(2, 42), (0, (xs 1)), (0, (xs 2))], [(0, 0)], _, _, _)
        refine ev_ifne f377_18 (fun c18 => absurd c18 (by omega)) (fun c18 => ?_)
        refine ev_iconst ?_
        refine ev_ret rfl (by decide) (by decide) ?_
        show jEv _ _ _ _ _ _ _ (_, [(2, (-2)), (2, 0), (2, 42), (0, 0)], [(0, (-1)), (0, (-1))], _, _, _)
        refine ev_icmpeq f384_2190 (fun c19 => ?_) (fun c19 => absurd c19 (by omega))
        exact law_tail _
      · refine ev_iload_n rfl ?_
        refine ev_iconst ?_
        refine ev_icmple f217_18 (fun c20 => ?_) (fun c20 => ?_)
        · refine ev_aload_n rfl ?_
          refine ev_getf (r := 0) (v := 37) (hF.1.lt (by decide)) (hF.1.fam (by decide) (by decide)) ft11_12 ((hF.v rfl)) ?_
          refine ev_iload_n rfl ?_
          refine ev_iald (r := 37) (j := ((xs 1)).toNat) (v := (-1)) (hF.1.lt (by decide)) (hF.1.sh (by decide) rfl).1 (by omega) (hF.1.inbx (by decide) (n := 6) (by decide) (by omega)) (hF.uni (n := 6) (by decide) (by omega)) ?_
          refine ev_iconst ?_
          refine ev_icmpne f217_31 (fun c21 => absurd c21 (by omega)) (fun c21 => ?_)
          refine ev_bipush ?_
          refine ev_ret rfl (by decide) (by decide) ?_
          show jEv _ _ _ _ _ _ _ (_, [(2, (-2)), (2, 0), (2, 42), (0, 0)], [(0, (-11))], _, _, _)
          refine ev_aload_n rfl ?_
          refine ev_aload_n rfl ?_
          refine ev_iload_n rfl ?_
          refine ev_iconst ?_
          refine ev_iadd (r := 1) (by decide) ?_
          refine ev_sald (j := 1) (v := (xs 1)) rfl rfl rfl ?_
          refine ev_aload_n rfl ?_
          refine ev_iload_n rfl ?_
          refine ev_iconst ?_
          refine ev_iadd (r := 2) (by decide) ?_
          refine ev_sald (j := 2) (v := (xs 2)) rfl rfl rfl ?_
          refine ev_in (d := 7) (a := 0) (b := 0) (cd' := c377_0) (m := 3) (L0 := [(2, 42), (0, (xs 1)), (0, (xs 2))]) (jcall_v (A := [(0, (xs 2)), (0, (xs 1))]) (S' := [(0, (-11))]) (r := 42) rfl (hF.1.lt (by decide)) (hF.1.sh (by decide) rfl).1 (Nat.le_of_ble_eq_true rfl)) (by decide) ml377 pp377 (Nat.le_of_ble_eq_true rfl) rfl (by decide) (by decide) ?_
          refine ev_iload_n rfl ?_
          refine ev_in (d := 6) (a := 0) (b := 0) (cd' := c370_0) (m := 1) (L0 := [(0, (xs 1))]) (jcall_s (A := [(0, (xs 1))]) (S' := []) (by decide) rfl (Nat.le_of_ble_eq_true rfl)) (by decide) ml370 pp370 (Nat.le_of_ble_eq_true rfl) rfl (by decide) (by decide) ?_
          refine ev_iload_n rfl ?_
          refine ev_iconst ?_
          refine ev_iconst ?_
          refine ev_in (d := 5) (a := 0) (b := 0) (cd' := c242_0) (m := 3) (L0 := [(0, (xs 1)), (0, 0), (0, 5)]) (jcall_s (A := [(0, 5), (0, 0), (0, (xs 1))]) (S' := []) (by decide) rfl (Nat.le_of_ble_eq_true rfl)) (by decide) ml242 pp242 (Nat.le_of_ble_eq_true rfl) rfl (by decide) (by decide) ?_
          refine ev_iload_n rfl ?_
          refine ev_iload_n rfl ?_
          refine ev_icmplt f242_14 (fun c22 => absurd c22 (by omega)) (fun c22 => ?_)
          refine ev_iload_n rfl ?_
          refine ev_iload_n rfl ?_
          refine ev_icmpgt f242_14 (fun c23 => absurd c23 (by omega)) (fun c23 => ?_)
          refine ev_iconst ?_
          refine ev_goto f242_15 ?_
          refine ev_ret rfl (by decide) (by decide) ?_
          show jEv _ _ _ _ _ _ _ (_, [(0, (xs 1))], [(0, 1)], _, _, _)
          refine ev_ret rfl (by decide) (by decide) ?_
          show jEv _ _ _ _ _ _ _ (_, [(2, 42), (0, (xs 1)), (0, (xs 2))], [(0, 1)], _, _, _)
          refine ev_ifeq f377_16 (fun c24 => absurd c24 (by omega)) (fun c24 => ?_)
          refine ev_iload_n rfl ?_
          refine ev_iconst ?_
          refine ev_iconst ?_
          refine ev_in (d := 6) (a := 0) (b := 0) (cd' := c242_0) (m := 3) (L0 := [(0, (xs 2)), (0, 0), (0, 5)]) (jcall_s (A := [(0, 5), (0, 0), (0, (xs 2))]) (S' := []) (by decide) rfl (Nat.le_of_ble_eq_true rfl)) (by decide) ml242 pp242 (Nat.le_of_ble_eq_true rfl) rfl (by decide) (by decide) ?_
          refine ev_iload_n rfl ?_
          refine ev_iload_n rfl ?_
          refine ev_icmplt f242_14 (fun c25 => absurd c25 (by omega)) (fun c25 => ?_)
          refine ev_iload_n rfl ?_
          refine ev_iload_n rfl ?_
          refine ev_icmpgt f242_14 (fun c26 => absurd c26 (by omega)) (fun c26 => ?_)
          refine ev_iconst ?_
          refine ev_goto f242_15 ?_
          refine ev_ret rfl (by decide) (by decide) ?_
          show jEv _ _ _ _ _ _ _ (_, [(2, 42), (0, (xs 1)), (0, (xs 2))], [(0, 1)], _, _, _)
          refine ev_ifne f377_18 (fun c27 => ?_) (fun c27 => absurd c27 (by omega))
          refine ev_aload_n rfl ?_
          refine ev_getf (r := 42) (v := 79) (hF.1.lt (by decide)) (hF.1.fam (by decide) (by decide)) ft12_62 ((hF.v rfl)) ?_
          refine ev_iload_n rfl ?_
          refine ev_iald (r := 79) (j := ((xs 1)).toNat) (v := (-1)) (hF.1.lt (by decide)) (hF.1.sh (by decide) rfl).1 (by omega) (hF.1.inbx (by decide) (n := 6) (by decide) (by omega)) (hF.uni (n := 6) (by decide) (by omega)) ?_
          refine ev_iconst ?_
          refine ev_icmpne f377_31 (fun c28 => absurd c28 (by omega)) (fun c28 => ?_)
          refine ev_bipush ?_
          refine ev_ret rfl (by decide) (by decide) ?_
          show jEv _ _ _ _ _ _ _ (_, [(2, (-2)), (2, 0), (2, 42), (0, 0)], [(0, (-11)), (0, (-11))], _, _, _)
          refine ev_icmpeq f384_2190 (fun c29 => ?_) (fun c29 => absurd c29 (by omega))
          exact law_tail _
        · refine ev_iconst ?_
          refine ev_ret rfl (by decide) (by decide) ?_
          show jEv _ _ _ _ _ _ _ (_, [(2, (-2)), (2, 0), (2, 42), (0, 0)], [(0, (-1))], _, _, _)
          refine ev_aload_n rfl ?_
          refine ev_aload_n rfl ?_
          refine ev_iload_n rfl ?_
          refine ev_iconst ?_
          refine ev_iadd (r := 1) (by decide) ?_
          refine ev_sald (j := 1) (v := (xs 1)) rfl rfl rfl ?_
          refine ev_aload_n rfl ?_
          refine ev_iload_n rfl ?_
          refine ev_iconst ?_
          refine ev_iadd (r := 2) (by decide) ?_
          refine ev_sald (j := 2) (v := (xs 2)) rfl rfl rfl ?_
          refine ev_in (d := 7) (a := 0) (b := 0) (cd' := c377_0) (m := 3) (L0 := [(2, 42), (0, (xs 1)), (0, (xs 2))]) (jcall_v (A := [(0, (xs 2)), (0, (xs 1))]) (S' := [(0, (-1))]) (r := 42) rfl (hF.1.lt (by decide)) (hF.1.sh (by decide) rfl).1 (Nat.le_of_ble_eq_true rfl)) (by decide) ml377 pp377 (Nat.le_of_ble_eq_true rfl) rfl (by decide) (by decide) ?_
          refine ev_iload_n rfl ?_
          refine ev_in (d := 6) (a := 0) (b := 0) (cd' := c370_0) (m := 1) (L0 := [(0, (xs 1))]) (jcall_s (A := [(0, (xs 1))]) (S' := []) (by decide) rfl (Nat.le_of_ble_eq_true rfl)) (by decide) ml370 pp370 (Nat.le_of_ble_eq_true rfl) rfl (by decide) (by decide) ?_
          refine ev_iload_n rfl ?_
          refine ev_iconst ?_
          refine ev_iconst ?_
          refine ev_in (d := 5) (a := 0) (b := 0) (cd' := c242_0) (m := 3) (L0 := [(0, (xs 1)), (0, 0), (0, 5)]) (jcall_s (A := [(0, 5), (0, 0), (0, (xs 1))]) (S' := []) (by decide) rfl (Nat.le_of_ble_eq_true rfl)) (by decide) ml242 pp242 (Nat.le_of_ble_eq_true rfl) rfl (by decide) (by decide) ?_
          refine ev_iload_n rfl ?_
          refine ev_iload_n rfl ?_
          refine ev_icmplt f242_14 (fun c30 => absurd c30 (by omega)) (fun c30 => ?_)
          refine ev_iload_n rfl ?_
          refine ev_iload_n rfl ?_
          refine ev_icmpgt f242_14 (fun c31 => absurd c31 (by omega)) (fun c31 => ?_)
          refine ev_iconst ?_
          refine ev_goto f242_15 ?_
          refine ev_ret rfl (by decide) (by decide) ?_
          show jEv _ _ _ _ _ _ _ (_, [(0, (xs 1))], [(0, 1)], _, _, _)
          refine ev_ret rfl (by decide) (by decide) ?_
          show jEv _ _ _ _ _ _ _ (_, [(2, 42), (0, (xs 1)), (0, (xs 2))], [(0, 1)], _, _, _)
          refine ev_ifeq f377_16 (fun c32 => absurd c32 (by omega)) (fun c32 => ?_)
          refine ev_iload_n rfl ?_
          refine ev_iconst ?_
          refine ev_iconst ?_
          refine ev_in (d := 6) (a := 0) (b := 0) (cd' := c242_0) (m := 3) (L0 := [(0, (xs 2)), (0, 0), (0, 5)]) (jcall_s (A := [(0, 5), (0, 0), (0, (xs 2))]) (S' := []) (by decide) rfl (Nat.le_of_ble_eq_true rfl)) (by decide) ml242 pp242 (Nat.le_of_ble_eq_true rfl) rfl (by decide) (by decide) ?_
          refine ev_iload_n rfl ?_
          refine ev_iload_n rfl ?_
          refine ev_icmplt f242_14 (fun c33 => absurd c33 (by omega)) (fun c33 => ?_)
          refine ev_iload_n rfl ?_
          refine ev_iload_n rfl ?_
          refine ev_icmpgt f242_14 (fun c34 => ?_) (fun c34 => absurd c34 (by omega))
          refine ev_iconst ?_
          refine ev_ret rfl (by decide) (by decide) ?_
          show jEv _ _ _ _ _ _ _ (_, [(2, 42), (0, (xs 1)), (0, (xs 2))], [(0, 0)], _, _, _)
          refine ev_ifne f377_18 (fun c35 => absurd c35 (by omega)) (fun c35 => ?_)
          refine ev_iconst ?_
          refine ev_ret rfl (by decide) (by decide) ?_
          show jEv _ _ _ _ _ _ _ (_, [(2, (-2)), (2, 0), (2, 42), (0, 0)], [(0, (-1)), (0, (-1))], _, _, _)
          refine ev_icmpeq f384_2190 (fun c36 => ?_) (fun c36 => absurd c36 (by omega))
          exact law_tail _

/-! count -/
set_option maxHeartbeats 4000000 in
theorem case_52 {xs : Nat → Int} (hr : ∀ j, -2147483648 ≤ xs j ∧ xs j < 2147483648) {h : JH} (hF : Fresh h) : jEv (jOk 8) (some 6) xs c384_0 600000 7302250 (fun v _ => v = some (0, 1)) (c384_2167, [(2, -2), (2, 0), (2, 42), (0, 0)], [], h, 83, 23761) := by
  have r1 := hr 1
  have r2 := hr 2
  have r3 := hr 3
  have r4 := hr 4
  have r5 := hr 5
  refine ev_aload_n rfl ?_
  refine ev_aload_n rfl ?_
  refine ev_iload_n rfl ?_
  refine ev_iconst ?_
  refine ev_iadd (r := 1) (by decide) ?_
  refine ev_sald (j := 1) (v := (xs 1)) rfl rfl rfl ?_
  refine ev_in (d := 7) (a := 0) (b := 0) (cd' := c218_0) (m := 2) (L0 := [(2, 0), (0, (xs 1))]) (jcall_v (A := [(0, (xs 1))]) (S' := []) (r := 0) rfl (hF.1.lt (by decide)) (hF.1.sh (by decide) rfl).1 (Nat.le_of_ble_eq_true rfl)) (by decide) ml218 pp218 (Nat.le_of_ble_eq_true rfl) rfl (by decide) (by decide) ?_
  refine ev_iload_n rfl ?_
  rcases (show (xs 1) = 0 ∨ (xs 1) = 1 ∨ (xs 1) = 2 ∨ (xs 1) = 3 ∨ (xs 1) = 4 ∨ (xs 1) = 5 ∨ (xs 1) < 0 ∨ 5 < (xs 1) by omega) with c1 | c1 | c1 | c1 | c1 | c1 | c1 | c1
  · refine ev_sw (t := 40) (by rw [c1]; decide) f218_40 ?_
    refine ev_aload_n rfl ?_
    refine ev_getf (r := 0) (v := 1) (hF.1.lt (by decide)) (hF.1.fam (by decide) (by decide)) ft11_0 ((hF.v rfl)) ?_
    refine ev_getf (r := 1) (v := 0) (hF.1.lt (by decide)) (hF.1.fam (by decide) (by decide)) ft10_0 ((hF.v rfl)) ?_
    refine ev_ret rfl (by decide) (by decide) ?_
    show jEv _ _ _ _ _ _ _ (_, [(2, (-2)), (2, 0), (2, 42), (0, 0)], [(0, 0)], _, _, _)
    refine ev_aload_n rfl ?_
    refine ev_aload_n rfl ?_
    refine ev_iload_n rfl ?_
    refine ev_iconst ?_
    refine ev_iadd (r := 1) (by decide) ?_
    refine ev_sald (j := 1) (v := (xs 1)) rfl rfl rfl ?_
    refine ev_in (d := 7) (a := 0) (b := 0) (cd' := c369_0) (m := 2) (L0 := [(2, 42), (0, (xs 1))]) (jcall_v (A := [(0, (xs 1))]) (S' := [(0, 0)]) (r := 42) rfl (hF.1.lt (by decide)) (hF.1.sh (by decide) rfl).1 (Nat.le_of_ble_eq_true rfl)) (by decide) ml369 pp369 (Nat.le_of_ble_eq_true rfl) rfl (by decide) (by decide) ?_
    refine ev_iload_n rfl ?_
    rcases (show (xs 1) = 0 by omega) with c2
    · refine ev_sw (t := 40) (by rw [c2]; decide) f369_40 ?_
      refine ev_aload_n rfl ?_
      refine ev_getf (r := 42) (v := 0) (hF.1.lt (by decide)) (hF.1.fam (by decide) (by decide)) ft12_1 ((hF.v rfl)) ?_
      refine ev_ret rfl (by decide) (by decide) ?_
      show jEv _ _ _ _ _ _ _ (_, [(2, (-2)), (2, 0), (2, 42), (0, 0)], [(0, 0), (0, 0)], _, _, _)
      refine ev_icmpeq f384_2190 (fun c3 => ?_) (fun c3 => absurd c3 (by omega))
      exact law_tail _
  · refine ev_sw (t := 48) (by rw [c1]; decide) f218_48 ?_
    refine ev_aload_n rfl ?_
    refine ev_getf (r := 0) (v := 0) (hF.1.lt (by decide)) (hF.1.fam (by decide) (by decide)) ft11_3 ((hF.v rfl)) ?_
    refine ev_ret rfl (by decide) (by decide) ?_
    show jEv _ _ _ _ _ _ _ (_, [(2, (-2)), (2, 0), (2, 42), (0, 0)], [(0, 0)], _, _, _)
    refine ev_aload_n rfl ?_
    refine ev_aload_n rfl ?_
    refine ev_iload_n rfl ?_
    refine ev_iconst ?_
    refine ev_iadd (r := 1) (by decide) ?_
    refine ev_sald (j := 1) (v := (xs 1)) rfl rfl rfl ?_
    refine ev_in (d := 7) (a := 0) (b := 0) (cd' := c369_0) (m := 2) (L0 := [(2, 42), (0, (xs 1))]) (jcall_v (A := [(0, (xs 1))]) (S' := [(0, 0)]) (r := 42) rfl (hF.1.lt (by decide)) (hF.1.sh (by decide) rfl).1 (Nat.le_of_ble_eq_true rfl)) (by decide) ml369 pp369 (Nat.le_of_ble_eq_true rfl) rfl (by decide) (by decide) ?_
    refine ev_iload_n rfl ?_
    rcases (show (xs 1) = 1 by omega) with c4
    · refine ev_sw (t := 45) (by rw [c4]; decide) f369_45 ?_
      refine ev_aload_n rfl ?_
      refine ev_getf (r := 42) (v := 0) (hF.1.lt (by decide)) (hF.1.fam (by decide) (by decide)) ft12_9 ((hF.v rfl)) ?_
      refine ev_ret rfl (by decide) (by decide) ?_
      show jEv _ _ _ _ _ _ _ (_, [(2, (-2)), (2, 0), (2, 42), (0, 0)], [(0, 0), (0, 0)], _, _, _)
      refine ev_icmpeq f384_2190 (fun c5 => ?_) (fun c5 => absurd c5 (by omega))
      exact law_tail _
  · refine ev_sw (t := 53) (by rw [c1]; decide) f218_53 ?_
    refine ev_aload_n rfl ?_
    refine ev_getf (r := 0) (v := 7) (hF.1.lt (by decide)) (hF.1.fam (by decide) (by decide)) ft11_1 ((hF.v rfl)) ?_
    refine ev_getf (r := 7) (v := 0) (hF.1.lt (by decide)) (hF.1.fam (by decide) (by decide)) ft5_0 ((hF.v rfl)) ?_
    refine ev_ret rfl (by decide) (by decide) ?_
    show jEv _ _ _ _ _ _ _ (_, [(2, (-2)), (2, 0), (2, 42), (0, 0)], [(0, 0)], _, _, _)
    refine ev_aload_n rfl ?_
    refine ev_aload_n rfl ?_
    refine ev_iload_n rfl ?_
    refine ev_iconst ?_
    refine ev_iadd (r := 1) (by decide) ?_
    refine ev_sald (j := 1) (v := (xs 1)) rfl rfl rfl ?_
    refine ev_in (d := 7) (a := 0) (b := 0) (cd' := c369_0) (m := 2) (L0 := [(2, 42), (0, (xs 1))]) (jcall_v (A := [(0, (xs 1))]) (S' := [(0, 0)]) (r := 42) rfl (hF.1.lt (by decide)) (hF.1.sh (by decide) rfl).1 (Nat.le_of_ble_eq_true rfl)) (by decide) ml369 pp369 (Nat.le_of_ble_eq_true rfl) rfl (by decide) (by decide) ?_
    refine ev_iload_n rfl ?_
    rcases (show (xs 1) = 2 by omega) with c6
    · refine ev_sw (t := 50) (by rw [c6]; decide) f369_50 ?_
      refine ev_aload_n rfl ?_
      refine ev_getf (r := 42) (v := 0) (hF.1.lt (by decide)) (hF.1.fam (by decide) (by decide)) ft12_17 ((hF.v rfl)) ?_
      refine ev_ret rfl (by decide) (by decide) ?_
      show jEv _ _ _ _ _ _ _ (_, [(2, (-2)), (2, 0), (2, 42), (0, 0)], [(0, 0), (0, 0)], _, _, _)
      refine ev_icmpeq f384_2190 (fun c7 => ?_) (fun c7 => absurd c7 (by omega))
      exact law_tail _
  · refine ev_sw (t := 61) (by rw [c1]; decide) f218_61 ?_
    refine ev_aload_n rfl ?_
    refine ev_getf (r := 0) (v := 0) (hF.1.lt (by decide)) (hF.1.fam (by decide) (by decide)) ft11_7 ((hF.v rfl)) ?_
    refine ev_ret rfl (by decide) (by decide) ?_
    show jEv _ _ _ _ _ _ _ (_, [(2, (-2)), (2, 0), (2, 42), (0, 0)], [(0, 0)], _, _, _)
    refine ev_aload_n rfl ?_
    refine ev_aload_n rfl ?_
    refine ev_iload_n rfl ?_
    refine ev_iconst ?_
    refine ev_iadd (r := 1) (by decide) ?_
    refine ev_sald (j := 1) (v := (xs 1)) rfl rfl rfl ?_
    refine ev_in (d := 7) (a := 0) (b := 0) (cd' := c369_0) (m := 2) (L0 := [(2, 42), (0, (xs 1))]) (jcall_v (A := [(0, (xs 1))]) (S' := [(0, 0)]) (r := 42) rfl (hF.1.lt (by decide)) (hF.1.sh (by decide) rfl).1 (Nat.le_of_ble_eq_true rfl)) (by decide) ml369 pp369 (Nat.le_of_ble_eq_true rfl) rfl (by decide) (by decide) ?_
    refine ev_iload_n rfl ?_
    rcases (show (xs 1) = 3 by omega) with c8
    · refine ev_sw (t := 55) (by rw [c8]; decide) f369_55 ?_
      refine ev_aload_n rfl ?_
      refine ev_getf (r := 42) (v := 0) (hF.1.lt (by decide)) (hF.1.fam (by decide) (by decide)) ft12_28 ((hF.v rfl)) ?_
      refine ev_ret rfl (by decide) (by decide) ?_
      show jEv _ _ _ _ _ _ _ (_, [(2, (-2)), (2, 0), (2, 42), (0, 0)], [(0, 0), (0, 0)], _, _, _)
      refine ev_icmpeq f384_2190 (fun c9 => ?_) (fun c9 => absurd c9 (by omega))
      exact law_tail _
  · refine ev_sw (t := 66) (by rw [c1]; decide) f218_66 ?_
    refine ev_aload_n rfl ?_
    refine ev_getf (r := 0) (v := 0) (hF.1.lt (by decide)) (hF.1.fam (by decide) (by decide)) ft11_9 ((hF.v rfl)) ?_
    refine ev_ret rfl (by decide) (by decide) ?_
    show jEv _ _ _ _ _ _ _ (_, [(2, (-2)), (2, 0), (2, 42), (0, 0)], [(0, 0)], _, _, _)
    refine ev_aload_n rfl ?_
    refine ev_aload_n rfl ?_
    refine ev_iload_n rfl ?_
    refine ev_iconst ?_
    refine ev_iadd (r := 1) (by decide) ?_
    refine ev_sald (j := 1) (v := (xs 1)) rfl rfl rfl ?_
    refine ev_in (d := 7) (a := 0) (b := 0) (cd' := c369_0) (m := 2) (L0 := [(2, 42), (0, (xs 1))]) (jcall_v (A := [(0, (xs 1))]) (S' := [(0, 0)]) (r := 42) rfl (hF.1.lt (by decide)) (hF.1.sh (by decide) rfl).1 (Nat.le_of_ble_eq_true rfl)) (by decide) ml369 pp369 (Nat.le_of_ble_eq_true rfl) rfl (by decide) (by decide) ?_
    refine ev_iload_n rfl ?_
    rcases (show (xs 1) = 4 by omega) with c10
    · refine ev_sw (t := 60) (by rw [c10]; decide) f369_60 ?_
      refine ev_aload_n rfl ?_
      refine ev_getf (r := 42) (v := 0) (hF.1.lt (by decide)) (hF.1.fam (by decide) (by decide)) ft12_22 ((hF.v rfl)) ?_
      refine ev_ret rfl (by decide) (by decide) ?_
      show jEv _ _ _ _ _ _ _ (_, [(2, (-2)), (2, 0), (2, 42), (0, 0)], [(0, 0), (0, 0)], _, _, _)
      refine ev_icmpeq f384_2190 (fun c11 => ?_) (fun c11 => absurd c11 (by omega))
      exact law_tail _
  · refine ev_sw (t := 71) (by rw [c1]; decide) f218_71 ?_
    refine ev_aload_n rfl ?_
    refine ev_getf (r := 0) (v := 19) (hF.1.lt (by decide)) (hF.1.fam (by decide) (by decide)) ft11_4 ((hF.v rfl)) ?_
    refine ev_getf (r := 19) (v := 0) (hF.1.lt (by decide)) (hF.1.fam (by decide) (by decide)) ft7_5 ((hF.v rfl)) ?_
    refine ev_ret rfl (by decide) (by decide) ?_
    show jEv _ _ _ _ _ _ _ (_, [(2, (-2)), (2, 0), (2, 42), (0, 0)], [(0, 0)], _, _, _)
    refine ev_aload_n rfl ?_
    refine ev_aload_n rfl ?_
    refine ev_iload_n rfl ?_
    refine ev_iconst ?_
    refine ev_iadd (r := 1) (by decide) ?_
    refine ev_sald (j := 1) (v := (xs 1)) rfl rfl rfl ?_
    refine ev_in (d := 7) (a := 0) (b := 0) (cd' := c369_0) (m := 2) (L0 := [(2, 42), (0, (xs 1))]) (jcall_v (A := [(0, (xs 1))]) (S' := [(0, 0)]) (r := 42) rfl (hF.1.lt (by decide)) (hF.1.sh (by decide) rfl).1 (Nat.le_of_ble_eq_true rfl)) (by decide) ml369 pp369 (Nat.le_of_ble_eq_true rfl) rfl (by decide) (by decide) ?_
    refine ev_iload_n rfl ?_
    rcases (show (xs 1) = 5 by omega) with c12
    · refine ev_sw (t := 65) (by rw [c12]; decide) f369_65 ?_
      refine ev_aload_n rfl ?_
      refine ev_getf (r := 42) (v := 0) (hF.1.lt (by decide)) (hF.1.fam (by decide) (by decide)) ft12_60 ((hF.v rfl)) ?_
      refine ev_ret rfl (by decide) (by decide) ?_
      show jEv _ _ _ _ _ _ _ (_, [(2, (-2)), (2, 0), (2, 42), (0, 0)], [(0, 0), (0, 0)], _, _, _)
      refine ev_icmpeq f384_2190 (fun c13 => ?_) (fun c13 => absurd c13 (by omega))
      exact law_tail _
  · refine ev_sw (t := 79) (by rw [if_pos (show _ ∨ _ by omega)]; rfl) f218_79 ?_
    refine ev_iconst ?_
    refine ev_ret rfl (by decide) (by decide) ?_
    show jEv _ _ _ _ _ _ _ (_, [(2, (-2)), (2, 0), (2, 42), (0, 0)], [(0, (-1))], _, _, _)
    refine ev_aload_n rfl ?_
    refine ev_aload_n rfl ?_
    refine ev_iload_n rfl ?_
    refine ev_iconst ?_
    refine ev_iadd (r := 1) (by decide) ?_
    refine ev_sald (j := 1) (v := (xs 1)) rfl rfl rfl ?_
    refine ev_in (d := 7) (a := 0) (b := 0) (cd' := c369_0) (m := 2) (L0 := [(2, 42), (0, (xs 1))]) (jcall_v (A := [(0, (xs 1))]) (S' := [(0, (-1))]) (r := 42) rfl (hF.1.lt (by decide)) (hF.1.sh (by decide) rfl).1 (Nat.le_of_ble_eq_true rfl)) (by decide) ml369 pp369 (Nat.le_of_ble_eq_true rfl) rfl (by decide) (by decide) ?_
    refine ev_iload_n rfl ?_
    rcases (show (xs 1) < 0 by omega) with c14
    · refine ev_sw (t := 70) (by rw [if_pos (show _ ∨ _ by omega)]; rfl) f369_70 ?_
      refine ev_iconst ?_
      refine ev_ret rfl (by decide) (by decide) ?_
      show jEv _ _ _ _ _ _ _ (_, [(2, (-2)), (2, 0), (2, 42), (0, 0)], [(0, (-1)), (0, (-1))], _, _, _)
      refine ev_icmpeq f384_2190 (fun c15 => ?_) (fun c15 => absurd c15 (by omega))
      exact law_tail _
  · refine ev_sw (t := 79) (by rw [if_pos (show _ ∨ _ by omega)]; rfl) f218_79 ?_
    refine ev_iconst ?_
    refine ev_ret rfl (by decide) (by decide) ?_
    show jEv _ _ _ _ _ _ _ (_, [(2, (-2)), (2, 0), (2, 42), (0, 0)], [(0, (-1))], _, _, _)
    refine ev_aload_n rfl ?_
    refine ev_aload_n rfl ?_
    refine ev_iload_n rfl ?_
    refine ev_iconst ?_
    refine ev_iadd (r := 1) (by decide) ?_
    refine ev_sald (j := 1) (v := (xs 1)) rfl rfl rfl ?_
    refine ev_in (d := 7) (a := 0) (b := 0) (cd' := c369_0) (m := 2) (L0 := [(2, 42), (0, (xs 1))]) (jcall_v (A := [(0, (xs 1))]) (S' := [(0, (-1))]) (r := 42) rfl (hF.1.lt (by decide)) (hF.1.sh (by decide) rfl).1 (Nat.le_of_ble_eq_true rfl)) (by decide) ml369 pp369 (Nat.le_of_ble_eq_true rfl) rfl (by decide) (by decide) ?_
    refine ev_iload_n rfl ?_
    rcases (show 5 < (xs 1) by omega) with c16
    · refine ev_sw (t := 70) (by rw [if_pos (show _ ∨ _ by omega)]; rfl) f369_70 ?_
      refine ev_iconst ?_
      refine ev_ret rfl (by decide) (by decide) ?_
      show jEv _ _ _ _ _ _ _ (_, [(2, (-2)), (2, 0), (2, 42), (0, 0)], [(0, (-1)), (0, (-1))], _, _, _)
      refine ev_icmpeq f384_2190 (fun c17 => ?_) (fun c17 => absurd c17 (by omega))
      exact law_tail _
