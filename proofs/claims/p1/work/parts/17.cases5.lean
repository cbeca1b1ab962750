/-! cell -/
set_option maxHeartbeats 4000000 in
theorem case_30 {xs : Nat → Int} (hr : ∀ j, -2147483648 ≤ xs j ∧ xs j < 2147483648) {h : JH} (hF : Fresh h) : jEv (jOk 8) (some 6) xs c384_0 600000 7302250 (fun v _ => v = some (0, 1)) (c384_1349, [(2, -2), (2, 0), (2, 42), (0, 0)], [], h, 83, 23761) := by
  have r1 := hr 1
  have r2 := hr 2
  have r3 := hr 3
  have r4 := hr 4
  have r5 := hr 5
  refine ev_aload_n rfl ?_
  refine ev_aload_n rfl ?_
  refine ev_iload_n rfl ?_
  refine ev_iconst ?_
  refine ev_iadd (r := 1) (by decide) ?_
  refine ev_sald (j := 1) (v := (xs 1)) rfl rfl rfl ?_
  refine ev_aload_n rfl ?_
  refine ev_iload_n rfl ?_
  refine ev_iconst ?_
  refine ev_iadd (r := 2) (by decide) ?_
  refine ev_sald (j := 2) (v := (xs 2)) rfl rfl rfl ?_
  refine ev_aload_n rfl ?_
  refine ev_iload_n rfl ?_
  refine ev_iconst ?_
  refine ev_iadd (r := 3) (by decide) ?_
  refine ev_sald (j := 3) (v := (xs 3)) rfl rfl rfl ?_
  refine ev_in (d := 7) (a := 0) (b := 0) (cd' := c196_0) (m := 4) (L0 := [(2, 0), (0, (xs 1)), (0, (xs 2)), (0, (xs 3))]) (jcall_v (A := [(0, (xs 3)), (0, (xs 2)), (0, (xs 1))]) (S' := []) (r := 0) rfl (hF.1.lt (by decide)) (hF.1.sh (by decide) rfl).1 (Nat.le_of_ble_eq_true rfl)) (by decide) ml196 pp196 (Nat.le_of_ble_eq_true rfl) rfl (by decide) (by decide) ?_
  refine ev_iload_n rfl ?_
  refine ev_iflt f196_43 (fun c1 => ?_) (fun c1 => ?_)
  · refine ev_ldc ?_
    refine ev_ret rfl (by decide) (by decide) ?_
    show jEv _ _ _ _ _ _ _ (_, [(2, (-2)), (2, 0), (2, 42), (0, 0)], [(0, (-2000000000))], _, _, _)
    refine ev_aload_n rfl ?_
    refine ev_aload_n rfl ?_
    refine ev_iload_n rfl ?_
    refine ev_iconst ?_
    refine ev_iadd (r := 1) (by decide) ?_
    refine ev_sald (j := 1) (v := (xs 1)) rfl rfl rfl ?_
    refine ev_aload_n rfl ?_
    refine ev_iload_n rfl ?_
    refine ev_iconst ?_
    refine ev_iadd (r := 2) (by decide) ?_
    refine ev_sald (j := 2) (v := (xs 2)) rfl rfl rfl ?_
    refine ev_aload_n rfl ?_
    refine ev_iload_n rfl ?_
    refine ev_iconst ?_
    refine ev_iadd (r := 3) (by decide) ?_
    refine ev_sald (j := 3) (v := (xs 3)) rfl rfl rfl ?_
    refine ev_in (d := 7) (a := 0) (b := 0) (cd' := c331_0) (m := 6) (L0 := [(2, 42), (0, (xs 1)), (0, (xs 2)), (0, (xs 3)), (9, 0), (9, 0)]) (jcall_v (A := [(0, (xs 3)), (0, (xs 2)), (0, (xs 1))]) (S' := [(0, (-2000000000))]) (r := 42) rfl (hF.1.lt (by decide)) (hF.1.sh (by decide) rfl).1 (Nat.le_of_ble_eq_true rfl)) (by decide) ml331 pp331 (Nat.le_of_ble_eq_true rfl) rfl (by decide) (by decide) ?_
    refine ev_iload_n rfl ?_
    refine ev_iflt f331_46 (fun c2 => ?_) (fun c2 => absurd c2 (by omega))
    refine ev_ldc_w ?_
    refine ev_ret rfl (by decide) (by decide) ?_
    show jEv _ _ _ _ _ _ _ (_, [(2, (-2)), (2, 0), (2, 42), (0, 0)], [(0, (-2000000000)), (0, (-2000000000))], _, _, _)
    refine ev_icmpeq f384_2190 (fun c3 => ?_) (fun c3 => absurd c3 (by omega))
    exact law_tail _
  · refine ev_aload_n rfl ?_
    refine ev_getf (r := 0) (v := 26) (hF.1.lt (by decide)) (hF.1.fam (by decide) (by decide)) ft11_11 ((hF.v rfl)) ?_
    refine ev_iload_n rfl ?_
    refine ev_bipush ?_
    have q4 := jidiv_b (x := (xs 1)) (y := 10) (by decide)
    refine ev_idiv (r := (Int.tdiv (xs 1) 10)) (by decide) (by unfold w32; omega) ?_
    refine ev_iload_n rfl ?_
    refine ev_bipush ?_
    have q5 := jirem_b (x := (xs 1)) (y := 10) (by decide)
    refine ev_irem (r := (Int.tmod (xs 1) 10)) (by decide) rfl ?_
    refine ev_in (d := 6) (a := 0) (b := 0) (cd' := c105_0) (m := 3) (L0 := [(2, 26), (0, (Int.tdiv (xs 1) 10)), (0, (Int.tmod (xs 1) 10))]) (jcall_v (A := [(0, (Int.tmod (xs 1) 10)), (0, (Int.tdiv (xs 1) 10))]) (S' := []) (r := 26) rfl (hF.1.lt (by decide)) (hF.1.sh (by decide) rfl).1 (Nat.le_of_ble_eq_true rfl)) (by decide) ml105 pp105 (Nat.le_of_ble_eq_true rfl) rfl (by decide) (by decide) ?_
    refine ev_iload_n rfl ?_
    refine ev_iflt f105_28 (fun c6 => absurd c6 (by omega)) (fun c6 => ?_)
    refine ev_iload_n rfl ?_
    refine ev_aload_n rfl ?_
    refine ev_getf (r := 26) (v := 0) (hF.1.lt (by decide)) (hF.1.fam (by decide) (by decide)) ft9_0 ((hF.v rfl)) ?_
    refine ev_icmpge f105_28 (fun c7 => ?_) (fun c7 => absurd c7 (by omega))
    refine ev_iconst ?_
    refine ev_ret rfl (by decide) (by decide) ?_
    show jEv _ _ _ _ _ _ _ (_, [(2, 0), (0, (xs 1)), (0, (xs 2)), (0, (xs 3))], [(0, 0)], _, _, _)
    refine ev_ifeq f196_43 (fun c8 => ?_) (fun c8 => absurd c8 (by omega))
    refine ev_ldc ?_
    refine ev_ret rfl (by decide) (by decide) ?_
    show jEv _ _ _ _ _ _ _ (_, [(2, (-2)), (2, 0), (2, 42), (0, 0)], [(0, (-2000000000))], _, _, _)
    refine ev_aload_n rfl ?_
    refine ev_aload_n rfl ?_
    refine ev_iload_n rfl ?_
    refine ev_iconst ?_
    refine ev_iadd (r := 1) (by decide) ?_
    refine ev_sald (j := 1) (v := (xs 1)) rfl rfl rfl ?_
    refine ev_aload_n rfl ?_
    refine ev_iload_n rfl ?_
    refine ev_iconst ?_
    refine ev_iadd (r := 2) (by decide) ?_
    refine ev_sald (j := 2) (v := (xs 2)) rfl rfl rfl ?_
    refine ev_aload_n rfl ?_
    refine ev_iload_n rfl ?_
    refine ev_iconst ?_
    refine ev_iadd (r := 3) (by decide) ?_
    refine ev_sald (j := 3) (v := (xs 3)) rfl rfl rfl ?_
    refine ev_in (d := 7) (a := 0) (b := 0) (cd' := c331_0) (m := 6) (L0 := [(2, 42), (0, (xs 1)), (0, (xs 2)), (0, (xs 3)), (9, 0), (9, 0)]) (jcall_v (A := [(0, (xs 3)), (0, (xs 2)), (0, (xs 1))]) (S' := [(0, (-2000000000))]) (r := 42) rfl (hF.1.lt (by decide)) (hF.1.sh (by decide) rfl).1 (Nat.le_of_ble_eq_true rfl)) (by decide) ml331 pp331 (Nat.le_of_ble_eq_true rfl) rfl (by decide) (by decide) ?_
    refine ev_iload_n rfl ?_
    refine ev_iflt f331_46 (fun c9 => absurd c9 (by omega)) (fun c9 => ?_)
    refine ev_iload_n rfl ?_
    refine ev_bipush ?_
    have q10 := jidiv_b (x := (xs 1)) (y := 10) (by decide)
    refine ev_idiv (r := (Int.tdiv (xs 1) 10)) (by decide) (by unfold w32; omega) ?_
    refine ev_aload_n rfl ?_
    refine ev_getf (r := 42) (v := 0) (hF.1.lt (by decide)) (hF.1.fam (by decide) (by decide)) ft12_44 ((hF.v rfl)) ?_
    refine ev_icmpge f331_46 (fun c11 => ?_) (fun c11 => absurd c11 (by omega))
    refine ev_ldc_w ?_
    refine ev_ret rfl (by decide) (by decide) ?_
    show jEv _ _ _ _ _ _ _ (_, [(2, (-2)), (2, 0), (2, 42), (0, 0)], [(0, (-2000000000)), (0, (-2000000000))], _, _, _)
    refine ev_icmpeq f384_2190 (fun c12 => ?_) (fun c12 => absurd c12 (by omega))
    exact law_tail _

/-! sure -/
set_option maxHeartbeats 4000000 in
theorem case_31 {xs : Nat → Int} (hr : ∀ j, -2147483648 ≤ xs j ∧ xs j < 2147483648) {h : JH} (hF : Fresh h) : jEv (jOk 8) (some 6) xs c384_0 600000 7302250 (fun v _ => v = some (0, 1)) (c384_1392, [(2, -2), (2, 0), (2, 42), (0, 0)], [], h, 83, 23761) := by
  have r1 := hr 1
  have r2 := hr 2
  have r3 := hr 3
  have r4 := hr 4
  have r5 := hr 5
  refine ev_aload_n rfl ?_
  refine ev_aload_n rfl ?_
  refine ev_iload_n rfl ?_
  refine ev_iconst ?_
  refine ev_iadd (r := 1) (by decide) ?_
  refine ev_sald (j := 1) (v := (xs 1)) rfl rfl rfl ?_
  refine ev_in (d := 7) (a := 0) (b := 0) (cd' := c197_0) (m := 2) (L0 := [(2, 0), (0, (xs 1))]) (jcall_v (A := [(0, (xs 1))]) (S' := []) (r := 0) rfl (hF.1.lt (by decide)) (hF.1.sh (by decide) rfl).1 (Nat.le_of_ble_eq_true rfl)) (by decide) ml197 pp197 (Nat.le_of_ble_eq_true rfl) rfl (by decide) (by decide) ?_
  refine ev_iload_n rfl ?_
  refine ev_iconst ?_
  refine ev_icmplt f197_15 (fun c1 => ?_) (fun c1 => ?_)
  · refine ev_iconst ?_
    refine ev_goto f197_27 ?_
    refine ev_ret rfl (by decide) (by decide) ?_
    show jEv _ _ _ _ _ _ _ (_, [(2, (-2)), (2, 0), (2, 42), (0, 0)], [(0, (-1))], _, _, _)
    refine ev_aload_n rfl ?_
    refine ev_aload_n rfl ?_
    refine ev_iload_n rfl ?_
    refine ev_iconst ?_
    refine ev_iadd (r := 1) (by decide) ?_
    refine ev_sald (j := 1) (v := (xs 1)) rfl rfl rfl ?_
    refine ev_in (d := 7) (a := 0) (b := 0) (cd' := c333_0) (m := 5) (L0 := [(2, 42), (0, (xs 1)), (9, 0), (9, 0), (9, 0)]) (jcall_v (A := [(0, (xs 1))]) (S' := [(0, (-1))]) (r := 42) rfl (hF.1.lt (by decide)) (hF.1.sh (by decide) rfl).1 (Nat.le_of_ble_eq_true rfl)) (by decide) ml333 pp333 (Nat.le_of_ble_eq_true rfl) rfl (by decide) (by decide) ?_
    refine ev_aload_n rfl ?_
    refine ev_getf (r := 42) (v := 0) (hF.1.lt (by decide)) (hF.1.fam (by decide) (by decide)) ft12_44 ((hF.v rfl)) ?_
    refine ev_ifeq f333_12 (fun c2 => ?_) (fun c2 => absurd c2 (by omega))
    refine ev_iconst ?_
    refine ev_ret rfl (by decide) (by decide) ?_
    show jEv _ _ _ _ _ _ _ (_, [(2, (-2)), (2, 0), (2, 42), (0, 0)], [(0, (-1)), (0, (-1))], _, _, _)
    refine ev_icmpeq f384_2190 (fun c3 => ?_) (fun c3 => absurd c3 (by omega))
    exact law_tail _
  · refine ev_aload_n rfl ?_
    refine ev_getf (r := 0) (v := 26) (hF.1.lt (by decide)) (hF.1.fam (by decide) (by decide)) ft11_11 ((hF.v rfl)) ?_
    refine ev_in (d := 6) (a := 0) (b := 0) (cd' := c104_0) (m := 1) (L0 := [(2, 26)]) (jcall_v (A := []) (S' := []) (r := 26) rfl (hF.1.lt (by decide)) (hF.1.sh (by decide) rfl).1 (Nat.le_of_ble_eq_true rfl)) (by decide) ml104 pp104 (Nat.le_of_ble_eq_true rfl) rfl (by decide) (by decide) ?_
    refine ev_aload_n rfl ?_
    refine ev_getf (r := 26) (v := 0) (hF.1.lt (by decide)) (hF.1.fam (by decide) (by decide)) ft9_0 ((hF.v rfl)) ?_
    refine ev_ifle f104_11 (fun c4 => ?_) (fun c4 => absurd c4 (by omega))
    refine ev_iconst ?_
    refine ev_ret rfl (by decide) (by decide) ?_
    show jEv _ _ _ _ _ _ _ (_, [(2, 0), (0, (xs 1))], [(0, 0)], _, _, _)
    refine ev_ifne f197_19 (fun c5 => absurd c5 (by omega)) (fun c5 => ?_)
    refine ev_iconst ?_
    refine ev_goto f197_27 ?_
    refine ev_ret rfl (by decide) (by decide) ?_
    show jEv _ _ _ _ _ _ _ (_, [(2, (-2)), (2, 0), (2, 42), (0, 0)], [(0, (-1))], _, _, _)
    refine ev_aload_n rfl ?_
    refine ev_aload_n rfl ?_
    refine ev_iload_n rfl ?_
    refine ev_iconst ?_
    refine ev_iadd (r := 1) (by decide) ?_
    refine ev_sald (j := 1) (v := (xs 1)) rfl rfl rfl ?_
    refine ev_in (d := 7) (a := 0) (b := 0) (cd' := c333_0) (m := 5) (L0 := [(2, 42), (0, (xs 1)), (9, 0), (9, 0), (9, 0)]) (jcall_v (A := [(0, (xs 1))]) (S' := [(0, (-1))]) (r := 42) rfl (hF.1.lt (by decide)) (hF.1.sh (by decide) rfl).1 (Nat.le_of_ble_eq_true rfl)) (by decide) ml333 pp333 (Nat.le_of_ble_eq_true rfl) rfl (by decide) (by decide) ?_
    refine ev_aload_n rfl ?_
    refine ev_getf (r := 42) (v := 0) (hF.1.lt (by decide)) (hF.1.fam (by decide) (by decide)) ft12_44 ((hF.v rfl)) ?_
    refine ev_ifeq f333_12 (fun c6 => ?_) (fun c6 => absurd c6 (by omega))
    refine ev_iconst ?_
    refine ev_ret rfl (by decide) (by decide) ?_
    show jEv _ _ _ _ _ _ _ (_, [(2, (-2)), (2, 0), (2, 42), (0, 0)], [(0, (-1)), (0, (-1))], _, _, _)
    refine ev_icmpeq f384_2190 (fun c7 => ?_) (fun c7 => absurd c7 (by omega))
    exact law_tail _

/-! lots -/
set_option maxHeartbeats 4000000 in
theorem case_32 {xs : Nat → Int} (hr : ∀ j, -2147483648 ≤ xs j ∧ xs j < 2147483648) {h : JH} (hF : Fresh h) : jEv (jOk 8) (some 6) xs c384_0 600000 7302250 (fun v _ => v = some (0, 1)) (c384_1415, [(2, -2), (2, 0), (2, 42), (0, 0)], [], h, 83, 23761) := by
  have r1 := hr 1
  have r2 := hr 2
  have r3 := hr 3
  have r4 := hr 4
  have r5 := hr 5
  refine ev_aload_n rfl ?_
  refine ev_aload_n rfl ?_
  refine ev_iload_n rfl ?_
  refine ev_iconst ?_
  refine ev_iadd (r := 1) (by decide) ?_
  refine ev_sald (j := 1) (v := (xs 1)) rfl rfl rfl ?_
  refine ev_in (d := 7) (a := 0) (b := 0) (cd' := c198_0) (m := 6) (L0 := [(2, 0), (0, (xs 1)), (9, 0), (9, 0), (9, 0), (9, 0)]) (jcall_v (A := [(0, (xs 1))]) (S' := []) (r := 0) rfl (hF.1.lt (by decide)) (hF.1.sh (by decide) rfl).1 (Nat.le_of_ble_eq_true rfl)) (by decide) ml198 pp198 (Nat.le_of_ble_eq_true rfl) rfl (by decide) (by decide) ?_
  refine ev_iload_n rfl ?_
  refine ev_in (d := 6) (a := 0) (b := 0) (cd' := c221_0) (m := 1) (L0 := [(0, (xs 1))]) (jcall_s (A := [(0, (xs 1))]) (S' := []) (by decide) rfl (Nat.le_of_ble_eq_true rfl)) (by decide) ml221 pp221 (Nat.le_of_ble_eq_true rfl) rfl (by decide) (by decide) ?_
  refine ev_iload_n rfl ?_
  refine ev_ifeq f221_9 (fun c1 => ?_) (fun c1 => ?_)
  · refine ev_iconst ?_
    refine ev_goto f221_14 ?_
    refine ev_ret rfl (by decide) (by decide) ?_
    show jEv _ _ _ _ _ _ _ (_, [(2, 0), (0, (xs 1)), (9, 0), (9, 0), (9, 0), (9, 0)], [(0, 1)], _, _, _)
    refine ev_ifne f198_10 (fun c2 => ?_) (fun c2 => absurd c2 (by omega))
    refine ev_aload_n rfl ?_
    refine ev_getf (r := 0) (v := 26) (hF.1.lt (by decide)) (hF.1.fam (by decide) (by decide)) ft11_11 ((hF.v rfl)) ?_
    refine ev_in (d := 6) (a := 0) (b := 0) (cd' := c110_0) (m := 3) (L0 := [(2, 26), (9, 0), (9, 0)]) (jcall_v (A := []) (S' := []) (r := 26) rfl (hF.1.lt (by decide)) (hF.1.sh (by decide) rfl).1 (Nat.le_of_ble_eq_true rfl)) (by decide) ml110 pp110 (Nat.le_of_ble_eq_true rfl) rfl (by decide) (by decide) ?_
    refine ev_aload_n rfl ?_
    refine ev_getf (r := 26) (v := 0) (hF.1.lt (by decide)) (hF.1.fam (by decide) (by decide)) ft9_0 ((hF.v rfl)) ?_
    refine ev_iconst ?_
    refine ev_icmpne f110_20 (fun c3 => ?_) (fun c3 => absurd c3 (by omega))
    refine ev_iconst ?_
    refine ev_istore_n (L' := [(2, 26), (0, 0), (9, 0)]) (Nat.le_of_ble_eq_true rfl) rfl ?_
    refine ev_iconst ?_
    refine ev_istore_n (L' := [(2, 26), (0, 0), (0, 0)]) (Nat.le_of_ble_eq_true rfl) rfl ?_
    refine ev_iload_n rfl ?_
    refine ev_iconst ?_
    refine ev_icmpge f110_71 (fun c4 => absurd c4 (by omega)) (fun c4 => ?_)
    refine ev_iload_n rfl ?_
    refine ev_ifeq f110_71 (fun c5 => ?_) (fun c5 => absurd c5 (by omega))
    refine ev_iload_n rfl ?_
    refine ev_ret rfl (by decide) (by decide) ?_
    show jEv _ _ _ _ _ _ _ (_, [(2, 0), (0, (xs 1)), (9, 0), (9, 0), (9, 0), (9, 0)], [(0, 0)], _, _, _)
    refine ev_ifne f198_23 (fun c6 => absurd c6 (by omega)) (fun c6 => ?_)
    refine ev_bipush ?_
    refine ev_ret rfl (by decide) (by decide) ?_
    show jEv _ _ _ _ _ _ _ (_, [(2, (-2)), (2, 0), (2, 42), (0, 0)], [(0, (-5))], _, _, _)
    refine ev_aload_n rfl ?_
    refine ev_aload_n rfl ?_
    refine ev_iload_n rfl ?_
    refine ev_iconst ?_
    refine ev_iadd (r := 1) (by decide) ?_
    refine ev_sald (j := 1) (v := (xs 1)) rfl rfl rfl ?_
    refine ev_in (d := 7) (a := 0) (b := 0) (cd' := c336_0) (m := 10) (L0 := [(2, 42), (0, (xs 1)), (9, 0), (9, 0), (9, 0), (9, 0), (9, 0), (9, 0), (9, 0), (9, 0)]) (jcall_v (A := [(0, (xs 1))]) (S' := [(0, (-5))]) (r := 42) rfl (hF.1.lt (by decide)) (hF.1.sh (by decide) rfl).1 (Nat.le_of_ble_eq_true rfl)) (by decide) ml336 pp336 (Nat.le_of_ble_eq_true rfl) rfl (by decide) (by decide) ?_
    refine ev_iload_n rfl ?_
    refine ev_iconst ?_
    refine ev_iconst ?_
    refine ev_in (d := 6) (a := 0) (b := 0) (cd' := c242_0) (m := 3) (L0 := [(0, (xs 1)), (0, 0), (0, 1)]) (jcall_s (A := [(0, 1), (0, 0), (0, (xs 1))]) (S' := []) (by decide) rfl (Nat.le_of_ble_eq_true rfl)) (by decide) ml242 pp242 (Nat.le_of_ble_eq_true rfl) rfl (by decide) (by decide) ?_
    refine ev_iload_n rfl ?_
    refine ev_iload_n rfl ?_
    refine ev_icmplt f242_14 (fun c7 => absurd c7 (by omega)) (fun c7 => ?_)
    refine ev_iload_n rfl ?_
    refine ev_iload_n rfl ?_
    refine ev_icmpgt f242_14 (fun c8 => absurd c8 (by omega)) (fun c8 => ?_)
    refine ev_iconst ?_
    refine ev_goto f242_15 ?_
    refine ev_ret rfl (by decide) (by decide) ?_
    show jEv _ _ _ _ _ _ _ (_, [(2, 42), (0, (xs 1)), (9, 0), (9, 0), (9, 0), (9, 0), (9, 0), (9, 0), (9, 0), (9, 0)], [(0, 1)], _, _, _)
    refine ev_ifne f336_13 (fun c9 => ?_) (fun c9 => absurd c9 (by omega))
    refine ev_aload_n rfl ?_
    refine ev_getf (r := 42) (v := 0) (hF.1.lt (by decide)) (hF.1.fam (by decide) (by decide)) ft12_44 ((hF.v rfl)) ?_
    refine ev_iconst ?_
    refine ev_icmpne f336_29 (fun c10 => ?_) (fun c10 => absurd c10 (by omega))
    refine ev_bipush ?_
    refine ev_ret rfl (by decide) (by decide) ?_
    show jEv _ _ _ _ _ _ _ (_, [(2, (-2)), (2, 0), (2, 42), (0, 0)], [(0, (-5)), (0, (-5))], _, _, _)
    refine ev_icmpeq f384_2190 (fun c11 => ?_) (fun c11 => absurd c11 (by omega))
    exact law_tail _
  · refine ev_iload_n rfl ?_
    refine ev_iconst ?_
    refine ev_icmpne f221_13 (fun c12 => ?_) (fun c12 => ?_)
    · refine ev_iconst ?_
      refine ev_ret rfl (by decide) (by decide) ?_
      show jEv _ _ _ _ _ _ _ (_, [(2, 0), (0, (xs 1)), (9, 0), (9, 0), (9, 0), (9, 0)], [(0, 0)], _, _, _)
      refine ev_ifne f198_10 (fun c13 => absurd c13 (by omega)) (fun c13 => ?_)
      refine ev_ldc ?_
      refine ev_ret rfl (by decide) (by decide) ?_
      show jEv _ _ _ _ _ _ _ (_, [(2, (-2)), (2, 0), (2, 42), (0, 0)], [(0, (-2000000000))], _, _, _)
      refine ev_aload_n rfl ?_
      refine ev_aload_n rfl ?_
      refine ev_iload_n rfl ?_
      refine ev_iconst ?_
      refine ev_iadd (r := 1) (by decide) ?_
      refine ev_sald (j := 1) (v := (xs 1)) rfl rfl rfl ?_
      refine ev_in (d := 7) (a := 0) (b := 0) (cd' := c336_0) (m := 10) (L0 := [(2, 42), (0, (xs 1)), (9, 0), (9, 0), (9, 0), (9, 0), (9, 0), (9, 0), (9, 0), (9, 0)]) (jcall_v (A := [(0, (xs 1))]) (S' := [(0, (-2000000000))]) (r := 42) rfl (hF.1.lt (by decide)) (hF.1.sh (by decide) rfl).1 (Nat.le_of_ble_eq_true rfl)) (by decide) ml336 pp336 (Nat.le_of_ble_eq_true rfl) rfl (by decide) (by decide) ?_
      refine ev_iload_n rfl ?_
      refine ev_iconst ?_
      refine ev_iconst ?_
      refine ev_in (d := 6) (a := 0) (b := 0) (cd' := c242_0) (m := 3) (L0 := [(0, (xs 1)), (0, 0), (0, 1)]) (jcall_s (A := [(0, 1), (0, 0), (0, (xs 1))]) (S' := []) (by decide) rfl (Nat.le_of_ble_eq_true rfl)) (by decide) ml242 pp242 (Nat.le_of_ble_eq_true rfl) rfl (by decide) (by decide) ?_
      refine ev_iload_n rfl ?_
      refine ev_iload_n rfl ?_
      refine ev_icmplt f242_14 (fun c14 => ?_) (fun c14 => ?_)
      · refine ev_iconst ?_
        refine ev_ret rfl (by decide) (by decide) ?_
        show jEv _ _ _ _ _ _ _ (_, [(2, 42), (0, (xs 1)), (9, 0), (9, 0), (9, 0), (9, 0), (9, 0), (9, 0), (9, 0), (9, 0)], [(0, 0)], _, _, _)
        refine ev_ifne f336_13 (fun c15 => absurd c15 (by omega)) (fun c15 => ?_)
        refine ev_ldc_w ?_
        refine ev_ret rfl (by decide) (by decide) ?_
        show jEv _ _ _ _ _ _ _ (_, [(2, (-2)), (2, 0), (2, 42), (0, 0)], [(0, (-2000000000)), (0, (-2000000000))], _, _, _)
        refine ev_icmpeq f384_2190 (fun c16 => ?_) (fun c16 => absurd c16 (by omega))
        exact law_tail _
      · refine ev_iload_n rfl ?_
        refine ev_iload_n rfl ?_
        refine ev_icmpgt f242_14 (fun c17 => ?_) (fun c17 => absurd c17 (by omega))
        refine ev_iconst ?_
        refine ev_ret rfl (by decide) (by decide) ?_
        show jEv _ _ _ _ _ _ _ (_, [(2, 42), (0, (xs 1)), (9, 0), (9, 0), (9, 0), (9, 0), (9, 0), (9, 0), (9, 0), (9, 0)], [(0, 0)], _, _, _)
        refine ev_ifne f336_13 (fun c18 => absurd c18 (by omega)) (fun c18 => ?_)
        refine ev_ldc_w ?_
        refine ev_ret rfl (by decide) (by decide) ?_
        show jEv _ _ _ _ _ _ _ (_, [(2, (-2)), (2, 0), (2, 42), (0, 0)], [(0, (-2000000000)), (0, (-2000000000))], _, _, _)
        refine ev_icmpeq f384_2190 (fun c19 => ?_) (fun c19 => absurd c19 (by omega))
        exact law_tail _
    · refine ev_iconst ?_
      refine ev_goto f221_14 ?_
      refine ev_ret rfl (by decide) (by decide) ?_
      show jEv _ _ _ _ _ _ _ (_, [(2, 0), (0, (xs 1)), (9, 0), (9, 0), (9, 0), (9, 0)], [(0, 1)], _, _, _)
      refine ev_ifne f198_10 (fun c20 => ?_) (fun c20 => absurd c20 (by omega))
      refine ev_aload_n rfl ?_
      refine ev_getf (r := 0) (v := 26) (hF.1.lt (by decide)) (hF.1.fam (by decide) (by decide)) ft11_11 ((hF.v rfl)) ?_
      refine ev_in (d := 6) (a := 0) (b := 0) (cd' := c110_0) (m := 3) (L0 := [(2, 26), (9, 0), (9, 0)]) (jcall_v (A := []) (S' := []) (r := 26) rfl (hF.1.lt (by decide)) (hF.1.sh (by decide) rfl).1 (Nat.le_of_ble_eq_true rfl)) (by decide) ml110 pp110 (Nat.le_of_ble_eq_true rfl) rfl (by decide) (by decide) ?_
      refine ev_aload_n rfl ?_
      refine ev_getf (r := 26) (v := 0) (hF.1.lt (by decide)) (hF.1.fam (by decide) (by decide)) ft9_0 ((hF.v rfl)) ?_
      refine ev_iconst ?_
      refine ev_icmpne f110_20 (fun c21 => ?_) (fun c21 => absurd c21 (by omega))
      refine ev_iconst ?_
      refine ev_istore_n (L' := [(2, 26), (0, 0), (9, 0)]) (Nat.le_of_ble_eq_true rfl) rfl ?_
      refine ev_iconst ?_
      refine ev_istore_n (L' := [(2, 26), (0, 0), (0, 0)]) (Nat.le_of_ble_eq_true rfl) rfl ?_
      refine ev_iload_n rfl ?_
      refine ev_iconst ?_
      refine ev_icmpge f110_71 (fun c22 => absurd c22 (by omega)) (fun c22 => ?_)
      refine ev_iload_n rfl ?_
      refine ev_ifeq f110_71 (fun c23 => ?_) (fun c23 => absurd c23 (by omega))
      refine ev_iload_n rfl ?_
      refine ev_ret rfl (by decide) (by decide) ?_
      show jEv _ _ _ _ _ _ _ (_, [(2, 0), (0, (xs 1)), (9, 0), (9, 0), (9, 0), (9, 0)], [(0, 0)], _, _, _)
      refine ev_ifne f198_23 (fun c24 => absurd c24 (by omega)) (fun c24 => ?_)
      refine ev_bipush ?_
      refine ev_ret rfl (by decide) (by decide) ?_
      show jEv _ _ _ _ _ _ _ (_, [(2, (-2)), (2, 0), (2, 42), (0, 0)], [(0, (-5))], _, _, _)
      refine ev_aload_n rfl ?_
      refine ev_aload_n rfl ?_
      refine ev_iload_n rfl ?_
      refine ev_iconst ?_
      refine ev_iadd (r := 1) (by decide) ?_
      refine ev_sald (j := 1) (v := (xs 1)) rfl rfl rfl ?_
      refine ev_in (d := 7) (a := 0) (b := 0) (cd' := c336_0) (m := 10) (L0 := [(2, 42), (0, (xs 1)), (9, 0), (9, 0), (9, 0), (9, 0), (9, 0), (9, 0), (9, 0), (9, 0)]) (jcall_v (A := [(0, (xs 1))]) (S' := [(0, (-5))]) (r := 42) rfl (hF.1.lt (by decide)) (hF.1.sh (by decide) rfl).1 (Nat.le_of_ble_eq_true rfl)) (by decide) ml336 pp336 (Nat.le_of_ble_eq_true rfl) rfl (by decide) (by decide) ?_
      refine ev_iload_n rfl ?_
      refine ev_iconst ?_
      refine ev_iconst ?_
      refine ev_in (d := 6) (a := 0) (b := 0) (cd' := c242_0) (m := 3) (L0 := [(0, (xs 1)), (0, 0), (0, 1)]) (jcall_s (A := [(0, 1), (0, 0), (0, (xs 1))]) (S' := []) (by decide) rfl (Nat.le_of_ble_eq_true rfl)) (by decide) ml242 pp242 (Nat.le_of_ble_eq_true rfl) rfl (by decide) (by decide) ?_
      refine ev_iload_n rfl ?_
      refine ev_iload_n rfl ?_
      refine ev_icmplt f242_14 (fun c25 => absurd c25 (by omega)) (fun c25 => ?_)
      refine ev_iload_n rfl ?_
      refine ev_iload_n rfl ?_
      refine ev_icmpgt f242_14 (fun c26 => absurd c26 (by omega)) (fun c26 => ?_)
      refine ev_iconst ?_
      refine ev_goto f242_15 ?_
      refine ev_ret rfl (by decide) (by decide) ?_
      show jEv _ _ _ _ _ _ _ (_, [(2, 42), (0, (xs 1)), (9, 0), (9, 0), (9, 0), (9, 0), (9, 0), (9, 0), (9, 0), (9, 0)], [(0, 1)], _, _, _)
      refine ev_ifne f336_13 (fun c27 => ?_) (fun c27 => absurd c27 (by omega))
      refine ev_aload_n rfl ?_
      refine ev_getf (r := 42) (v := 0) (hF.1.lt (by decide)) (hF.1.fam (by decide) (by decide)) ft12_44 ((hF.v rfl)) ?_
      refine ev_iconst ?_
      refine ev_icmpne f336_29 (fun c28 => ?_) (fun c28 => absurd c28 (by omega))
      refine ev_bipush ?_
      refine ev_ret rfl (by decide) (by decide) ?_
      show jEv _ _ _ _ _ _ _ (_, [(2, (-2)), (2, 0), (2, 42), (0, 0)], [(0, (-5)), (0, (-5))], _, _, _)
      refine ev_icmpeq f384_2190 (fun c29 => ?_) (fun c29 => absurd c29 (by omega))
      exact law_tail _

/-! struck -/
set_option maxHeartbeats 4000000 in
theorem case_33 {xs : Nat → Int} (hr : ∀ j, -2147483648 ≤ xs j ∧ xs j < 2147483648) {h : JH} (hF : Fresh h) : jEv (jOk 8) (some 6) xs c384_0 600000 7302250 (fun v _ => v = some (0, 1)) (c384_1438, [(2, -2), (2, 0), (2, 42), (0, 0)], [], h, 83, 23761) := by
  have r1 := hr 1
  have r2 := hr 2
  have r3 := hr 3
  have r4 := hr 4
  have r5 := hr 5
  refine ev_aload_n rfl ?_
  refine ev_aload_n rfl ?_
  refine ev_iload_n rfl ?_
  refine ev_iconst ?_
  refine ev_iadd (r := 1) (by decide) ?_
  refine ev_sald (j := 1) (v := (xs 1)) rfl rfl rfl ?_
  refine ev_in (d := 7) (a := 0) (b := 0) (cd' := c199_0) (m := 2) (L0 := [(2, 0), (0, (xs 1))]) (jcall_v (A := [(0, (xs 1))]) (S' := []) (r := 0) rfl (hF.1.lt (by decide)) (hF.1.sh (by decide) rfl).1 (Nat.le_of_ble_eq_true rfl)) (by decide) ml199 pp199 (Nat.le_of_ble_eq_true rfl) rfl (by decide) (by decide) ?_
  refine ev_iload_n rfl ?_
  refine ev_in (d := 6) (a := 0) (b := 0) (cd' := c221_0) (m := 1) (L0 := [(0, (xs 1))]) (jcall_s (A := [(0, (xs 1))]) (S' := []) (by decide) rfl (Nat.le_of_ble_eq_true rfl)) (by decide) ml221 pp221 (Nat.le_of_ble_eq_true rfl) rfl (by decide) (by decide) ?_
  refine ev_iload_n rfl ?_
  refine ev_ifeq f221_9 (fun c1 => ?_) (fun c1 => ?_)
  · refine ev_iconst ?_
    refine ev_goto f221_14 ?_
    refine ev_ret rfl (by decide) (by decide) ?_
    show jEv _ _ _ _ _ _ _ (_, [(2, 0), (0, (xs 1))], [(0, 1)], _, _, _)
    refine ev_ifeq f199_17 (fun c2 => absurd c2 (by omega)) (fun c2 => ?_)
    refine ev_aload_n rfl ?_
    refine ev_getf (r := 0) (v := 26) (hF.1.lt (by decide)) (hF.1.fam (by decide) (by decide)) ft11_11 ((hF.v rfl)) ?_
    refine ev_in (d := 6) (a := 0) (b := 0) (cd' := c104_0) (m := 1) (L0 := [(2, 26)]) (jcall_v (A := []) (S' := []) (r := 26) rfl (hF.1.lt (by decide)) (hF.1.sh (by decide) rfl).1 (Nat.le_of_ble_eq_true rfl)) (by decide) ml104 pp104 (Nat.le_of_ble_eq_true rfl) rfl (by decide) (by decide) ?_
    refine ev_aload_n rfl ?_
    refine ev_getf (r := 26) (v := 0) (hF.1.lt (by decide)) (hF.1.fam (by decide) (by decide)) ft9_0 ((hF.v rfl)) ?_
    refine ev_ifle f104_11 (fun c3 => ?_) (fun c3 => absurd c3 (by omega))
    refine ev_iconst ?_
    refine ev_ret rfl (by decide) (by decide) ?_
    show jEv _ _ _ _ _ _ _ (_, [(2, 0), (0, (xs 1))], [(0, 0)], _, _, _)
    refine ev_ifne f199_21 (fun c4 => absurd c4 (by omega)) (fun c4 => ?_)
    refine ev_iconst ?_
    refine ev_goto f199_29 ?_
    refine ev_ret rfl (by decide) (by decide) ?_
    show jEv _ _ _ _ _ _ _ (_, [(2, (-2)), (2, 0), (2, 42), (0, 0)], [(0, (-1))], _, _, _)
    refine ev_aload_n rfl ?_
    refine ev_aload_n rfl ?_
    refine ev_iload_n rfl ?_
    refine ev_iconst ?_
    refine ev_iadd (r := 1) (by decide) ?_
    refine ev_sald (j := 1) (v := (xs 1)) rfl rfl rfl ?_
    refine ev_in (d := 7) (a := 0) (b := 0) (cd' := c338_0) (m := 6) (L0 := [(2, 42), (0, (xs 1)), (9, 0), (9, 0), (9, 0), (9, 0)]) (jcall_v (A := [(0, (xs 1))]) (S' := [(0, (-1))]) (r := 42) rfl (hF.1.lt (by decide)) (hF.1.sh (by decide) rfl).1 (Nat.le_of_ble_eq_true rfl)) (by decide) ml338 pp338 (Nat.le_of_ble_eq_true rfl) rfl (by decide) (by decide) ?_
    refine ev_aload_n rfl ?_
    refine ev_getf (r := 42) (v := 0) (hF.1.lt (by decide)) (hF.1.fam (by decide) (by decide)) ft12_44 ((hF.v rfl)) ?_
    refine ev_ifeq f338_16 (fun c5 => ?_) (fun c5 => absurd c5 (by omega))
    refine ev_iconst ?_
    refine ev_ret rfl (by decide) (by decide) ?_
    show jEv _ _ _ _ _ _ _ (_, [(2, (-2)), (2, 0), (2, 42), (0, 0)], [(0, (-1)), (0, (-1))], _, _, _)
    refine ev_icmpeq f384_2190 (fun c6 => ?_) (fun c6 => absurd c6 (by omega))
    exact law_tail _
  · refine ev_iload_n rfl ?_
    refine ev_iconst ?_
    refine ev_icmpne f221_13 (fun c7 => ?_) (fun c7 => ?_)
    · refine ev_iconst ?_
      refine ev_ret rfl (by decide) (by decide) ?_
      show jEv _ _ _ _ _ _ _ (_, [(2, 0), (0, (xs 1))], [(0, 0)], _, _, _)
      refine ev_ifeq f199_17 (fun c8 => ?_) (fun c8 => absurd c8 (by omega))
      refine ev_iconst ?_
      refine ev_goto f199_29 ?_
      refine ev_ret rfl (by decide) (by decide) ?_
      show jEv _ _ _ _ _ _ _ (_, [(2, (-2)), (2, 0), (2, 42), (0, 0)], [(0, (-1))], _, _, _)
      refine ev_aload_n rfl ?_
      refine ev_aload_n rfl ?_
      refine ev_iload_n rfl ?_
      refine ev_iconst ?_
      refine ev_iadd (r := 1) (by decide) ?_
      refine ev_sald (j := 1) (v := (xs 1)) rfl rfl rfl ?_
      refine ev_in (d := 7) (a := 0) (b := 0) (cd' := c338_0) (m := 6) (L0 := [(2, 42), (0, (xs 1)), (9, 0), (9, 0), (9, 0), (9, 0)]) (jcall_v (A := [(0, (xs 1))]) (S' := [(0, (-1))]) (r := 42) rfl (hF.1.lt (by decide)) (hF.1.sh (by decide) rfl).1 (Nat.le_of_ble_eq_true rfl)) (by decide) ml338 pp338 (Nat.le_of_ble_eq_true rfl) rfl (by decide) (by decide) ?_
      refine ev_aload_n rfl ?_
      refine ev_getf (r := 42) (v := 0) (hF.1.lt (by decide)) (hF.1.fam (by decide) (by decide)) ft12_44 ((hF.v rfl)) ?_
      refine ev_ifeq f338_16 (fun c9 => ?_) (fun c9 => absurd c9 (by omega))
      refine ev_iconst ?_
      refine ev_ret rfl (by decide) (by decide) ?_
      show jEv _ _ _ _ _ _ _ (_, [(2, (-2)), (2, 0), (2, 42), (0, 0)], [(0, (-1)), (0, (-1))], _, _, _)
      refine ev_icmpeq f384_2190 (fun c10 => ?_) (fun c10 => absurd c10 (by omega))
      exact law_tail _
    · refine ev_iconst ?_
      refine ev_goto f221_14 ?_
      refine ev_ret rfl (by decide) (by decide) ?_
      show jEv _ _ _ _ _ _ _ (_, [(2, 0), (0, (xs 1))], [(0, 1)], _, _, _)
      refine ev_ifeq f199_17 (fun c11 => absurd c11 (by omega)) (fun c11 => ?_)
      refine ev_aload_n rfl ?_
      refine ev_getf (r := 0) (v := 26) (hF.1.lt (by decide)) (hF.1.fam (by decide) (by decide)) ft11_11 ((hF.v rfl)) ?_
      refine ev_in (d := 6) (a := 0) (b := 0) (cd' := c104_0) (m := 1) (L0 := [(2, 26)]) (jcall_v (A := []) (S' := []) (r := 26) rfl (hF.1.lt (by decide)) (hF.1.sh (by decide) rfl).1 (Nat.le_of_ble_eq_true rfl)) (by decide) ml104 pp104 (Nat.le_of_ble_eq_true rfl) rfl (by decide) (by decide) ?_
      refine ev_aload_n rfl ?_
      refine ev_getf (r := 26) (v := 0) (hF.1.lt (by decide)) (hF.1.fam (by decide) (by decide)) ft9_0 ((hF.v rfl)) ?_
      refine ev_ifle f104_11 (fun c12 => ?_) (fun c12 => absurd c12 (by omega))
      refine ev_iconst ?_
      refine ev_ret rfl (by decide) (by decide) ?_
      show jEv _ _ _ _ _ _ _ (_, [(2, 0), (0, (xs 1))], [(0, 0)], _, _, _)
      refine ev_ifne f199_21 (fun c13 => absurd c13 (by omega)) (fun c13 => ?_)
      refine ev_iconst ?_
      refine ev_goto f199_29 ?_
      refine ev_ret rfl (by decide) (by decide) ?_
      show jEv _ _ _ _ _ _ _ (_, [(2, (-2)), (2, 0), (2, 42), (0, 0)], [(0, (-1))], _, _, _)
      refine ev_aload_n rfl ?_
      refine ev_aload_n rfl ?_
      refine ev_iload_n rfl ?_
      refine ev_iconst ?_
      refine ev_iadd (r := 1) (by decide) ?_
      refine ev_sald (j := 1) (v := (xs 1)) rfl rfl rfl ?_
      refine ev_in (d := 7) (a := 0) (b := 0) (cd' := c338_0) (m := 6) (L0 := [(2, 42), (0, (xs 1)), (9, 0), (9, 0), (9, 0), (9, 0)]) (jcall_v (A := [(0, (xs 1))]) (S' := [(0, (-1))]) (r := 42) rfl (hF.1.lt (by decide)) (hF.1.sh (by decide) rfl).1 (Nat.le_of_ble_eq_true rfl)) (by decide) ml338 pp338 (Nat.le_of_ble_eq_true rfl) rfl (by decide) (by decide) ?_
      refine ev_aload_n rfl ?_
      refine ev_getf (r := 42) (v := 0) (hF.1.lt (by decide)) (hF.1.fam (by decide) (by decide)) ft12_44 ((hF.v rfl)) ?_
      refine ev_ifeq f338_16 (fun c14 => ?_) (fun c14 => absurd c14 (by omega))
      refine ev_iconst ?_
      refine ev_ret rfl (by decide) (by decide) ?_
      show jEv _ _ _ _ _ _ _ (_, [(2, (-2)), (2, 0), (2, 42), (0, 0)], [(0, (-1)), (0, (-1))], _, _, _)
      refine ev_icmpeq f384_2190 (fun c15 => ?_) (fun c15 => absurd c15 (by omega))
      exact law_tail _

/-! sort -/
set_option maxHeartbeats 4000000 in
theorem case_34 {xs : Nat → Int} (hr : ∀ j, -2147483648 ≤ xs j ∧ xs j < 2147483648) {h : JH} (hF : Fresh h) : jEv (jOk 8) (some 6) xs c384_0 600000 7302250 (fun v _ => v = some (0, 1)) (c384_1461, [(2, -2), (2, 0), (2, 42), (0, 0)], [], h, 83, 23761) := by
  have r1 := hr 1
  have r2 := hr 2
  have r3 := hr 3
  have r4 := hr 4
  have r5 := hr 5
  refine ev_aload_n rfl ?_
  refine ev_aload_n rfl ?_
  refine ev_iload_n rfl ?_
  refine ev_iconst ?_
  refine ev_iadd (r := 1) (by decide) ?_
  refine ev_sald (j := 1) (v := (xs 1)) rfl rfl rfl ?_
  refine ev_aload_n rfl ?_
  refine ev_iload_n rfl ?_
  refine ev_iconst ?_
  refine ev_iadd (r := 2) (by decide) ?_
  refine ev_sald (j := 2) (v := (xs 2)) rfl rfl rfl ?_
  refine ev_aload_n rfl ?_
  refine ev_iload_n rfl ?_
  refine ev_iconst ?_
  refine ev_iadd (r := 3) (by decide) ?_
  refine ev_sald (j := 3) (v := (xs 3)) rfl rfl rfl ?_
  refine ev_in (d := 7) (a := 0) (b := 0) (cd' := c200_0) (m := 4) (L0 := [(2, 0), (0, (xs 1)), (0, (xs 2)), (0, (xs 3))]) (jcall_v (A := [(0, (xs 3)), (0, (xs 2)), (0, (xs 1))]) (S' := []) (r := 0) rfl (hF.1.lt (by decide)) (hF.1.sh (by decide) rfl).1 (Nat.le_of_ble_eq_true rfl)) (by decide) ml200 pp200 (Nat.le_of_ble_eq_true rfl) rfl (by decide) (by decide) ?_
  refine ev_iload_n rfl ?_
  refine ev_iconst ?_
  refine ev_icmplt f200_31 (fun c1 => ?_) (fun c1 => ?_)
  · refine ev_iconst ?_
    refine ev_ret rfl (by decide) (by decide) ?_
    show jEv _ _ _ _ _ _ _ (_, [(2, (-2)), (2, 0), (2, 42), (0, 0)], [(0, (-1))], _, _, _)
    refine ev_aload_n rfl ?_
    refine ev_aload_n rfl ?_
    refine ev_iload_n rfl ?_
    refine ev_iconst ?_
    refine ev_iadd (r := 1) (by decide) ?_
    refine ev_sald (j := 1) (v := (xs 1)) rfl rfl rfl ?_
    refine ev_aload_n rfl ?_
    refine ev_iload_n rfl ?_
    refine ev_iconst ?_
    refine ev_iadd (r := 2) (by decide) ?_
    refine ev_sald (j := 2) (v := (xs 2)) rfl rfl rfl ?_
    refine ev_aload_n rfl ?_
    refine ev_iload_n rfl ?_
    refine ev_iconst ?_
    refine ev_iadd (r := 3) (by decide) ?_
    refine ev_sald (j := 3) (v := (xs 3)) rfl rfl rfl ?_
    refine ev_in (d := 7) (a := 0) (b := 0) (cd' := c339_0) (m := 4) (L0 := [(2, 42), (0, (xs 1)), (0, (xs 2)), (0, (xs 3))]) (jcall_v (A := [(0, (xs 3)), (0, (xs 2)), (0, (xs 1))]) (S' := [(0, (-1))]) (r := 42) rfl (hF.1.lt (by decide)) (hF.1.sh (by decide) rfl).1 (Nat.le_of_ble_eq_true rfl)) (by decide) ml339 pp339 (Nat.le_of_ble_eq_true rfl) rfl (by decide) (by decide) ?_
    refine ev_iload_n rfl ?_
    refine ev_iconst ?_
    refine ev_bipush ?_
    refine ev_in (d := 6) (a := 0) (b := 0) (cd' := c242_0) (m := 3) (L0 := [(0, (xs 1)), (0, 1), (0, 9)]) (jcall_s (A := [(0, 9), (0, 1), (0, (xs 1))]) (S' := []) (by decide) rfl (Nat.le_of_ble_eq_true rfl)) (by decide) ml242 pp242 (Nat.le_of_ble_eq_true rfl) rfl (by decide) (by decide) ?_
    refine ev_iload_n rfl ?_
    refine ev_iload_n rfl ?_
    refine ev_icmplt f242_14 (fun c2 => ?_) (fun c2 => absurd c2 (by omega))
    refine ev_iconst ?_
    refine ev_ret rfl (by decide) (by decide) ?_
    show jEv _ _ _ _ _ _ _ (_, [(2, 42), (0, (xs 1)), (0, (xs 2)), (0, (xs 3))], [(0, 0)], _, _, _)
    refine ev_ifeq f339_30 (fun c3 => ?_) (fun c3 => absurd c3 (by omega))
    refine ev_iconst ?_
    refine ev_ret rfl (by decide) (by decide) ?_
    show jEv _ _ _ _ _ _ _ (_, [(2, (-2)), (2, 0), (2, 42), (0, 0)], [(0, (-1)), (0, (-1))], _, _, _)
    refine ev_icmpeq f384_2190 (fun c4 => ?_) (fun c4 => absurd c4 (by omega))
    exact law_tail _
  · refine ev_iload_n rfl ?_
    refine ev_bipush ?_
    refine ev_icmpgt f200_31 (fun c5 => ?_) (fun c5 => ?_)
    · refine ev_iconst ?_
      refine ev_ret rfl (by decide) (by decide) ?_
      show jEv _ _ _ _ _ _ _ (_, [(2, (-2)), (2, 0), (2, 42), (0, 0)], [(0, (-1))], _, _, _)
      refine ev_aload_n rfl ?_
      refine ev_aload_n rfl ?_
      refine ev_iload_n rfl ?_
      refine ev_iconst ?_
      refine ev_iadd (r := 1) (by decide) ?_
      refine ev_sald (j := 1) (v := (xs 1)) rfl rfl rfl ?_
      refine ev_aload_n rfl ?_
      refine ev_iload_n rfl ?_
      refine ev_iconst ?_
      refine ev_iadd (r := 2) (by decide) ?_
      refine ev_sald (j := 2) (v := (xs 2)) rfl rfl rfl ?_
      refine ev_aload_n rfl ?_
      refine ev_iload_n rfl ?_
      refine ev_iconst ?_
      refine ev_iadd (r := 3) (by decide) ?_
      refine ev_sald (j := 3) (v := (xs 3)) rfl rfl rfl ?_
      refine ev_in (d := 7) (a := 0) (b := 0) (cd' := c339_0) (m := 4) (L0 := [(2, 42), (0, (xs 1)), (0, (xs 2)), (0, (xs 3))]) (jcall_v (A := [(0, (xs 3)), (0, (xs 2)), (0, (xs 1))]) (S' := [(0, (-1))]) (r := 42) rfl (hF.1.lt (by decide)) (hF.1.sh (by decide) rfl).1 (Nat.le_of_ble_eq_true rfl)) (by decide) ml339 pp339 (Nat.le_of_ble_eq_true rfl) rfl (by decide) (by decide) ?_
      refine ev_iload_n rfl ?_
      refine ev_iconst ?_
      refine ev_bipush ?_
      refine ev_in (d := 6) (a := 0) (b := 0) (cd' := c242_0) (m := 3) (L0 := [(0, (xs 1)), (0, 1), (0, 9)]) (jcall_s (A := [(0, 9), (0, 1), (0, (xs 1))]) (S' := []) (by decide) rfl (Nat.le_of_ble_eq_true rfl)) (by decide) ml242 pp242 (Nat.le_of_ble_eq_true rfl) rfl (by decide) (by decide) ?_
      refine ev_iload_n rfl ?_
      refine ev_iload_n rfl ?_
      refine ev_icmplt f242_14 (fun c6 => absurd c6 (by omega)) (fun c6 => ?_)
      refine ev_iload_n rfl ?_
      refine ev_iload_n rfl ?_
      refine ev_icmpgt f242_14 (fun c7 => ?_) (fun c7 => absurd c7 (by omega))
      refine ev_iconst ?_
      refine ev_ret rfl (by decide) (by decide) ?_
      show jEv _ _ _ _ _ _ _ (_, [(2, 42), (0, (xs 1)), (0, (xs 2)), (0, (xs 3))], [(0, 0)], _, _, _)
      refine ev_ifeq f339_30 (fun c8 => ?_) (fun c8 => absurd c8 (by omega))
      refine ev_iconst ?_
      refine ev_ret rfl (by decide) (by decide) ?_
      show jEv _ _ _ _ _ _ _ (_, [(2, (-2)), (2, 0), (2, 42), (0, 0)], [(0, (-1)), (0, (-1))], _, _, _)
      refine ev_icmpeq f384_2190 (fun c9 => ?_) (fun c9 => absurd c9 (by omega))
      exact law_tail _
    · refine ev_iload_n rfl ?_
      refine ev_iflt f200_31 (fun c10 => ?_) (fun c10 => ?_)
      · refine ev_iconst ?_
        refine ev_ret rfl (by decide) (by decide) ?_
        show jEv _ _ _ _ _ _ _ (_, [(2, (-2)), (2, 0), (2, 42), (0, 0)], [(0, (-1))], _, _, _)
        refine ev_aload_n rfl ?_
        refine ev_aload_n rfl ?_
        refine ev_iload_n rfl ?_
        refine ev_iconst ?_
        refine ev_iadd (r := 1) (by decide) ?_
        refine ev_sald (j := 1) (v := (xs 1)) rfl rfl rfl ?_
        refine ev_aload_n rfl ?_
        refine ev_iload_n rfl ?_
        refine ev_iconst ?_
        refine ev_iadd (r := 2) (by decide) ?_
        refine ev_sald (j := 2) (v := (xs 2)) rfl rfl rfl ?_
        refine ev_aload_n rfl ?_
        refine ev_iload_n rfl ?_
        refine ev_iconst ?_
        refine ev_iadd (r := 3) (by decide) ?_
        refine ev_sald (j := 3) (v := (xs 3)) rfl rfl rfl ?_
        refine ev_in (d := 7) (a := 0) (b := 0) (cd' := c339_0) (m := 4) (L0 := [(2, 42), (0, (xs 1)), (0, (xs 2)), (0, (xs 3))]) (jcall_v (A := [(0, (xs 3)), (0, (xs 2)), (0, (xs 1))]) (S' := [(0, (-1))]) (r := 42) rfl (hF.1.lt (by decide)) (hF.1.sh (by decide) rfl).1 (Nat.le_of_ble_eq_true rfl)) (by decide) ml339 pp339 (Nat.le_of_ble_eq_true rfl) rfl (by decide) (by decide) ?_
        refine ev_iload_n rfl ?_
        refine ev_iconst ?_
        refine ev_bipush ?_
        refine ev_in (d := 6) (a := 0) (b := 0) (cd' := c242_0) (m := 3) (L0 := [(0, (xs 1)), (0, 1), (0, 9)]) (jcall_s (A := [(0, 9), (0, 1), (0, (xs 1))]) (S' := []) (by decide) rfl (Nat.le_of_ble_eq_true rfl)) (by decide) ml242 pp242 (Nat.le_of_ble_eq_true rfl) rfl (by decide) (by decide) ?_
        refine ev_iload_n rfl ?_
        refine ev_iload_n rfl ?_
        refine ev_icmplt f242_14 (fun c11 => absurd c11 (by omega)) (fun c11 => ?_)
        refine ev_iload_n rfl ?_
        refine ev_iload_n rfl ?_
        refine ev_icmpgt f242_14 (fun c12 => absurd c12 (by omega)) (fun c12 => ?_)
        refine ev_iconst ?_
        refine ev_goto f242_15 ?_
        refine ev_ret rfl (by decide) (by decide) ?_
        show jEv _ _ _ _ _ _ _ (_, [(2, 42), (0, (xs 1)), (0, (xs 2)), (0, (xs 3))], [(0, 1)], _, _, _)
        refine ev_ifeq f339_30 (fun c13 => absurd c13 (by omega)) (fun c13 => ?_)
        refine ev_iload_n rfl ?_
        refine ev_iconst ?_
        refine ev_bipush ?_
        refine ev_in (d := 6) (a := 0) (b := 0) (cd' := c242_0) (m := 3) (L0 := [(0, (xs 2)), (0, 0), (0, 99)]) (jcall_s (A := [(0, 99), (0, 0), (0, (xs 2))]) (S' := []) (by decide) rfl (Nat.le_of_ble_eq_true rfl)) (by decide) ml242 pp242 (Nat.le_of_ble_eq_true rfl) rfl (by decide) (by decide) ?_
        refine ev_iload_n rfl ?_
        refine ev_iload_n rfl ?_
        refine ev_icmplt f242_14 (fun c14 => ?_) (fun c14 => absurd c14 (by omega))
        refine ev_iconst ?_
        refine ev_ret rfl (by decide) (by decide) ?_
        show jEv _ _ _ _ _ _ _ (_, [(2, 42), (0, (xs 1)), (0, (xs 2)), (0, (xs 3))], [(0, 0)], _, _, _)
        refine ev_ifeq f339_30 (fun c15 => ?_) (fun c15 => absurd c15 (by omega))
        refine ev_iconst ?_
        refine ev_ret rfl (by decide) (by decide) ?_
        show jEv _ _ _ _ _ _ _ (_, [(2, (-2)), (2, 0), (2, 42), (0, 0)], [(0, (-1)), (0, (-1))], _, _, _)
        refine ev_icmpeq f384_2190 (fun c16 => ?_) (fun c16 => absurd c16 (by omega))
        exact law_tail _
      · refine ev_iload_n rfl ?_
        refine ev_bipush ?_
        refine ev_icmpgt f200_31 (fun c17 => ?_) (fun c17 => ?_)
        · refine ev_iconst ?_
          refine ev_ret rfl (by decide) (by decide) ?_
          show jEv _ _ _ _ _ _ _ (_, [(2, (-2)), (2, 0), (2, 42), (0, 0)], [(0, (-1))], _, _, _)
          refine ev_aload_n rfl ?_
          refine ev_aload_n rfl ?_
          refine ev_iload_n rfl ?_
          refine ev_iconst ?_
          refine ev_iadd (r := 1) (by decide) ?_
          refine ev_sald (j := 1) (v := (xs 1)) rfl rfl rfl ?_
          refine ev_aload_n rfl ?_
          refine ev_iload_n rfl ?_
          refine ev_iconst ?_
          refine ev_iadd (r := 2) (by decide) ?_
          refine ev_sald (j := 2) (v := (xs 2)) rfl rfl rfl ?_
          refine ev_aload_n rfl ?_
          refine ev_iload_n rfl ?_
          refine ev_iconst ?_
          refine ev_iadd (r := 3) (by decide) ?_
          refine ev_sald (j := 3) (v := (xs 3)) rfl rfl rfl ?_
          refine ev_in (d := 7) (a := 0) (b := 0) (cd' := c339_0) (m := 4) (L0 := [(2, 42), (0, (xs 1)), (0, (xs 2)), (0, (xs 3))]) (jcall_v (A := [(0, (xs 3)), (0, (xs 2)), (0, (xs 1))]) (S' := [(0, (-1))]) (r := 42) rfl (hF.1.lt (by decide)) (hF.1.sh (by decide) rfl).1 (Nat.le_of_ble_eq_true rfl)) (by decide) ml339 pp339 (Nat.le_of_ble_eq_true rfl) rfl (by decide) (by decide) ?_
          refine ev_iload_n rfl ?_
          refine ev_iconst ?_
          refine ev_bipush ?_
          refine ev_in (d := 6) (a := 0) (b := 0) (cd' := c242_0) (m := 3) (L0 := [(0, (xs 1)), (0, 1), (0, 9)]) (jcall_s (A := [(0, 9), (0, 1), (0, (xs 1))]) (S' := []) (by decide) rfl (Nat.le_of_ble_eq_true rfl)) (by decide) ml242 pp242 (Nat.le_of_ble_eq_true rfl) rfl (by decide) (by decide) ?_
          refine ev_iload_n rfl ?_
          refine ev_iload_n rfl ?_
          refine ev_icmplt f242_14 (fun c18 => absurd c18 (by omega)) (fun c18 => ?_)
          refine ev_iload_n rfl ?_
          refine ev_iload_n rfl ?_
          refine ev_icmpgt f242_14 (fun c19 => absurd c19 (by omega)) (fun c19 => ?_)
          refine ev_iconst ?_
          refine ev_goto f242_15 ?_
          refine ev_ret rfl (by decide) (by decide) ?_
          show jEv _ _ _ _ _ _ _ (_, [(2, 42), (0, (xs 1)), (0, (xs 2)), (0, (xs 3))], [(0, 1)], _, _, _)
          refine ev_ifeq f339_30 (fun c20 => absurd c20 (by omega)) (fun c20 => ?_)
          refine ev_iload_n rfl ?_
          refine ev_iconst ?_
          refine ev_bipush ?_
          refine ev_in (d := 6) (a := 0) (b := 0) (cd' := c242_0) (m := 3) (L0 := [(0, (xs 2)), (0, 0), (0, 99)]) (jcall_s (A := [(0, 99), (0, 0), (0, (xs 2))]) (S' := []) (by decide) rfl (Nat.le_of_ble_eq_true rfl)) (by decide) ml242 pp242 (Nat.le_of_ble_eq_true rfl) rfl (by decide) (by decide) ?_
          refine ev_iload_n rfl ?_
          refine ev_iload_n rfl ?_
          refine ev_icmplt f242_14 (fun c21 => absurd c21 (by omega)) (fun c21 => ?_)
          refine ev_iload_n rfl ?_
          refine ev_iload_n rfl ?_
          refine ev_icmpgt f242_14 (fun c22 => ?_) (fun c22 => absurd c22 (by omega))
          refine ev_iconst ?_
          refine ev_ret rfl (by decide) (by decide) ?_
          show jEv _ _ _ _ _ _ _ (_, [(2, 42), (0, (xs 1)), (0, (xs 2)), (0, (xs 3))], [(0, 0)], _, _, _)
          refine ev_ifeq f339_30 (fun c23 => ?_) (fun c23 => absurd c23 (by omega))
          refine ev_iconst ?_
          refine ev_ret rfl (by decide) (by decide) ?_
          show jEv _ _ _ _ _ _ _ (_, [(2, (-2)), (2, 0), (2, 42), (0, 0)], [(0, (-1)), (0, (-1))], _, _, _)
          refine ev_icmpeq f384_2190 (fun c24 => ?_) (fun c24 => absurd c24 (by omega))
          exact law_tail _
        · refine ev_iload_n rfl ?_
          refine ev_iflt f200_31 (fun c25 => ?_) (fun c25 => ?_)
          · refine ev_iconst ?_
            refine ev_ret rfl (by decide) (by decide) ?_
            show jEv _ _ _ _ _ _ _ (_, [(2, (-2)), (2, 0), (2, 42), (0, 0)], [(0, (-1))], _, _, _)
            refine ev_aload_n rfl ?_
            refine ev_aload_n rfl ?_
            refine ev_iload_n rfl ?_
            refine ev_iconst ?_
            refine ev_iadd (r := 1) (by decide) ?_
            refine ev_sald (j := 1) (v := (xs 1)) rfl rfl rfl ?_
            refine ev_aload_n rfl ?_
            refine ev_iload_n rfl ?_
            refine ev_iconst ?_
            refine ev_iadd (r := 2) (by decide) ?_
            refine ev_sald (j := 2) (v := (xs 2)) rfl rfl rfl ?_
            refine ev_aload_n rfl ?_
            refine ev_iload_n rfl ?_
            refine ev_iconst ?_
            refine ev_iadd (r := 3) (by decide) ?_
            refine ev_sald (j := 3) (v := (xs 3)) rfl rfl rfl ?_
            refine ev_in (d := 7) (a := 0) (b := 0) (cd' := c339_0) (m := 4) (L0 := [(2, 42), (0, (xs 1)), (0, (xs 2)), (0, (xs 3))]) (jcall_v (A := [(0, (xs 3)), (0, (xs 2)), (0, (xs 1))]) (S' := [(0, (-1))]) (r := 42) rfl (hF.1.lt (by decide)) (hF.1.sh (by decide) rfl).1 (Nat.le_of_ble_eq_true rfl)) (by decide) ml339 pp339 (Nat.le_of_ble_eq_true rfl) rfl (by decide) (by decide) ?_
            refine ev_iload_n rfl ?_
            refine ev_iconst ?_
            refine ev_bipush ?_
            refine ev_in (d := 6) (a := 0) (b := 0) (cd' := c242_0) (m := 3) (L0 := [(0, (xs 1)), (0, 1), (0, 9)]) (jcall_s (A := [(0, 9), (0, 1), (0, (xs 1))]) (S' := []) (by decide) rfl (Nat.le_of_ble_eq_true rfl)) (by decide) ml242 pp242 (Nat.le_of_ble_eq_true rfl) rfl (by decide) (by decide) ?_
            refine ev_iload_n rfl ?_
            refine ev_iload_n rfl ?_
            refine ev_icmplt f242_14 (fun c26 => absurd c26 (by omega)) (fun c26 => ?_)
            refine ev_iload_n rfl ?_
            refine ev_iload_n rfl ?_
            refine ev_icmpgt f242_14 (fun c27 => absurd c27 (by omega)) (fun c27 => ?_)
            refine ev_iconst ?_
            refine ev_goto f242_15 ?_
            refine ev_ret rfl (by decide) (by decide) ?_
            show jEv _ _ _ _ _ _ _ (_, [(2, 42), (0, (xs 1)), (0, (xs 2)), (0, (xs 3))], [(0, 1)], _, _, _)
            refine ev_ifeq f339_30 (fun c28 => absurd c28 (by omega)) (fun c28 => ?_)
            refine ev_iload_n rfl ?_
            refine ev_iconst ?_
            refine ev_bipush ?_
            refine ev_in (d := 6) (a := 0) (b := 0) (cd' := c242_0) (m := 3) (L0 := [(0, (xs 2)), (0, 0), (0, 99)]) (jcall_s (A := [(0, 99), (0, 0), (0, (xs 2))]) (S' := []) (by decide) rfl (Nat.le_of_ble_eq_true rfl)) (by decide) ml242 pp242 (Nat.le_of_ble_eq_true rfl) rfl (by decide) (by decide) ?_
            refine ev_iload_n rfl ?_
            refine ev_iload_n rfl ?_
            refine ev_icmplt f242_14 (fun c29 => absurd c29 (by omega)) (fun c29 => ?_)
            refine ev_iload_n rfl ?_
            refine ev_iload_n rfl ?_
            refine ev_icmpgt f242_14 (fun c30 => absurd c30 (by omega)) (fun c30 => ?_)
            refine ev_iconst ?_
            refine ev_goto f242_15 ?_
            refine ev_ret rfl (by decide) (by decide) ?_
            show jEv _ _ _ _ _ _ _ (_, [(2, 42), (0, (xs 1)), (0, (xs 2)), (0, (xs 3))], [(0, 1)], _, _, _)
            refine ev_ifeq f339_30 (fun c31 => absurd c31 (by omega)) (fun c31 => ?_)
            refine ev_iload_n rfl ?_
            refine ev_iconst ?_
            refine ev_bipush ?_
            refine ev_in (d := 6) (a := 0) (b := 0) (cd' := c242_0) (m := 3) (L0 := [(0, (xs 3)), (0, 0), (0, 99)]) (jcall_s (A := [(0, 99), (0, 0), (0, (xs 3))]) (S' := []) (by decide) rfl (Nat.le_of_ble_eq_true rfl)) (by decide) ml242 pp242 (Nat.le_of_ble_eq_true rfl) rfl (by decide) (by decide) ?_
            refine ev_iload_n rfl ?_
            refine ev_iload_n rfl ?_
            refine ev_icmplt f242_14 (fun c32 => ?_) (fun c32 => absurd c32 (by omega))
            refine ev_iconst ?_
            refine ev_ret rfl (by decide) (by decide) ?_
            show jEv _ _ _ _ _ _ _ (_, [(2, 42), (0, (xs 1)), (0, (xs 2)), (0, (xs 3))], [(0, 0)], _, _, _)
            refine ev_ifne f339_32 (fun c33 => absurd c33 (by omega)) (fun c33 => ?_)
            refine ev_iconst ?_
            refine ev_ret rfl (by decide) (by decide) ?_
            show jEv _ _ _ _ _ _ _ (_, [(2, (-2)), (2, 0), (2, 42), (0, 0)], [(0, (-1)), (0, (-1))], _, _, _)
            refine ev_icmpeq f384_2190 (fun c34 => ?_) (fun c34 => absurd c34 (by omega))
            exact law_tail _
          · refine ev_iload_n rfl ?_
            refine ev_bipush ?_
            refine ev_icmple f200_33 (fun c35 => ?_) (fun c35 => ?_)
            · refine ev_aload_n rfl ?_
              refine ev_getf (r := 0) (v := 26) (hF.1.lt (by decide)) (hF.1.fam (by decide) (by decide)) ft11_11 ((hF.v rfl)) ?_
              refine ev_iload_n rfl ?_
              refine ev_iload_n rfl ?_
              refine ev_iload_n rfl ?_
              refine ev_in (d := 6) (a := 0) (b := 0) (cd' := c119_0) (m := 4) (L0 := [(2, 26), (0, (xs 1)), (0, (xs 2)), (0, (xs 3))]) (jcall_v (A := [(0, (xs 3)), (0, (xs 2)), (0, (xs 1))]) (S' := []) (r := 26) rfl (hF.1.lt (by decide)) (hF.1.sh (by decide) rfl).1 (Nat.le_of_ble_eq_true rfl)) (by decide) ml119 pp119 (Nat.le_of_ble_eq_true rfl) rfl (by decide) (by decide) ?_
              refine ev_aload_n rfl ?_
              refine ev_getf (r := 26) (v := 0) (hF.1.lt (by decide)) (hF.1.fam (by decide) (by decide)) ft9_3 ((hF.v rfl)) ?_
              refine ev_iconst ?_
              refine ev_icmplt f119_11 (fun c36 => ?_) (fun c36 => absurd c36 (by omega))
              refine ev_aload_n rfl ?_
              refine ev_getf (r := 26) (v := 28) (hF.1.lt (by decide)) (hF.1.fam (by decide) (by decide)) ft9_4 ((hF.v rfl)) ?_
              refine ev_aload_n rfl ?_
              refine ev_getf (r := 26) (v := 0) (hF.1.lt (by decide)) (hF.1.fam (by decide) (by decide)) ft9_3 ((hF.v rfl)) ?_
              refine ev_iload_n rfl ?_
              refine ev_iastG (r := 28) (j := 0) (hF.1.lt (by decide)) (hF.1.sh (by decide) rfl).1 rfl (hF.1.inb (by decide) (by decide)) (fun h182 e182 => ?_)
              have hS182 := hF.1.wr e182
              refine ev_aload_n rfl ?_
              refine ev_getf (r := 26) (v := 29) (hS182.lt (by decide)) (hS182.fam (by decide) (by decide)) ft9_5 ((jw_ne e182 (Or.inl (by decide))).trans ((hF.v rfl))) ?_
              refine ev_aload_n rfl ?_
              refine ev_getf (r := 26) (v := 0) (hS182.lt (by decide)) (hS182.fam (by decide) (by decide)) ft9_3 ((jw_ne e182 (Or.inl (by decide))).trans ((hF.v rfl))) ?_
              refine ev_iload_n rfl ?_
              refine ev_iastG (r := 29) (j := 0) (hS182.lt (by decide)) (hS182.sh (by decide) rfl).1 rfl (hS182.inb (by decide) (by decide)) (fun h183 e183 => ?_)
              have hS183 := hS182.wr e183
              refine ev_aload_n rfl ?_
              refine ev_getf (r := 26) (v := 30) (hS183.lt (by decide)) (hS183.fam (by decide) (by decide)) ft9_6 ((jw_ne e183 (Or.inl (by decide))).trans ((jw_ne e182 (Or.inl (by decide))).trans ((hF.v rfl)))) ?_
              refine ev_aload_n rfl ?_
              refine ev_getf (r := 26) (v := 0) (hS183.lt (by decide)) (hS183.fam (by decide) (by decide)) ft9_3 ((jw_ne e183 (Or.inl (by decide))).trans ((jw_ne e182 (Or.inl (by decide))).trans ((hF.v rfl)))) ?_
              refine ev_iload_n rfl ?_
              refine ev_iastG (r := 30) (j := 0) (hS183.lt (by decide)) (hS183.sh (by decide) rfl).1 rfl (hS183.inb (by decide) (by decide)) (fun h184 e184 => ?_)
              have hS184 := hS183.wr e184
              refine ev_aload_n rfl ?_
              refine ev_dup (by decide) ?_
              refine ev_getf (r := 26) (v := 0) (hS184.lt (by decide)) (hS184.fam (by decide) (by decide)) ft9_3 ((jw_ne e184 (Or.inl (by decide))).trans ((jw_ne e183 (Or.inl (by decide))).trans ((jw_ne e182 (Or.inl (by decide))).trans ((hF.v rfl))))) ?_
              refine ev_iconst ?_
              refine ev_iadd (r := 1) (by decide) ?_
              refine ev_putfG (r := 26) (hS184.lt (by decide)) (hS184.fam (by decide) (by decide)) ft9_3 (fun e => absurd e nz9_3) (fun e => absurd e (by decide)) (fun h185 e185 => ?_)
              have hS185 := hS184.wr e185
              refine ev_aload_n rfl ?_
              refine ev_getf (r := 26) (v := 1) (hS185.lt (by decide)) (hS185.fam (by decide) (by decide)) ft9_3 (jw_eq e185) ?_
              refine ev_ret rfl (by decide) (by decide) ?_
              show jEv _ _ _ _ _ _ _ (_, [(2, 0), (0, (xs 1)), (0, (xs 2)), (0, (xs 3))], [(0, 1)], _, _, _)
              refine ev_ret rfl (by decide) (by decide) ?_
              show jEv _ _ _ _ _ _ _ (_, [(2, (-2)), (2, 0), (2, 42), (0, 0)], [(0, 1)], _, _, _)
              refine ev_aload_n rfl ?_
              refine ev_aload_n rfl ?_
              refine ev_iload_n rfl ?_
              refine ev_iconst ?_
              refine ev_iadd (r := 1) (by decide) ?_
              refine ev_sald (j := 1) (v := (xs 1)) rfl rfl rfl ?_
              refine ev_aload_n rfl ?_
              refine ev_iload_n rfl ?_
              refine ev_iconst ?_
              refine ev_iadd (r := 2) (by decide) ?_
              refine ev_sald (j := 2) (v := (xs 2)) rfl rfl rfl ?_
              refine ev_aload_n rfl ?_
              refine ev_iload_n rfl ?_
              refine ev_iconst ?_
              refine ev_iadd (r := 3) (by decide) ?_
              refine ev_sald (j := 3) (v := (xs 3)) rfl rfl rfl ?_
              refine ev_in (d := 7) (a := 0) (b := 0) (cd' := c339_0) (m := 4) (L0 := [(2, 42), (0, (xs 1)), (0, (xs 2)), (0, (xs 3))]) (jcall_v (A := [(0, (xs 3)), (0, (xs 2)), (0, (xs 1))]) (S' := [(0, 1)]) (r := 42) rfl (hS185.lt (by decide)) (hS185.sh (by decide) rfl).1 (Nat.le_of_ble_eq_true rfl)) (by decide) ml339 pp339 (Nat.le_of_ble_eq_true rfl) rfl (by decide) (by decide) ?_
              refine ev_iload_n rfl ?_
              refine ev_iconst ?_
              refine ev_bipush ?_
              refine ev_in (d := 6) (a := 0) (b := 0) (cd' := c242_0) (m := 3) (L0 := [(0, (xs 1)), (0, 1), (0, 9)]) (jcall_s (A := [(0, 9), (0, 1), (0, (xs 1))]) (S' := []) (by decide) rfl (Nat.le_of_ble_eq_true rfl)) (by decide) ml242 pp242 (Nat.le_of_ble_eq_true rfl) rfl (by decide) (by decide) ?_
              refine ev_iload_n rfl ?_
              refine ev_iload_n rfl ?_
              refine ev_icmplt f242_14 (fun c37 => absurd c37 (by omega)) (fun c37 => ?_)
              refine ev_iload_n rfl ?_
              refine ev_iload_n rfl ?_
              refine ev_icmpgt f242_14 (fun c38 => absurd c38 (by omega)) (fun c38 => ?_)
              refine ev_iconst ?_
              refine ev_goto f242_15 ?_
              refine ev_ret rfl (by decide) (by decide) ?_
              show jEv _ _ _ _ _ _ _ (_, [(2, 42), (0, (xs 1)), (0, (xs 2)), (0, (xs 3))], [(0, 1)], _, _, _)
              refine ev_ifeq f339_30 (fun c39 => absurd c39 (by omega)) (fun c39 => ?_)
              refine ev_iload_n rfl ?_
              refine ev_iconst ?_
              refine ev_bipush ?_
              refine ev_in (d := 6) (a := 0) (b := 0) (cd' := c242_0) (m := 3) (L0 := [(0, (xs 2)), (0, 0), (0, 99)]) (jcall_s (A := [(0, 99), (0, 0), (0, (xs 2))]) (S' := []) (by decide) rfl (Nat.le_of_ble_eq_true rfl)) (by decide) ml242 pp242 (Nat.le_of_ble_eq_true rfl) rfl (by decide) (by decide) ?_
              refine ev_iload_n rfl ?_
              refine ev_iload_n rfl ?_
              refine ev_icmplt f242_14 (fun c40 => absurd c40 (by omega)) (fun c40 => ?_)
              refine ev_iload_n rfl ?_
              refine ev_iload_n rfl ?_
              refine ev_icmpgt f242_14 (fun c41 => absurd c41 (by omega)) (fun c41 => ?_)
              refine ev_iconst ?_
              refine ev_goto f242_15 ?_
              refine ev_ret rfl (by decide) (by decide) ?_
              show jEv _ _ _ _ _ _ _ (_, [(2, 42), (0, (xs 1)), (0, (xs 2)), (0, (xs 3))], [(0, 1)], _, _, _)
              refine ev_ifeq f339_30 (fun c42 => absurd c42 (by omega)) (fun c42 => ?_)
              refine ev_iload_n rfl ?_
              refine ev_iconst ?_
              refine ev_bipush ?_
              refine ev_in (d := 6) (a := 0) (b := 0) (cd' := c242_0) (m := 3) (L0 := [(0, (xs 3)), (0, 0), (0, 99)]) (jcall_s (A := [(0, 99), (0, 0), (0, (xs 3))]) (S' := []) (by decide) rfl (Nat.le_of_ble_eq_true rfl)) (by decide) ml242 pp242 (Nat.le_of_ble_eq_true rfl) rfl (by decide) (by decide) ?_
              refine ev_iload_n rfl ?_
              refine ev_iload_n rfl ?_
              refine ev_icmplt f242_14 (fun c43 => absurd c43 (by omega)) (fun c43 => ?_)
              refine ev_iload_n rfl ?_
              refine ev_iload_n rfl ?_
              refine ev_icmpgt f242_14 (fun c44 => absurd c44 (by omega)) (fun c44 => ?_)
              refine ev_iconst ?_
              refine ev_goto f242_15 ?_
              refine ev_ret rfl (by decide) (by decide) ?_
              show jEv _ _ _ _ _ _ _ (_, [(2, 42), (0, (xs 1)), (0, (xs 2)), (0, (xs 3))], [(0, 1)], _, _, _)
              refine ev_ifne f339_32 (fun c45 => ?_) (fun c45 => absurd c45 (by omega))
              refine ev_aload_n rfl ?_
              refine ev_getf (r := 42) (v := 0) (hS185.lt (by decide)) (hS185.fam (by decide) (by decide)) ft12_47 ((jw_ne e185 (Or.inl (by decide))).trans ((jw_ne e184 (Or.inl (by decide))).trans ((jw_ne e183 (Or.inl (by decide))).trans ((jw_ne e182 (Or.inl (by decide))).trans ((hF.v rfl)))))) ?_
              refine ev_iconst ?_
              refine ev_icmpne f339_43 (fun c46 => ?_) (fun c46 => absurd c46 (by omega))
              refine ev_aload_n rfl ?_
              refine ev_getf (r := 42) (v := 68) (hS185.lt (by decide)) (hS185.fam (by decide) (by decide)) ft12_48 ((jw_ne e185 (Or.inl (by decide))).trans ((jw_ne e184 (Or.inl (by decide))).trans ((jw_ne e183 (Or.inl (by decide))).trans ((jw_ne e182 (Or.inl (by decide))).trans ((hF.v rfl)))))) ?_
              refine ev_aload_n rfl ?_
              refine ev_getf (r := 42) (v := 0) (hS185.lt (by decide)) (hS185.fam (by decide) (by decide)) ft12_47 ((jw_ne e185 (Or.inl (by decide))).trans ((jw_ne e184 (Or.inl (by decide))).trans ((jw_ne e183 (Or.inl (by decide))).trans ((jw_ne e182 (Or.inl (by decide))).trans ((hF.v rfl)))))) ?_
              refine ev_iload_n rfl ?_
              refine ev_iastG (r := 68) (j := 0) (hS185.lt (by decide)) (hS185.sh (by decide) rfl).1 rfl (hS185.inb (by decide) (by decide)) (fun h186 e186 => ?_)
              have hS186 := hS185.wr e186
              refine ev_aload_n rfl ?_
              refine ev_getf (r := 42) (v := 69) (hS186.lt (by decide)) (hS186.fam (by decide) (by decide)) ft12_49 ((jw_ne e186 (Or.inl (by decide))).trans ((jw_ne e185 (Or.inl (by decide))).trans ((jw_ne e184 (Or.inl (by decide))).trans ((jw_ne e183 (Or.inl (by decide))).trans ((jw_ne e182 (Or.inl (by decide))).trans ((hF.v rfl))))))) ?_
              refine ev_aload_n rfl ?_
              refine ev_getf (r := 42) (v := 0) (hS186.lt (by decide)) (hS186.fam (by decide) (by decide)) ft12_47 ((jw_ne e186 (Or.inl (by decide))).trans ((jw_ne e185 (Or.inl (by decide))).trans ((jw_ne e184 (Or.inl (by decide))).trans ((jw_ne e183 (Or.inl (by decide))).trans ((jw_ne e182 (Or.inl (by decide))).trans ((hF.v rfl))))))) ?_
              refine ev_iload_n rfl ?_
              refine ev_iastG (r := 69) (j := 0) (hS186.lt (by decide)) (hS186.sh (by decide) rfl).1 rfl (hS186.inb (by decide) (by decide)) (fun h187 e187 => ?_)
              have hS187 := hS186.wr e187
              refine ev_aload_n rfl ?_
              refine ev_getf (r := 42) (v := 70) (hS187.lt (by decide)) (hS187.fam (by decide) (by decide)) ft12_50 ((jw_ne e187 (Or.inl (by decide))).trans ((jw_ne e186 (Or.inl (by decide))).trans ((jw_ne e185 (Or.inl (by decide))).trans ((jw_ne e184 (Or.inl (by decide))).trans ((jw_ne e183 (Or.inl (by decide))).trans ((jw_ne e182 (Or.inl (by decide))).trans ((hF.v rfl)))))))) ?_
              refine ev_aload_n rfl ?_
              refine ev_getf (r := 42) (v := 0) (hS187.lt (by decide)) (hS187.fam (by decide) (by decide)) ft12_47 ((jw_ne e187 (Or.inl (by decide))).trans ((jw_ne e186 (Or.inl (by decide))).trans ((jw_ne e185 (Or.inl (by decide))).trans ((jw_ne e184 (Or.inl (by decide))).trans ((jw_ne e183 (Or.inl (by decide))).trans ((jw_ne e182 (Or.inl (by decide))).trans ((hF.v rfl)))))))) ?_
              refine ev_iload_n rfl ?_
              refine ev_iastG (r := 70) (j := 0) (hS187.lt (by decide)) (hS187.sh (by decide) rfl).1 rfl (hS187.inb (by decide) (by decide)) (fun h188 e188 => ?_)
              have hS188 := hS187.wr e188
              refine ev_aload_n rfl ?_
              refine ev_dup (by decide) ?_
              refine ev_getf (r := 42) (v := 0) (hS188.lt (by decide)) (hS188.fam (by decide) (by decide)) ft12_47 ((jw_ne e188 (Or.inl (by decide))).trans ((jw_ne e187 (Or.inl (by decide))).trans ((jw_ne e186 (Or.inl (by decide))).trans ((jw_ne e185 (Or.inl (by decide))).trans ((jw_ne e184 (Or.inl (by decide))).trans ((jw_ne e183 (Or.inl (by decide))).trans ((jw_ne e182 (Or.inl (by decide))).trans ((hF.v rfl))))))))) ?_
              refine ev_iconst ?_
              refine ev_iadd (r := 1) (by decide) ?_
              refine ev_putfG (r := 42) (hS188.lt (by decide)) (hS188.fam (by decide) (by decide)) ft12_47 (fun e => absurd e nz12_47) (fun e => absurd e (by decide)) (fun h189 e189 => ?_)
              have hS189 := hS188.wr e189
              refine ev_aload_n rfl ?_
              refine ev_getf (r := 42) (v := 1) (hS189.lt (by decide)) (hS189.fam (by decide) (by decide)) ft12_47 (jw_eq e189) ?_
              refine ev_ret rfl (by decide) (by decide) ?_
              show jEv _ _ _ _ _ _ _ (_, [(2, (-2)), (2, 0), (2, 42), (0, 0)], [(0, 1), (0, 1)], _, _, _)
              refine ev_icmpeq f384_2190 (fun c47 => ?_) (fun c47 => absurd c47 (by omega))
              exact law_tail _
            · refine ev_iconst ?_
              refine ev_ret rfl (by decide) (by decide) ?_
              show jEv _ _ _ _ _ _ _ (_, [(2, (-2)), (2, 0), (2, 42), (0, 0)], [(0, (-1))], _, _, _)
              refine ev_aload_n rfl ?_
              refine ev_aload_n rfl ?_
              refine ev_iload_n rfl ?_
              refine ev_iconst ?_
              refine ev_iadd (r := 1) (by decide) ?_
              refine ev_sald (j := 1) (v := (xs 1)) rfl rfl rfl ?_
              refine ev_aload_n rfl ?_
              refine ev_iload_n rfl ?_
              refine ev_iconst ?_
              refine ev_iadd (r := 2) (by decide) ?_
              refine ev_sald (j := 2) (v := (xs 2)) rfl rfl rfl ?_
              refine ev_aload_n rfl ?_
              refine ev_iload_n rfl ?_
              refine ev_iconst ?_
              refine ev_iadd (r := 3) (by decide) ?_
              refine ev_sald (j := 3) (v := (xs 3)) rfl rfl rfl ?_
              refine ev_in (d := 7) (a := 0) (b := 0) (cd' := c339_0) (m := 4) (L0 := [(2, 42), (0, (xs 1)), (0, (xs 2)), (0, (xs 3))]) (jcall_v (A := [(0, (xs 3)), (0, (xs 2)), (0, (xs 1))]) (S' := [(0, (-1))]) (r := 42) rfl (hF.1.lt (by decide)) (hF.1.sh (by decide) rfl).1 (Nat.le_of_ble_eq_true rfl)) (by decide) ml339 pp339 (Nat.le_of_ble_eq_true rfl) rfl (by decide) (by decide) ?_
              refine ev_iload_n rfl ?_
              refine ev_iconst ?_
              refine ev_bipush ?_
              refine ev_in (d := 6) (a := 0) (b := 0) (cd' := c242_0) (m := 3) (L0 := [(0, (xs 1)), (0, 1), (0, 9)]) (jcall_s (A := [(0, 9), (0, 1), (0, (xs 1))]) (S' := []) (by decide) rfl (Nat.le_of_ble_eq_true rfl)) (by decide) ml242 pp242 (Nat.le_of_ble_eq_true rfl) rfl (by decide) (by decide) ?_
              refine ev_iload_n rfl ?_
              refine ev_iload_n rfl ?_
              refine ev_icmplt f242_14 (fun c48 => absurd c48 (by omega)) (fun c48 => ?_)
              refine ev_iload_n rfl ?_
              refine ev_iload_n rfl ?_
              refine ev_icmpgt f242_14 (fun c49 => absurd c49 (by omega)) (fun c49 => ?_)
              refine ev_iconst ?_
              refine ev_goto f242_15 ?_
              refine ev_ret rfl (by decide) (by decide) ?_
              show jEv _ _ _ _ _ _ _ (_, [(2, 42), (0, (xs 1)), (0, (xs 2)), (0, (xs 3))], [(0, 1)], _, _, _)
              refine ev_ifeq f339_30 (fun c50 => absurd c50 (by omega)) (fun c50 => ?_)
              refine ev_iload_n rfl ?_
              refine ev_iconst ?_
              refine ev_bipush ?_
              refine ev_in (d := 6) (a := 0) (b := 0) (cd' := c242_0) (m := 3) (L0 := [(0, (xs 2)), (0, 0), (0, 99)]) (jcall_s (A := [(0, 99), (0, 0), (0, (xs 2))]) (S' := []) (by decide) rfl (Nat.le_of_ble_eq_true rfl)) (by decide) ml242 pp242 (Nat.le_of_ble_eq_true rfl) rfl (by decide) (by decide) ?_
              refine ev_iload_n rfl ?_
              refine ev_iload_n rfl ?_
              refine ev_icmplt f242_14 (fun c51 => absurd c51 (by omega)) (fun c51 => ?_)
              refine ev_iload_n rfl ?_
              refine ev_iload_n rfl ?_
              refine ev_icmpgt f242_14 (fun c52 => absurd c52 (by omega)) (fun c52 => ?_)
              refine ev_iconst ?_
              refine ev_goto f242_15 ?_
              refine ev_ret rfl (by decide) (by decide) ?_
              show jEv _ _ _ _ _ _ _ (_, [(2, 42), (0, (xs 1)), (0, (xs 2)), (0, (xs 3))], [(0, 1)], _, _, _)
              refine ev_ifeq f339_30 (fun c53 => absurd c53 (by omega)) (fun c53 => ?_)
              refine ev_iload_n rfl ?_
              refine ev_iconst ?_
              refine ev_bipush ?_
              refine ev_in (d := 6) (a := 0) (b := 0) (cd' := c242_0) (m := 3) (L0 := [(0, (xs 3)), (0, 0), (0, 99)]) (jcall_s (A := [(0, 99), (0, 0), (0, (xs 3))]) (S' := []) (by decide) rfl (Nat.le_of_ble_eq_true rfl)) (by decide) ml242 pp242 (Nat.le_of_ble_eq_true rfl) rfl (by decide) (by decide) ?_
              refine ev_iload_n rfl ?_
              refine ev_iload_n rfl ?_
              refine ev_icmplt f242_14 (fun c54 => absurd c54 (by omega)) (fun c54 => ?_)
              refine ev_iload_n rfl ?_
              refine ev_iload_n rfl ?_
              refine ev_icmpgt f242_14 (fun c55 => ?_) (fun c55 => absurd c55 (by omega))
              refine ev_iconst ?_
              refine ev_ret rfl (by decide) (by decide) ?_
              show jEv _ _ _ _ _ _ _ (_, [(2, 42), (0, (xs 1)), (0, (xs 2)), (0, (xs 3))], [(0, 0)], _, _, _)
              refine ev_ifne f339_32 (fun c56 => absurd c56 (by omega)) (fun c56 => ?_)
              refine ev_iconst ?_
              refine ev_ret rfl (by decide) (by decide) ?_
              show jEv _ _ _ _ _ _ _ (_, [(2, (-2)), (2, 0), (2, 42), (0, 0)], [(0, (-1)), (0, (-1))], _, _, _)
              refine ev_icmpeq f384_2190 (fun c57 => ?_) (fun c57 => absurd c57 (by omega))
              exact law_tail _

/-! offer -/
set_option maxHeartbeats 4000000 in
theorem case_35 {xs : Nat → Int} (hr : ∀ j, -2147483648 ≤ xs j ∧ xs j < 2147483648) {h : JH} (hF : Fresh h) : jEv (jOk 8) (some 6) xs c384_0 600000 7302250 (fun v _ => v = some (0, 1)) (c384_1504, [(2, -2), (2, 0), (2, 42), (0, 0)], [], h, 83, 23761) := by
  have r1 := hr 1
  have r2 := hr 2
  have r3 := hr 3
  have r4 := hr 4
  have r5 := hr 5
  refine ev_aload_n rfl ?_
  refine ev_aload_n rfl ?_
  refine ev_iload_n rfl ?_
  refine ev_iconst ?_
  refine ev_iadd (r := 1) (by decide) ?_
  refine ev_sald (j := 1) (v := (xs 1)) rfl rfl rfl ?_
  refine ev_in (d := 7) (a := 0) (b := 0) (cd' := c201_0) (m := 2) (L0 := [(2, 0), (0, (xs 1))]) (jcall_v (A := [(0, (xs 1))]) (S' := []) (r := 0) rfl (hF.1.lt (by decide)) (hF.1.sh (by decide) rfl).1 (Nat.le_of_ble_eq_true rfl)) (by decide) ml201 pp201 (Nat.le_of_ble_eq_true rfl) rfl (by decide) (by decide) ?_
  refine ev_iload_n rfl ?_
  refine ev_iflt f201_10 (fun c1 => ?_) (fun c1 => ?_)
  · refine ev_iconst ?_
    refine ev_goto f201_22 ?_
    refine ev_ret rfl (by decide) (by decide) ?_
    show jEv _ _ _ _ _ _ _ (_, [(2, (-2)), (2, 0), (2, 42), (0, 0)], [(0, (-1))], _, _, _)
    refine ev_aload_n rfl ?_
    refine ev_aload_n rfl ?_
    refine ev_iload_n rfl ?_
    refine ev_iconst ?_
    refine ev_iadd (r := 1) (by decide) ?_
    refine ev_sald (j := 1) (v := (xs 1)) rfl rfl rfl ?_
    refine ev_in (d := 7) (a := 0) (b := 0) (cd' := c340_0) (m := 3) (L0 := [(2, 42), (0, (xs 1)), (9, 0)]) (jcall_v (A := [(0, (xs 1))]) (S' := [(0, (-1))]) (r := 42) rfl (hF.1.lt (by decide)) (hF.1.sh (by decide) rfl).1 (Nat.le_of_ble_eq_true rfl)) (by decide) ml340 pp340 (Nat.le_of_ble_eq_true rfl) rfl (by decide) (by decide) ?_
    refine ev_iload_n rfl ?_
    refine ev_iconst ?_
    refine ev_bipush ?_
    refine ev_in (d := 6) (a := 0) (b := 0) (cd' := c242_0) (m := 3) (L0 := [(0, (xs 1)), (0, 0), (0, 99)]) (jcall_s (A := [(0, 99), (0, 0), (0, (xs 1))]) (S' := []) (by decide) rfl (Nat.le_of_ble_eq_true rfl)) (by decide) ml242 pp242 (Nat.le_of_ble_eq_true rfl) rfl (by decide) (by decide) ?_
    refine ev_iload_n rfl ?_
    refine ev_iload_n rfl ?_
    refine ev_icmplt f242_14 (fun c2 => ?_) (fun c2 => absurd c2 (by omega))
    refine ev_iconst ?_
    refine ev_ret rfl (by decide) (by decide) ?_
    show jEv _ _ _ _ _ _ _ (_, [(2, 42), (0, (xs 1)), (9, 0)], [(0, 0)], _, _, _)
    refine ev_ifne f340_12 (fun c3 => absurd c3 (by omega)) (fun c3 => ?_)
    refine ev_iconst ?_
    refine ev_ret rfl (by decide) (by decide) ?_
    show jEv _ _ _ _ _ _ _ (_, [(2, (-2)), (2, 0), (2, 42), (0, 0)], [(0, (-1)), (0, (-1))], _, _, _)
    refine ev_icmpeq f384_2190 (fun c4 => ?_) (fun c4 => absurd c4 (by omega))
    exact law_tail _
  · refine ev_iload_n rfl ?_
    refine ev_bipush ?_
    refine ev_icmple f201_14 (fun c5 => ?_) (fun c5 => ?_)
    · refine ev_aload_n rfl ?_
      refine ev_getf (r := 0) (v := 26) (hF.1.lt (by decide)) (hF.1.fam (by decide) (by decide)) ft11_11 ((hF.v rfl)) ?_
      refine ev_iload_n rfl ?_
      refine ev_in (d := 6) (a := 0) (b := 0) (cd' := c120_0) (m := 3) (L0 := [(2, 26), (0, (xs 1)), (9, 0)]) (jcall_v (A := [(0, (xs 1))]) (S' := []) (r := 26) rfl (hF.1.lt (by decide)) (hF.1.sh (by decide) rfl).1 (Nat.le_of_ble_eq_true rfl)) (by decide) ml120 pp120 (Nat.le_of_ble_eq_true rfl) rfl (by decide) (by decide) ?_
      refine ev_iconst ?_
      refine ev_istore_n (L' := [(2, 26), (0, (xs 1)), (0, 0)]) (Nat.le_of_ble_eq_true rfl) rfl ?_
      refine ev_iload_n rfl ?_
      refine ev_aload_n rfl ?_
      refine ev_getf (r := 26) (v := 0) (hF.1.lt (by decide)) (hF.1.fam (by decide) (by decide)) ft9_7 ((hF.v rfl)) ?_
      refine ev_icmpge f120_28 (fun c6 => ?_) (fun c6 => absurd c6 (by omega))
      refine ev_aload_n rfl ?_
      refine ev_getf (r := 26) (v := 0) (hF.1.lt (by decide)) (hF.1.fam (by decide) (by decide)) ft9_7 ((hF.v rfl)) ?_
      refine ev_iconst ?_
      refine ev_icmplt f120_39 (fun c7 => ?_) (fun c7 => absurd c7 (by omega))
      refine ev_aload_n rfl ?_
      refine ev_getf (r := 26) (v := 31) (hF.1.lt (by decide)) (hF.1.fam (by decide) (by decide)) ft9_8 ((hF.v rfl)) ?_
      refine ev_aload_n rfl ?_
      refine ev_getf (r := 26) (v := 0) (hF.1.lt (by decide)) (hF.1.fam (by decide) (by decide)) ft9_7 ((hF.v rfl)) ?_
      refine ev_iload_n rfl ?_
      refine ev_iastG (r := 31) (j := 0) (hF.1.lt (by decide)) (hF.1.sh (by decide) rfl).1 rfl (hF.1.inb (by decide) (by decide)) (fun h190 e190 => ?_)
      have hS190 := hF.1.wr e190
      refine ev_aload_n rfl ?_
      refine ev_dup (by decide) ?_
      refine ev_getf (r := 26) (v := 0) (hS190.lt (by decide)) (hS190.fam (by decide) (by decide)) ft9_7 ((jw_ne e190 (Or.inl (by decide))).trans ((hF.v rfl))) ?_
      refine ev_iconst ?_
      refine ev_iadd (r := 1) (by decide) ?_
      refine ev_putfG (r := 26) (hS190.lt (by decide)) (hS190.fam (by decide) (by decide)) ft9_7 (fun e => absurd e nz9_7) (fun e => absurd e (by decide)) (fun h191 e191 => ?_)
      have hS191 := hS190.wr e191
      refine ev_aload_n rfl ?_
      refine ev_getf (r := 26) (v := 1) (hS191.lt (by decide)) (hS191.fam (by decide) (by decide)) ft9_7 (jw_eq e191) ?_
      refine ev_ret rfl (by decide) (by decide) ?_
      show jEv _ _ _ _ _ _ _ (_, [(2, 0), (0, (xs 1))], [(0, 1)], _, _, _)
      refine ev_ret rfl (by decide) (by decide) ?_
      show jEv _ _ _ _ _ _ _ (_, [(2, (-2)), (2, 0), (2, 42), (0, 0)], [(0, 1)], _, _, _)
      refine ev_aload_n rfl ?_
      refine ev_aload_n rfl ?_
      refine ev_iload_n rfl ?_
      refine ev_iconst ?_
      refine ev_iadd (r := 1) (by decide) ?_
      refine ev_sald (j := 1) (v := (xs 1)) rfl rfl rfl ?_
      refine ev_in (d := 7) (a := 0) (b := 0) (cd' := c340_0) (m := 3) (L0 := [(2, 42), (0, (xs 1)), (9, 0)]) (jcall_v (A := [(0, (xs 1))]) (S' := [(0, 1)]) (r := 42) rfl (hS191.lt (by decide)) (hS191.sh (by decide) rfl).1 (Nat.le_of_ble_eq_true rfl)) (by decide) ml340 pp340 (Nat.le_of_ble_eq_true rfl) rfl (by decide) (by decide) ?_
      refine ev_iload_n rfl ?_
      refine ev_iconst ?_
      refine ev_bipush ?_
      refine ev_in (d := 6) (a := 0) (b := 0) (cd' := c242_0) (m := 3) (L0 := [(0, (xs 1)), (0, 0), (0, 99)]) (jcall_s (A := [(0, 99), (0, 0), (0, (xs 1))]) (S' := []) (by decide) rfl (Nat.le_of_ble_eq_true rfl)) (by decide) ml242 pp242 (Nat.le_of_ble_eq_true rfl) rfl (by decide) (by decide) ?_
      refine ev_iload_n rfl ?_
      refine ev_iload_n rfl ?_
      refine ev_icmplt f242_14 (fun c8 => absurd c8 (by omega)) (fun c8 => ?_)
      refine ev_iload_n rfl ?_
      refine ev_iload_n rfl ?_
      refine ev_icmpgt f242_14 (fun c9 => absurd c9 (by omega)) (fun c9 => ?_)
      refine ev_iconst ?_
      refine ev_goto f242_15 ?_
      refine ev_ret rfl (by decide) (by decide) ?_
      show jEv _ _ _ _ _ _ _ (_, [(2, 42), (0, (xs 1)), (9, 0)], [(0, 1)], _, _, _)
      refine ev_ifne f340_12 (fun c10 => ?_) (fun c10 => absurd c10 (by omega))
      refine ev_iconst ?_
      refine ev_istore_n (L' := [(2, 42), (0, (xs 1)), (0, 0)]) (Nat.le_of_ble_eq_true rfl) rfl ?_
      refine ev_iload_n rfl ?_
      refine ev_aload_n rfl ?_
      refine ev_getf (r := 42) (v := 0) (hS191.lt (by decide)) (hS191.fam (by decide) (by decide)) ft12_51 ((jw_ne e191 (Or.inl (by decide))).trans ((jw_ne e190 (Or.inl (by decide))).trans ((hF.v rfl)))) ?_
      refine ev_icmpge f340_40 (fun c11 => ?_) (fun c11 => absurd c11 (by omega))
      refine ev_aload_n rfl ?_
      refine ev_getf (r := 42) (v := 0) (hS191.lt (by decide)) (hS191.fam (by decide) (by decide)) ft12_51 ((jw_ne e191 (Or.inl (by decide))).trans ((jw_ne e190 (Or.inl (by decide))).trans ((hF.v rfl)))) ?_
      refine ev_iconst ?_
      refine ev_icmpne f340_51 (fun c12 => ?_) (fun c12 => absurd c12 (by omega))
      refine ev_aload_n rfl ?_
      refine ev_getf (r := 42) (v := 71) (hS191.lt (by decide)) (hS191.fam (by decide) (by decide)) ft12_52 ((jw_ne e191 (Or.inl (by decide))).trans ((jw_ne e190 (Or.inl (by decide))).trans ((hF.v rfl)))) ?_
      refine ev_aload_n rfl ?_
      refine ev_getf (r := 42) (v := 0) (hS191.lt (by decide)) (hS191.fam (by decide) (by decide)) ft12_51 ((jw_ne e191 (Or.inl (by decide))).trans ((jw_ne e190 (Or.inl (by decide))).trans ((hF.v rfl)))) ?_
      refine ev_iload_n rfl ?_
      refine ev_iastG (r := 71) (j := 0) (hS191.lt (by decide)) (hS191.sh (by decide) rfl).1 rfl (hS191.inb (by decide) (by decide)) (fun h192 e192 => ?_)
      have hS192 := hS191.wr e192
      refine ev_aload_n rfl ?_
      refine ev_dup (by decide) ?_
      refine ev_getf (r := 42) (v := 0) (hS192.lt (by decide)) (hS192.fam (by decide) (by decide)) ft12_51 ((jw_ne e192 (Or.inl (by decide))).trans ((jw_ne e191 (Or.inl (by decide))).trans ((jw_ne e190 (Or.inl (by decide))).trans ((hF.v rfl))))) ?_
      refine ev_iconst ?_
      refine ev_iadd (r := 1) (by decide) ?_
      refine ev_putfG (r := 42) (hS192.lt (by decide)) (hS192.fam (by decide) (by decide)) ft12_51 (fun e => absurd e nz12_51) (fun e => absurd e (by decide)) (fun h193 e193 => ?_)
      have hS193 := hS192.wr e193
      refine ev_aload_n rfl ?_
      refine ev_getf (r := 42) (v := 1) (hS193.lt (by decide)) (hS193.fam (by decide) (by decide)) ft12_51 (jw_eq e193) ?_
      refine ev_ret rfl (by decide) (by decide) ?_
      show jEv _ _ _ _ _ _ _ (_, [(2, (-2)), (2, 0), (2, 42), (0, 0)], [(0, 1), (0, 1)], _, _, _)
      refine ev_icmpeq f384_2190 (fun c13 => ?_) (fun c13 => absurd c13 (by omega))
      exact law_tail _
    · refine ev_iconst ?_
      refine ev_goto f201_22 ?_
      refine ev_ret rfl (by decide) (by decide) ?_
      show jEv _ _ _ _ _ _ _ (_, [(2, (-2)), (2, 0), (2, 42), (0, 0)], [(0, (-1))], _, _, _)
      refine ev_aload_n rfl ?_
      refine ev_aload_n rfl ?_
      refine ev_iload_n rfl ?_
      refine ev_iconst ?_
      refine ev_iadd (r := 1) (by decide) ?_
      refine ev_sald (j := 1) (v := (xs 1)) rfl rfl rfl ?_
      refine ev_in (d := 7) (a := 0) (b := 0) (cd' := c340_0) (m := 3) (L0 := [(2, 42), (0, (xs 1)), (9, 0)]) (jcall_v (A := [(0, (xs 1))]) (S' := [(0, (-1))]) (r := 42) rfl (hF.1.lt (by decide)) (hF.1.sh (by decide) rfl).1 (Nat.le_of_ble_eq_true rfl)) (by decide) ml340 pp340 (Nat.le_of_ble_eq_true rfl) rfl (by decide) (by decide) ?_
      refine ev_iload_n rfl ?_
      refine ev_iconst ?_
      refine ev_bipush ?_
      refine ev_in (d := 6) (a := 0) (b := 0) (cd' := c242_0) (m := 3) (L0 := [(0, (xs 1)), (0, 0), (0, 99)]) (jcall_s (A := [(0, 99), (0, 0), (0, (xs 1))]) (S' := []) (by decide) rfl (Nat.le_of_ble_eq_true rfl)) (by decide) ml242 pp242 (Nat.le_of_ble_eq_true rfl) rfl (by decide) (by decide) ?_
      refine ev_iload_n rfl ?_
      refine ev_iload_n rfl ?_
      refine ev_icmplt f242_14 (fun c14 => absurd c14 (by omega)) (fun c14 => ?_)
      refine ev_iload_n rfl ?_
      refine ev_iload_n rfl ?_
      refine ev_icmpgt f242_14 (fun c15 => ?_) (fun c15 => absurd c15 (by omega))
      refine ev_iconst ?_
      refine ev_ret rfl (by decide) (by decide) ?_
      show jEv _ _ _ _ _ _ _ (_, [(2, 42), (0, (xs 1)), (9, 0)], [(0, 0)], _, _, _)
      refine ev_ifne f340_12 (fun c16 => absurd c16 (by omega)) (fun c16 => ?_)
      refine ev_iconst ?_
      refine ev_ret rfl (by decide) (by decide) ?_
      show jEv _ _ _ _ _ _ _ (_, [(2, (-2)), (2, 0), (2, 42), (0, 0)], [(0, (-1)), (0, (-1))], _, _, _)
      refine ev_icmpeq f384_2190 (fun c17 => ?_) (fun c17 => absurd c17 (by omega))
      exact law_tail _
