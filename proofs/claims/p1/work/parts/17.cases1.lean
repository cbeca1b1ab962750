/-! feed -/
set_option maxHeartbeats 4000000 in
theorem case_6 {xs : Nat → Int} (hr : ∀ j, -2147483648 ≤ xs j ∧ xs j < 2147483648) {h : JH} (hF : Fresh h) : jEv (jOk 8) (some 6) xs c384_0 600000 7302250 (fun v _ => v = some (0, 1)) (c384_451, [(2, -2), (2, 0), (2, 42), (0, 0)], [], h, 83, 23761) := by
  have r1 := hr 1
  have r2 := hr 2
  have r3 := hr 3
  have r4 := hr 4
  have r5 := hr 5
  refine ev_aload_n rfl ?_
  refine ev_aload_n rfl ?_
  refine ev_iload_n rfl ?_
  refine ev_iconst ?_
  refine ev_iadd (r := 1) (by decide) ?_
  refine ev_sald (j := 1) (v := (xs 1)) rfl rfl rfl ?_
  refine ev_aload_n rfl ?_
  refine ev_iload_n rfl ?_
  refine ev_iconst ?_
  refine ev_iadd (r := 2) (by decide) ?_
  refine ev_sald (j := 2) (v := (xs 2)) rfl rfl rfl ?_
  refine ev_in (d := 7) (a := 0) (b := 0) (cd' := c172_0) (m := 3) (L0 := [(2, 0), (0, (xs 1)), (0, (xs 2))]) (jcall_v (A := [(0, (xs 2)), (0, (xs 1))]) (S' := []) (r := 0) rfl (hF.1.lt (by decide)) (hF.1.sh (by decide) rfl).1 (Nat.le_of_ble_eq_true rfl)) (by decide) ml172 pp172 (Nat.le_of_ble_eq_true rfl) rfl (by decide) (by decide) ?_
  refine ev_iload_n rfl ?_
  refine ev_iconst ?_
  refine ev_icmplt f172_10 (fun c1 => ?_) (fun c1 => ?_)
  · refine ev_iconst ?_
    refine ev_ret rfl (by decide) (by decide) ?_
    show jEv _ _ _ _ _ _ _ (_, [(2, (-2)), (2, 0), (2, 42), (0, 0)], [(0, (-1))], _, _, _)
    refine ev_aload_n rfl ?_
    refine ev_aload_n rfl ?_
    refine ev_iload_n rfl ?_
    refine ev_iconst ?_
    refine ev_iadd (r := 1) (by decide) ?_
    refine ev_sald (j := 1) (v := (xs 1)) rfl rfl rfl ?_
    refine ev_aload_n rfl ?_
    refine ev_iload_n rfl ?_
    refine ev_iconst ?_
    refine ev_iadd (r := 2) (by decide) ?_
    refine ev_sald (j := 2) (v := (xs 2)) rfl rfl rfl ?_
    refine ev_in (d := 7) (a := 0) (b := 0) (cd' := c263_0) (m := 4) (L0 := [(2, 42), (0, (xs 1)), (0, (xs 2)), (9, 0)]) (jcall_v (A := [(0, (xs 2)), (0, (xs 1))]) (S' := [(0, (-1))]) (r := 42) rfl (hF.1.lt (by decide)) (hF.1.sh (by decide) rfl).1 (Nat.le_of_ble_eq_true rfl)) (by decide) ml263 pp263 (Nat.le_of_ble_eq_true rfl) rfl (by decide) (by decide) ?_
    refine ev_iload_n rfl ?_
    refine ev_iconst ?_
    refine ev_iconst ?_
    refine ev_in (d := 6) (a := 0) (b := 0) (cd' := c242_0) (m := 3) (L0 := [(0, (xs 1)), (0, 1), (0, 4)]) (jcall_s (A := [(0, 4), (0, 1), (0, (xs 1))]) (S' := []) (by decide) rfl (Nat.le_of_ble_eq_true rfl)) (by decide) ml242 pp242 (Nat.le_of_ble_eq_true rfl) rfl (by decide) (by decide) ?_
    refine ev_iload_n rfl ?_
    refine ev_iload_n rfl ?_
    refine ev_icmplt f242_14 (fun c2 => ?_) (fun c2 => absurd c2 (by omega))
    refine ev_iconst ?_
    refine ev_ret rfl (by decide) (by decide) ?_
    show jEv _ _ _ _ _ _ _ (_, [(2, 42), (0, (xs 1)), (0, (xs 2)), (9, 0)], [(0, 0)], _, _, _)
    refine ev_ifne f263_11 (fun c3 => absurd c3 (by omega)) (fun c3 => ?_)
    refine ev_iconst ?_
    refine ev_ret rfl (by decide) (by decide) ?_
    show jEv _ _ _ _ _ _ _ (_, [(2, (-2)), (2, 0), (2, 42), (0, 0)], [(0, (-1)), (0, (-1))], _, _, _)
    refine ev_icmpeq f384_2190 (fun c4 => ?_) (fun c4 => absurd c4 (by omega))
    exact law_tail _
  · refine ev_iload_n rfl ?_
    refine ev_iconst ?_
    refine ev_icmple f172_12 (fun c5 => ?_) (fun c5 => ?_)
    · refine ev_aload_n rfl ?_
      refine ev_getf (r := 0) (v := 7) (hF.1.lt (by decide)) (hF.1.fam (by decide) (by decide)) ft11_1 ((hF.v rfl)) ?_
      refine ev_iload_n rfl ?_
      refine ev_in (d := 6) (a := 0) (b := 0) (cd' := c63_0) (m := 2) (L0 := [(2, 7), (0, (xs 1))]) (jcall_v (A := [(0, (xs 1))]) (S' := []) (r := 7) rfl (hF.1.lt (by decide)) (hF.1.sh (by decide) rfl).1 (Nat.le_of_ble_eq_true rfl)) (by decide) ml63 pp63 (Nat.le_of_ble_eq_true rfl) rfl (by decide) (by decide) ?_
      refine ev_iload_n rfl ?_
      refine ev_sipush ?_
      refine ev_aload_n rfl ?_
      refine ev_getf (r := 7) (v := 0) (hF.1.lt (by decide)) (hF.1.fam (by decide) (by decide)) ft5_0 ((hF.v rfl)) ?_
      refine ev_isub (r := 200) (by decide) ?_
      refine ev_icmpgt f63_16 (fun c6 => absurd c6 (by omega)) (fun c6 => ?_)
      refine ev_iconst ?_
      refine ev_goto f63_17 ?_
      refine ev_ret rfl (by decide) (by decide) ?_
      show jEv _ _ _ _ _ _ _ (_, [(2, 0), (0, (xs 1)), (0, (xs 2))], [(0, 1)], _, _, _)
      refine ev_ifeq f172_35 (fun c7 => absurd c7 (by omega)) (fun c7 => ?_)
      refine ev_aload_n rfl ?_
      refine ev_getf (r := 0) (v := 7) (hF.1.lt (by decide)) (hF.1.fam (by decide) (by decide)) ft11_1 ((hF.v rfl)) ?_
      refine ev_iload_n rfl ?_
      refine ev_iload_n rfl ?_
      refine ev_in (d := 6) (a := 0) (b := 0) (cd' := c64_0) (m := 4) (L0 := [(2, 7), (0, (xs 1)), (0, (xs 2)), (9, 0)]) (jcall_v (A := [(0, (xs 2)), (0, (xs 1))]) (S' := []) (r := 7) rfl (hF.1.lt (by decide)) (hF.1.sh (by decide) rfl).1 (Nat.le_of_ble_eq_true rfl)) (by decide) ml64 pp64 (Nat.le_of_ble_eq_true rfl) rfl (by decide) (by decide) ?_
      refine ev_iconst ?_
      refine ev_istore_n (L' := [(2, 7), (0, (xs 1)), (0, (xs 2)), (0, 0)]) (Nat.le_of_ble_eq_true rfl) rfl ?_
      refine ev_iload_n rfl ?_
      refine ev_iload_n rfl ?_
      refine ev_icmpge f64_49 (fun c8 => absurd c8 (by omega)) (fun c8 => ?_)
      refine ev_aload_n rfl ?_
      refine ev_getf (r := 7) (v := 0) (hF.1.lt (by decide)) (hF.1.fam (by decide) (by decide)) ft5_0 ((hF.v rfl)) ?_
      refine ev_sipush ?_
      refine ev_icmpge f64_49 (fun c9 => absurd c9 (by omega)) (fun c9 => ?_)
      refine ev_aload_n rfl ?_
      refine ev_getf (r := 7) (v := 8) (hF.1.lt (by decide)) (hF.1.fam (by decide) (by decide)) ft5_5 ((hF.v rfl)) ?_
      refine ev_aload_n rfl ?_
      refine ev_getf (r := 7) (v := 0) (hF.1.lt (by decide)) (hF.1.fam (by decide) (by decide)) ft5_0 ((hF.v rfl)) ?_
      refine ev_iload_n rfl ?_
      refine ev_bipush ?_
      refine ev_iload_n rfl ?_
      refine ev_imul (r := 0) (by decide) ?_
      refine ev_ishr (r := (xs 2)) (jshr_0 (by omega) (by omega)) ?_
      refine ev_i2b (r := (w8 (xs 2))) rfl ?_
      refine ev_bastG (r := 8) (j := 0) (hF.1.lt (by decide)) (hF.1.sh (by decide) rfl).1 rfl (hF.1.inb (by decide) (by decide)) rfl (fun h46 e46 => ?_)
      have hS46 := hF.1.wr e46
      refine ev_aload_n rfl ?_
      refine ev_dup (by decide) ?_
      refine ev_getf (r := 7) (v := 0) (hS46.lt (by decide)) (hS46.fam (by decide) (by decide)) ft5_0 ((jw_ne e46 (Or.inl (by decide))).trans ((hF.v rfl))) ?_
      refine ev_iconst ?_
      refine ev_iadd (r := 1) (by decide) ?_
      refine ev_putfG (r := 7) (hS46.lt (by decide)) (hS46.fam (by decide) (by decide)) ft5_0 (fun e => absurd e nz5_0) (fun e => absurd e (by decide)) (fun h47 e47 => ?_)
      have hS47 := hS46.wr e47
      refine ev_iinc (w := 1) (L' := [(2, 7), (0, (xs 1)), (0, (xs 2)), (0, 1)]) rfl (by decide) rfl ?_
      refine ev_goto f64_2 ?_
      refine ev_iload_n rfl ?_
      refine ev_iload_n rfl ?_
      refine ev_icmpge f64_49 (fun c10 => ?_) (fun c10 => ?_)
      · refine ev_aload_n rfl ?_
        refine ev_getf (r := 7) (v := 1) (hS47.lt (by decide)) (hS47.fam (by decide) (by decide)) ft5_0 (jw_eq e47) ?_
        refine ev_ret rfl (by decide) (by decide) ?_
        show jEv _ _ _ _ _ _ _ (_, [(2, 0), (0, (xs 1)), (0, (xs 2))], [(0, 1)], _, _, _)
        refine ev_goto f172_37 ?_
        refine ev_ret rfl (by decide) (by decide) ?_
        show jEv _ _ _ _ _ _ _ (_, [(2, (-2)), (2, 0), (2, 42), (0, 0)], [(0, 1)], _, _, _)
        refine ev_aload_n rfl ?_
        refine ev_aload_n rfl ?_
        refine ev_iload_n rfl ?_
        refine ev_iconst ?_
        refine ev_iadd (r := 1) (by decide) ?_
        refine ev_sald (j := 1) (v := (xs 1)) rfl rfl rfl ?_
        refine ev_aload_n rfl ?_
        refine ev_iload_n rfl ?_
        refine ev_iconst ?_
        refine ev_iadd (r := 2) (by decide) ?_
        refine ev_sald (j := 2) (v := (xs 2)) rfl rfl rfl ?_
        refine ev_in (d := 7) (a := 0) (b := 0) (cd' := c263_0) (m := 4) (L0 := [(2, 42), (0, (xs 1)), (0, (xs 2)), (9, 0)]) (jcall_v (A := [(0, (xs 2)), (0, (xs 1))]) (S' := [(0, 1)]) (r := 42) rfl (hS47.lt (by decide)) (hS47.sh (by decide) rfl).1 (Nat.le_of_ble_eq_true rfl)) (by decide) ml263 pp263 (Nat.le_of_ble_eq_true rfl) rfl (by decide) (by decide) ?_
        refine ev_iload_n rfl ?_
        refine ev_iconst ?_
        refine ev_iconst ?_
        refine ev_in (d := 6) (a := 0) (b := 0) (cd' := c242_0) (m := 3) (L0 := [(0, (xs 1)), (0, 1), (0, 4)]) (jcall_s (A := [(0, 4), (0, 1), (0, (xs 1))]) (S' := []) (by decide) rfl (Nat.le_of_ble_eq_true rfl)) (by decide) ml242 pp242 (Nat.le_of_ble_eq_true rfl) rfl (by decide) (by decide) ?_
        refine ev_iload_n rfl ?_
        refine ev_iload_n rfl ?_
        refine ev_icmplt f242_14 (fun c11 => absurd c11 (by omega)) (fun c11 => ?_)
        refine ev_iload_n rfl ?_
        refine ev_iload_n rfl ?_
        refine ev_icmpgt f242_14 (fun c12 => absurd c12 (by omega)) (fun c12 => ?_)
        refine ev_iconst ?_
        refine ev_goto f242_15 ?_
        refine ev_ret rfl (by decide) (by decide) ?_
        show jEv _ _ _ _ _ _ _ (_, [(2, 42), (0, (xs 1)), (0, (xs 2)), (9, 0)], [(0, 1)], _, _, _)
        refine ev_ifne f263_11 (fun c13 => ?_) (fun c13 => absurd c13 (by omega))
        refine ev_aload_n rfl ?_
        refine ev_getf (r := 42) (v := 0) (hS47.lt (by decide)) (hS47.fam (by decide) (by decide)) ft12_17 ((jw_ne e47 (Or.inl (by decide))).trans ((jw_ne e46 (Or.inl (by decide))).trans ((hF.v rfl)))) ?_
        refine ev_iload_n rfl ?_
        refine ev_iadd (r := (xs 1)) (by unfold w32; omega) ?_
        refine ev_sipush ?_
        refine ev_icmple f263_26 (fun c14 => ?_) (fun c14 => absurd c14 (by omega))
        refine ev_iconst ?_
        refine ev_istore_n (L' := [(2, 42), (0, (xs 1)), (0, (xs 2)), (0, 0)]) (Nat.le_of_ble_eq_true rfl) rfl ?_
        refine ev_iload_n rfl ?_
        refine ev_iload_n rfl ?_
        refine ev_icmpge f263_65 (fun c15 => absurd c15 (by omega)) (fun c15 => ?_)
        refine ev_aload_n rfl ?_
        refine ev_getf (r := 42) (v := 54) (hS47.lt (by decide)) (hS47.fam (by decide) (by decide)) ft12_16 ((jw_ne e47 (Or.inl (by decide))).trans ((jw_ne e46 (Or.inl (by decide))).trans ((hF.v rfl)))) ?_
        refine ev_aload_n rfl ?_
        refine ev_getf (r := 42) (v := 0) (hS47.lt (by decide)) (hS47.fam (by decide) (by decide)) ft12_17 ((jw_ne e47 (Or.inl (by decide))).trans ((jw_ne e46 (Or.inl (by decide))).trans ((hF.v rfl)))) ?_
        refine ev_iload_n rfl ?_
        refine ev_bipush ?_
        refine ev_iload_n rfl ?_
        refine ev_imul (r := 0) (by decide) ?_
        refine ev_ishr (r := (xs 2)) (jshr_0 (by omega) (by omega)) ?_
        refine ev_i2b (r := (w8 (xs 2))) rfl ?_
        refine ev_bastG (r := 54) (j := 0) (hS47.lt (by decide)) (hS47.sh (by decide) rfl).1 rfl (hS47.inb (by decide) (by decide)) rfl (fun h48 e48 => ?_)
        have hS48 := hS47.wr e48
        refine ev_aload_n rfl ?_
        refine ev_dup (by decide) ?_
        refine ev_getf (r := 42) (v := 0) (hS48.lt (by decide)) (hS48.fam (by decide) (by decide)) ft12_17 ((jw_ne e48 (Or.inl (by decide))).trans ((jw_ne e47 (Or.inl (by decide))).trans ((jw_ne e46 (Or.inl (by decide))).trans ((hF.v rfl))))) ?_
        refine ev_iconst ?_
        refine ev_iadd (r := 1) (by decide) ?_
        refine ev_putfG (r := 42) (hS48.lt (by decide)) (hS48.fam (by decide) (by decide)) ft12_17 (fun e => absurd e nz12_17) (fun e => absurd e (by decide)) (fun h49 e49 => ?_)
        have hS49 := hS48.wr e49
        refine ev_iinc (w := 1) (L' := [(2, 42), (0, (xs 1)), (0, (xs 2)), (0, 1)]) rfl (by decide) rfl ?_
        refine ev_goto f263_28 ?_
        refine ev_iload_n rfl ?_
        refine ev_iload_n rfl ?_
        refine ev_icmpge f263_65 (fun c16 => ?_) (fun c16 => absurd c16 (by omega))
        refine ev_aload_n rfl ?_
        refine ev_getf (r := 42) (v := 1) (hS49.lt (by decide)) (hS49.fam (by decide) (by decide)) ft12_17 (jw_eq e49) ?_
        refine ev_ret rfl (by decide) (by decide) ?_
        show jEv _ _ _ _ _ _ _ (_, [(2, (-2)), (2, 0), (2, 42), (0, 0)], [(0, 1), (0, 1)], _, _, _)
        refine ev_icmpeq f384_2190 (fun c17 => ?_) (fun c17 => absurd c17 (by omega))
        exact law_tail _
      · refine ev_aload_n rfl ?_
        refine ev_getf (r := 7) (v := 1) (hS47.lt (by decide)) (hS47.fam (by decide) (by decide)) ft5_0 (jw_eq e47) ?_
        refine ev_sipush ?_
        refine ev_icmpge f64_49 (fun c18 => absurd c18 (by omega)) (fun c18 => ?_)
        refine ev_aload_n rfl ?_
        refine ev_getf (r := 7) (v := 8) (hS47.lt (by decide)) (hS47.fam (by decide) (by decide)) ft5_5 ((jw_ne e47 (Or.inr (by decide))).trans ((jw_ne e46 (Or.inl (by decide))).trans ((hF.v rfl)))) ?_
        refine ev_aload_n rfl ?_
        refine ev_getf (r := 7) (v := 1) (hS47.lt (by decide)) (hS47.fam (by decide) (by decide)) ft5_0 (jw_eq e47) ?_
        refine ev_iload_n rfl ?_
        refine ev_bipush ?_
        refine ev_iload_n rfl ?_
        refine ev_imul (r := 8) (by decide) ?_
        refine ev_ishr (r := (jshr (xs 2) 8)) rfl ?_
        refine ev_i2b (r := (w8 (jshr (xs 2) 8))) rfl ?_
        refine ev_bastG (r := 8) (j := 1) (hS47.lt (by decide)) (hS47.sh (by decide) rfl).1 rfl (hS47.inb (by decide) (by decide)) rfl (fun h50 e50 => ?_)
        have hS50 := hS47.wr e50
        refine ev_aload_n rfl ?_
        refine ev_dup (by decide) ?_
        refine ev_getf (r := 7) (v := 1) (hS50.lt (by decide)) (hS50.fam (by decide) (by decide)) ft5_0 ((jw_ne e50 (Or.inl (by decide))).trans (jw_eq e47)) ?_
        refine ev_iconst ?_
        refine ev_iadd (r := 2) (by decide) ?_
        refine ev_putfG (r := 7) (hS50.lt (by decide)) (hS50.fam (by decide) (by decide)) ft5_0 (fun e => absurd e nz5_0) (fun e => absurd e (by decide)) (fun h51 e51 => ?_)
        have hS51 := hS50.wr e51
        refine ev_iinc (w := 2) (L' := [(2, 7), (0, (xs 1)), (0, (xs 2)), (0, 2)]) rfl (by decide) rfl ?_
        refine ev_goto f64_2 ?_
        refine ev_iload_n rfl ?_
        refine ev_iload_n rfl ?_
        refine ev_icmpge f64_49 (fun c19 => ?_) (fun c19 => ?_)
        · refine ev_aload_n rfl ?_
          refine ev_getf (r := 7) (v := 2) (hS51.lt (by decide)) (hS51.fam (by decide) (by decide)) ft5_0 (jw_eq e51) ?_
          refine ev_ret rfl (by decide) (by decide) ?_
          show jEv _ _ _ _ _ _ _ (_, [(2, 0), (0, (xs 1)), (0, (xs 2))], [(0, 2)], _, _, _)
          refine ev_goto f172_37 ?_
          refine ev_ret rfl (by decide) (by decide) ?_
          show jEv _ _ _ _ _ _ _ (_, [(2, (-2)), (2, 0), (2, 42), (0, 0)], [(0, 2)], _, _, _)
          refine ev_aload_n rfl ?_
          refine ev_aload_n rfl ?_
          refine ev_iload_n rfl ?_
          refine ev_iconst ?_
          refine ev_iadd (r := 1) (by decide) ?_
          refine ev_sald (j := 1) (v := (xs 1)) rfl rfl rfl ?_
          refine ev_aload_n rfl ?_
          refine ev_iload_n rfl ?_
          refine ev_iconst ?_
          refine ev_iadd (r := 2) (by decide) ?_
          refine ev_sald (j := 2) (v := (xs 2)) rfl rfl rfl ?_
          refine ev_in (d := 7) (a := 0) (b := 0) (cd' := c263_0) (m := 4) (L0 := [(2, 42), (0, (xs 1)), (0, (xs 2)), (9, 0)]) (jcall_v (A := [(0, (xs 2)), (0, (xs 1))]) (S' := [(0, 2)]) (r := 42) rfl (hS51.lt (by decide)) (hS51.sh (by decide) rfl).1 (Nat.le_of_ble_eq_true rfl)) (by decide) ml263 pp263 (Nat.le_of_ble_eq_true rfl) rfl (by decide) (by decide) ?_
          refine ev_iload_n rfl ?_
          refine ev_iconst ?_
          refine ev_iconst ?_
          refine ev_in (d := 6) (a := 0) (b := 0) (cd' := c242_0) (m := 3) (L0 := [(0, (xs 1)), (0, 1), (0, 4)]) (jcall_s (A := [(0, 4), (0, 1), (0, (xs 1))]) (S' := []) (by decide) rfl (Nat.le_of_ble_eq_true rfl)) (by decide) ml242 pp242 (Nat.le_of_ble_eq_true rfl) rfl (by decide) (by decide) ?_
          refine ev_iload_n rfl ?_
          refine ev_iload_n rfl ?_
          refine ev_icmplt f242_14 (fun c20 => absurd c20 (by omega)) (fun c20 => ?_)
          refine ev_iload_n rfl ?_
          refine ev_iload_n rfl ?_
          refine ev_icmpgt f242_14 (fun c21 => absurd c21 (by omega)) (fun c21 => ?_)
          refine ev_iconst ?_
          refine ev_goto f242_15 ?_
          refine ev_ret rfl (by decide) (by decide) ?_
          show jEv _ _ _ _ _ _ _ (_, [(2, 42), (0, (xs 1)), (0, (xs 2)), (9, 0)], [(0, 1)], _, _, _)
          refine ev_ifne f263_11 (fun c22 => ?_) (fun c22 => absurd c22 (by omega))
          refine ev_aload_n rfl ?_
          refine ev_getf (r := 42) (v := 0) (hS51.lt (by decide)) (hS51.fam (by decide) (by decide)) ft12_17 ((jw_ne e51 (Or.inl (by decide))).trans ((jw_ne e50 (Or.inl (by decide))).trans ((jw_ne e47 (Or.inl (by decide))).trans ((jw_ne e46 (Or.inl (by decide))).trans ((hF.v rfl)))))) ?_
          refine ev_iload_n rfl ?_
          refine ev_iadd (r := (xs 1)) (by unfold w32; omega) ?_
          refine ev_sipush ?_
          refine ev_icmple f263_26 (fun c23 => ?_) (fun c23 => absurd c23 (by omega))
          refine ev_iconst ?_
          refine ev_istore_n (L' := [(2, 42), (0, (xs 1)), (0, (xs 2)), (0, 0)]) (Nat.le_of_ble_eq_true rfl) rfl ?_
          refine ev_iload_n rfl ?_
          refine ev_iload_n rfl ?_
          refine ev_icmpge f263_65 (fun c24 => absurd c24 (by omega)) (fun c24 => ?_)
          refine ev_aload_n rfl ?_
          refine ev_getf (r := 42) (v := 54) (hS51.lt (by decide)) (hS51.fam (by decide) (by decide)) ft12_16 ((jw_ne e51 (Or.inl (by decide))).trans ((jw_ne e50 (Or.inl (by decide))).trans ((jw_ne e47 (Or.inl (by decide))).trans ((jw_ne e46 (Or.inl (by decide))).trans ((hF.v rfl)))))) ?_
          refine ev_aload_n rfl ?_
          refine ev_getf (r := 42) (v := 0) (hS51.lt (by decide)) (hS51.fam (by decide) (by decide)) ft12_17 ((jw_ne e51 (Or.inl (by decide))).trans ((jw_ne e50 (Or.inl (by decide))).trans ((jw_ne e47 (Or.inl (by decide))).trans ((jw_ne e46 (Or.inl (by decide))).trans ((hF.v rfl)))))) ?_
          refine ev_iload_n rfl ?_
          refine ev_bipush ?_
          refine ev_iload_n rfl ?_
          refine ev_imul (r := 0) (by decide) ?_
          refine ev_ishr (r := (xs 2)) (jshr_0 (by omega) (by omega)) ?_
          refine ev_i2b (r := (w8 (xs 2))) rfl ?_
          refine ev_bastG (r := 54) (j := 0) (hS51.lt (by decide)) (hS51.sh (by decide) rfl).1 rfl (hS51.inb (by decide) (by decide)) rfl (fun h52 e52 => ?_)
          have hS52 := hS51.wr e52
          refine ev_aload_n rfl ?_
          refine ev_dup (by decide) ?_
          refine ev_getf (r := 42) (v := 0) (hS52.lt (by decide)) (hS52.fam (by decide) (by decide)) ft12_17 ((jw_ne e52 (Or.inl (by decide))).trans ((jw_ne e51 (Or.inl (by decide))).trans ((jw_ne e50 (Or.inl (by decide))).trans ((jw_ne e47 (Or.inl (by decide))).trans ((jw_ne e46 (Or.inl (by decide))).trans ((hF.v rfl))))))) ?_
          refine ev_iconst ?_
          refine ev_iadd (r := 1) (by decide) ?_
          refine ev_putfG (r := 42) (hS52.lt (by decide)) (hS52.fam (by decide) (by decide)) ft12_17 (fun e => absurd e nz12_17) (fun e => absurd e (by decide)) (fun h53 e53 => ?_)
          have hS53 := hS52.wr e53
          refine ev_iinc (w := 1) (L' := [(2, 42), (0, (xs 1)), (0, (xs 2)), (0, 1)]) rfl (by decide) rfl ?_
          refine ev_goto f263_28 ?_
          refine ev_iload_n rfl ?_
          refine ev_iload_n rfl ?_
          refine ev_icmpge f263_65 (fun c25 => absurd c25 (by omega)) (fun c25 => ?_)
          refine ev_aload_n rfl ?_
          refine ev_getf (r := 42) (v := 54) (hS53.lt (by decide)) (hS53.fam (by decide) (by decide)) ft12_16 ((jw_ne e53 (Or.inr (by decide))).trans ((jw_ne e52 (Or.inl (by decide))).trans ((jw_ne e51 (Or.inl (by decide))).trans ((jw_ne e50 (Or.inl (by decide))).trans ((jw_ne e47 (Or.inl (by decide))).trans ((jw_ne e46 (Or.inl (by decide))).trans ((hF.v rfl)))))))) ?_
          refine ev_aload_n rfl ?_
          refine ev_getf (r := 42) (v := 1) (hS53.lt (by decide)) (hS53.fam (by decide) (by decide)) ft12_17 (jw_eq e53) ?_
          refine ev_iload_n rfl ?_
          refine ev_bipush ?_
          refine ev_iload_n rfl ?_
          refine ev_imul (r := 8) (by decide) ?_
          refine ev_ishr (r := (jshr (xs 2) 8)) rfl ?_
          refine ev_i2b (r := (w8 (jshr (xs 2) 8))) rfl ?_
          refine ev_bastG (r := 54) (j := 1) (hS53.lt (by decide)) (hS53.sh (by decide) rfl).1 rfl (hS53.inb (by decide) (by decide)) rfl (fun h54 e54 => ?_)
          have hS54 := hS53.wr e54
          refine ev_aload_n rfl ?_
          refine ev_dup (by decide) ?_
          refine ev_getf (r := 42) (v := 1) (hS54.lt (by decide)) (hS54.fam (by decide) (by decide)) ft12_17 ((jw_ne e54 (Or.inl (by decide))).trans (jw_eq e53)) ?_
          refine ev_iconst ?_
          refine ev_iadd (r := 2) (by decide) ?_
          refine ev_putfG (r := 42) (hS54.lt (by decide)) (hS54.fam (by decide) (by decide)) ft12_17 (fun e => absurd e nz12_17) (fun e => absurd e (by decide)) (fun h55 e55 => ?_)
          have hS55 := hS54.wr e55
          refine ev_iinc (w := 2) (L' := [(2, 42), (0, (xs 1)), (0, (xs 2)), (0, 2)]) rfl (by decide) rfl ?_
          refine ev_goto f263_28 ?_
          refine ev_iload_n rfl ?_
          refine ev_iload_n rfl ?_
          refine ev_icmpge f263_65 (fun c26 => ?_) (fun c26 => absurd c26 (by omega))
          refine ev_aload_n rfl ?_
          refine ev_getf (r := 42) (v := 2) (hS55.lt (by decide)) (hS55.fam (by decide) (by decide)) ft12_17 (jw_eq e55) ?_
          refine ev_ret rfl (by decide) (by decide) ?_
          show jEv _ _ _ _ _ _ _ (_, [(2, (-2)), (2, 0), (2, 42), (0, 0)], [(0, 2), (0, 2)], _, _, _)
          refine ev_icmpeq f384_2190 (fun c27 => ?_) (fun c27 => absurd c27 (by omega))
          exact law_tail _
        · refine ev_aload_n rfl ?_
          refine ev_getf (r := 7) (v := 2) (hS51.lt (by decide)) (hS51.fam (by decide) (by decide)) ft5_0 (jw_eq e51) ?_
          refine ev_sipush ?_
          refine ev_icmpge f64_49 (fun c28 => absurd c28 (by omega)) (fun c28 => ?_)
          refine ev_aload_n rfl ?_
          refine ev_getf (r := 7) (v := 8) (hS51.lt (by decide)) (hS51.fam (by decide) (by decide)) ft5_5 ((jw_ne e51 (Or.inr (by decide))).trans ((jw_ne e50 (Or.inl (by decide))).trans ((jw_ne e47 (Or.inr (by decide))).trans ((jw_ne e46 (Or.inl (by decide))).trans ((hF.v rfl)))))) ?_
          refine ev_aload_n rfl ?_
          refine ev_getf (r := 7) (v := 2) (hS51.lt (by decide)) (hS51.fam (by decide) (by decide)) ft5_0 (jw_eq e51) ?_
          refine ev_iload_n rfl ?_
          refine ev_bipush ?_
          refine ev_iload_n rfl ?_
          refine ev_imul (r := 16) (by decide) ?_
          refine ev_ishr (r := (jshr (xs 2) 16)) rfl ?_
          refine ev_i2b (r := (w8 (jshr (xs 2) 16))) rfl ?_
          refine ev_bastG (r := 8) (j := 2) (hS51.lt (by decide)) (hS51.sh (by decide) rfl).1 rfl (hS51.inb (by decide) (by decide)) rfl (fun h56 e56 => ?_)
          have hS56 := hS51.wr e56
          refine ev_aload_n rfl ?_
          refine ev_dup (by decide) ?_
          refine ev_getf (r := 7) (v := 2) (hS56.lt (by decide)) (hS56.fam (by decide) (by decide)) ft5_0 ((jw_ne e56 (Or.inl (by decide))).trans (jw_eq e51)) ?_
          refine ev_iconst ?_
          refine ev_iadd (r := 3) (by decide) ?_
          refine ev_putfG (r := 7) (hS56.lt (by decide)) (hS56.fam (by decide) (by decide)) ft5_0 (fun e => absurd e nz5_0) (fun e => absurd e (by decide)) (fun h57 e57 => ?_)
          have hS57 := hS56.wr e57
          refine ev_iinc (w := 3) (L' := [(2, 7), (0, (xs 1)), (0, (xs 2)), (0, 3)]) rfl (by decide) rfl ?_
          refine ev_goto f64_2 ?_
          refine ev_iload_n rfl ?_
          refine ev_iload_n rfl ?_
          refine ev_icmpge f64_49 (fun c29 => ?_) (fun c29 => ?_)
          · refine ev_aload_n rfl ?_
            refine ev_getf (r := 7) (v := 3) (hS57.lt (by decide)) (hS57.fam (by decide) (by decide)) ft5_0 (jw_eq e57) ?_
            refine ev_ret rfl (by decide) (by decide) ?_
            show jEv _ _ _ _ _ _ _ (_, [(2, 0), (0, (xs 1)), (0, (xs 2))], [(0, 3)], _, _, _)
            refine ev_goto f172_37 ?_
            refine ev_ret rfl (by decide) (by decide) ?_
            show jEv _ _ _ _ _ _ _ (_, [(2, (-2)), (2, 0), (2, 42), (0, 0)], [(0, 3)], _, _, _)
            refine ev_aload_n rfl ?_
            refine ev_aload_n rfl ?_
            refine ev_iload_n rfl ?_
            refine ev_iconst ?_
            refine ev_iadd (r := 1) (by decide) ?_
            refine ev_sald (j := 1) (v := (xs 1)) rfl rfl rfl ?_
            refine ev_aload_n rfl ?_
            refine ev_iload_n rfl ?_
            refine ev_iconst ?_
            refine ev_iadd (r := 2) (by decide) ?_
            refine ev_sald (j := 2) (v := (xs 2)) rfl rfl rfl ?_
            refine ev_in (d := 7) (a := 0) (b := 0) (cd' := c263_0) (m := 4) (L0 := [(2, 42), (0, (xs 1)), (0, (xs 2)), (9, 0)]) (jcall_v (A := [(0, (xs 2)), (0, (xs 1))]) (S' := [(0, 3)]) (r := 42) rfl (hS57.lt (by decide)) (hS57.sh (by decide) rfl).1 (Nat.le_of_ble_eq_true rfl)) (by decide) ml263 pp263 (Nat.le_of_ble_eq_true rfl) rfl (by decide) (by decide) ?_
            refine ev_iload_n rfl ?_
            refine ev_iconst ?_
            refine ev_iconst ?_
            refine ev_in (d := 6) (a := 0) (b := 0) (cd' := c242_0) (m := 3) (L0 := [(0, (xs 1)), (0, 1), (0, 4)]) (jcall_s (A := [(0, 4), (0, 1), (0, (xs 1))]) (S' := []) (by decide) rfl (Nat.le_of_ble_eq_true rfl)) (by decide) ml242 pp242 (Nat.le_of_ble_eq_true rfl) rfl (by decide) (by decide) ?_
            refine ev_iload_n rfl ?_
            refine ev_iload_n rfl ?_
            refine ev_icmplt f242_14 (fun c30 => absurd c30 (by omega)) (fun c30 => ?_)
            refine ev_iload_n rfl ?_
            refine ev_iload_n rfl ?_
            refine ev_icmpgt f242_14 (fun c31 => absurd c31 (by omega)) (fun c31 => ?_)
            refine ev_iconst ?_
            refine ev_goto f242_15 ?_
            refine ev_ret rfl (by decide) (by decide) ?_
            show jEv _ _ _ _ _ _ _ (_, [(2, 42), (0, (xs 1)), (0, (xs 2)), (9, 0)], [(0, 1)], _, _, _)
            refine ev_ifne f263_11 (fun c32 => ?_) (fun c32 => absurd c32 (by omega))
            refine ev_aload_n rfl ?_
            refine ev_getf (r := 42) (v := 0) (hS57.lt (by decide)) (hS57.fam (by decide) (by decide)) ft12_17 ((jw_ne e57 (Or.inl (by decide))).trans ((jw_ne e56 (Or.inl (by decide))).trans ((jw_ne e51 (Or.inl (by decide))).trans ((jw_ne e50 (Or.inl (by decide))).trans ((jw_ne e47 (Or.inl (by decide))).trans ((jw_ne e46 (Or.inl (by decide))).trans ((hF.v rfl)))))))) ?_
            refine ev_iload_n rfl ?_
            refine ev_iadd (r := (xs 1)) (by unfold w32; omega) ?_
            refine ev_sipush ?_
            refine ev_icmple f263_26 (fun c33 => ?_) (fun c33 => absurd c33 (by omega))
            refine ev_iconst ?_
            refine ev_istore_n (L' := [(2, 42), (0, (xs 1)), (0, (xs 2)), (0, 0)]) (Nat.le_of_ble_eq_true rfl) rfl ?_
            refine ev_iload_n rfl ?_
            refine ev_iload_n rfl ?_
            refine ev_icmpge f263_65 (fun c34 => absurd c34 (by omega)) (fun c34 => ?_)
            refine ev_aload_n rfl ?_
            refine ev_getf (r := 42) (v := 54) (hS57.lt (by decide)) (hS57.fam (by decide) (by decide)) ft12_16 ((jw_ne e57 (Or.inl (by decide))).trans ((jw_ne e56 (Or.inl (by decide))).trans ((jw_ne e51 (Or.inl (by decide))).trans ((jw_ne e50 (Or.inl (by decide))).trans ((jw_ne e47 (Or.inl (by decide))).trans ((jw_ne e46 (Or.inl (by decide))).trans ((hF.v rfl)))))))) ?_
            refine ev_aload_n rfl ?_
            refine ev_getf (r := 42) (v := 0) (hS57.lt (by decide)) (hS57.fam (by decide) (by decide)) ft12_17 ((jw_ne e57 (Or.inl (by decide))).trans ((jw_ne e56 (Or.inl (by decide))).trans ((jw_ne e51 (Or.inl (by decide))).trans ((jw_ne e50 (Or.inl (by decide))).trans ((jw_ne e47 (Or.inl (by decide))).trans ((jw_ne e46 (Or.inl (by decide))).trans ((hF.v rfl)))))))) ?_
            refine ev_iload_n rfl ?_
            refine ev_bipush ?_
            refine ev_iload_n rfl ?_
            refine ev_imul (r := 0) (by decide) ?_
            refine ev_ishr (r := (xs 2)) (jshr_0 (by omega) (by omega)) ?_
            refine ev_i2b (r := (w8 (xs 2))) rfl ?_
            refine ev_bastG (r := 54) (j := 0) (hS57.lt (by decide)) (hS57.sh (by decide) rfl).1 rfl (hS57.inb (by decide) (by decide)) rfl (fun h58 e58 => ?_)
            have hS58 := hS57.wr e58
            refine ev_aload_n rfl ?_
            refine ev_dup (by decide) ?_
            refine ev_getf (r := 42) (v := 0) (hS58.lt (by decide)) (hS58.fam (by decide) (by decide)) ft12_17 ((jw_ne e58 (Or.inl (by decide))).trans ((jw_ne e57 (Or.inl (by decide))).trans ((jw_ne e56 (Or.inl (by decide))).trans ((jw_ne e51 (Or.inl (by decide))).trans ((jw_ne e50 (Or.inl (by decide))).trans ((jw_ne e47 (Or.inl (by decide))).trans ((jw_ne e46 (Or.inl (by decide))).trans ((hF.v rfl))))))))) ?_
            refine ev_iconst ?_
            refine ev_iadd (r := 1) (by decide) ?_
            refine ev_putfG (r := 42) (hS58.lt (by decide)) (hS58.fam (by decide) (by decide)) ft12_17 (fun e => absurd e nz12_17) (fun e => absurd e (by decide)) (fun h59 e59 => ?_)
            have hS59 := hS58.wr e59
            refine ev_iinc (w := 1) (L' := [(2, 42), (0, (xs 1)), (0, (xs 2)), (0, 1)]) rfl (by decide) rfl ?_
            refine ev_goto f263_28 ?_
            refine ev_iload_n rfl ?_
            refine ev_iload_n rfl ?_
            refine ev_icmpge f263_65 (fun c35 => absurd c35 (by omega)) (fun c35 => ?_)
            refine ev_aload_n rfl ?_
            refine ev_getf (r := 42) (v := 54) (hS59.lt (by decide)) (hS59.fam (by decide) (by decide)) ft12_16 ((jw_ne e59 (Or.inr (by decide))).trans ((jw_ne e58 (Or.inl (by decide))).trans ((jw_ne e57 (Or.inl (by decide))).trans ((jw_ne e56 (Or.inl (by decide))).trans ((jw_ne e51 (Or.inl (by decide))).trans ((jw_ne e50 (Or.inl (by decide))).trans ((jw_ne e47 (Or.inl (by decide))).trans ((jw_ne e46 (Or.inl (by decide))).trans ((hF.v rfl)))))))))) ?_
            refine ev_aload_n rfl ?_
            refine ev_getf (r := 42) (v := 1) (hS59.lt (by decide)) (hS59.fam (by decide) (by decide)) ft12_17 (jw_eq e59) ?_
            refine ev_iload_n rfl ?_
            refine ev_bipush ?_
            refine ev_iload_n rfl ?_
            refine ev_imul (r := 8) (by decide) ?_
            refine ev_ishr (r := (jshr (xs 2) 8)) rfl ?_
            refine ev_i2b (r := (w8 (jshr (xs 2) 8))) rfl ?_
            refine ev_bastG (r := 54) (j := 1) (hS59.lt (by decide)) (hS59.sh (by decide) rfl).1 rfl (hS59.inb (by decide) (by decide)) rfl (fun h60 e60 => ?_)
            have hS60 := hS59.wr e60
            refine ev_aload_n rfl ?_
            refine ev_dup (by decide) ?_
            refine ev_getf (r := 42) (v := 1) (hS60.lt (by decide)) (hS60.fam (by decide) (by decide)) ft12_17 ((jw_ne e60 (Or.inl (by decide))).trans (jw_eq e59)) ?_
            refine ev_iconst ?_
            refine ev_iadd (r := 2) (by decide) ?_
            refine ev_putfG (r := 42) (hS60.lt (by decide)) (hS60.fam (by decide) (by decide)) ft12_17 (fun e => absurd e nz12_17) (fun e => absurd e (by decide)) (fun h61 e61 => ?_)
            have hS61 := hS60.wr e61
            refine ev_iinc (w := 2) (L' := [(2, 42), (0, (xs 1)), (0, (xs 2)), (0, 2)]) rfl (by decide) rfl ?_
            refine ev_goto f263_28 ?_
            refine ev_iload_n rfl ?_
            refine ev_iload_n rfl ?_
            refine ev_icmpge f263_65 (fun c36 => absurd c36 (by omega)) (fun c36 => ?_)
            refine ev_aload_n rfl ?_
            refine ev_getf (r := 42) (v := 54) (hS61.lt (by decide)) (hS61.fam (by decide) (by decide)) ft12_16 ((jw_ne e61 (Or.inr (by decide))).trans ((jw_ne e60 (Or.inl (by decide))).trans ((jw_ne e59 (Or.inr (by decide))).trans ((jw_ne e58 (Or.inl (by decide))).trans ((jw_ne e57 (Or.inl (by decide))).trans ((jw_ne e56 (Or.inl (by decide))).trans ((jw_ne e51 (Or.inl (by decide))).trans ((jw_ne e50 (Or.inl (by decide))).trans ((jw_ne e47 (Or.inl (by decide))).trans ((jw_ne e46 (Or.inl (by decide))).trans ((hF.v rfl)))))))))))) ?_
            refine ev_aload_n rfl ?_
            refine ev_getf (r := 42) (v := 2) (hS61.lt (by decide)) (hS61.fam (by decide) (by decide)) ft12_17 (jw_eq e61) ?_
            refine ev_iload_n rfl ?_
            refine ev_bipush ?_
            refine ev_iload_n rfl ?_
            refine ev_imul (r := 16) (by decide) ?_
            refine ev_ishr (r := (jshr (xs 2) 16)) rfl ?_
            refine ev_i2b (r := (w8 (jshr (xs 2) 16))) rfl ?_
            refine ev_bastG (r := 54) (j := 2) (hS61.lt (by decide)) (hS61.sh (by decide) rfl).1 rfl (hS61.inb (by decide) (by decide)) rfl (fun h62 e62 => ?_)
            have hS62 := hS61.wr e62
            refine ev_aload_n rfl ?_
            refine ev_dup (by decide) ?_
            refine ev_getf (r := 42) (v := 2) (hS62.lt (by decide)) (hS62.fam (by decide) (by decide)) ft12_17 ((jw_ne e62 (Or.inl (by decide))).trans (jw_eq e61)) ?_
            refine ev_iconst ?_
            refine ev_iadd (r := 3) (by decide) ?_
            refine ev_putfG (r := 42) (hS62.lt (by decide)) (hS62.fam (by decide) (by decide)) ft12_17 (fun e => absurd e nz12_17) (fun e => absurd e (by decide)) (fun h63 e63 => ?_)
            have hS63 := hS62.wr e63
            refine ev_iinc (w := 3) (L' := [(2, 42), (0, (xs 1)), (0, (xs 2)), (0, 3)]) rfl (by decide) rfl ?_
            refine ev_goto f263_28 ?_
            refine ev_iload_n rfl ?_
            refine ev_iload_n rfl ?_
            refine ev_icmpge f263_65 (fun c37 => ?_) (fun c37 => absurd c37 (by omega))
            refine ev_aload_n rfl ?_
            refine ev_getf (r := 42) (v := 3) (hS63.lt (by decide)) (hS63.fam (by decide) (by decide)) ft12_17 (jw_eq e63) ?_
            refine ev_ret rfl (by decide) (by decide) ?_
            show jEv _ _ _ _ _ _ _ (_, [(2, (-2)), (2, 0), (2, 42), (0, 0)], [(0, 3), (0, 3)], _, _, _)
            refine ev_icmpeq f384_2190 (fun c38 => ?_) (fun c38 => absurd c38 (by omega))
            exact law_tail _
          · refine ev_aload_n rfl ?_
            refine ev_getf (r := 7) (v := 3) (hS57.lt (by decide)) (hS57.fam (by decide) (by decide)) ft5_0 (jw_eq e57) ?_
            refine ev_sipush ?_
            refine ev_icmpge f64_49 (fun c39 => absurd c39 (by omega)) (fun c39 => ?_)
            refine ev_aload_n rfl ?_
            refine ev_getf (r := 7) (v := 8) (hS57.lt (by decide)) (hS57.fam (by decide) (by decide)) ft5_5 ((jw_ne e57 (Or.inr (by decide))).trans ((jw_ne e56 (Or.inl (by decide))).trans ((jw_ne e51 (Or.inr (by decide))).trans ((jw_ne e50 (Or.inl (by decide))).trans ((jw_ne e47 (Or.inr (by decide))).trans ((jw_ne e46 (Or.inl (by decide))).trans ((hF.v rfl)))))))) ?_
            refine ev_aload_n rfl ?_
            refine ev_getf (r := 7) (v := 3) (hS57.lt (by decide)) (hS57.fam (by decide) (by decide)) ft5_0 (jw_eq e57) ?_
            refine ev_iload_n rfl ?_
            refine ev_bipush ?_
            refine ev_iload_n rfl ?_
            refine ev_imul (r := 24) (by decide) ?_
            refine ev_ishr (r := (jshr (xs 2) 24)) rfl ?_
            refine ev_i2b (r := (w8 (jshr (xs 2) 24))) rfl ?_
            refine ev_bastG (r := 8) (j := 3) (hS57.lt (by decide)) (hS57.sh (by decide) rfl).1 rfl (hS57.inb (by decide) (by decide)) rfl (fun h64 e64 => ?_)
            have hS64 := hS57.wr e64
            refine ev_aload_n rfl ?_
            refine ev_dup (by decide) ?_
            refine ev_getf (r := 7) (v := 3) (hS64.lt (by decide)) (hS64.fam (by decide) (by decide)) ft5_0 ((jw_ne e64 (Or.inl (by decide))).trans (jw_eq e57)) ?_
            refine ev_iconst ?_
            refine ev_iadd (r := 4) (by decide) ?_
            refine ev_putfG (r := 7) (hS64.lt (by decide)) (hS64.fam (by decide) (by decide)) ft5_0 (fun e => absurd e nz5_0) (fun e => absurd e (by decide)) (fun h65 e65 => ?_)
            have hS65 := hS64.wr e65
            refine ev_iinc (w := 4) (L' := [(2, 7), (0, (xs 1)), (0, (xs 2)), (0, 4)]) rfl (by decide) rfl ?_
            refine ev_goto f64_2 ?_
            refine ev_iload_n rfl ?_
            refine ev_iload_n rfl ?_
            refine ev_icmpge f64_49 (fun c40 => ?_) (fun c40 => absurd c40 (by omega))
            refine ev_aload_n rfl ?_
            refine ev_getf (r := 7) (v := 4) (hS65.lt (by decide)) (hS65.fam (by decide) (by decide)) ft5_0 (jw_eq e65) ?_
            refine ev_ret rfl (by decide) (by decide) ?_
            show jEv _ _ _ _ _ _ _ (_, [(2, 0), (0, (xs 1)), (0, (xs 2))], [(0, 4)], _, _, _)
            refine ev_goto f172_37 ?_
            refine ev_ret rfl (by decide) (by decide) ?_
            show jEv _ _ _ _ _ _ _ (_, [(2, (-2)), (2, 0), (2, 42), (0, 0)], [(0, 4)], _, _, _)
            refine ev_aload_n rfl ?_
            refine ev_aload_n rfl ?_
            refine ev_iload_n rfl ?_
            refine ev_iconst ?_
            refine ev_iadd (r := 1) (by decide) ?_
            refine ev_sald (j := 1) (v := (xs 1)) rfl rfl rfl ?_
            refine ev_aload_n rfl ?_
            refine ev_iload_n rfl ?_
            refine ev_iconst ?_
            refine ev_iadd (r := 2) (by decide) ?_
            refine ev_sald (j := 2) (v := (xs 2)) rfl rfl rfl ?_
            refine ev_in (d := 7) (a := 0) (b := 0) (cd' := c263_0) (m := 4) (L0 := [(2, 42), (0, (xs 1)), (0, (xs 2)), (9, 0)]) (jcall_v (A := [(0, (xs 2)), (0, (xs 1))]) (S' := [(0, 4)]) (r := 42) rfl (hS65.lt (by decide)) (hS65.sh (by decide) rfl).1 (Nat.le_of_ble_eq_true rfl)) (by decide) ml263 pp263 (Nat.le_of_ble_eq_true rfl) rfl (by decide) (by decide) ?_
            refine ev_iload_n rfl ?_
            refine ev_iconst ?_
            refine ev_iconst ?_
            refine ev_in (d := 6) (a := 0) (b := 0) (cd' := c242_0) (m := 3) (L0 := [(0, (xs 1)), (0, 1), (0, 4)]) (jcall_s (A := [(0, 4), (0, 1), (0, (xs 1))]) (S' := []) (by decide) rfl (Nat.le_of_ble_eq_true rfl)) (by decide) ml242 pp242 (Nat.le_of_ble_eq_true rfl) rfl (by decide) (by decide) ?_
            refine ev_iload_n rfl ?_
            refine ev_iload_n rfl ?_
            refine ev_icmplt f242_14 (fun c41 => absurd c41 (by omega)) (fun c41 => ?_)
            refine ev_iload_n rfl ?_
            refine ev_iload_n rfl ?_
            refine ev_icmpgt f242_14 (fun c42 => absurd c42 (by omega)) (fun c42 => ?_)
            refine ev_iconst ?_
            refine ev_goto f242_15 ?_
            refine ev_ret rfl (by decide) (by decide) ?_
            show jEv _ _ _ _ _ _ _ (_, [(2, 42), (0, (xs 1)), (0, (xs 2)), (9, 0)], [(0, 1)], _, _, _)
            refine ev_ifne f263_11 (fun c43 => ?_) (fun c43 => absurd c43 (by omega))
            refine ev_aload_n rfl ?_
            refine ev_getf (r := 42) (v := 0) (hS65.lt (by decide)) (hS65.fam (by decide) (by decide)) ft12_17 ((jw_ne e65 (Or.inl (by decide))).trans ((jw_ne e64 (Or.inl (by decide))).trans ((jw_ne e57 (Or.inl (by decide))).trans ((jw_ne e56 (Or.inl (by decide))).trans ((jw_ne e51 (Or.inl (by decide))).trans ((jw_ne e50 (Or.inl (by decide))).trans ((jw_ne e47 (Or.inl (by decide))).trans ((jw_ne e46 (Or.inl (by decide))).trans ((hF.v rfl)))))))))) ?_
            refine ev_iload_n rfl ?_
            refine ev_iadd (r := (xs 1)) (by unfold w32; omega) ?_
            refine ev_sipush ?_
            refine ev_icmple f263_26 (fun c44 => ?_) (fun c44 => absurd c44 (by omega))
            refine ev_iconst ?_
            refine ev_istore_n (L' := [(2, 42), (0, (xs 1)), (0, (xs 2)), (0, 0)]) (Nat.le_of_ble_eq_true rfl) rfl ?_
            refine ev_iload_n rfl ?_
            refine ev_iload_n rfl ?_
            refine ev_icmpge f263_65 (fun c45 => absurd c45 (by omega)) (fun c45 => ?_)
            refine ev_aload_n rfl ?_
            refine ev_getf (r := 42) (v := 54) (hS65.lt (by decide)) (hS65.fam (by decide) (by decide)) ft12_16 ((jw_ne e65 (Or.inl (by decide))).trans ((jw_ne e64 (Or.inl (by decide))).trans ((jw_ne e57 (Or.inl (by decide))).trans ((jw_ne e56 (Or.inl (by decide))).trans ((jw_ne e51 (Or.inl (by decide))).trans ((jw_ne e50 (Or.inl (by decide))).trans ((jw_ne e47 (Or.inl (by decide))).trans ((jw_ne e46 (Or.inl (by decide))).trans ((hF.v rfl)))))))))) ?_
            refine ev_aload_n rfl ?_
            refine ev_getf (r := 42) (v := 0) (hS65.lt (by decide)) (hS65.fam (by decide) (by decide)) ft12_17 ((jw_ne e65 (Or.inl (by decide))).trans ((jw_ne e64 (Or.inl (by decide))).trans ((jw_ne e57 (Or.inl (by decide))).trans ((jw_ne e56 (Or.inl (by decide))).trans ((jw_ne e51 (Or.inl (by decide))).trans ((jw_ne e50 (Or.inl (by decide))).trans ((jw_ne e47 (Or.inl (by decide))).trans ((jw_ne e46 (Or.inl (by decide))).trans ((hF.v rfl)))))))))) ?_
            refine ev_iload_n rfl ?_
            refine ev_bipush ?_
            refine ev_iload_n rfl ?_
            refine ev_imul (r := 0) (by decide) ?_
            refine ev_ishr (r := (xs 2)) (jshr_0 (by omega) (by omega)) ?_
            refine ev_i2b (r := (w8 (xs 2))) rfl ?_
            refine ev_bastG (r := 54) (j := 0) (hS65.lt (by decide)) (hS65.sh (by decide) rfl).1 rfl (hS65.inb (by decide) (by decide)) rfl (fun h66 e66 => ?_)
            have hS66 := hS65.wr e66
            refine ev_aload_n rfl ?_
            refine ev_dup (by decide) ?_
            refine ev_getf (r := 42) (v := 0) (hS66.lt (by decide)) (hS66.fam (by decide) (by decide)) ft12_17 ((jw_ne e66 (Or.inl (by decide))).trans ((jw_ne e65 (Or.inl (by decide))).trans ((jw_ne e64 (Or.inl (by decide))).trans ((jw_ne e57 (Or.inl (by decide))).trans ((jw_ne e56 (Or.inl (by decide))).trans ((jw_ne e51 (Or.inl (by decide))).trans ((jw_ne e50 (Or.inl (by decide))).trans ((jw_ne e47 (Or.inl (by decide))).trans ((jw_ne e46 (Or.inl (by decide))).trans ((hF.v rfl))))))))))) ?_
            refine ev_iconst ?_
            refine ev_iadd (r := 1) (by decide) ?_
            refine ev_putfG (r := 42) (hS66.lt (by decide)) (hS66.fam (by decide) (by decide)) ft12_17 (fun e => absurd e nz12_17) (fun e => absurd e (by decide)) (fun h67 e67 => ?_)
            have hS67 := hS66.wr e67
            refine ev_iinc (w := 1) (L' := [(2, 42), (0, (xs 1)), (0, (xs 2)), (0, 1)]) rfl (by decide) rfl ?_
            refine ev_goto f263_28 ?_
            refine ev_iload_n rfl ?_
            refine ev_iload_n rfl ?_
            refine ev_icmpge f263_65 (fun c46 => absurd c46 (by omega)) (fun c46 => ?_)
            refine ev_aload_n rfl ?_
            refine ev_getf (r := 42) (v := 54) (hS67.lt (by decide)) (hS67.fam (by decide) (by decide)) ft12_16 ((jw_ne e67 (Or.inr (by decide))).trans ((jw_ne e66 (Or.inl (by decide))).trans ((jw_ne e65 (Or.inl (by decide))).trans ((jw_ne e64 (Or.inl (by decide))).trans ((jw_ne e57 (Or.inl (by decide))).trans ((jw_ne e56 (Or.inl (by decide))).trans ((jw_ne e51 (Or.inl (by decide))).trans ((jw_ne e50 (Or.inl (by decide))).trans ((jw_ne e47 (Or.inl (by decide))).trans ((jw_ne e46 (Or.inl (by decide))).trans ((hF.v rfl)))))))))))) ?_
            refine ev_aload_n rfl ?_
            refine ev_getf (r := 42) (v := 1) (hS67.lt (by decide)) (hS67.fam (by decide) (by decide)) ft12_17 (jw_eq e67) ?_
            refine ev_iload_n rfl ?_
            refine ev_bipush ?_
            refine ev_iload_n rfl ?_
            refine ev_imul (r := 8) (by decide) ?_
            refine ev_ishr (r := (jshr (xs 2) 8)) rfl ?_
            refine ev_i2b (r := (w8 (jshr (xs 2) 8))) rfl ?_
            refine ev_bastG (r := 54) (j := 1) (hS67.lt (by decide)) (hS67.sh (by decide) rfl).1 rfl (hS67.inb (by decide) (by decide)) rfl (fun h68 e68 => ?_)
            have hS68 := hS67.wr e68
            refine ev_aload_n rfl ?_
            refine ev_dup (by decide) ?_
            refine ev_getf (r := 42) (v := 1) (hS68.lt (by decide)) (hS68.fam (by decide) (by decide)) ft12_17 ((jw_ne e68 (Or.inl (by decide))).trans (jw_eq e67)) ?_
            refine ev_iconst ?_
            refine ev_iadd (r := 2) (by decide) ?_
            refine ev_putfG (r := 42) (hS68.lt (by decide)) (hS68.fam (by decide) (by decide)) ft12_17 (fun e => absurd e nz12_17) (fun e => absurd e (by decide)) (fun h69 e69 => ?_)
            have hS69 := hS68.wr e69
            refine ev_iinc (w := 2) (L' := [(2, 42), (0, (xs 1)), (0, (xs 2)), (0, 2)]) rfl (by decide) rfl ?_
            refine ev_goto f263_28 ?_
            refine ev_iload_n rfl ?_
            refine ev_iload_n rfl ?_
            refine ev_icmpge f263_65 (fun c47 => absurd c47 (by omega)) (fun c47 => ?_)
            refine ev_aload_n rfl ?_
            refine ev_getf (r := 42) (v := 54) (hS69.lt (by decide)) (hS69.fam (by decide) (by decide)) ft12_16 ((jw_ne e69 (Or.inr (by decide))).trans ((jw_ne e68 (Or.inl (by decide))).trans ((jw_ne e67 (Or.inr (by decide))).trans ((jw_ne e66 (Or.inl (by decide))).trans ((jw_ne e65 (Or.inl (by decide))).trans ((jw_ne e64 (Or.inl (by decide))).trans ((jw_ne e57 (Or.inl (by decide))).trans ((jw_ne e56 (Or.inl (by decide))).trans ((jw_ne e51 (Or.inl (by decide))).trans ((jw_ne e50 (Or.inl (by decide))).trans ((jw_ne e47 (Or.inl (by decide))).trans ((jw_ne e46 (Or.inl (by decide))).trans ((hF.v rfl)))))))))))))) ?_
            refine ev_aload_n rfl ?_
            refine ev_getf (r := 42) (v := 2) (hS69.lt (by decide)) (hS69.fam (by decide) (by decide)) ft12_17 (jw_eq e69) ?_
            refine ev_iload_n rfl ?_
            refine ev_bipush ?_
            refine ev_iload_n rfl ?_
            refine ev_imul (r := 16) (by decide) ?_
            refine ev_ishr (r := (jshr (xs 2) 16)) rfl ?_
            refine ev_i2b (r := (w8 (jshr (xs 2) 16))) rfl ?_
            refine ev_bastG (r := 54) (j := 2) (hS69.lt (by decide)) (hS69.sh (by decide) rfl).1 rfl (hS69.inb (by decide) (by decide)) rfl (fun h70 e70 => ?_)
            have hS70 := hS69.wr e70
            refine ev_aload_n rfl ?_
            refine ev_dup (by decide) ?_
            refine ev_getf (r := 42) (v := 2) (hS70.lt (by decide)) (hS70.fam (by decide) (by decide)) ft12_17 ((jw_ne e70 (Or.inl (by decide))).trans (jw_eq e69)) ?_
            refine ev_iconst ?_
            refine ev_iadd (r := 3) (by decide) ?_
            refine ev_putfG (r := 42) (hS70.lt (by decide)) (hS70.fam (by decide) (by decide)) ft12_17 (fun e => absurd e nz12_17) (fun e => absurd e (by decide)) (fun h71 e71 => ?_)
            have hS71 := hS70.wr e71
            refine ev_iinc (w := 3) (L' := [(2, 42), (0, (xs 1)), (0, (xs 2)), (0, 3)]) rfl (by decide) rfl ?_
            refine ev_goto f263_28 ?_
            refine ev_iload_n rfl ?_
            refine ev_iload_n rfl ?_
            refine ev_icmpge f263_65 (fun c48 => absurd c48 (by omega)) (fun c48 => ?_)
            refine ev_aload_n rfl ?_
            refine ev_getf (r := 42) (v := 54) (hS71.lt (by decide)) (hS71.fam (by decide) (by decide)) ft12_16 ((jw_ne e71 (Or.inr (by decide))).trans ((jw_ne e70 (Or.inl (by decide))).trans ((jw_ne e69 (Or.inr (by decide))).trans ((jw_ne e68 (Or.inl (by decide))).trans ((jw_ne e67 (Or.inr (by decide))).trans ((jw_ne e66 (Or.inl (by decide))).trans ((jw_ne e65 (Or.inl (by decide))).trans ((jw_ne e64 (Or.inl (by decide))).trans ((jw_ne e57 (Or.inl (by decide))).trans ((jw_ne e56 (Or.inl (by decide))).trans ((jw_ne e51 (Or.inl (by decide))).trans ((jw_ne e50 (Or.inl (by decide))).trans ((jw_ne e47 (Or.inl (by decide))).trans ((jw_ne e46 (Or.inl (by decide))).trans ((hF.v rfl)))))))))))))))) ?_
            refine ev_aload_n rfl ?_
            refine ev_getf (r := 42) (v := 3) (hS71.lt (by decide)) (hS71.fam (by decide) (by decide)) ft12_17 (jw_eq e71) ?_
            refine ev_iload_n rfl ?_
            refine ev_bipush ?_
            refine ev_iload_n rfl ?_
            refine ev_imul (r := 24) (by decide) ?_
            refine ev_ishr (r := (jshr (xs 2) 24)) rfl ?_
            refine ev_i2b (r := (w8 (jshr (xs 2) 24))) rfl ?_
            refine ev_bastG (r := 54) (j := 3) (hS71.lt (by decide)) (hS71.sh (by decide) rfl).1 rfl (hS71.inb (by decide) (by decide)) rfl (fun h72 e72 => ?_)
            have hS72 := hS71.wr e72
            refine ev_aload_n rfl ?_
            refine ev_dup (by decide) ?_
            refine ev_getf (r := 42) (v := 3) (hS72.lt (by decide)) (hS72.fam (by decide) (by decide)) ft12_17 ((jw_ne e72 (Or.inl (by decide))).trans (jw_eq e71)) ?_
            refine ev_iconst ?_
            refine ev_iadd (r := 4) (by decide) ?_
            refine ev_putfG (r := 42) (hS72.lt (by decide)) (hS72.fam (by decide) (by decide)) ft12_17 (fun e => absurd e nz12_17) (fun e => absurd e (by decide)) (fun h73 e73 => ?_)
            have hS73 := hS72.wr e73
            refine ev_iinc (w := 4) (L' := [(2, 42), (0, (xs 1)), (0, (xs 2)), (0, 4)]) rfl (by decide) rfl ?_
            refine ev_goto f263_28 ?_
            refine ev_iload_n rfl ?_
            refine ev_iload_n rfl ?_
            refine ev_icmpge f263_65 (fun c49 => ?_) (fun c49 => absurd c49 (by omega))
            refine ev_aload_n rfl ?_
            refine ev_getf (r := 42) (v := 4) (hS73.lt (by decide)) (hS73.fam (by decide) (by decide)) ft12_17 (jw_eq e73) ?_
            refine ev_ret rfl (by decide) (by decide) ?_
            show jEv _ _ _ _ _ _ _ (_, [(2, (-2)), (2, 0), (2, 42), (0, 0)], [(0, 4), (0, 4)], _, _, _)
            refine ev_icmpeq f384_2190 (fun c50 => ?_) (fun c50 => absurd c50 (by omega))
            exact law_tail _
    · refine ev_iconst ?_
      refine ev_ret rfl (by decide) (by decide) ?_
      show jEv _ _ _ _ _ _ _ (_, [(2, (-2)), (2, 0), (2, 42), (0, 0)], [(0, (-1))], _, _, _)
      refine ev_aload_n rfl ?_
      refine ev_aload_n rfl ?_
      refine ev_iload_n rfl ?_
      refine ev_iconst ?_
      refine ev_iadd (r := 1) (by decide) ?_
      refine ev_sald (j := 1) (v := (xs 1)) rfl rfl rfl ?_
      refine ev_aload_n rfl ?_
      refine ev_iload_n rfl ?_
      refine ev_iconst ?_
      refine ev_iadd (r := 2) (by decide) ?_
      refine ev_sald (j := 2) (v := (xs 2)) rfl rfl rfl ?_
      refine ev_in (d := 7) (a := 0) (b := 0) (cd' := c263_0) (m := 4) (L0 := [(2, 42), (0, (xs 1)), (0, (xs 2)), (9, 0)]) (jcall_v (A := [(0, (xs 2)), (0, (xs 1))]) (S' := [(0, (-1))]) (r := 42) rfl (hF.1.lt (by decide)) (hF.1.sh (by decide) rfl).1 (Nat.le_of_ble_eq_true rfl)) (by decide) ml263 pp263 (Nat.le_of_ble_eq_true rfl) rfl (by decide) (by decide) ?_
      refine ev_iload_n rfl ?_
      refine ev_iconst ?_
      refine ev_iconst ?_
      refine ev_in (d := 6) (a := 0) (b := 0) (cd' := c242_0) (m := 3) (L0 := [(0, (xs 1)), (0, 1), (0, 4)]) (jcall_s (A := [(0, 4), (0, 1), (0, (xs 1))]) (S' := []) (by decide) rfl (Nat.le_of_ble_eq_true rfl)) (by decide) ml242 pp242 (Nat.le_of_ble_eq_true rfl) rfl (by decide) (by decide) ?_
      refine ev_iload_n rfl ?_
      refine ev_iload_n rfl ?_
      refine ev_icmplt f242_14 (fun c51 => absurd c51 (by omega)) (fun c51 => ?_)
      refine ev_iload_n rfl ?_
      refine ev_iload_n rfl ?_
      refine ev_icmpgt f242_14 (fun c52 => ?_) (fun c52 => absurd c52 (by omega))
      refine ev_iconst ?_
      refine ev_ret rfl (by decide) (by decide) ?_
      show jEv _ _ _ _ _ _ _ (_, [(2, 42), (0, (xs 1)), (0, (xs 2)), (9, 0)], [(0, 0)], _, _, _)
      refine ev_ifne f263_11 (fun c53 => absurd c53 (by omega)) (fun c53 => ?_)
      refine ev_iconst ?_
      refine ev_ret rfl (by decide) (by decide) ?_
      show jEv _ _ _ _ _ _ _ (_, [(2, (-2)), (2, 0), (2, 42), (0, 0)], [(0, (-1)), (0, (-1))], _, _, _)
      refine ev_icmpeq f384_2190 (fun c54 => ?_) (fun c54 => absurd c54 (by omega))
      exact law_tail _

/-! quarrel -/
set_option maxHeartbeats 4000000 in
theorem case_7 {xs : Nat → Int} (hr : ∀ j, -2147483648 ≤ xs j ∧ xs j < 2147483648) {h : JH} (hF : Fresh h) : jEv (jOk 8) (some 6) xs c384_0 600000 7302250 (fun v _ => v = some (0, 1)) (c384_484, [(2, -2), (2, 0), (2, 42), (0, 0)], [], h, 83, 23761) := by
  have r1 := hr 1
  have r2 := hr 2
  have r3 := hr 3
  have r4 := hr 4
  have r5 := hr 5
  refine ev_aload_n rfl ?_
  refine ev_in (d := 7) (a := 0) (b := 0) (cd' := c173_0) (m := 3) (L0 := [(2, 0), (9, 0), (9, 0)]) (jcall_v (A := []) (S' := []) (r := 0) rfl (hF.1.lt (by decide)) (hF.1.sh (by decide) rfl).1 (Nat.le_of_ble_eq_true rfl)) (by decide) ml173 pp173 (Nat.le_of_ble_eq_true rfl) rfl (by decide) (by decide) ?_
  refine ev_aload_n rfl ?_
  refine ev_getf (r := 0) (v := 0) (hF.1.lt (by decide)) (hF.1.fam (by decide) (by decide)) ft11_3 ((hF.v rfl)) ?_
  refine ev_bipush ?_
  refine ev_icmplt f173_12 (fun c1 => ?_) (fun c1 => absurd c1 (by omega))
  refine ev_aload_n rfl ?_
  refine ev_getf (r := 0) (v := 7) (hF.1.lt (by decide)) (hF.1.fam (by decide) (by decide)) ft11_1 ((hF.v rfl)) ?_
  refine ev_aload_n rfl ?_
  refine ev_getf (r := 0) (v := 1) (hF.1.lt (by decide)) (hF.1.fam (by decide) (by decide)) ft11_0 ((hF.v rfl)) ?_
  refine ev_in (d := 6) (a := 0) (b := 0) (cd' := c67_0) (m := 3) (L0 := [(2, 7), (2, 1), (9, 0)]) (jcall_v (A := [(2, 1)]) (S' := []) (r := 7) rfl (hF.1.lt (by decide)) (hF.1.sh (by decide) rfl).1 (Nat.le_of_ble_eq_true rfl)) (by decide) ml67 pp67 (Nat.le_of_ble_eq_true rfl) rfl (by decide) (by decide) ?_
  refine ev_aload_n rfl ?_
  refine ev_iconst ?_
  refine ev_putfG (r := 7) (hF.1.lt (by decide)) (hF.1.fam (by decide) (by decide)) ft5_2 (fun e => absurd e nz5_2) (fun e => absurd e (by decide)) (fun h74 e74 => ?_)
  have hS74 := hF.1.wr e74
  refine ev_aload_n rfl ?_
  refine ev_iconst ?_
  refine ev_putfG (r := 7) (hS74.lt (by decide)) (hS74.fam (by decide) (by decide)) ft5_1 (fun e => absurd e nz5_1) (fun e => absurd e (by decide)) (fun h75 e75 => ?_)
  have hS75 := hS74.wr e75
  refine ev_aload_n rfl ?_
  refine ev_iconst ?_
  refine ev_putfG (r := 7) (hS75.lt (by decide)) (hS75.fam (by decide) (by decide)) ft5_3 (fun e => absurd e nz5_3) (fun e => absurd e (by decide)) (fun h76 e76 => ?_)
  have hS76 := hS75.wr e76
  refine ev_aload_n rfl ?_
  refine ev_iconst ?_
  refine ev_putfG (r := 7) (hS76.lt (by decide)) (hS76.fam (by decide) (by decide)) ft5_4 (fun e => absurd e nz5_4) (fun e => absurd e (by decide)) (fun h77 e77 => ?_)
  have hS77 := hS76.wr e77
  refine ev_aload_n rfl ?_
  refine ev_getf (r := 7) (v := 0) (hS77.lt (by decide)) (hS77.fam (by decide) (by decide)) ft5_4 (jw_eq e77) ?_
  refine ev_bipush ?_
  refine ev_icmpge f67_105 (fun c2 => absurd c2 (by omega)) (fun c2 => ?_)
  refine ev_aload_n rfl ?_
  refine ev_in (d := 5) (a := 0) (b := 0) (cd' := c68_0) (m := 1) (L0 := [(2, 7)]) (jcall_v (A := []) (S' := []) (r := 7) rfl (hS77.lt (by decide)) (hS77.sh (by decide) rfl).1 (Nat.le_of_ble_eq_true rfl)) (by decide) ml68 pp68 (Nat.le_of_ble_eq_true rfl) rfl (by decide) (by decide) ?_
  refine ev_aload_n rfl ?_
  refine ev_getf (r := 7) (v := 0) (hS77.lt (by decide)) (hS77.fam (by decide) (by decide)) ft5_2 ((jw_ne e77 (Or.inr (by decide))).trans ((jw_ne e76 (Or.inr (by decide))).trans ((jw_ne e75 (Or.inr (by decide))).trans (jw_eq e74)))) ?_
  refine ev_aload_n rfl ?_
  refine ev_getf (r := 7) (v := 0) (hS77.lt (by decide)) (hS77.fam (by decide) (by decide)) ft5_0 ((jw_ne e77 (Or.inr (by decide))).trans ((jw_ne e76 (Or.inr (by decide))).trans ((jw_ne e75 (Or.inr (by decide))).trans ((jw_ne e74 (Or.inr (by decide))).trans ((hF.v rfl)))))) ?_
  refine ev_icmpge f68_27 (fun c3 => ?_) (fun c3 => absurd c3 (by omega))
  refine ev_iconst ?_
  refine ev_ret rfl (by decide) (by decide) ?_
  show jEv _ _ _ _ _ _ _ (_, [(2, 7), (2, 1), (9, 0)], [(0, (-1))], _, _, _)
  refine ev_bipush ?_
  refine ev_aload_n rfl ?_
  refine ev_getf (r := 7) (v := 0) (hS77.lt (by decide)) (hS77.fam (by decide) (by decide)) ft5_4 (jw_eq e77) ?_
  refine ev_iadd (r := 65) (by decide) ?_
  refine ev_icmpne f67_105 (fun c4 => ?_) (fun c4 => absurd c4 (by omega))
  refine ev_aload_n rfl ?_
  refine ev_aload_n rfl ?_
  refine ev_iconst ?_
  refine ev_iconst ?_
  refine ev_in (d := 5) (a := 0) (b := 0) (cd' := c74_0) (m := 5) (L0 := [(2, 7), (2, 1), (0, 0), (0, 0), (9, 0)]) (jcall_v (A := [(0, 0), (0, 0), (2, 1)]) (S' := []) (r := 7) rfl (hS77.lt (by decide)) (hS77.sh (by decide) rfl).1 (Nat.le_of_ble_eq_true rfl)) (by decide) ml74 pp74 (Nat.le_of_ble_eq_true rfl) rfl (by decide) (by decide) ?_
  refine ev_aload_n rfl ?_
  refine ev_getf (r := 7) (v := (-1)) (hS77.lt (by decide)) (hS77.fam (by decide) (by decide)) ft5_1 ((jw_ne e77 (Or.inr (by decide))).trans ((jw_ne e76 (Or.inr (by decide))).trans (jw_eq e75))) ?_
  refine ev_ifge f74_13 (fun c5 => absurd c5 (by omega)) (fun c5 => ?_)
  refine ev_iload_n rfl ?_
  refine ev_bipush ?_
  refine ev_icmple f74_19 (fun c6 => ?_) (fun c6 => absurd c6 (by omega))
  refine ev_aload_n rfl ?_
  refine ev_in (d := 4) (a := 0) (b := 0) (cd' := c68_0) (m := 1) (L0 := [(2, 7)]) (jcall_v (A := []) (S' := []) (r := 7) rfl (hS77.lt (by decide)) (hS77.sh (by decide) rfl).1 (Nat.le_of_ble_eq_true rfl)) (by decide) ml68 pp68 (Nat.le_of_ble_eq_true rfl) rfl (by decide) (by decide) ?_
  refine ev_aload_n rfl ?_
  refine ev_getf (r := 7) (v := 0) (hS77.lt (by decide)) (hS77.fam (by decide) (by decide)) ft5_2 ((jw_ne e77 (Or.inr (by decide))).trans ((jw_ne e76 (Or.inr (by decide))).trans ((jw_ne e75 (Or.inr (by decide))).trans (jw_eq e74)))) ?_
  refine ev_aload_n rfl ?_
  refine ev_getf (r := 7) (v := 0) (hS77.lt (by decide)) (hS77.fam (by decide) (by decide)) ft5_0 ((jw_ne e77 (Or.inr (by decide))).trans ((jw_ne e76 (Or.inr (by decide))).trans ((jw_ne e75 (Or.inr (by decide))).trans ((jw_ne e74 (Or.inr (by decide))).trans ((hF.v rfl)))))) ?_
  refine ev_icmpge f68_27 (fun c7 => ?_) (fun c7 => absurd c7 (by omega))
  refine ev_iconst ?_
  refine ev_ret rfl (by decide) (by decide) ?_
  show jEv _ _ _ _ _ _ _ (_, [(2, 7), (2, 1), (0, 0), (0, 0), (9, 0)], [(0, (-1))], _, _, _)
  refine ev_istore (L' := [(2, 7), (2, 1), (0, 0), (0, 0), (0, (-1))]) (Nat.le_of_ble_eq_true rfl) rfl ?_
  refine ev_iload rfl ?_
  refine ev_bipush ?_
  refine ev_icmpne f74_40 (fun c8 => ?_) (fun c8 => absurd c8 (by omega))
  refine ev_iload rfl ?_
  refine ev_bipush ?_
  refine ev_icmpne f74_55 (fun c9 => ?_) (fun c9 => absurd c9 (by omega))
  refine ev_iload rfl ?_
  refine ev_bipush ?_
  refine ev_icmplt f74_78 (fun c10 => ?_) (fun c10 => absurd c10 (by omega))
  refine ev_aload_n rfl ?_
  refine ev_in (d := 4) (a := 0) (b := 0) (cd' := c75_0) (m := 4) (L0 := [(2, 7), (9, 0), (9, 0), (9, 0)]) (jcall_v (A := []) (S' := []) (r := 7) rfl (hS77.lt (by decide)) (hS77.sh (by decide) rfl).1 (Nat.le_of_ble_eq_true rfl)) (by decide) ml75 pp75 (Nat.le_of_ble_eq_true rfl) rfl (by decide) (by decide) ?_
  refine ev_aload_n rfl ?_
  refine ev_in (d := 3) (a := 0) (b := 0) (cd' := c68_0) (m := 1) (L0 := [(2, 7)]) (jcall_v (A := []) (S' := []) (r := 7) rfl (hS77.lt (by decide)) (hS77.sh (by decide) rfl).1 (Nat.le_of_ble_eq_true rfl)) (by decide) ml68 pp68 (Nat.le_of_ble_eq_true rfl) rfl (by decide) (by decide) ?_
  refine ev_aload_n rfl ?_
  refine ev_getf (r := 7) (v := 0) (hS77.lt (by decide)) (hS77.fam (by decide) (by decide)) ft5_2 ((jw_ne e77 (Or.inr (by decide))).trans ((jw_ne e76 (Or.inr (by decide))).trans ((jw_ne e75 (Or.inr (by decide))).trans (jw_eq e74)))) ?_
  refine ev_aload_n rfl ?_
  refine ev_getf (r := 7) (v := 0) (hS77.lt (by decide)) (hS77.fam (by decide) (by decide)) ft5_0 ((jw_ne e77 (Or.inr (by decide))).trans ((jw_ne e76 (Or.inr (by decide))).trans ((jw_ne e75 (Or.inr (by decide))).trans ((jw_ne e74 (Or.inr (by decide))).trans ((hF.v rfl)))))) ?_
  refine ev_icmpge f68_27 (fun c11 => ?_) (fun c11 => absurd c11 (by omega))
  refine ev_iconst ?_
  refine ev_ret rfl (by decide) (by decide) ?_
  show jEv _ _ _ _ _ _ _ (_, [(2, 7), (9, 0), (9, 0), (9, 0)], [(0, (-1))], _, _, _)
  refine ev_bipush ?_
  refine ev_icmpne f75_13 (fun c12 => ?_) (fun c12 => absurd c12 (by omega))
  refine ev_iconst ?_
  refine ev_istore_n (L' := [(2, 7), (0, 0), (9, 0), (9, 0)]) (Nat.le_of_ble_eq_true rfl) rfl ?_
  refine ev_iload_n rfl ?_
  refine ev_ifeq f75_29 (fun c13 => ?_) (fun c13 => absurd c13 (by omega))
  refine ev_aload_n rfl ?_
  refine ev_iconst ?_
  refine ev_in (d := 3) (a := 0) (b := 0) (cd' := c76_0) (m := 4) (L0 := [(2, 7), (0, 3), (9, 0), (9, 0)]) (jcall_v (A := [(0, 3)]) (S' := []) (r := 7) rfl (hS77.lt (by decide)) (hS77.sh (by decide) rfl).1 (Nat.le_of_ble_eq_true rfl)) (by decide) ml76 pp76 (Nat.le_of_ble_eq_true rfl) rfl (by decide) (by decide) ?_
  refine ev_iconst ?_
  refine ev_istore_n (L' := [(2, 7), (0, 3), (0, 0), (9, 0)]) (Nat.le_of_ble_eq_true rfl) rfl ?_
  refine ev_aload_n rfl ?_
  refine ev_in (d := 2) (a := 0) (b := 0) (cd' := c69_0) (m := 1) (L0 := [(2, 7)]) (jcall_v (A := []) (S' := []) (r := 7) rfl (hS77.lt (by decide)) (hS77.sh (by decide) rfl).1 (Nat.le_of_ble_eq_true rfl)) (by decide) ml69 pp69 (Nat.le_of_ble_eq_true rfl) rfl (by decide) (by decide) ?_
  refine ev_aload_n rfl ?_
  refine ev_in (d := 1) (a := 0) (b := 0) (cd' := c68_0) (m := 1) (L0 := [(2, 7)]) (jcall_v (A := []) (S' := []) (r := 7) rfl (hS77.lt (by decide)) (hS77.sh (by decide) rfl).1 (Nat.le_of_ble_eq_true rfl)) (by decide) ml68 pp68 (Nat.le_of_ble_eq_true rfl) rfl (by decide) (by decide) ?_
  refine ev_aload_n rfl ?_
  refine ev_getf (r := 7) (v := 0) (hS77.lt (by decide)) (hS77.fam (by decide) (by decide)) ft5_2 ((jw_ne e77 (Or.inr (by decide))).trans ((jw_ne e76 (Or.inr (by decide))).trans ((jw_ne e75 (Or.inr (by decide))).trans (jw_eq e74)))) ?_
  refine ev_aload_n rfl ?_
  refine ev_getf (r := 7) (v := 0) (hS77.lt (by decide)) (hS77.fam (by decide) (by decide)) ft5_0 ((jw_ne e77 (Or.inr (by decide))).trans ((jw_ne e76 (Or.inr (by decide))).trans ((jw_ne e75 (Or.inr (by decide))).trans ((jw_ne e74 (Or.inr (by decide))).trans ((hF.v rfl)))))) ?_
  refine ev_icmpge f68_27 (fun c14 => ?_) (fun c14 => absurd c14 (by omega))
  refine ev_iconst ?_
  refine ev_ret rfl (by decide) (by decide) ?_
  show jEv _ _ _ _ _ _ _ (_, [(2, 7)], [(0, (-1))], _, _, _)
  refine ev_bipush ?_
  refine ev_icmplt f69_22 (fun c15 => ?_) (fun c15 => absurd c15 (by omega))
  refine ev_iconst ?_
  refine ev_ret rfl (by decide) (by decide) ?_
  show jEv _ _ _ _ _ _ _ (_, [(2, 7), (0, 3), (0, 0), (9, 0)], [(0, 0)], _, _, _)
  refine ev_ifne f76_13 (fun c16 => absurd c16 (by omega)) (fun c16 => ?_)
  refine ev_aload_n rfl ?_
  refine ev_in (d := 2) (a := 0) (b := 0) (cd' := c70_0) (m := 1) (L0 := [(2, 7)]) (jcall_v (A := []) (S' := []) (r := 7) rfl (hS77.lt (by decide)) (hS77.sh (by decide) rfl).1 (Nat.le_of_ble_eq_true rfl)) (by decide) ml70 pp70 (Nat.le_of_ble_eq_true rfl) rfl (by decide) (by decide) ?_
  refine ev_aload_n rfl ?_
  refine ev_getf (r := 7) (v := (-1)) (hS77.lt (by decide)) (hS77.fam (by decide) (by decide)) ft5_1 ((jw_ne e77 (Or.inr (by decide))).trans ((jw_ne e76 (Or.inr (by decide))).trans (jw_eq e75))) ?_
  refine ev_ifge f70_15 (fun c17 => absurd c17 (by omega)) (fun c17 => ?_)
  refine ev_aload_n rfl ?_
  refine ev_aload_n rfl ?_
  refine ev_getf (r := 7) (v := 0) (hS77.lt (by decide)) (hS77.fam (by decide) (by decide)) ft5_2 ((jw_ne e77 (Or.inr (by decide))).trans ((jw_ne e76 (Or.inr (by decide))).trans ((jw_ne e75 (Or.inr (by decide))).trans (jw_eq e74)))) ?_
  refine ev_putfG (r := 7) (hS77.lt (by decide)) (hS77.fam (by decide) (by decide)) ft5_1 (fun e => absurd e nz5_1) (fun e => absurd e (by decide)) (fun h78 e78 => ?_)
  have hS78 := hS77.wr e78
  refine ev_ret rfl (by decide) (by decide) ?_
  show jEv _ _ _ _ _ _ _ (_, [(2, 7), (0, 3), (0, 0), (9, 0)], [], _, _, _)
  refine ev_iconst ?_
  refine ev_istore_n (L' := [(2, 7), (0, 3), (0, 0), (0, 0)]) (Nat.le_of_ble_eq_true rfl) rfl ?_
  refine ev_iload_n rfl ?_
  refine ev_iload_n rfl ?_
  refine ev_icmpge f76_63 (fun c18 => absurd c18 (by omega)) (fun c18 => ?_)
  refine ev_aload_n rfl ?_
  refine ev_getf (r := 7) (v := 0) (hS78.lt (by decide)) (hS78.fam (by decide) (by decide)) ft5_1 (jw_eq e78) ?_
  refine ev_ifge f76_63 (fun c19 => ?_) (fun c19 => absurd c19 (by omega))
  refine ev_iload_n rfl ?_
  refine ev_ret rfl (by decide) (by decide) ?_
  show jEv _ _ _ _ _ _ _ (_, [(2, 7), (0, 0), (9, 0), (9, 0)], [(0, 0)], _, _, _)
  refine ev_istore_n (L' := [(2, 7), (0, 0), (0, 0), (9, 0)]) (Nat.le_of_ble_eq_true rfl) rfl ?_
  refine ev_aload_n rfl ?_
  refine ev_iconst ?_
  refine ev_in (d := 3) (a := 0) (b := 0) (cd' := c73_0) (m := 2) (L0 := [(2, 7), (0, 0)]) (jcall_v (A := [(0, 0)]) (S' := []) (r := 7) rfl (hS78.lt (by decide)) (hS78.sh (by decide) rfl).1 (Nat.le_of_ble_eq_true rfl)) (by decide) ml73 pp73 (Nat.le_of_ble_eq_true rfl) rfl (by decide) (by decide) ?_
  refine ev_aload_n rfl ?_
  refine ev_getf (r := 7) (v := 0) (hS78.lt (by decide)) (hS78.fam (by decide) (by decide)) ft5_3 ((jw_ne e78 (Or.inr (by decide))).trans ((jw_ne e77 (Or.inr (by decide))).trans (jw_eq e76))) ?_
  refine ev_sipush ?_
  refine ev_icmplt f73_16 (fun c20 => ?_) (fun c20 => absurd c20 (by omega))
  refine ev_aload_n rfl ?_
  refine ev_getf (r := 7) (v := 10) (hS78.lt (by decide)) (hS78.fam (by decide) (by decide)) ft5_7 ((jw_ne e78 (Or.inr (by decide))).trans ((jw_ne e77 (Or.inr (by decide))).trans ((jw_ne e76 (Or.inr (by decide))).trans ((jw_ne e75 (Or.inr (by decide))).trans ((jw_ne e74 (Or.inr (by decide))).trans ((hF.v rfl))))))) ?_
  refine ev_aload_n rfl ?_
  refine ev_getf (r := 7) (v := 0) (hS78.lt (by decide)) (hS78.fam (by decide) (by decide)) ft5_3 ((jw_ne e78 (Or.inr (by decide))).trans ((jw_ne e77 (Or.inr (by decide))).trans (jw_eq e76))) ?_
  refine ev_iload_n rfl ?_
  refine ev_iastG (r := 10) (j := 0) (hS78.lt (by decide)) (hS78.sh (by decide) rfl).1 rfl (hS78.inb (by decide) (by decide)) (fun h79 e79 => ?_)
  have hS79 := hS78.wr e79
  refine ev_aload_n rfl ?_
  refine ev_getf (r := 7) (v := 11) (hS79.lt (by decide)) (hS79.fam (by decide) (by decide)) ft5_8 ((jw_ne e79 (Or.inl (by decide))).trans ((jw_ne e78 (Or.inr (by decide))).trans ((jw_ne e77 (Or.inr (by decide))).trans ((jw_ne e76 (Or.inr (by decide))).trans ((jw_ne e75 (Or.inr (by decide))).trans ((jw_ne e74 (Or.inr (by decide))).trans ((hF.v rfl)))))))) ?_
  refine ev_aload_n rfl ?_
  refine ev_getf (r := 7) (v := 0) (hS79.lt (by decide)) (hS79.fam (by decide) (by decide)) ft5_3 ((jw_ne e79 (Or.inl (by decide))).trans ((jw_ne e78 (Or.inr (by decide))).trans ((jw_ne e77 (Or.inr (by decide))).trans (jw_eq e76)))) ?_
  refine ev_iconst ?_
  refine ev_iastG (r := 11) (j := 0) (hS79.lt (by decide)) (hS79.sh (by decide) rfl).1 rfl (hS79.inb (by decide) (by decide)) (fun h80 e80 => ?_)
  have hS80 := hS79.wr e80
  refine ev_aload_n rfl ?_
  refine ev_getf (r := 7) (v := 12) (hS80.lt (by decide)) (hS80.fam (by decide) (by decide)) ft5_9 ((jw_ne e80 (Or.inl (by decide))).trans ((jw_ne e79 (Or.inl (by decide))).trans ((jw_ne e78 (Or.inr (by decide))).trans ((jw_ne e77 (Or.inr (by decide))).trans ((jw_ne e76 (Or.inr (by decide))).trans ((jw_ne e75 (Or.inr (by decide))).trans ((jw_ne e74 (Or.inr (by decide))).trans ((hF.v rfl))))))))) ?_
  refine ev_aload_n rfl ?_
  refine ev_getf (r := 7) (v := 0) (hS80.lt (by decide)) (hS80.fam (by decide) (by decide)) ft5_3 ((jw_ne e80 (Or.inl (by decide))).trans ((jw_ne e79 (Or.inl (by decide))).trans ((jw_ne e78 (Or.inr (by decide))).trans ((jw_ne e77 (Or.inr (by decide))).trans (jw_eq e76))))) ?_
  refine ev_iconst ?_
  refine ev_iastG (r := 12) (j := 0) (hS80.lt (by decide)) (hS80.sh (by decide) rfl).1 rfl (hS80.inb (by decide) (by decide)) (fun h81 e81 => ?_)
  have hS81 := hS80.wr e81
  refine ev_aload_n rfl ?_
  refine ev_getf (r := 7) (v := 15) (hS81.lt (by decide)) (hS81.fam (by decide) (by decide)) ft5_12 ((jw_ne e81 (Or.inl (by decide))).trans ((jw_ne e80 (Or.inl (by decide))).trans ((jw_ne e79 (Or.inl (by decide))).trans ((jw_ne e78 (Or.inr (by decide))).trans ((jw_ne e77 (Or.inr (by decide))).trans ((jw_ne e76 (Or.inr (by decide))).trans ((jw_ne e75 (Or.inr (by decide))).trans ((jw_ne e74 (Or.inr (by decide))).trans ((hF.v rfl)))))))))) ?_
  refine ev_aload_n rfl ?_
  refine ev_getf (r := 7) (v := 0) (hS81.lt (by decide)) (hS81.fam (by decide) (by decide)) ft5_3 ((jw_ne e81 (Or.inl (by decide))).trans ((jw_ne e80 (Or.inl (by decide))).trans ((jw_ne e79 (Or.inl (by decide))).trans ((jw_ne e78 (Or.inr (by decide))).trans ((jw_ne e77 (Or.inr (by decide))).trans (jw_eq e76)))))) ?_
  refine ev_iconst ?_
  refine ev_iastG (r := 15) (j := 0) (hS81.lt (by decide)) (hS81.sh (by decide) rfl).1 rfl (hS81.inb (by decide) (by decide)) (fun h82 e82 => ?_)
  have hS82 := hS81.wr e82
  refine ev_aload_n rfl ?_
  refine ev_getf (r := 7) (v := 16) (hS82.lt (by decide)) (hS82.fam (by decide) (by decide)) ft5_13 ((jw_ne e82 (Or.inl (by decide))).trans ((jw_ne e81 (Or.inl (by decide))).trans ((jw_ne e80 (Or.inl (by decide))).trans ((jw_ne e79 (Or.inl (by decide))).trans ((jw_ne e78 (Or.inr (by decide))).trans ((jw_ne e77 (Or.inr (by decide))).trans ((jw_ne e76 (Or.inr (by decide))).trans ((jw_ne e75 (Or.inr (by decide))).trans ((jw_ne e74 (Or.inr (by decide))).trans ((hF.v rfl))))))))))) ?_
  refine ev_aload_n rfl ?_
  refine ev_getf (r := 7) (v := 0) (hS82.lt (by decide)) (hS82.fam (by decide) (by decide)) ft5_3 ((jw_ne e82 (Or.inl (by decide))).trans ((jw_ne e81 (Or.inl (by decide))).trans ((jw_ne e80 (Or.inl (by decide))).trans ((jw_ne e79 (Or.inl (by decide))).trans ((jw_ne e78 (Or.inr (by decide))).trans ((jw_ne e77 (Or.inr (by decide))).trans (jw_eq e76))))))) ?_
  refine ev_iconst ?_
  refine ev_iastG (r := 16) (j := 0) (hS82.lt (by decide)) (hS82.sh (by decide) rfl).1 rfl (hS82.inb (by decide) (by decide)) (fun h83 e83 => ?_)
  have hS83 := hS82.wr e83
  refine ev_aload_n rfl ?_
  refine ev_getf (r := 7) (v := 17) (hS83.lt (by decide)) (hS83.fam (by decide) (by decide)) ft5_14 ((jw_ne e83 (Or.inl (by decide))).trans ((jw_ne e82 (Or.inl (by decide))).trans ((jw_ne e81 (Or.inl (by decide))).trans ((jw_ne e80 (Or.inl (by decide))).trans ((jw_ne e79 (Or.inl (by decide))).trans ((jw_ne e78 (Or.inr (by decide))).trans ((jw_ne e77 (Or.inr (by decide))).trans ((jw_ne e76 (Or.inr (by decide))).trans ((jw_ne e75 (Or.inr (by decide))).trans ((jw_ne e74 (Or.inr (by decide))).trans ((hF.v rfl)))))))))))) ?_
  refine ev_aload_n rfl ?_
  refine ev_getf (r := 7) (v := 0) (hS83.lt (by decide)) (hS83.fam (by decide) (by decide)) ft5_3 ((jw_ne e83 (Or.inl (by decide))).trans ((jw_ne e82 (Or.inl (by decide))).trans ((jw_ne e81 (Or.inl (by decide))).trans ((jw_ne e80 (Or.inl (by decide))).trans ((jw_ne e79 (Or.inl (by decide))).trans ((jw_ne e78 (Or.inr (by decide))).trans ((jw_ne e77 (Or.inr (by decide))).trans (jw_eq e76)))))))) ?_
  refine ev_iconst ?_
  refine ev_iastG (r := 17) (j := 0) (hS83.lt (by decide)) (hS83.sh (by decide) rfl).1 rfl (hS83.inb (by decide) (by decide)) (fun h84 e84 => ?_)
  have hS84 := hS83.wr e84
  refine ev_aload_n rfl ?_
  refine ev_dup (by decide) ?_
  refine ev_getf (r := 7) (v := 0) (hS84.lt (by decide)) (hS84.fam (by decide) (by decide)) ft5_3 ((jw_ne e84 (Or.inl (by decide))).trans ((jw_ne e83 (Or.inl (by decide))).trans ((jw_ne e82 (Or.inl (by decide))).trans ((jw_ne e81 (Or.inl (by decide))).trans ((jw_ne e80 (Or.inl (by decide))).trans ((jw_ne e79 (Or.inl (by decide))).trans ((jw_ne e78 (Or.inr (by decide))).trans ((jw_ne e77 (Or.inr (by decide))).trans (jw_eq e76))))))))) ?_
  refine ev_iconst ?_
  refine ev_iadd (r := 1) (by decide) ?_
  refine ev_putfG (r := 7) (hS84.lt (by decide)) (hS84.fam (by decide) (by decide)) ft5_3 (fun e => absurd e nz5_3) (fun e => absurd e (by decide)) (fun h85 e85 => ?_)
  have hS85 := hS84.wr e85
  refine ev_aload_n rfl ?_
  refine ev_getf (r := 7) (v := 1) (hS85.lt (by decide)) (hS85.fam (by decide) (by decide)) ft5_3 (jw_eq e85) ?_
  refine ev_iconst ?_
  refine ev_isub (r := 0) (by decide) ?_
  refine ev_ret rfl (by decide) (by decide) ?_
  show jEv _ _ _ _ _ _ _ (_, [(2, 7), (0, 0), (0, 0), (9, 0)], [(0, 0)], _, _, _)
  refine ev_istore_n (L' := [(2, 7), (0, 0), (0, 0), (0, 0)]) (Nat.le_of_ble_eq_true rfl) rfl ?_
  refine ev_aload_n rfl ?_
  refine ev_getf (r := 7) (v := 0) (hS85.lt (by decide)) (hS85.fam (by decide) (by decide)) ft5_1 ((jw_ne e85 (Or.inr (by decide))).trans ((jw_ne e84 (Or.inl (by decide))).trans ((jw_ne e83 (Or.inl (by decide))).trans ((jw_ne e82 (Or.inl (by decide))).trans ((jw_ne e81 (Or.inl (by decide))).trans ((jw_ne e80 (Or.inl (by decide))).trans ((jw_ne e79 (Or.inl (by decide))).trans (jw_eq e78)))))))) ?_
  refine ev_ifge f75_52 (fun c21 => ?_) (fun c21 => absurd c21 (by omega))
  refine ev_iconst ?_
  refine ev_ret rfl (by decide) (by decide) ?_
  show jEv _ _ _ _ _ _ _ (_, [(2, 7), (2, 1), (0, 0), (0, 0), (0, (-1))], [(0, (-1))], _, _, _)
  refine ev_ret rfl (by decide) (by decide) ?_
  show jEv _ _ _ _ _ _ _ (_, [(2, 7), (2, 1), (9, 0)], [(0, (-1))], _, _, _)
  refine ev_istore_n (L' := [(2, 7), (2, 1), (0, (-1))]) (Nat.le_of_ble_eq_true rfl) rfl ?_
  refine ev_aload_n rfl ?_
  refine ev_getf (r := 7) (v := 0) (hS85.lt (by decide)) (hS85.fam (by decide) (by decide)) ft5_1 ((jw_ne e85 (Or.inr (by decide))).trans ((jw_ne e84 (Or.inl (by decide))).trans ((jw_ne e83 (Or.inl (by decide))).trans ((jw_ne e82 (Or.inl (by decide))).trans ((jw_ne e81 (Or.inl (by decide))).trans ((jw_ne e80 (Or.inl (by decide))).trans ((jw_ne e79 (Or.inl (by decide))).trans (jw_eq e78)))))))) ?_
  refine ev_ifge f67_139 (fun c22 => ?_) (fun c22 => absurd c22 (by omega))
  refine ev_aload_n rfl ?_
  refine ev_getf (r := 7) (v := 0) (hS85.lt (by decide)) (hS85.fam (by decide) (by decide)) ft5_1 ((jw_ne e85 (Or.inr (by decide))).trans ((jw_ne e84 (Or.inl (by decide))).trans ((jw_ne e83 (Or.inl (by decide))).trans ((jw_ne e82 (Or.inl (by decide))).trans ((jw_ne e81 (Or.inl (by decide))).trans ((jw_ne e80 (Or.inl (by decide))).trans ((jw_ne e79 (Or.inl (by decide))).trans (jw_eq e78)))))))) ?_
  refine ev_iflt f67_150 (fun c23 => absurd c23 (by omega)) (fun c23 => ?_)
  refine ev_iconst ?_
  refine ev_goto f67_151 ?_
  refine ev_ret rfl (by decide) (by decide) ?_
  show jEv _ _ _ _ _ _ _ (_, [(2, 0), (9, 0), (9, 0)], [(0, (-1))], _, _, _)
  refine ev_istore_n (L' := [(2, 0), (0, (-1)), (9, 0)]) (Nat.le_of_ble_eq_true rfl) rfl ?_
  refine ev_iload_n rfl ?_
  refine ev_ifge f173_42 (fun c24 => absurd c24 (by omega)) (fun c24 => ?_)
  refine ev_bipush ?_
  refine ev_aload_n rfl ?_
  refine ev_getf (r := 0) (v := 7) (hS85.lt (by decide)) (hS85.fam (by decide) (by decide)) ft11_1 ((jw_ne e85 (Or.inl (by decide))).trans ((jw_ne e84 (Or.inl (by decide))).trans ((jw_ne e83 (Or.inl (by decide))).trans ((jw_ne e82 (Or.inl (by decide))).trans ((jw_ne e81 (Or.inl (by decide))).trans ((jw_ne e80 (Or.inl (by decide))).trans ((jw_ne e79 (Or.inl (by decide))).trans ((jw_ne e78 (Or.inl (by decide))).trans ((jw_ne e77 (Or.inl (by decide))).trans ((jw_ne e76 (Or.inl (by decide))).trans ((jw_ne e75 (Or.inl (by decide))).trans ((jw_ne e74 (Or.inl (by decide))).trans ((hF.v rfl)))))))))))))) ?_
  refine ev_getf (r := 7) (v := 0) (hS85.lt (by decide)) (hS85.fam (by decide) (by decide)) ft5_1 ((jw_ne e85 (Or.inr (by decide))).trans ((jw_ne e84 (Or.inl (by decide))).trans ((jw_ne e83 (Or.inl (by decide))).trans ((jw_ne e82 (Or.inl (by decide))).trans ((jw_ne e81 (Or.inl (by decide))).trans ((jw_ne e80 (Or.inl (by decide))).trans ((jw_ne e79 (Or.inl (by decide))).trans (jw_eq e78)))))))) ?_
  refine ev_isub (r := (-100)) (by decide) ?_
  refine ev_istore_n (L' := [(2, 0), (0, (-1)), (0, (-100))]) (Nat.le_of_ble_eq_true rfl) rfl ?_
  refine ev_goto f173_93 ?_
  refine ev_aload_n rfl ?_
  refine ev_getf (r := 0) (v := 7) (hS85.lt (by decide)) (hS85.fam (by decide) (by decide)) ft11_1 ((jw_ne e85 (Or.inl (by decide))).trans ((jw_ne e84 (Or.inl (by decide))).trans ((jw_ne e83 (Or.inl (by decide))).trans ((jw_ne e82 (Or.inl (by decide))).trans ((jw_ne e81 (Or.inl (by decide))).trans ((jw_ne e80 (Or.inl (by decide))).trans ((jw_ne e79 (Or.inl (by decide))).trans ((jw_ne e78 (Or.inl (by decide))).trans ((jw_ne e77 (Or.inl (by decide))).trans ((jw_ne e76 (Or.inl (by decide))).trans ((jw_ne e75 (Or.inl (by decide))).trans ((jw_ne e74 (Or.inl (by decide))).trans ((hF.v rfl)))))))))))))) ?_
  refine ev_in (d := 6) (a := 0) (b := 0) (cd' := c65_0) (m := 1) (L0 := [(2, 7)]) (jcall_v (A := []) (S' := []) (r := 7) rfl (hS85.lt (by decide)) (hS85.sh (by decide) rfl).1 (Nat.le_of_ble_eq_true rfl)) (by decide) ml65 pp65 (Nat.le_of_ble_eq_true rfl) rfl (by decide) (by decide) ?_
  refine ev_aload_n rfl ?_
  refine ev_iconst ?_
  refine ev_putfG (r := 7) (hS85.lt (by decide)) (hS85.fam (by decide) (by decide)) ft5_0 (fun e => absurd e nz5_0) (fun e => absurd e (by decide)) (fun h86 e86 => ?_)
  have hS86 := hS85.wr e86
  refine ev_ret rfl (by decide) (by decide) ?_
  show jEv _ _ _ _ _ _ _ (_, [(2, 0), (0, (-1)), (0, (-100))], [], _, _, _)
  refine ev_iload_n rfl ?_
  refine ev_ret rfl (by decide) (by decide) ?_
  show jEv _ _ _ _ _ _ _ (_, [(2, (-2)), (2, 0), (2, 42), (0, 0)], [(0, (-100))], _, _, _)
  refine ev_aload_n rfl ?_
  refine ev_in (d := 7) (a := 0) (b := 0) (cd' := c274_0) (m := 2) (L0 := [(2, 42), (9, 0)]) (jcall_v (A := []) (S' := [(0, (-100))]) (r := 42) rfl (hS86.lt (by decide)) (hS86.sh (by decide) rfl).1 (Nat.le_of_ble_eq_true rfl)) (by decide) ml274 pp274 (Nat.le_of_ble_eq_true rfl) rfl (by decide) (by decide) ?_
  refine ev_aload_n rfl ?_
  refine ev_getf (r := 42) (v := 0) (hS86.lt (by decide)) (hS86.fam (by decide) (by decide)) ft12_9 ((jw_ne e86 (Or.inl (by decide))).trans ((jw_ne e85 (Or.inl (by decide))).trans ((jw_ne e84 (Or.inl (by decide))).trans ((jw_ne e83 (Or.inl (by decide))).trans ((jw_ne e82 (Or.inl (by decide))).trans ((jw_ne e81 (Or.inl (by decide))).trans ((jw_ne e80 (Or.inl (by decide))).trans ((jw_ne e79 (Or.inl (by decide))).trans ((jw_ne e78 (Or.inl (by decide))).trans ((jw_ne e77 (Or.inl (by decide))).trans ((jw_ne e76 (Or.inl (by decide))).trans ((jw_ne e75 (Or.inl (by decide))).trans ((jw_ne e74 (Or.inl (by decide))).trans ((hF.v rfl))))))))))))))) ?_
  refine ev_bipush ?_
  refine ev_icmpne f274_12 (fun c25 => ?_) (fun c25 => absurd c25 (by omega))
  refine ev_aload_n rfl ?_
  refine ev_iconst ?_
  refine ev_putfG (r := 42) (hS86.lt (by decide)) (hS86.fam (by decide) (by decide)) ft12_20 (fun e => absurd e nz12_20) (fun e => absurd e (by decide)) (fun h87 e87 => ?_)
  have hS87 := hS86.wr e87
  refine ev_aload_n rfl ?_
  refine ev_iconst ?_
  refine ev_putfG (r := 42) (hS87.lt (by decide)) (hS87.fam (by decide) (by decide)) ft12_21 (fun e => absurd e nz12_21) (fun e => absurd e (by decide)) (fun h88 e88 => ?_)
  have hS88 := hS87.wr e88
  refine ev_aload_n rfl ?_
  refine ev_in (d := 6) (a := 0) (b := 0) (cd' := c273_0) (m := 3) (L0 := [(2, 42), (9, 0), (9, 0)]) (jcall_v (A := []) (S' := []) (r := 42) rfl (hS88.lt (by decide)) (hS88.sh (by decide) rfl).1 (Nat.le_of_ble_eq_true rfl)) (by decide) ml273 pp273 (Nat.le_of_ble_eq_true rfl) rfl (by decide) (by decide) ?_
  refine ev_iconst ?_
  refine ev_istore_n (L' := [(2, 42), (0, 0), (9, 0)]) (Nat.le_of_ble_eq_true rfl) rfl ?_
  refine ev_aload_n rfl ?_
  refine ev_iconst ?_
  refine ev_putfG (r := 42) (hS88.lt (by decide)) (hS88.fam (by decide) (by decide)) ft12_19 (fun e => absurd e nz12_19) (fun e => absurd e (by decide)) (fun h89 e89 => ?_)
  have hS89 := hS88.wr e89
  refine ev_aload_n rfl ?_
  refine ev_getf (r := 42) (v := 0) (hS89.lt (by decide)) (hS89.fam (by decide) (by decide)) ft12_19 (jw_eq e89) ?_
  refine ev_bipush ?_
  refine ev_icmpge f273_112 (fun c26 => absurd c26 (by omega)) (fun c26 => ?_)
  refine ev_aload_n rfl ?_
  refine ev_iload_n rfl ?_
  refine ev_in (d := 5) (a := 0) (b := 0) (cd' := c264_0) (m := 2) (L0 := [(2, 42), (0, 0)]) (jcall_v (A := [(0, 0)]) (S' := []) (r := 42) rfl (hS89.lt (by decide)) (hS89.sh (by decide) rfl).1 (Nat.le_of_ble_eq_true rfl)) (by decide) ml264 pp264 (Nat.le_of_ble_eq_true rfl) rfl (by decide) (by decide) ?_
  refine ev_iload_n rfl ?_
  refine ev_aload_n rfl ?_
  refine ev_getf (r := 42) (v := 0) (hS89.lt (by decide)) (hS89.fam (by decide) (by decide)) ft12_17 ((jw_ne e89 (Or.inr (by decide))).trans ((jw_ne e88 (Or.inr (by decide))).trans ((jw_ne e87 (Or.inr (by decide))).trans ((jw_ne e86 (Or.inl (by decide))).trans ((jw_ne e85 (Or.inl (by decide))).trans ((jw_ne e84 (Or.inl (by decide))).trans ((jw_ne e83 (Or.inl (by decide))).trans ((jw_ne e82 (Or.inl (by decide))).trans ((jw_ne e81 (Or.inl (by decide))).trans ((jw_ne e80 (Or.inl (by decide))).trans ((jw_ne e79 (Or.inl (by decide))).trans ((jw_ne e78 (Or.inl (by decide))).trans ((jw_ne e77 (Or.inl (by decide))).trans ((jw_ne e76 (Or.inl (by decide))).trans ((jw_ne e75 (Or.inl (by decide))).trans ((jw_ne e74 (Or.inl (by decide))).trans ((hF.v rfl)))))))))))))))))) ?_
  refine ev_icmpge f264_17 (fun c27 => ?_) (fun c27 => absurd c27 (by omega))
  refine ev_iconst ?_
  refine ev_ret rfl (by decide) (by decide) ?_
  show jEv _ _ _ _ _ _ _ (_, [(2, 42), (0, 0), (9, 0)], [(0, (-1))], _, _, _)
  refine ev_bipush ?_
  refine ev_aload_n rfl ?_
  refine ev_getf (r := 42) (v := 0) (hS89.lt (by decide)) (hS89.fam (by decide) (by decide)) ft12_19 (jw_eq e89) ?_
  refine ev_iadd (r := 65) (by decide) ?_
  refine ev_icmpne f273_112 (fun c28 => ?_) (fun c28 => absurd c28 (by omega))
  refine ev_aload_n rfl ?_
  refine ev_iload_n rfl ?_
  refine ev_iconst ?_
  refine ev_iconst ?_
  refine ev_iconst ?_
  refine ev_in (d := 5) (a := 0) (b := 0) (cd' := c272_0) (m := 7) (L0 := [(2, 42), (0, 0), (0, 0), (0, 0), (0, 1), (9, 0), (9, 0)]) (jcall_v (A := [(0, 1), (0, 0), (0, 0), (0, 0)]) (S' := []) (r := 42) rfl (hS89.lt (by decide)) (hS89.sh (by decide) rfl).1 (Nat.le_of_ble_eq_true rfl)) (by decide) ml272 pp272 (Nat.le_of_ble_eq_true rfl) rfl (by decide) (by decide) ?_
  refine ev_aload_n rfl ?_
  refine ev_iload_n rfl ?_
  refine ev_in (d := 4) (a := 0) (b := 0) (cd' := c264_0) (m := 2) (L0 := [(2, 42), (0, 0)]) (jcall_v (A := [(0, 0)]) (S' := []) (r := 42) rfl (hS89.lt (by decide)) (hS89.sh (by decide) rfl).1 (Nat.le_of_ble_eq_true rfl)) (by decide) ml264 pp264 (Nat.le_of_ble_eq_true rfl) rfl (by decide) (by decide) ?_
  refine ev_iload_n rfl ?_
  refine ev_aload_n rfl ?_
  refine ev_getf (r := 42) (v := 0) (hS89.lt (by decide)) (hS89.fam (by decide) (by decide)) ft12_17 ((jw_ne e89 (Or.inr (by decide))).trans ((jw_ne e88 (Or.inr (by decide))).trans ((jw_ne e87 (Or.inr (by decide))).trans ((jw_ne e86 (Or.inl (by decide))).trans ((jw_ne e85 (Or.inl (by decide))).trans ((jw_ne e84 (Or.inl (by decide))).trans ((jw_ne e83 (Or.inl (by decide))).trans ((jw_ne e82 (Or.inl (by decide))).trans ((jw_ne e81 (Or.inl (by decide))).trans ((jw_ne e80 (Or.inl (by decide))).trans ((jw_ne e79 (Or.inl (by decide))).trans ((jw_ne e78 (Or.inl (by decide))).trans ((jw_ne e77 (Or.inl (by decide))).trans ((jw_ne e76 (Or.inl (by decide))).trans ((jw_ne e75 (Or.inl (by decide))).trans ((jw_ne e74 (Or.inl (by decide))).trans ((hF.v rfl)))))))))))))))))) ?_
  refine ev_icmpge f264_17 (fun c29 => ?_) (fun c29 => absurd c29 (by omega))
  refine ev_iconst ?_
  refine ev_ret rfl (by decide) (by decide) ?_
  show jEv _ _ _ _ _ _ _ (_, [(2, 42), (0, 0), (0, 0), (0, 0), (0, 1), (9, 0), (9, 0)], [(0, (-1))], _, _, _)
  refine ev_istore (L' := [(2, 42), (0, 0), (0, 0), (0, 0), (0, 1), (0, (-1)), (9, 0)]) (Nat.le_of_ble_eq_true rfl) rfl ?_
  refine ev_iload rfl ?_
  refine ev_bipush ?_
  refine ev_icmpne f272_24 (fun c30 => ?_) (fun c30 => absurd c30 (by omega))
  refine ev_iload rfl ?_
  refine ev_bipush ?_
  refine ev_icmpne f272_41 (fun c31 => ?_) (fun c31 => absurd c31 (by omega))
  refine ev_iload rfl ?_
  refine ev_bipush ?_
  refine ev_icmpeq f272_56 (fun c32 => absurd c32 (by omega)) (fun c32 => ?_)
  refine ev_aload_n rfl ?_
  refine ev_iload_n rfl ?_
  refine ev_in (d := 4) (a := 0) (b := 0) (cd' := c265_0) (m := 2) (L0 := [(2, 42), (0, 0)]) (jcall_v (A := [(0, 0)]) (S' := []) (r := 42) rfl (hS89.lt (by decide)) (hS89.sh (by decide) rfl).1 (Nat.le_of_ble_eq_true rfl)) (by decide) ml265 pp265 (Nat.le_of_ble_eq_true rfl) rfl (by decide) (by decide) ?_
  refine ev_aload_n rfl ?_
  refine ev_iload_n rfl ?_
  refine ev_in (d := 3) (a := 0) (b := 0) (cd' := c264_0) (m := 2) (L0 := [(2, 42), (0, 0)]) (jcall_v (A := [(0, 0)]) (S' := []) (r := 42) rfl (hS89.lt (by decide)) (hS89.sh (by decide) rfl).1 (Nat.le_of_ble_eq_true rfl)) (by decide) ml264 pp264 (Nat.le_of_ble_eq_true rfl) rfl (by decide) (by decide) ?_
  refine ev_iload_n rfl ?_
  refine ev_aload_n rfl ?_
  refine ev_getf (r := 42) (v := 0) (hS89.lt (by decide)) (hS89.fam (by decide) (by decide)) ft12_17 ((jw_ne e89 (Or.inr (by decide))).trans ((jw_ne e88 (Or.inr (by decide))).trans ((jw_ne e87 (Or.inr (by decide))).trans ((jw_ne e86 (Or.inl (by decide))).trans ((jw_ne e85 (Or.inl (by decide))).trans ((jw_ne e84 (Or.inl (by decide))).trans ((jw_ne e83 (Or.inl (by decide))).trans ((jw_ne e82 (Or.inl (by decide))).trans ((jw_ne e81 (Or.inl (by decide))).trans ((jw_ne e80 (Or.inl (by decide))).trans ((jw_ne e79 (Or.inl (by decide))).trans ((jw_ne e78 (Or.inl (by decide))).trans ((jw_ne e77 (Or.inl (by decide))).trans ((jw_ne e76 (Or.inl (by decide))).trans ((jw_ne e75 (Or.inl (by decide))).trans ((jw_ne e74 (Or.inl (by decide))).trans ((hF.v rfl)))))))))))))))))) ?_
  refine ev_icmpge f264_17 (fun c33 => ?_) (fun c33 => absurd c33 (by omega))
  refine ev_iconst ?_
  refine ev_ret rfl (by decide) (by decide) ?_
  show jEv _ _ _ _ _ _ _ (_, [(2, 42), (0, 0)], [(0, (-1))], _, _, _)
  refine ev_bipush ?_
  refine ev_bipush ?_
  refine ev_in (d := 3) (a := 0) (b := 0) (cd' := c242_0) (m := 3) (L0 := [(0, (-1)), (0, 48), (0, 57)]) (jcall_s (A := [(0, 57), (0, 48), (0, (-1))]) (S' := []) (by decide) rfl (Nat.le_of_ble_eq_true rfl)) (by decide) ml242 pp242 (Nat.le_of_ble_eq_true rfl) rfl (by decide) (by decide) ?_
  refine ev_iload_n rfl ?_
  refine ev_iload_n rfl ?_
  refine ev_icmplt f242_14 (fun c34 => ?_) (fun c34 => absurd c34 (by omega))
  refine ev_iconst ?_
  refine ev_ret rfl (by decide) (by decide) ?_
  show jEv _ _ _ _ _ _ _ (_, [(2, 42), (0, 0)], [(0, 0)], _, _, _)
  refine ev_ret rfl (by decide) (by decide) ?_
  show jEv _ _ _ _ _ _ _ (_, [(2, 42), (0, 0), (0, 0), (0, 0), (0, 1), (0, (-1)), (9, 0)], [(0, 0)], _, _, _)
  refine ev_ifeq f272_64 (fun c35 => ?_) (fun c35 => absurd c35 (by omega))
  refine ev_iload rfl ?_
  refine ev_bipush ?_
  refine ev_isub (r := (-66)) (by decide) ?_
  refine ev_istore (L' := [(2, 42), (0, 0), (0, 0), (0, 0), (0, 1), (0, (-1)), (0, (-66))]) (Nat.le_of_ble_eq_true rfl) rfl ?_
  refine ev_iload rfl ?_
  refine ev_iconst ?_
  refine ev_aload_n rfl ?_
  refine ev_getf (r := 42) (v := 0) (hS89.lt (by decide)) (hS89.fam (by decide) (by decide)) ft12_19 (jw_eq e89) ?_
  refine ev_iconst ?_
  refine ev_isub (r := (-1)) (by decide) ?_
  refine ev_in (d := 4) (a := 0) (b := 0) (cd' := c242_0) (m := 3) (L0 := [(0, (-66)), (0, 0), (0, (-1))]) (jcall_s (A := [(0, (-1)), (0, 0), (0, (-66))]) (S' := []) (by decide) rfl (Nat.le_of_ble_eq_true rfl)) (by decide) ml242 pp242 (Nat.le_of_ble_eq_true rfl) rfl (by decide) (by decide) ?_
  refine ev_iload_n rfl ?_
  refine ev_iload_n rfl ?_
  refine ev_icmplt f242_14 (fun c36 => ?_) (fun c36 => absurd c36 (by omega))
  refine ev_iconst ?_
  refine ev_ret rfl (by decide) (by decide) ?_
  show jEv _ _ _ _ _ _ _ (_, [(2, 42), (0, 0), (0, 0), (0, 0), (0, 1), (0, (-1)), (0, (-66))], [(0, 0)], _, _, _)
  refine ev_ifne f272_92 (fun c37 => absurd c37 (by omega)) (fun c37 => ?_)
  refine ev_aload_n rfl ?_
  refine ev_iload_n rfl ?_
  refine ev_in (d := 4) (a := 0) (b := 0) (cd' := c266_0) (m := 2) (L0 := [(2, 42), (0, 0)]) (jcall_v (A := [(0, 0)]) (S' := []) (r := 42) rfl (hS89.lt (by decide)) (hS89.sh (by decide) rfl).1 (Nat.le_of_ble_eq_true rfl)) (by decide) ml266 pp266 (Nat.le_of_ble_eq_true rfl) rfl (by decide) (by decide) ?_
  refine ev_aload_n rfl ?_
  refine ev_iload_n rfl ?_
  refine ev_putfG (r := 42) (hS89.lt (by decide)) (hS89.fam (by decide) (by decide)) ft12_20 (fun e => absurd e nz12_20) (fun e => absurd e (by decide)) (fun h90 e90 => ?_)
  have hS90 := hS89.wr e90
  refine ev_iconst ?_
  refine ev_ret rfl (by decide) (by decide) ?_
  show jEv _ _ _ _ _ _ _ (_, [(2, 42), (0, 0), (0, 0), (0, 0), (0, 1), (0, (-1)), (0, (-66))], [(0, (-1))], _, _, _)
  refine ev_ret rfl (by decide) (by decide) ?_
  show jEv _ _ _ _ _ _ _ (_, [(2, 42), (0, 0), (9, 0)], [(0, (-1))], _, _, _)
  refine ev_istore_n (L' := [(2, 42), (0, (-1)), (9, 0)]) (Nat.le_of_ble_eq_true rfl) rfl ?_
  refine ev_iload_n rfl ?_
  refine ev_ifge f273_129 (fun c38 => absurd c38 (by omega)) (fun c38 => ?_)
  refine ev_iconst ?_
  refine ev_goto f273_146 ?_
  refine ev_ret rfl (by decide) (by decide) ?_
  show jEv _ _ _ _ _ _ _ (_, [(2, 42), (9, 0)], [(0, (-1))], _, _, _)
  refine ev_istore_n (L' := [(2, 42), (0, (-1))]) (Nat.le_of_ble_eq_true rfl) rfl ?_
  refine ev_aload_n rfl ?_
  refine ev_iconst ?_
  refine ev_putfG (r := 42) (hS90.lt (by decide)) (hS90.fam (by decide) (by decide)) ft12_17 (fun e => absurd e nz12_17) (fun e => absurd e (by decide)) (fun h91 e91 => ?_)
  have hS91 := hS90.wr e91
  refine ev_iload_n rfl ?_
  refine ev_ifge f274_44 (fun c39 => absurd c39 (by omega)) (fun c39 => ?_)
  refine ev_bipush ?_
  refine ev_aload_n rfl ?_
  refine ev_getf (r := 42) (v := 0) (hS91.lt (by decide)) (hS91.fam (by decide) (by decide)) ft12_20 ((jw_ne e91 (Or.inr (by decide))).trans (jw_eq e90)) ?_
  refine ev_isub (r := (-100)) (by decide) ?_
  refine ev_ret rfl (by decide) (by decide) ?_
  show jEv _ _ _ _ _ _ _ (_, [(2, (-2)), (2, 0), (2, 42), (0, 0)], [(0, (-100)), (0, (-100))], _, _, _)
  refine ev_icmpeq f384_2190 (fun c40 => ?_) (fun c40 => absurd c40 (by omega))
  exact law_tail _

/-! node -/
set_option maxHeartbeats 4000000 in
theorem case_8 {xs : Nat → Int} (hr : ∀ j, -2147483648 ≤ xs j ∧ xs j < 2147483648) {h : JH} (hF : Fresh h) : jEv (jOk 8) (some 6) xs c384_0 600000 7302250 (fun v _ => v = some (0, 1)) (c384_497, [(2, -2), (2, 0), (2, 42), (0, 0)], [], h, 83, 23761) := by
  have r1 := hr 1
  have r2 := hr 2
  have r3 := hr 3
  have r4 := hr 4
  have r5 := hr 5
  refine ev_aload_n rfl ?_
  refine ev_aload_n rfl ?_
  refine ev_iload_n rfl ?_
  refine ev_iconst ?_
  refine ev_iadd (r := 1) (by decide) ?_
  refine ev_sald (j := 1) (v := (xs 1)) rfl rfl rfl ?_
  refine ev_aload_n rfl ?_
  refine ev_iload_n rfl ?_
  refine ev_iconst ?_
  refine ev_iadd (r := 2) (by decide) ?_
  refine ev_sald (j := 2) (v := (xs 2)) rfl rfl rfl ?_
  refine ev_aload_n rfl ?_
  refine ev_iload_n rfl ?_
  refine ev_iconst ?_
  refine ev_iadd (r := 3) (by decide) ?_
  refine ev_sald (j := 3) (v := (xs 3)) rfl rfl rfl ?_
  refine ev_in (d := 7) (a := 0) (b := 0) (cd' := c174_0) (m := 5) (L0 := [(2, 0), (0, (xs 1)), (0, (xs 2)), (0, (xs 3)), (9, 0)]) (jcall_v (A := [(0, (xs 3)), (0, (xs 2)), (0, (xs 1))]) (S' := []) (r := 0) rfl (hF.1.lt (by decide)) (hF.1.sh (by decide) rfl).1 (Nat.le_of_ble_eq_true rfl)) (by decide) ml174 pp174 (Nat.le_of_ble_eq_true rfl) rfl (by decide) (by decide) ?_
  refine ev_aload_n rfl ?_
  refine ev_iload_n rfl ?_
  refine ev_in (d := 6) (a := 0) (b := 0) (cd' := c219_0) (m := 2) (L0 := [(2, 0), (0, (xs 1))]) (jcall_v (A := [(0, (xs 1))]) (S' := []) (r := 0) rfl (hF.1.lt (by decide)) (hF.1.sh (by decide) rfl).1 (Nat.le_of_ble_eq_true rfl)) (by decide) ml219 pp219 (Nat.le_of_ble_eq_true rfl) rfl (by decide) (by decide) ?_
  refine ev_iload_n rfl ?_
  refine ev_iflt f219_12 (fun c1 => ?_) (fun c1 => ?_)
  · refine ev_aconst_null ?_
    refine ev_goto f219_22 ?_
    refine ev_ret rfl (by decide) (by decide) ?_
    show jEv _ _ _ _ _ _ _ (_, [(2, 0), (0, (xs 1)), (0, (xs 2)), (0, (xs 3)), (9, 0)], [(2, (-1))], _, _, _)
    refine ev_astore (L' := [(2, 0), (0, (xs 1)), (0, (xs 2)), (0, (xs 3)), (2, (-1))]) (Nat.le_of_ble_eq_true rfl) rfl ?_
    refine ev_aload rfl ?_
    refine ev_ifnonnull f174_15 (fun c2 => absurd c2 (by decide)) (fun c2 => ?_)
    refine ev_ldc ?_
    refine ev_ret rfl (by decide) (by decide) ?_
    show jEv _ _ _ _ _ _ _ (_, [(2, (-2)), (2, 0), (2, 42), (0, 0)], [(0, (-2000000000))], _, _, _)
    refine ev_aload_n rfl ?_
    refine ev_aload_n rfl ?_
    refine ev_iload_n rfl ?_
    refine ev_iconst ?_
    refine ev_iadd (r := 1) (by decide) ?_
    refine ev_sald (j := 1) (v := (xs 1)) rfl rfl rfl ?_
    refine ev_aload_n rfl ?_
    refine ev_iload_n rfl ?_
    refine ev_iconst ?_
    refine ev_iadd (r := 2) (by decide) ?_
    refine ev_sald (j := 2) (v := (xs 2)) rfl rfl rfl ?_
    refine ev_aload_n rfl ?_
    refine ev_iload_n rfl ?_
    refine ev_iconst ?_
    refine ev_iadd (r := 3) (by decide) ?_
    refine ev_sald (j := 3) (v := (xs 3)) rfl rfl rfl ?_
    refine ev_in (d := 7) (a := 0) (b := 0) (cd' := c275_0) (m := 6) (L0 := [(2, 42), (0, (xs 1)), (0, (xs 2)), (0, (xs 3)), (9, 0), (9, 0)]) (jcall_v (A := [(0, (xs 3)), (0, (xs 2)), (0, (xs 1))]) (S' := [(0, (-2000000000))]) (r := 42) rfl (hF.1.lt (by decide)) (hF.1.sh (by decide) rfl).1 (Nat.le_of_ble_eq_true rfl)) (by decide) ml275 pp275 (Nat.le_of_ble_eq_true rfl) rfl (by decide) (by decide) ?_
    refine ev_aload_n rfl ?_
    refine ev_iload_n rfl ?_
    refine ev_in (d := 6) (a := 0) (b := 0) (cd' := c261_0) (m := 2) (L0 := [(2, 42), (0, (xs 1))]) (jcall_v (A := [(0, (xs 1))]) (S' := []) (r := 42) rfl (hF.1.lt (by decide)) (hF.1.sh (by decide) rfl).1 (Nat.le_of_ble_eq_true rfl)) (by decide) ml261 pp261 (Nat.le_of_ble_eq_true rfl) rfl (by decide) (by decide) ?_
    refine ev_iload_n rfl ?_
    refine ev_iconst ?_
    refine ev_aload_n rfl ?_
    refine ev_getf (r := 42) (v := 0) (hF.1.lt (by decide)) (hF.1.fam (by decide) (by decide)) ft12_9 ((hF.v rfl)) ?_
    refine ev_iconst ?_
    refine ev_isub (r := (-1)) (by decide) ?_
    refine ev_in (d := 5) (a := 0) (b := 0) (cd' := c242_0) (m := 3) (L0 := [(0, (xs 1)), (0, 0), (0, (-1))]) (jcall_s (A := [(0, (-1)), (0, 0), (0, (xs 1))]) (S' := []) (by decide) rfl (Nat.le_of_ble_eq_true rfl)) (by decide) ml242 pp242 (Nat.le_of_ble_eq_true rfl) rfl (by decide) (by decide) ?_
    refine ev_iload_n rfl ?_
    refine ev_iload_n rfl ?_
    refine ev_icmplt f242_14 (fun c3 => ?_) (fun c3 => absurd c3 (by omega))
    refine ev_iconst ?_
    refine ev_ret rfl (by decide) (by decide) ?_
    show jEv _ _ _ _ _ _ _ (_, [(2, 42), (0, (xs 1))], [(0, 0)], _, _, _)
    refine ev_ret rfl (by decide) (by decide) ?_
    show jEv _ _ _ _ _ _ _ (_, [(2, 42), (0, (xs 1)), (0, (xs 2)), (0, (xs 3)), (9, 0), (9, 0)], [(0, 0)], _, _, _)
    refine ev_ifne f275_12 (fun c4 => absurd c4 (by omega)) (fun c4 => ?_)
    refine ev_ldc_w ?_
    refine ev_ret rfl (by decide) (by decide) ?_
    show jEv _ _ _ _ _ _ _ (_, [(2, (-2)), (2, 0), (2, 42), (0, 0)], [(0, (-2000000000)), (0, (-2000000000))], _, _, _)
    refine ev_icmpeq f384_2190 (fun c5 => ?_) (fun c5 => absurd c5 (by omega))
    exact law_tail _
  · refine ev_iload_n rfl ?_
    refine ev_aload_n rfl ?_
    refine ev_getf (r := 0) (v := 0) (hF.1.lt (by decide)) (hF.1.fam (by decide) (by decide)) ft11_3 ((hF.v rfl)) ?_
    refine ev_icmplt f219_16 (fun c6 => absurd c6 (by omega)) (fun c6 => ?_)
    refine ev_aconst_null ?_
    refine ev_goto f219_22 ?_
    refine ev_ret rfl (by decide) (by decide) ?_
    show jEv _ _ _ _ _ _ _ (_, [(2, 0), (0, (xs 1)), (0, (xs 2)), (0, (xs 3)), (9, 0)], [(2, (-1))], _, _, _)
    refine ev_astore (L' := [(2, 0), (0, (xs 1)), (0, (xs 2)), (0, (xs 3)), (2, (-1))]) (Nat.le_of_ble_eq_true rfl) rfl ?_
    refine ev_aload rfl ?_
    refine ev_ifnonnull f174_15 (fun c7 => absurd c7 (by decide)) (fun c7 => ?_)
    refine ev_ldc ?_
    refine ev_ret rfl (by decide) (by decide) ?_
    show jEv _ _ _ _ _ _ _ (_, [(2, (-2)), (2, 0), (2, 42), (0, 0)], [(0, (-2000000000))], _, _, _)
    refine ev_aload_n rfl ?_
    refine ev_aload_n rfl ?_
    refine ev_iload_n rfl ?_
    refine ev_iconst ?_
    refine ev_iadd (r := 1) (by decide) ?_
    refine ev_sald (j := 1) (v := (xs 1)) rfl rfl rfl ?_
    refine ev_aload_n rfl ?_
    refine ev_iload_n rfl ?_
    refine ev_iconst ?_
    refine ev_iadd (r := 2) (by decide) ?_
    refine ev_sald (j := 2) (v := (xs 2)) rfl rfl rfl ?_
    refine ev_aload_n rfl ?_
    refine ev_iload_n rfl ?_
    refine ev_iconst ?_
    refine ev_iadd (r := 3) (by decide) ?_
    refine ev_sald (j := 3) (v := (xs 3)) rfl rfl rfl ?_
    refine ev_in (d := 7) (a := 0) (b := 0) (cd' := c275_0) (m := 6) (L0 := [(2, 42), (0, (xs 1)), (0, (xs 2)), (0, (xs 3)), (9, 0), (9, 0)]) (jcall_v (A := [(0, (xs 3)), (0, (xs 2)), (0, (xs 1))]) (S' := [(0, (-2000000000))]) (r := 42) rfl (hF.1.lt (by decide)) (hF.1.sh (by decide) rfl).1 (Nat.le_of_ble_eq_true rfl)) (by decide) ml275 pp275 (Nat.le_of_ble_eq_true rfl) rfl (by decide) (by decide) ?_
    refine ev_aload_n rfl ?_
    refine ev_iload_n rfl ?_
    refine ev_in (d := 6) (a := 0) (b := 0) (cd' := c261_0) (m := 2) (L0 := [(2, 42), (0, (xs 1))]) (jcall_v (A := [(0, (xs 1))]) (S' := []) (r := 42) rfl (hF.1.lt (by decide)) (hF.1.sh (by decide) rfl).1 (Nat.le_of_ble_eq_true rfl)) (by decide) ml261 pp261 (Nat.le_of_ble_eq_true rfl) rfl (by decide) (by decide) ?_
    refine ev_iload_n rfl ?_
    refine ev_iconst ?_
    refine ev_aload_n rfl ?_
    refine ev_getf (r := 42) (v := 0) (hF.1.lt (by decide)) (hF.1.fam (by decide) (by decide)) ft12_9 ((hF.v rfl)) ?_
    refine ev_iconst ?_
    refine ev_isub (r := (-1)) (by decide) ?_
    refine ev_in (d := 5) (a := 0) (b := 0) (cd' := c242_0) (m := 3) (L0 := [(0, (xs 1)), (0, 0), (0, (-1))]) (jcall_s (A := [(0, (-1)), (0, 0), (0, (xs 1))]) (S' := []) (by decide) rfl (Nat.le_of_ble_eq_true rfl)) (by decide) ml242 pp242 (Nat.le_of_ble_eq_true rfl) rfl (by decide) (by decide) ?_
    refine ev_iload_n rfl ?_
    refine ev_iload_n rfl ?_
    refine ev_icmplt f242_14 (fun c8 => absurd c8 (by omega)) (fun c8 => ?_)
    refine ev_iload_n rfl ?_
    refine ev_iload_n rfl ?_
    refine ev_icmpgt f242_14 (fun c9 => ?_) (fun c9 => absurd c9 (by omega))
    refine ev_iconst ?_
    refine ev_ret rfl (by decide) (by decide) ?_
    show jEv _ _ _ _ _ _ _ (_, [(2, 42), (0, (xs 1))], [(0, 0)], _, _, _)
    refine ev_ret rfl (by decide) (by decide) ?_
    show jEv _ _ _ _ _ _ _ (_, [(2, 42), (0, (xs 1)), (0, (xs 2)), (0, (xs 3)), (9, 0), (9, 0)], [(0, 0)], _, _, _)
    refine ev_ifne f275_12 (fun c10 => absurd c10 (by omega)) (fun c10 => ?_)
    refine ev_ldc_w ?_
    refine ev_ret rfl (by decide) (by decide) ?_
    show jEv _ _ _ _ _ _ _ (_, [(2, (-2)), (2, 0), (2, 42), (0, 0)], [(0, (-2000000000)), (0, (-2000000000))], _, _, _)
    refine ev_icmpeq f384_2190 (fun c11 => ?_) (fun c11 => absurd c11 (by omega))
    exact law_tail _

/-! change -/
set_option maxHeartbeats 4000000 in
theorem case_9 {xs : Nat → Int} (hr : ∀ j, -2147483648 ≤ xs j ∧ xs j < 2147483648) {h : JH} (hF : Fresh h) : jEv (jOk 8) (some 6) xs c384_0 600000 7302250 (fun v _ => v = some (0, 1)) (c384_540, [(2, -2), (2, 0), (2, 42), (0, 0)], [], h, 83, 23761) := by
  have r1 := hr 1
  have r2 := hr 2
  have r3 := hr 3
  have r4 := hr 4
  have r5 := hr 5
  refine ev_aload_n rfl ?_
  refine ev_aload_n rfl ?_
  refine ev_iload_n rfl ?_
  refine ev_iconst ?_
  refine ev_iadd (r := 1) (by decide) ?_
  refine ev_sald (j := 1) (v := (xs 1)) rfl rfl rfl ?_
  refine ev_aload_n rfl ?_
  refine ev_iload_n rfl ?_
  refine ev_iconst ?_
  refine ev_iadd (r := 2) (by decide) ?_
  refine ev_sald (j := 2) (v := (xs 2)) rfl rfl rfl ?_
  refine ev_aload_n rfl ?_
  refine ev_iload_n rfl ?_
  refine ev_iconst ?_
  refine ev_iadd (r := 3) (by decide) ?_
  refine ev_sald (j := 3) (v := (xs 3)) rfl rfl rfl ?_
  refine ev_aload_n rfl ?_
  refine ev_iload_n rfl ?_
  refine ev_iconst ?_
  refine ev_iadd (r := 4) (by decide) ?_
  refine ev_sald (j := 4) (v := (xs 4)) rfl rfl rfl ?_
  refine ev_in (d := 7) (a := 0) (b := 0) (cd' := c175_0) (m := 7) (L0 := [(2, 0), (0, (xs 1)), (0, (xs 2)), (0, (xs 3)), (0, (xs 4)), (9, 0), (9, 0)]) (jcall_v (A := [(0, (xs 4)), (0, (xs 3)), (0, (xs 2)), (0, (xs 1))]) (S' := []) (r := 0) rfl (hF.1.lt (by decide)) (hF.1.sh (by decide) rfl).1 (Nat.le_of_ble_eq_true rfl)) (by decide) ml175 pp175 (Nat.le_of_ble_eq_true rfl) rfl (by decide) (by decide) ?_
  refine ev_aload_n rfl ?_
  refine ev_iload_n rfl ?_
  refine ev_in (d := 6) (a := 0) (b := 0) (cd' := c219_0) (m := 2) (L0 := [(2, 0), (0, (xs 1))]) (jcall_v (A := [(0, (xs 1))]) (S' := []) (r := 0) rfl (hF.1.lt (by decide)) (hF.1.sh (by decide) rfl).1 (Nat.le_of_ble_eq_true rfl)) (by decide) ml219 pp219 (Nat.le_of_ble_eq_true rfl) rfl (by decide) (by decide) ?_
  refine ev_iload_n rfl ?_
  refine ev_iflt f219_12 (fun c1 => ?_) (fun c1 => ?_)
  · refine ev_aconst_null ?_
    refine ev_goto f219_22 ?_
    refine ev_ret rfl (by decide) (by decide) ?_
    show jEv _ _ _ _ _ _ _ (_, [(2, 0), (0, (xs 1)), (0, (xs 2)), (0, (xs 3)), (0, (xs 4)), (9, 0), (9, 0)], [(2, (-1))], _, _, _)
    refine ev_astore (L' := [(2, 0), (0, (xs 1)), (0, (xs 2)), (0, (xs 3)), (0, (xs 4)), (2, (-1)), (9, 0)]) (Nat.le_of_ble_eq_true rfl) rfl ?_
    refine ev_aload rfl ?_
    refine ev_ifnull f175_33 (fun c2 => ?_) (fun c2 => absurd c2 (by decide))
    refine ev_ldc ?_
    refine ev_ret rfl (by decide) (by decide) ?_
    show jEv _ _ _ _ _ _ _ (_, [(2, (-2)), (2, 0), (2, 42), (0, 0)], [(0, (-2000000000))], _, _, _)
    refine ev_aload_n rfl ?_
    refine ev_aload_n rfl ?_
    refine ev_iload_n rfl ?_
    refine ev_iconst ?_
    refine ev_iadd (r := 1) (by decide) ?_
    refine ev_sald (j := 1) (v := (xs 1)) rfl rfl rfl ?_
    refine ev_aload_n rfl ?_
    refine ev_iload_n rfl ?_
    refine ev_iconst ?_
    refine ev_iadd (r := 2) (by decide) ?_
    refine ev_sald (j := 2) (v := (xs 2)) rfl rfl rfl ?_
    refine ev_aload_n rfl ?_
    refine ev_iload_n rfl ?_
    refine ev_iconst ?_
    refine ev_iadd (r := 3) (by decide) ?_
    refine ev_sald (j := 3) (v := (xs 3)) rfl rfl rfl ?_
    refine ev_aload_n rfl ?_
    refine ev_iload_n rfl ?_
    refine ev_iconst ?_
    refine ev_iadd (r := 4) (by decide) ?_
    refine ev_sald (j := 4) (v := (xs 4)) rfl rfl rfl ?_
    refine ev_in (d := 7) (a := 0) (b := 0) (cd' := c281_0) (m := 8) (L0 := [(2, 42), (0, (xs 1)), (0, (xs 2)), (0, (xs 3)), (0, (xs 4)), (9, 0), (9, 0), (9, 0)]) (jcall_v (A := [(0, (xs 4)), (0, (xs 3)), (0, (xs 2)), (0, (xs 1))]) (S' := [(0, (-2000000000))]) (r := 42) rfl (hF.1.lt (by decide)) (hF.1.sh (by decide) rfl).1 (Nat.le_of_ble_eq_true rfl)) (by decide) ml281 pp281 (Nat.le_of_ble_eq_true rfl) rfl (by decide) (by decide) ?_
    refine ev_aload_n rfl ?_
    refine ev_iload_n rfl ?_
    refine ev_iload_n rfl ?_
    refine ev_iload_n rfl ?_
    refine ev_in (d := 6) (a := 0) (b := 0) (cd' := c278_0) (m := 4) (L0 := [(2, 42), (0, (xs 1)), (0, (xs 2)), (0, (xs 3))]) (jcall_v (A := [(0, (xs 3)), (0, (xs 2)), (0, (xs 1))]) (S' := []) (r := 42) rfl (hF.1.lt (by decide)) (hF.1.sh (by decide) rfl).1 (Nat.le_of_ble_eq_true rfl)) (by decide) ml278 pp278 (Nat.le_of_ble_eq_true rfl) rfl (by decide) (by decide) ?_
    refine ev_iload_n rfl ?_
    refine ev_iconst ?_
    refine ev_icmpne f278_36 (fun c3 => ?_) (fun c3 => ?_)
    · refine ev_aload_n rfl ?_
      refine ev_iload_n rfl ?_
      refine ev_iload_n rfl ?_
      refine ev_in (d := 5) (a := 0) (b := 0) (cd' := c277_0) (m := 3) (L0 := [(2, 42), (0, (xs 1)), (0, (xs 2))]) (jcall_v (A := [(0, (xs 2)), (0, (xs 1))]) (S' := []) (r := 42) rfl (hF.1.lt (by decide)) (hF.1.sh (by decide) rfl).1 (Nat.le_of_ble_eq_true rfl)) (by decide) ml277 pp277 (Nat.le_of_ble_eq_true rfl) rfl (by decide) (by decide) ?_
      refine ev_aload_n rfl ?_
      refine ev_iload_n rfl ?_
      refine ev_iload_n rfl ?_
      refine ev_in (d := 4) (a := 0) (b := 0) (cd' := c262_0) (m := 3) (L0 := [(2, 42), (0, (xs 1)), (0, (xs 2))]) (jcall_v (A := [(0, (xs 2)), (0, (xs 1))]) (S' := []) (r := 42) rfl (hF.1.lt (by decide)) (hF.1.sh (by decide) rfl).1 (Nat.le_of_ble_eq_true rfl)) (by decide) ml262 pp262 (Nat.le_of_ble_eq_true rfl) rfl (by decide) (by decide) ?_
      refine ev_aload_n rfl ?_
      refine ev_iload_n rfl ?_
      refine ev_in (d := 3) (a := 0) (b := 0) (cd' := c261_0) (m := 2) (L0 := [(2, 42), (0, (xs 1))]) (jcall_v (A := [(0, (xs 1))]) (S' := []) (r := 42) rfl (hF.1.lt (by decide)) (hF.1.sh (by decide) rfl).1 (Nat.le_of_ble_eq_true rfl)) (by decide) ml261 pp261 (Nat.le_of_ble_eq_true rfl) rfl (by decide) (by decide) ?_
      refine ev_iload_n rfl ?_
      refine ev_iconst ?_
      refine ev_aload_n rfl ?_
      refine ev_getf (r := 42) (v := 0) (hF.1.lt (by decide)) (hF.1.fam (by decide) (by decide)) ft12_9 ((hF.v rfl)) ?_
      refine ev_iconst ?_
      refine ev_isub (r := (-1)) (by decide) ?_
      refine ev_in (d := 2) (a := 0) (b := 0) (cd' := c242_0) (m := 3) (L0 := [(0, (xs 1)), (0, 0), (0, (-1))]) (jcall_s (A := [(0, (-1)), (0, 0), (0, (xs 1))]) (S' := []) (by decide) rfl (Nat.le_of_ble_eq_true rfl)) (by decide) ml242 pp242 (Nat.le_of_ble_eq_true rfl) rfl (by decide) (by decide) ?_
      refine ev_iload_n rfl ?_
      refine ev_iload_n rfl ?_
      refine ev_icmplt f242_14 (fun c4 => ?_) (fun c4 => absurd c4 (by omega))
      refine ev_iconst ?_
      refine ev_ret rfl (by decide) (by decide) ?_
      show jEv _ _ _ _ _ _ _ (_, [(2, 42), (0, (xs 1))], [(0, 0)], _, _, _)
      refine ev_ret rfl (by decide) (by decide) ?_
      show jEv _ _ _ _ _ _ _ (_, [(2, 42), (0, (xs 1)), (0, (xs 2))], [(0, 0)], _, _, _)
      refine ev_ifeq f262_28 (fun c5 => ?_) (fun c5 => absurd c5 (by omega))
      refine ev_iconst ?_
      refine ev_ret rfl (by decide) (by decide) ?_
      show jEv _ _ _ _ _ _ _ (_, [(2, 42), (0, (xs 1)), (0, (xs 2))], [(0, 0)], _, _, _)
      refine ev_ifeq f277_28 (fun c6 => ?_) (fun c6 => absurd c6 (by omega))
      refine ev_iconst ?_
      refine ev_ret rfl (by decide) (by decide) ?_
      show jEv _ _ _ _ _ _ _ (_, [(2, 42), (0, (xs 1)), (0, (xs 2)), (0, (xs 3))], [(0, 0)], _, _, _)
      refine ev_ifeq f278_70 (fun c7 => ?_) (fun c7 => absurd c7 (by omega))
      refine ev_iconst ?_
      refine ev_ret rfl (by decide) (by decide) ?_
      show jEv _ _ _ _ _ _ _ (_, [(2, 42), (0, (xs 1)), (0, (xs 2)), (0, (xs 3)), (0, (xs 4)), (9, 0), (9, 0), (9, 0)], [(0, 0)], _, _, _)
      refine ev_ifeq f281_42 (fun c8 => ?_) (fun c8 => absurd c8 (by omega))
      refine ev_ldc_w ?_
      refine ev_ret rfl (by decide) (by decide) ?_
      show jEv _ _ _ _ _ _ _ (_, [(2, (-2)), (2, 0), (2, 42), (0, 0)], [(0, (-2000000000)), (0, (-2000000000))], _, _, _)
      refine ev_icmpeq f384_2190 (fun c9 => ?_) (fun c9 => absurd c9 (by omega))
      exact law_tail _
    · refine ev_aload_n rfl ?_
      refine ev_iload_n rfl ?_
      refine ev_iload_n rfl ?_
      refine ev_in (d := 5) (a := 0) (b := 0) (cd' := c262_0) (m := 3) (L0 := [(2, 42), (0, (xs 1)), (0, (xs 2))]) (jcall_v (A := [(0, (xs 2)), (0, (xs 1))]) (S' := []) (r := 42) rfl (hF.1.lt (by decide)) (hF.1.sh (by decide) rfl).1 (Nat.le_of_ble_eq_true rfl)) (by decide) ml262 pp262 (Nat.le_of_ble_eq_true rfl) rfl (by decide) (by decide) ?_
      refine ev_aload_n rfl ?_
      refine ev_iload_n rfl ?_
      refine ev_in (d := 4) (a := 0) (b := 0) (cd' := c261_0) (m := 2) (L0 := [(2, 42), (0, (xs 1))]) (jcall_v (A := [(0, (xs 1))]) (S' := []) (r := 42) rfl (hF.1.lt (by decide)) (hF.1.sh (by decide) rfl).1 (Nat.le_of_ble_eq_true rfl)) (by decide) ml261 pp261 (Nat.le_of_ble_eq_true rfl) rfl (by decide) (by decide) ?_
      refine ev_iload_n rfl ?_
      refine ev_iconst ?_
      refine ev_aload_n rfl ?_
      refine ev_getf (r := 42) (v := 0) (hF.1.lt (by decide)) (hF.1.fam (by decide) (by decide)) ft12_9 ((hF.v rfl)) ?_
      refine ev_iconst ?_
      refine ev_isub (r := (-1)) (by decide) ?_
      refine ev_in (d := 3) (a := 0) (b := 0) (cd' := c242_0) (m := 3) (L0 := [(0, (xs 1)), (0, 0), (0, (-1))]) (jcall_s (A := [(0, (-1)), (0, 0), (0, (xs 1))]) (S' := []) (by decide) rfl (Nat.le_of_ble_eq_true rfl)) (by decide) ml242 pp242 (Nat.le_of_ble_eq_true rfl) rfl (by decide) (by decide) ?_
      refine ev_iload_n rfl ?_
      refine ev_iload_n rfl ?_
      refine ev_icmplt f242_14 (fun c10 => ?_) (fun c10 => absurd c10 (by omega))
      refine ev_iconst ?_
      refine ev_ret rfl (by decide) (by decide) ?_
      show jEv _ _ _ _ _ _ _ (_, [(2, 42), (0, (xs 1))], [(0, 0)], _, _, _)
      refine ev_ret rfl (by decide) (by decide) ?_
      show jEv _ _ _ _ _ _ _ (_, [(2, 42), (0, (xs 1)), (0, (xs 2))], [(0, 0)], _, _, _)
      refine ev_ifeq f262_28 (fun c11 => ?_) (fun c11 => absurd c11 (by omega))
      refine ev_iconst ?_
      refine ev_ret rfl (by decide) (by decide) ?_
      show jEv _ _ _ _ _ _ _ (_, [(2, 42), (0, (xs 1)), (0, (xs 2)), (0, (xs 3))], [(0, 0)], _, _, _)
      refine ev_ifeq f278_32 (fun c12 => ?_) (fun c12 => absurd c12 (by omega))
      refine ev_iconst ?_
      refine ev_goto f278_71 ?_
      refine ev_ret rfl (by decide) (by decide) ?_
      show jEv _ _ _ _ _ _ _ (_, [(2, 42), (0, (xs 1)), (0, (xs 2)), (0, (xs 3)), (0, (xs 4)), (9, 0), (9, 0), (9, 0)], [(0, 0)], _, _, _)
      refine ev_ifeq f281_42 (fun c13 => ?_) (fun c13 => absurd c13 (by omega))
      refine ev_ldc_w ?_
      refine ev_ret rfl (by decide) (by decide) ?_
      show jEv _ _ _ _ _ _ _ (_, [(2, (-2)), (2, 0), (2, 42), (0, 0)], [(0, (-2000000000)), (0, (-2000000000))], _, _, _)
      refine ev_icmpeq f384_2190 (fun c14 => ?_) (fun c14 => absurd c14 (by omega))
      exact law_tail _
  · refine ev_iload_n rfl ?_
    refine ev_aload_n rfl ?_
    refine ev_getf (r := 0) (v := 0) (hF.1.lt (by decide)) (hF.1.fam (by decide) (by decide)) ft11_3 ((hF.v rfl)) ?_
    refine ev_icmplt f219_16 (fun c15 => absurd c15 (by omega)) (fun c15 => ?_)
    refine ev_aconst_null ?_
    refine ev_goto f219_22 ?_
    refine ev_ret rfl (by decide) (by decide) ?_
    show jEv _ _ _ _ _ _ _ (_, [(2, 0), (0, (xs 1)), (0, (xs 2)), (0, (xs 3)), (0, (xs 4)), (9, 0), (9, 0)], [(2, (-1))], _, _, _)
    refine ev_astore (L' := [(2, 0), (0, (xs 1)), (0, (xs 2)), (0, (xs 3)), (0, (xs 4)), (2, (-1)), (9, 0)]) (Nat.le_of_ble_eq_true rfl) rfl ?_
    refine ev_aload rfl ?_
    refine ev_ifnull f175_33 (fun c16 => ?_) (fun c16 => absurd c16 (by decide))
    refine ev_ldc ?_
    refine ev_ret rfl (by decide) (by decide) ?_
    show jEv _ _ _ _ _ _ _ (_, [(2, (-2)), (2, 0), (2, 42), (0, 0)], [(0, (-2000000000))], _, _, _)
    refine ev_aload_n rfl ?_
    refine ev_aload_n rfl ?_
    refine ev_iload_n rfl ?_
    refine ev_iconst ?_
    refine ev_iadd (r := 1) (by decide) ?_
    refine ev_sald (j := 1) (v := (xs 1)) rfl rfl rfl ?_
    refine ev_aload_n rfl ?_
    refine ev_iload_n rfl ?_
    refine ev_iconst ?_
    refine ev_iadd (r := 2) (by decide) ?_
    refine ev_sald (j := 2) (v := (xs 2)) rfl rfl rfl ?_
    refine ev_aload_n rfl ?_
    refine ev_iload_n rfl ?_
    refine ev_iconst ?_
    refine ev_iadd (r := 3) (by decide) ?_
    refine ev_sald (j := 3) (v := (xs 3)) rfl rfl rfl ?_
    refine ev_aload_n rfl ?_
    refine ev_iload_n rfl ?_
    refine ev_iconst ?_
    refine ev_iadd (r := 4) (by decide) ?_
    refine ev_sald (j := 4) (v := (xs 4)) rfl rfl rfl ?_
    refine ev_in (d := 7) (a := 0) (b := 0) (cd' := c281_0) (m := 8) (L0 := [(2, 42), (0, (xs 1)), (0, (xs 2)), (0, (xs 3)), (0, (xs 4)), (9, 0), (9, 0), (9, 0)]) (jcall_v (A := [(0, (xs 4)), (0, (xs 3)), (0, (xs 2)), (0, (xs 1))]) (S' := [(0, (-2000000000))]) (r := 42) rfl (hF.1.lt (by decide)) (hF.1.sh (by decide) rfl).1 (Nat.le_of_ble_eq_true rfl)) (by decide) ml281 pp281 (Nat.le_of_ble_eq_true rfl) rfl (by decide) (by decide) ?_
    refine ev_aload_n rfl ?_
    refine ev_iload_n rfl ?_
    refine ev_iload_n rfl ?_
    refine ev_iload_n rfl ?_
    refine ev_in (d := 6) (a := 0) (b := 0) (cd' := c278_0) (m := 4) (L0 := [(2, 42), (0, (xs 1)), (0, (xs 2)), (0, (xs 3))]) (jcall_v (A := [(0, (xs 3)), (0, (xs 2)), (0, (xs 1))]) (S' := []) (r := 42) rfl (hF.1.lt (by decide)) (hF.1.sh (by decide) rfl).1 (Nat.le_of_ble_eq_true rfl)) (by decide) ml278 pp278 (Nat.le_of_ble_eq_true rfl) rfl (by decide) (by decide) ?_
    refine ev_iload_n rfl ?_
    refine ev_iconst ?_
    refine ev_icmpne f278_36 (fun c17 => ?_) (fun c17 => ?_)
    · refine ev_aload_n rfl ?_
      refine ev_iload_n rfl ?_
      refine ev_iload_n rfl ?_
      refine ev_in (d := 5) (a := 0) (b := 0) (cd' := c277_0) (m := 3) (L0 := [(2, 42), (0, (xs 1)), (0, (xs 2))]) (jcall_v (A := [(0, (xs 2)), (0, (xs 1))]) (S' := []) (r := 42) rfl (hF.1.lt (by decide)) (hF.1.sh (by decide) rfl).1 (Nat.le_of_ble_eq_true rfl)) (by decide) ml277 pp277 (Nat.le_of_ble_eq_true rfl) rfl (by decide) (by decide) ?_
      refine ev_aload_n rfl ?_
      refine ev_iload_n rfl ?_
      refine ev_iload_n rfl ?_
      refine ev_in (d := 4) (a := 0) (b := 0) (cd' := c262_0) (m := 3) (L0 := [(2, 42), (0, (xs 1)), (0, (xs 2))]) (jcall_v (A := [(0, (xs 2)), (0, (xs 1))]) (S' := []) (r := 42) rfl (hF.1.lt (by decide)) (hF.1.sh (by decide) rfl).1 (Nat.le_of_ble_eq_true rfl)) (by decide) ml262 pp262 (Nat.le_of_ble_eq_true rfl) rfl (by decide) (by decide) ?_
      refine ev_aload_n rfl ?_
      refine ev_iload_n rfl ?_
      refine ev_in (d := 3) (a := 0) (b := 0) (cd' := c261_0) (m := 2) (L0 := [(2, 42), (0, (xs 1))]) (jcall_v (A := [(0, (xs 1))]) (S' := []) (r := 42) rfl (hF.1.lt (by decide)) (hF.1.sh (by decide) rfl).1 (Nat.le_of_ble_eq_true rfl)) (by decide) ml261 pp261 (Nat.le_of_ble_eq_true rfl) rfl (by decide) (by decide) ?_
      refine ev_iload_n rfl ?_
      refine ev_iconst ?_
      refine ev_aload_n rfl ?_
      refine ev_getf (r := 42) (v := 0) (hF.1.lt (by decide)) (hF.1.fam (by decide) (by decide)) ft12_9 ((hF.v rfl)) ?_
      refine ev_iconst ?_
      refine ev_isub (r := (-1)) (by decide) ?_
      refine ev_in (d := 2) (a := 0) (b := 0) (cd' := c242_0) (m := 3) (L0 := [(0, (xs 1)), (0, 0), (0, (-1))]) (jcall_s (A := [(0, (-1)), (0, 0), (0, (xs 1))]) (S' := []) (by decide) rfl (Nat.le_of_ble_eq_true rfl)) (by decide) ml242 pp242 (Nat.le_of_ble_eq_true rfl) rfl (by decide) (by decide) ?_
      refine ev_iload_n rfl ?_
      refine ev_iload_n rfl ?_
      refine ev_icmplt f242_14 (fun c18 => absurd c18 (by omega)) (fun c18 => ?_)
      refine ev_iload_n rfl ?_
      refine ev_iload_n rfl ?_
      refine ev_icmpgt f242_14 (fun c19 => ?_) (fun c19 => absurd c19 (by omega))
      refine ev_iconst ?_
      refine ev_ret rfl (by decide) (by decide) ?_
      show jEv _ _ _ _ _ _ _ (_, [(2, 42), (0, (xs 1))], [(0, 0)], _, _, _)
      refine ev_ret rfl (by decide) (by decide) ?_
      show jEv _ _ _ _ _ _ _ (_, [(2, 42), (0, (xs 1)), (0, (xs 2))], [(0, 0)], _, _, _)
      refine ev_ifeq f262_28 (fun c20 => ?_) (fun c20 => absurd c20 (by omega))
      refine ev_iconst ?_
      refine ev_ret rfl (by decide) (by decide) ?_
      show jEv _ _ _ _ _ _ _ (_, [(2, 42), (0, (xs 1)), (0, (xs 2))], [(0, 0)], _, _, _)
      refine ev_ifeq f277_28 (fun c21 => ?_) (fun c21 => absurd c21 (by omega))
      refine ev_iconst ?_
      refine ev_ret rfl (by decide) (by decide) ?_
      show jEv _ _ _ _ _ _ _ (_, [(2, 42), (0, (xs 1)), (0, (xs 2)), (0, (xs 3))], [(0, 0)], _, _, _)
      refine ev_ifeq f278_70 (fun c22 => ?_) (fun c22 => absurd c22 (by omega))
      refine ev_iconst ?_
      refine ev_ret rfl (by decide) (by decide) ?_
      show jEv _ _ _ _ _ _ _ (_, [(2, 42), (0, (xs 1)), (0, (xs 2)), (0, (xs 3)), (0, (xs 4)), (9, 0), (9, 0), (9, 0)], [(0, 0)], _, _, _)
      refine ev_ifeq f281_42 (fun c23 => ?_) (fun c23 => absurd c23 (by omega))
      refine ev_ldc_w ?_
      refine ev_ret rfl (by decide) (by decide) ?_
      show jEv _ _ _ _ _ _ _ (_, [(2, (-2)), (2, 0), (2, 42), (0, 0)], [(0, (-2000000000)), (0, (-2000000000))], _, _, _)
      refine ev_icmpeq f384_2190 (fun c24 => ?_) (fun c24 => absurd c24 (by omega))
      exact law_tail _
    · refine ev_aload_n rfl ?_
      refine ev_iload_n rfl ?_
      refine ev_iload_n rfl ?_
      refine ev_in (d := 5) (a := 0) (b := 0) (cd' := c262_0) (m := 3) (L0 := [(2, 42), (0, (xs 1)), (0, (xs 2))]) (jcall_v (A := [(0, (xs 2)), (0, (xs 1))]) (S' := []) (r := 42) rfl (hF.1.lt (by decide)) (hF.1.sh (by decide) rfl).1 (Nat.le_of_ble_eq_true rfl)) (by decide) ml262 pp262 (Nat.le_of_ble_eq_true rfl) rfl (by decide) (by decide) ?_
      refine ev_aload_n rfl ?_
      refine ev_iload_n rfl ?_
      refine ev_in (d := 4) (a := 0) (b := 0) (cd' := c261_0) (m := 2) (L0 := [(2, 42), (0, (xs 1))]) (jcall_v (A := [(0, (xs 1))]) (S' := []) (r := 42) rfl (hF.1.lt (by decide)) (hF.1.sh (by decide) rfl).1 (Nat.le_of_ble_eq_true rfl)) (by decide) ml261 pp261 (Nat.le_of_ble_eq_true rfl) rfl (by decide) (by decide) ?_
      refine ev_iload_n rfl ?_
      refine ev_iconst ?_
      refine ev_aload_n rfl ?_
      refine ev_getf (r := 42) (v := 0) (hF.1.lt (by decide)) (hF.1.fam (by decide) (by decide)) ft12_9 ((hF.v rfl)) ?_
      refine ev_iconst ?_
      refine ev_isub (r := (-1)) (by decide) ?_
      refine ev_in (d := 3) (a := 0) (b := 0) (cd' := c242_0) (m := 3) (L0 := [(0, (xs 1)), (0, 0), (0, (-1))]) (jcall_s (A := [(0, (-1)), (0, 0), (0, (xs 1))]) (S' := []) (by decide) rfl (Nat.le_of_ble_eq_true rfl)) (by decide) ml242 pp242 (Nat.le_of_ble_eq_true rfl) rfl (by decide) (by decide) ?_
      refine ev_iload_n rfl ?_
      refine ev_iload_n rfl ?_
      refine ev_icmplt f242_14 (fun c25 => absurd c25 (by omega)) (fun c25 => ?_)
      refine ev_iload_n rfl ?_
      refine ev_iload_n rfl ?_
      refine ev_icmpgt f242_14 (fun c26 => ?_) (fun c26 => absurd c26 (by omega))
      refine ev_iconst ?_
      refine ev_ret rfl (by decide) (by decide) ?_
      show jEv _ _ _ _ _ _ _ (_, [(2, 42), (0, (xs 1))], [(0, 0)], _, _, _)
      refine ev_ret rfl (by decide) (by decide) ?_
      show jEv _ _ _ _ _ _ _ (_, [(2, 42), (0, (xs 1)), (0, (xs 2))], [(0, 0)], _, _, _)
      refine ev_ifeq f262_28 (fun c27 => ?_) (fun c27 => absurd c27 (by omega))
      refine ev_iconst ?_
      refine ev_ret rfl (by decide) (by decide) ?_
      show jEv _ _ _ _ _ _ _ (_, [(2, 42), (0, (xs 1)), (0, (xs 2)), (0, (xs 3))], [(0, 0)], _, _, _)
      refine ev_ifeq f278_32 (fun c28 => ?_) (fun c28 => absurd c28 (by omega))
      refine ev_iconst ?_
      refine ev_goto f278_71 ?_
      refine ev_ret rfl (by decide) (by decide) ?_
      show jEv _ _ _ _ _ _ _ (_, [(2, 42), (0, (xs 1)), (0, (xs 2)), (0, (xs 3)), (0, (xs 4)), (9, 0), (9, 0), (9, 0)], [(0, 0)], _, _, _)
      refine ev_ifeq f281_42 (fun c29 => ?_) (fun c29 => absurd c29 (by omega))
      refine ev_ldc_w ?_
      refine ev_ret rfl (by decide) (by decide) ?_
      show jEv _ _ _ _ _ _ _ (_, [(2, (-2)), (2, 0), (2, 42), (0, 0)], [(0, (-2000000000)), (0, (-2000000000))], _, _, _)
      refine ev_icmpeq f384_2190 (fun c30 => ?_) (fun c30 => absurd c30 (by omega))
      exact law_tail _

/-! undo -/
set_option maxHeartbeats 4000000 in
theorem case_10 {xs : Nat → Int} (hr : ∀ j, -2147483648 ≤ xs j ∧ xs j < 2147483648) {h : JH} (hF : Fresh h) : jEv (jOk 8) (some 6) xs c384_0 600000 7302250 (fun v _ => v = some (0, 1)) (c384_593, [(2, -2), (2, 0), (2, 42), (0, 0)], [], h, 83, 23761) := by
  have r1 := hr 1
  have r2 := hr 2
  have r3 := hr 3
  have r4 := hr 4
  have r5 := hr 5
  refine ev_aload_n rfl ?_
  refine ev_in (d := 7) (a := 0) (b := 0) (cd' := c176_0) (m := 1) (L0 := [(2, 0)]) (jcall_v (A := []) (S' := []) (r := 0) rfl (hF.1.lt (by decide)) (hF.1.sh (by decide) rfl).1 (Nat.le_of_ble_eq_true rfl)) (by decide) ml176 pp176 (Nat.le_of_ble_eq_true rfl) rfl (by decide) (by decide) ?_
  refine ev_aload_n rfl ?_
  refine ev_getf (r := 0) (v := 0) (hF.1.lt (by decide)) (hF.1.fam (by decide) (by decide)) ft11_9 ((hF.v rfl)) ?_
  refine ev_ifne f176_10 (fun c1 => absurd c1 (by omega)) (fun c1 => ?_)
  refine ev_bipush ?_
  refine ev_ret rfl (by decide) (by decide) ?_
  show jEv _ _ _ _ _ _ _ (_, [(2, (-2)), (2, 0), (2, 42), (0, 0)], [(0, (-5))], _, _, _)
  refine ev_aload_n rfl ?_
  refine ev_in (d := 7) (a := 0) (b := 0) (cd' := c282_0) (m := 1) (L0 := [(2, 42)]) (jcall_v (A := []) (S' := [(0, (-5))]) (r := 42) rfl (hF.1.lt (by decide)) (hF.1.sh (by decide) rfl).1 (Nat.le_of_ble_eq_true rfl)) (by decide) ml282 pp282 (Nat.le_of_ble_eq_true rfl) rfl (by decide) (by decide) ?_
  refine ev_aload_n rfl ?_
  refine ev_getf (r := 42) (v := 0) (hF.1.lt (by decide)) (hF.1.fam (by decide) (by decide)) ft12_22 ((hF.v rfl)) ?_
  refine ev_ifne f282_10 (fun c2 => absurd c2 (by omega)) (fun c2 => ?_)
  refine ev_bipush ?_
  refine ev_ret rfl (by decide) (by decide) ?_
  show jEv _ _ _ _ _ _ _ (_, [(2, (-2)), (2, 0), (2, 42), (0, 0)], [(0, (-5)), (0, (-5))], _, _, _)
  refine ev_icmpeq f384_2190 (fun c3 => ?_) (fun c3 => absurd c3 (by omega))
  exact law_tail _

/-! redo -/
set_option maxHeartbeats 4000000 in
theorem case_11 {xs : Nat → Int} (hr : ∀ j, -2147483648 ≤ xs j ∧ xs j < 2147483648) {h : JH} (hF : Fresh h) : jEv (jOk 8) (some 6) xs c384_0 600000 7302250 (fun v _ => v = some (0, 1)) (c384_606, [(2, -2), (2, 0), (2, 42), (0, 0)], [], h, 83, 23761) := by
  have r1 := hr 1
  have r2 := hr 2
  have r3 := hr 3
  have r4 := hr 4
  have r5 := hr 5
  refine ev_aload_n rfl ?_
  refine ev_in (d := 7) (a := 0) (b := 0) (cd' := c177_0) (m := 1) (L0 := [(2, 0)]) (jcall_v (A := []) (S' := []) (r := 0) rfl (hF.1.lt (by decide)) (hF.1.sh (by decide) rfl).1 (Nat.le_of_ble_eq_true rfl)) (by decide) ml177 pp177 (Nat.le_of_ble_eq_true rfl) rfl (by decide) (by decide) ?_
  refine ev_aload_n rfl ?_
  refine ev_getf (r := 0) (v := 0) (hF.1.lt (by decide)) (hF.1.fam (by decide) (by decide)) ft11_10 ((hF.v rfl)) ?_
  refine ev_ifeq f177_16 (fun c1 => ?_) (fun c1 => absurd c1 (by omega))
  refine ev_bipush ?_
  refine ev_ret rfl (by decide) (by decide) ?_
  show jEv _ _ _ _ _ _ _ (_, [(2, (-2)), (2, 0), (2, 42), (0, 0)], [(0, (-5))], _, _, _)
  refine ev_aload_n rfl ?_
  refine ev_in (d := 7) (a := 0) (b := 0) (cd' := c283_0) (m := 1) (L0 := [(2, 42)]) (jcall_v (A := []) (S' := [(0, (-5))]) (r := 42) rfl (hF.1.lt (by decide)) (hF.1.sh (by decide) rfl).1 (Nat.le_of_ble_eq_true rfl)) (by decide) ml283 pp283 (Nat.le_of_ble_eq_true rfl) rfl (by decide) (by decide) ?_
  refine ev_aload_n rfl ?_
  refine ev_getf (r := 42) (v := 0) (hF.1.lt (by decide)) (hF.1.fam (by decide) (by decide)) ft12_23 ((hF.v rfl)) ?_
  refine ev_ifne f283_10 (fun c2 => absurd c2 (by omega)) (fun c2 => ?_)
  refine ev_bipush ?_
  refine ev_ret rfl (by decide) (by decide) ?_
  show jEv _ _ _ _ _ _ _ (_, [(2, (-2)), (2, 0), (2, 42), (0, 0)], [(0, (-5)), (0, (-5))], _, _, _)
  refine ev_icmpeq f384_2190 (fun c3 => ?_) (fun c3 => absurd c3 (by omega))
  exact law_tail _
