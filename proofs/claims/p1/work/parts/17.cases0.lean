/-! thing -/
set_option maxHeartbeats 4000000 in
theorem case_0 {xs : Nat → Int} (hr : ∀ j, -2147483648 ≤ xs j ∧ xs j < 2147483648) {h : JH} (hF : Fresh h) : jEv (jOk 8) (some 6) xs c384_0 600000 7302250 (fun v _ => v = some (0, 1)) (c384_260, [(2, -2), (2, 0), (2, 42), (0, 0)], [], h, 83, 23761) := by
  have r1 := hr 1
  have r2 := hr 2
  have r3 := hr 3
  have r4 := hr 4
  have r5 := hr 5
  refine ev_aload_n rfl ?_
  refine ev_aload_n rfl ?_
  refine ev_iload_n rfl ?_
  refine ev_iconst ?_
  refine ev_iadd (r := 1) (by decide) ?_
  refine ev_sald (j := 1) (v := (xs 1)) rfl rfl rfl ?_
  refine ev_in (d := 7) (a := 0) (b := 0) (cd' := c166_0) (m := 2) (L0 := [(2, 0), (0, (xs 1))]) (jcall_v (A := [(0, (xs 1))]) (S' := []) (r := 0) rfl (hF.1.lt (by decide)) (hF.1.sh (by decide) rfl).1 (Nat.le_of_ble_eq_true rfl)) (by decide) ml166 pp166 (Nat.le_of_ble_eq_true rfl) rfl (by decide) (by decide) ?_
  refine ev_iload_n rfl ?_
  refine ev_iconst ?_
  refine ev_icmplt f166_10 (fun c1 => ?_) (fun c1 => ?_)
  · refine ev_iconst ?_
    refine ev_ret rfl (by decide) (by decide) ?_
    show jEv _ _ _ _ _ _ _ (_, [(2, (-2)), (2, 0), (2, 42), (0, 0)], [(0, (-1))], _, _, _)
    refine ev_aload_n rfl ?_
    refine ev_aload_n rfl ?_
    refine ev_iload_n rfl ?_
    refine ev_iconst ?_
    refine ev_iadd (r := 1) (by decide) ?_
    refine ev_sald (j := 1) (v := (xs 1)) rfl rfl rfl ?_
    refine ev_in (d := 7) (a := 0) (b := 0) (cd' := c247_0) (m := 3) (L0 := [(2, 42), (0, (xs 1)), (9, 0)]) (jcall_v (A := [(0, (xs 1))]) (S' := [(0, (-1))]) (r := 42) rfl (hF.1.lt (by decide)) (hF.1.sh (by decide) rfl).1 (Nat.le_of_ble_eq_true rfl)) (by decide) ml247 pp247 (Nat.le_of_ble_eq_true rfl) rfl (by decide) (by decide) ?_
    refine ev_iload_n rfl ?_
    refine ev_iconst ?_
    refine ev_iconst ?_
    refine ev_in (d := 6) (a := 0) (b := 0) (cd' := c242_0) (m := 3) (L0 := [(0, (xs 1)), (0, 2), (0, 3)]) (jcall_s (A := [(0, 3), (0, 2), (0, (xs 1))]) (S' := []) (by decide) rfl (Nat.le_of_ble_eq_true rfl)) (by decide) ml242 pp242 (Nat.le_of_ble_eq_true rfl) rfl (by decide) (by decide) ?_
    refine ev_iload_n rfl ?_
    refine ev_iload_n rfl ?_
    refine ev_icmplt f242_14 (fun c2 => ?_) (fun c2 => absurd c2 (by omega))
    refine ev_iconst ?_
    refine ev_ret rfl (by decide) (by decide) ?_
    show jEv _ _ _ _ _ _ _ (_, [(2, 42), (0, (xs 1)), (9, 0)], [(0, 0)], _, _, _)
    refine ev_ifne f247_11 (fun c3 => absurd c3 (by omega)) (fun c3 => ?_)
    refine ev_iconst ?_
    refine ev_ret rfl (by decide) (by decide) ?_
    show jEv _ _ _ _ _ _ _ (_, [(2, (-2)), (2, 0), (2, 42), (0, 0)], [(0, (-1)), (0, (-1))], _, _, _)
    refine ev_icmpeq f384_2190 (fun c4 => ?_) (fun c4 => absurd c4 (by omega))
    exact law_tail _
  · refine ev_iload_n rfl ?_
    refine ev_iconst ?_
    refine ev_icmple f166_12 (fun c5 => ?_) (fun c5 => ?_)
    · refine ev_aload_n rfl ?_
      refine ev_getf (r := 0) (v := 0) (hF.1.lt (by decide)) (hF.1.fam (by decide) (by decide)) ft11_3 ((hF.v rfl)) ?_
      refine ev_ifle f166_22 (fun c6 => ?_) (fun c6 => absurd c6 (by omega))
      refine ev_aload_n rfl ?_
      refine ev_getf (r := 0) (v := 1) (hF.1.lt (by decide)) (hF.1.fam (by decide) (by decide)) ft11_0 ((hF.v rfl)) ?_
      refine ev_getf (r := 1) (v := 0) (hF.1.lt (by decide)) (hF.1.fam (by decide) (by decide)) ft10_0 ((hF.v rfl)) ?_
      refine ev_iconst ?_
      refine ev_icmplt f166_38 (fun c7 => ?_) (fun c7 => absurd c7 (by omega))
      refine ev_aload_n rfl ?_
      refine ev_getf (r := 0) (v := 1) (hF.1.lt (by decide)) (hF.1.fam (by decide) (by decide)) ft11_0 ((hF.v rfl)) ?_
      refine ev_iload_n rfl ?_
      refine ev_in (d := 6) (a := 0) (b := 0) (cd' := c139_0) (m := 2) (L0 := [(2, 1), (0, (xs 1))]) (jcall_v (A := [(0, (xs 1))]) (S' := []) (r := 1) rfl (hF.1.lt (by decide)) (hF.1.sh (by decide) rfl).1 (Nat.le_of_ble_eq_true rfl)) (by decide) ml139 pp139 (Nat.le_of_ble_eq_true rfl) rfl (by decide) (by decide) ?_
      refine ev_aload_n rfl ?_
      refine ev_getf (r := 1) (v := 0) (hF.1.lt (by decide)) (hF.1.fam (by decide) (by decide)) ft10_0 ((hF.v rfl)) ?_
      refine ev_iconst ?_
      refine ev_icmplt f139_11 (fun c8 => ?_) (fun c8 => absurd c8 (by omega))
      refine ev_aload_n rfl ?_
      refine ev_getf (r := 1) (v := 2) (hF.1.lt (by decide)) (hF.1.fam (by decide) (by decide)) ft10_3 ((hF.v rfl)) ?_
      refine ev_aload_n rfl ?_
      refine ev_getf (r := 1) (v := 0) (hF.1.lt (by decide)) (hF.1.fam (by decide) (by decide)) ft10_0 ((hF.v rfl)) ?_
      refine ev_iload_n rfl ?_
      refine ev_iastG (r := 2) (j := 0) (hF.1.lt (by decide)) (hF.1.sh (by decide) rfl).1 rfl (hF.1.inb (by decide) (by decide)) (fun h1 e1 => ?_)
      have hS1 := hF.1.wr e1
      refine ev_aload_n rfl ?_
      refine ev_getf (r := 1) (v := 3) (hS1.lt (by decide)) (hS1.fam (by decide) (by decide)) ft10_4 ((jw_ne e1 (Or.inl (by decide))).trans ((hF.v rfl))) ?_
      refine ev_aload_n rfl ?_
      refine ev_getf (r := 1) (v := 0) (hS1.lt (by decide)) (hS1.fam (by decide) (by decide)) ft10_0 ((jw_ne e1 (Or.inl (by decide))).trans ((hF.v rfl))) ?_
      refine ev_iconst ?_
      refine ev_iastG (r := 3) (j := 0) (hS1.lt (by decide)) (hS1.sh (by decide) rfl).1 rfl (hS1.inb (by decide) (by decide)) (fun h2 e2 => ?_)
      have hS2 := hS1.wr e2
      refine ev_aload_n rfl ?_
      refine ev_aload_n rfl ?_
      refine ev_getf (r := 1) (v := 0) (hS2.lt (by decide)) (hS2.fam (by decide) (by decide)) ft10_0 ((jw_ne e2 (Or.inl (by decide))).trans ((jw_ne e1 (Or.inl (by decide))).trans ((hF.v rfl)))) ?_
      refine ev_in (d := 5) (a := 0) (b := 0) (cd' := c144_0) (m := 3) (L0 := [(2, 1), (0, 0), (9, 0)]) (jcall_v (A := [(0, 0)]) (S' := []) (r := 1) rfl (hS2.lt (by decide)) (hS2.sh (by decide) rfl).1 (Nat.le_of_ble_eq_true rfl)) (by decide) ml144 pp144 (Nat.le_of_ble_eq_true rfl) rfl (by decide) (by decide) ?_
      refine ev_iload_n rfl ?_
      refine ev_iconst ?_
      refine ev_iconst ?_
      refine ev_in (d := 4) (a := 0) (b := 0) (cd' := c147_0) (m := 3) (L0 := [(0, 0), (0, 0), (0, 0)]) (jcall_s (A := [(0, 0), (0, 0), (0, 0)]) (S' := []) (by decide) rfl (Nat.le_of_ble_eq_true rfl)) (by decide) ml147 pp147 (Nat.le_of_ble_eq_true rfl) rfl (by decide) (by decide) ?_
      refine ev_bipush ?_
      refine ev_iload_n rfl ?_
      refine ev_imul (r := 0) (by decide) ?_
      refine ev_iconst ?_
      refine ev_iload_n rfl ?_
      refine ev_imul (r := 0) (by decide) ?_
      refine ev_iadd (r := 0) (by decide) ?_
      refine ev_iload_n rfl ?_
      refine ev_iadd (r := 0) (by decide) ?_
      refine ev_ret rfl (by decide) (by decide) ?_
      show jEv _ _ _ _ _ _ _ (_, [(2, 1), (0, 0), (9, 0)], [(0, 0)], _, _, _)
      refine ev_istore_n (L' := [(2, 1), (0, 0), (0, 0)]) (Nat.le_of_ble_eq_true rfl) rfl ?_
      refine ev_iload_n rfl ?_
      refine ev_iload_n rfl ?_
      refine ev_iconst ?_
      refine ev_iadd (r := 1) (by decide) ?_
      refine ev_iconst ?_
      refine ev_iconst ?_
      refine ev_in (d := 4) (a := 0) (b := 0) (cd' := c147_0) (m := 3) (L0 := [(0, 1), (0, 0), (0, 0)]) (jcall_s (A := [(0, 0), (0, 0), (0, 1)]) (S' := [(0, 0)]) (by decide) rfl (Nat.le_of_ble_eq_true rfl)) (by decide) ml147 pp147 (Nat.le_of_ble_eq_true rfl) rfl (by decide) (by decide) ?_
      refine ev_bipush ?_
      refine ev_iload_n rfl ?_
      refine ev_imul (r := 9) (by decide) ?_
      refine ev_iconst ?_
      refine ev_iload_n rfl ?_
      refine ev_imul (r := 0) (by decide) ?_
      refine ev_iadd (r := 9) (by decide) ?_
      refine ev_iload_n rfl ?_
      refine ev_iadd (r := 9) (by decide) ?_
      refine ev_ret rfl (by decide) (by decide) ?_
      show jEv _ _ _ _ _ _ _ (_, [(2, 1), (0, 0), (0, 0)], [(0, 9), (0, 0)], _, _, _)
      refine ev_icmpge f144_38 (fun c9 => absurd c9 (by omega)) (fun c9 => ?_)
      refine ev_iload_n rfl ?_
      refine ev_bipush ?_
      refine ev_icmpge f144_38 (fun c10 => absurd c10 (by omega)) (fun c10 => ?_)
      refine ev_aload_n rfl ?_
      refine ev_getf (r := 1) (v := 4) (hS2.lt (by decide)) (hS2.fam (by decide) (by decide)) ft10_5 ((jw_ne e2 (Or.inl (by decide))).trans ((jw_ne e1 (Or.inl (by decide))).trans ((hF.v rfl)))) ?_
      refine ev_iload_n rfl ?_
      refine ev_iconst ?_
      refine ev_iastG (r := 4) (j := 0) (hS2.lt (by decide)) (hS2.sh (by decide) rfl).1 rfl (hS2.inb (by decide) (by decide)) (fun h3 e3 => ?_)
      have hS3 := hS2.wr e3
      refine ev_iinc (w := 1) (L' := [(2, 1), (0, 0), (0, 1)]) rfl (by decide) rfl ?_
      refine ev_goto f144_7 ?_
      refine ev_iload_n rfl ?_
      refine ev_iload_n rfl ?_
      refine ev_iconst ?_
      refine ev_iadd (r := 1) (by decide) ?_
      refine ev_iconst ?_
      refine ev_iconst ?_
      refine ev_in (d := 4) (a := 0) (b := 0) (cd' := c147_0) (m := 3) (L0 := [(0, 1), (0, 0), (0, 0)]) (jcall_s (A := [(0, 0), (0, 0), (0, 1)]) (S' := [(0, 1)]) (by decide) rfl (Nat.le_of_ble_eq_true rfl)) (by decide) ml147 pp147 (Nat.le_of_ble_eq_true rfl) rfl (by decide) (by decide) ?_
      refine ev_bipush ?_
      refine ev_iload_n rfl ?_
      refine ev_imul (r := 9) (by decide) ?_
      refine ev_iconst ?_
      refine ev_iload_n rfl ?_
      refine ev_imul (r := 0) (by decide) ?_
      refine ev_iadd (r := 9) (by decide) ?_
      refine ev_iload_n rfl ?_
      refine ev_iadd (r := 9) (by decide) ?_
      refine ev_ret rfl (by decide) (by decide) ?_
      show jEv _ _ _ _ _ _ _ (_, [(2, 1), (0, 0), (0, 1)], [(0, 9), (0, 1)], _, _, _)
      refine ev_icmpge f144_38 (fun c11 => absurd c11 (by omega)) (fun c11 => ?_)
      refine ev_iload_n rfl ?_
      refine ev_bipush ?_
      refine ev_icmpge f144_38 (fun c12 => absurd c12 (by omega)) (fun c12 => ?_)
      refine ev_aload_n rfl ?_
      refine ev_getf (r := 1) (v := 4) (hS3.lt (by decide)) (hS3.fam (by decide) (by decide)) ft10_5 ((jw_ne e3 (Or.inl (by decide))).trans ((jw_ne e2 (Or.inl (by decide))).trans ((jw_ne e1 (Or.inl (by decide))).trans ((hF.v rfl))))) ?_
      refine ev_iload_n rfl ?_
      refine ev_iconst ?_
      refine ev_iastG (r := 4) (j := 1) (hS3.lt (by decide)) (hS3.sh (by decide) rfl).1 rfl (hS3.inb (by decide) (by decide)) (fun h4 e4 => ?_)
      have hS4 := hS3.wr e4
      refine ev_iinc (w := 2) (L' := [(2, 1), (0, 0), (0, 2)]) rfl (by decide) rfl ?_
      refine ev_goto f144_7 ?_
      refine ev_iload_n rfl ?_
      refine ev_iload_n rfl ?_
      refine ev_iconst ?_
      refine ev_iadd (r := 1) (by decide) ?_
      refine ev_iconst ?_
      refine ev_iconst ?_
      refine ev_in (d := 4) (a := 0) (b := 0) (cd' := c147_0) (m := 3) (L0 := [(0, 1), (0, 0), (0, 0)]) (jcall_s (A := [(0, 0), (0, 0), (0, 1)]) (S' := [(0, 2)]) (by decide) rfl (Nat.le_of_ble_eq_true rfl)) (by decide) ml147 pp147 (Nat.le_of_ble_eq_true rfl) rfl (by decide) (by decide) ?_
      refine ev_bipush ?_
      refine ev_iload_n rfl ?_
      refine ev_imul (r := 9) (by decide) ?_
      refine ev_iconst ?_
      refine ev_iload_n rfl ?_
      refine ev_imul (r := 0) (by decide) ?_
      refine ev_iadd (r := 9) (by decide) ?_
      refine ev_iload_n rfl ?_
      refine ev_iadd (r := 9) (by decide) ?_
      refine ev_ret rfl (by decide) (by decide) ?_
      show jEv _ _ _ _ _ _ _ (_, [(2, 1), (0, 0), (0, 2)], [(0, 9), (0, 2)], _, _, _)
      refine ev_icmpge f144_38 (fun c13 => absurd c13 (by omega)) (fun c13 => ?_)
      refine ev_iload_n rfl ?_
      refine ev_bipush ?_
      refine ev_icmpge f144_38 (fun c14 => absurd c14 (by omega)) (fun c14 => ?_)
      refine ev_aload_n rfl ?_
      refine ev_getf (r := 1) (v := 4) (hS4.lt (by decide)) (hS4.fam (by decide) (by decide)) ft10_5 ((jw_ne e4 (Or.inl (by decide))).trans ((jw_ne e3 (Or.inl (by decide))).trans ((jw_ne e2 (Or.inl (by decide))).trans ((jw_ne e1 (Or.inl (by decide))).trans ((hF.v rfl)))))) ?_
      refine ev_iload_n rfl ?_
      refine ev_iconst ?_
      refine ev_iastG (r := 4) (j := 2) (hS4.lt (by decide)) (hS4.sh (by decide) rfl).1 rfl (hS4.inb (by decide) (by decide)) (fun h5 e5 => ?_)
      have hS5 := hS4.wr e5
      refine ev_iinc (w := 3) (L' := [(2, 1), (0, 0), (0, 3)]) rfl (by decide) rfl ?_
      refine ev_goto f144_7 ?_
      refine ev_iload_n rfl ?_
      refine ev_iload_n rfl ?_
      refine ev_iconst ?_
      refine ev_iadd (r := 1) (by decide) ?_
      refine ev_iconst ?_
      refine ev_iconst ?_
      refine ev_in (d := 4) (a := 0) (b := 0) (cd' := c147_0) (m := 3) (L0 := [(0, 1), (0, 0), (0, 0)]) (jcall_s (A := [(0, 0), (0, 0), (0, 1)]) (S' := [(0, 3)]) (by decide) rfl (Nat.le_of_ble_eq_true rfl)) (by decide) ml147 pp147 (Nat.le_of_ble_eq_true rfl) rfl (by decide) (by decide) ?_
      refine ev_bipush ?_
      refine ev_iload_n rfl ?_
      refine ev_imul (r := 9) (by decide) ?_
      refine ev_iconst ?_
      refine ev_iload_n rfl ?_
      refine ev_imul (r := 0) (by decide) ?_
      refine ev_iadd (r := 9) (by decide) ?_
      refine ev_iload_n rfl ?_
      refine ev_iadd (r := 9) (by decide) ?_
      refine ev_ret rfl (by decide) (by decide) ?_
      show jEv _ _ _ _ _ _ _ (_, [(2, 1), (0, 0), (0, 3)], [(0, 9), (0, 3)], _, _, _)
      refine ev_icmpge f144_38 (fun c15 => absurd c15 (by omega)) (fun c15 => ?_)
      refine ev_iload_n rfl ?_
      refine ev_bipush ?_
      refine ev_icmpge f144_38 (fun c16 => absurd c16 (by omega)) (fun c16 => ?_)
      refine ev_aload_n rfl ?_
      refine ev_getf (r := 1) (v := 4) (hS5.lt (by decide)) (hS5.fam (by decide) (by decide)) ft10_5 ((jw_ne e5 (Or.inl (by decide))).trans ((jw_ne e4 (Or.inl (by decide))).trans ((jw_ne e3 (Or.inl (by decide))).trans ((jw_ne e2 (Or.inl (by decide))).trans ((jw_ne e1 (Or.inl (by decide))).trans ((hF.v rfl))))))) ?_
      refine ev_iload_n rfl ?_
      refine ev_iconst ?_
      refine ev_iastG (r := 4) (j := 3) (hS5.lt (by decide)) (hS5.sh (by decide) rfl).1 rfl (hS5.inb (by decide) (by decide)) (fun h6 e6 => ?_)
      have hS6 := hS5.wr e6
      refine ev_iinc (w := 4) (L' := [(2, 1), (0, 0), (0, 4)]) rfl (by decide) rfl ?_
      refine ev_goto f144_7 ?_
      refine ev_iload_n rfl ?_
      refine ev_iload_n rfl ?_
      refine ev_iconst ?_
      refine ev_iadd (r := 1) (by decide) ?_
      refine ev_iconst ?_
      refine ev_iconst ?_
      refine ev_in (d := 4) (a := 0) (b := 0) (cd' := c147_0) (m := 3) (L0 := [(0, 1), (0, 0), (0, 0)]) (jcall_s (A := [(0, 0), (0, 0), (0, 1)]) (S' := [(0, 4)]) (by decide) rfl (Nat.le_of_ble_eq_true rfl)) (by decide) ml147 pp147 (Nat.le_of_ble_eq_true rfl) rfl (by decide) (by decide) ?_
      refine ev_bipush ?_
      refine ev_iload_n rfl ?_
      refine ev_imul (r := 9) (by decide) ?_
      refine ev_iconst ?_
      refine ev_iload_n rfl ?_
      refine ev_imul (r := 0) (by decide) ?_
      refine ev_iadd (r := 9) (by decide) ?_
      refine ev_iload_n rfl ?_
      refine ev_iadd (r := 9) (by decide) ?_
      refine ev_ret rfl (by decide) (by decide) ?_
      show jEv _ _ _ _ _ _ _ (_, [(2, 1), (0, 0), (0, 4)], [(0, 9), (0, 4)], _, _, _)
      refine ev_icmpge f144_38 (fun c17 => absurd c17 (by omega)) (fun c17 => ?_)
      refine ev_iload_n rfl ?_
      refine ev_bipush ?_
      refine ev_icmpge f144_38 (fun c18 => absurd c18 (by omega)) (fun c18 => ?_)
      refine ev_aload_n rfl ?_
      refine ev_getf (r := 1) (v := 4) (hS6.lt (by decide)) (hS6.fam (by decide) (by decide)) ft10_5 ((jw_ne e6 (Or.inl (by decide))).trans ((jw_ne e5 (Or.inl (by decide))).trans ((jw_ne e4 (Or.inl (by decide))).trans ((jw_ne e3 (Or.inl (by decide))).trans ((jw_ne e2 (Or.inl (by decide))).trans ((jw_ne e1 (Or.inl (by decide))).trans ((hF.v rfl)))))))) ?_
      refine ev_iload_n rfl ?_
      refine ev_iconst ?_
      refine ev_iastG (r := 4) (j := 4) (hS6.lt (by decide)) (hS6.sh (by decide) rfl).1 rfl (hS6.inb (by decide) (by decide)) (fun h7 e7 => ?_)
      have hS7 := hS6.wr e7
      refine ev_iinc (w := 5) (L' := [(2, 1), (0, 0), (0, 5)]) rfl (by decide) rfl ?_
      refine ev_goto f144_7 ?_
      refine ev_iload_n rfl ?_
      refine ev_iload_n rfl ?_
      refine ev_iconst ?_
      refine ev_iadd (r := 1) (by decide) ?_
      refine ev_iconst ?_
      refine ev_iconst ?_
      refine ev_in (d := 4) (a := 0) (b := 0) (cd' := c147_0) (m := 3) (L0 := [(0, 1), (0, 0), (0, 0)]) (jcall_s (A := [(0, 0), (0, 0), (0, 1)]) (S' := [(0, 5)]) (by decide) rfl (Nat.le_of_ble_eq_true rfl)) (by decide) ml147 pp147 (Nat.le_of_ble_eq_true rfl) rfl (by decide) (by decide) ?_
      refine ev_bipush ?_
      refine ev_iload_n rfl ?_
      refine ev_imul (r := 9) (by decide) ?_
      refine ev_iconst ?_
      refine ev_iload_n rfl ?_
      refine ev_imul (r := 0) (by decide) ?_
      refine ev_iadd (r := 9) (by decide) ?_
      refine ev_iload_n rfl ?_
      refine ev_iadd (r := 9) (by decide) ?_
      refine ev_ret rfl (by decide) (by decide) ?_
      show jEv _ _ _ _ _ _ _ (_, [(2, 1), (0, 0), (0, 5)], [(0, 9), (0, 5)], _, _, _)
      refine ev_icmpge f144_38 (fun c19 => absurd c19 (by omega)) (fun c19 => ?_)
      refine ev_iload_n rfl ?_
      refine ev_bipush ?_
      refine ev_icmpge f144_38 (fun c20 => absurd c20 (by omega)) (fun c20 => ?_)
      refine ev_aload_n rfl ?_
      refine ev_getf (r := 1) (v := 4) (hS7.lt (by decide)) (hS7.fam (by decide) (by decide)) ft10_5 ((jw_ne e7 (Or.inl (by decide))).trans ((jw_ne e6 (Or.inl (by decide))).trans ((jw_ne e5 (Or.inl (by decide))).trans ((jw_ne e4 (Or.inl (by decide))).trans ((jw_ne e3 (Or.inl (by decide))).trans ((jw_ne e2 (Or.inl (by decide))).trans ((jw_ne e1 (Or.inl (by decide))).trans ((hF.v rfl))))))))) ?_
      refine ev_iload_n rfl ?_
      refine ev_iconst ?_
      refine ev_iastG (r := 4) (j := 5) (hS7.lt (by decide)) (hS7.sh (by decide) rfl).1 rfl (hS7.inb (by decide) (by decide)) (fun h8 e8 => ?_)
      have hS8 := hS7.wr e8
      refine ev_iinc (w := 6) (L' := [(2, 1), (0, 0), (0, 6)]) rfl (by decide) rfl ?_
      refine ev_goto f144_7 ?_
      refine ev_iload_n rfl ?_
      refine ev_iload_n rfl ?_
      refine ev_iconst ?_
      refine ev_iadd (r := 1) (by decide) ?_
      refine ev_iconst ?_
      refine ev_iconst ?_
      refine ev_in (d := 4) (a := 0) (b := 0) (cd' := c147_0) (m := 3) (L0 := [(0, 1), (0, 0), (0, 0)]) (jcall_s (A := [(0, 0), (0, 0), (0, 1)]) (S' := [(0, 6)]) (by decide) rfl (Nat.le_of_ble_eq_true rfl)) (by decide) ml147 pp147 (Nat.le_of_ble_eq_true rfl) rfl (by decide) (by decide) ?_
      refine ev_bipush ?_
      refine ev_iload_n rfl ?_
      refine ev_imul (r := 9) (by decide) ?_
      refine ev_iconst ?_
      refine ev_iload_n rfl ?_
      refine ev_imul (r := 0) (by decide) ?_
      refine ev_iadd (r := 9) (by decide) ?_
      refine ev_iload_n rfl ?_
      refine ev_iadd (r := 9) (by decide) ?_
      refine ev_ret rfl (by decide) (by decide) ?_
      show jEv _ _ _ _ _ _ _ (_, [(2, 1), (0, 0), (0, 6)], [(0, 9), (0, 6)], _, _, _)
      refine ev_icmpge f144_38 (fun c21 => absurd c21 (by omega)) (fun c21 => ?_)
      refine ev_iload_n rfl ?_
      refine ev_bipush ?_
      refine ev_icmpge f144_38 (fun c22 => absurd c22 (by omega)) (fun c22 => ?_)
      refine ev_aload_n rfl ?_
      refine ev_getf (r := 1) (v := 4) (hS8.lt (by decide)) (hS8.fam (by decide) (by decide)) ft10_5 ((jw_ne e8 (Or.inl (by decide))).trans ((jw_ne e7 (Or.inl (by decide))).trans ((jw_ne e6 (Or.inl (by decide))).trans ((jw_ne e5 (Or.inl (by decide))).trans ((jw_ne e4 (Or.inl (by decide))).trans ((jw_ne e3 (Or.inl (by decide))).trans ((jw_ne e2 (Or.inl (by decide))).trans ((jw_ne e1 (Or.inl (by decide))).trans ((hF.v rfl)))))))))) ?_
      refine ev_iload_n rfl ?_
      refine ev_iconst ?_
      refine ev_iastG (r := 4) (j := 6) (hS8.lt (by decide)) (hS8.sh (by decide) rfl).1 rfl (hS8.inb (by decide) (by decide)) (fun h9 e9 => ?_)
      have hS9 := hS8.wr e9
      refine ev_iinc (w := 7) (L' := [(2, 1), (0, 0), (0, 7)]) rfl (by decide) rfl ?_
      refine ev_goto f144_7 ?_
      refine ev_iload_n rfl ?_
      refine ev_iload_n rfl ?_
      refine ev_iconst ?_
      refine ev_iadd (r := 1) (by decide) ?_
      refine ev_iconst ?_
      refine ev_iconst ?_
      refine ev_in (d := 4) (a := 0) (b := 0) (cd' := c147_0) (m := 3) (L0 := [(0, 1), (0, 0), (0, 0)]) (jcall_s (A := [(0, 0), (0, 0), (0, 1)]) (S' := [(0, 7)]) (by decide) rfl (Nat.le_of_ble_eq_true rfl)) (by decide) ml147 pp147 (Nat.le_of_ble_eq_true rfl) rfl (by decide) (by decide) ?_
      refine ev_bipush ?_
      refine ev_iload_n rfl ?_
      refine ev_imul (r := 9) (by decide) ?_
      refine ev_iconst ?_
      refine ev_iload_n rfl ?_
      refine ev_imul (r := 0) (by decide) ?_
      refine ev_iadd (r := 9) (by decide) ?_
      refine ev_iload_n rfl ?_
      refine ev_iadd (r := 9) (by decide) ?_
      refine ev_ret rfl (by decide) (by decide) ?_
      show jEv _ _ _ _ _ _ _ (_, [(2, 1), (0, 0), (0, 7)], [(0, 9), (0, 7)], _, _, _)
      refine ev_icmpge f144_38 (fun c23 => absurd c23 (by omega)) (fun c23 => ?_)
      refine ev_iload_n rfl ?_
      refine ev_bipush ?_
      refine ev_icmpge f144_38 (fun c24 => absurd c24 (by omega)) (fun c24 => ?_)
      refine ev_aload_n rfl ?_
      refine ev_getf (r := 1) (v := 4) (hS9.lt (by decide)) (hS9.fam (by decide) (by decide)) ft10_5 ((jw_ne e9 (Or.inl (by decide))).trans ((jw_ne e8 (Or.inl (by decide))).trans ((jw_ne e7 (Or.inl (by decide))).trans ((jw_ne e6 (Or.inl (by decide))).trans ((jw_ne e5 (Or.inl (by decide))).trans ((jw_ne e4 (Or.inl (by decide))).trans ((jw_ne e3 (Or.inl (by decide))).trans ((jw_ne e2 (Or.inl (by decide))).trans ((jw_ne e1 (Or.inl (by decide))).trans ((hF.v rfl))))))))))) ?_
      refine ev_iload_n rfl ?_
      refine ev_iconst ?_
      refine ev_iastG (r := 4) (j := 7) (hS9.lt (by decide)) (hS9.sh (by decide) rfl).1 rfl (hS9.inb (by decide) (by decide)) (fun h10 e10 => ?_)
      have hS10 := hS9.wr e10
      refine ev_iinc (w := 8) (L' := [(2, 1), (0, 0), (0, 8)]) rfl (by decide) rfl ?_
      refine ev_goto f144_7 ?_
      refine ev_iload_n rfl ?_
      refine ev_iload_n rfl ?_
      refine ev_iconst ?_
      refine ev_iadd (r := 1) (by decide) ?_
      refine ev_iconst ?_
      refine ev_iconst ?_
      refine ev_in (d := 4) (a := 0) (b := 0) (cd' := c147_0) (m := 3) (L0 := [(0, 1), (0, 0), (0, 0)]) (jcall_s (A := [(0, 0), (0, 0), (0, 1)]) (S' := [(0, 8)]) (by decide) rfl (Nat.le_of_ble_eq_true rfl)) (by decide) ml147 pp147 (Nat.le_of_ble_eq_true rfl) rfl (by decide) (by decide) ?_
      refine ev_bipush ?_
      refine ev_iload_n rfl ?_
      refine ev_imul (r := 9) (by decide) ?_
      refine ev_iconst ?_
      refine ev_iload_n rfl ?_
      refine ev_imul (r := 0) (by decide) ?_
      refine ev_iadd (r := 9) (by decide) ?_
      refine ev_iload_n rfl ?_
      refine ev_iadd (r := 9) (by decide) ?_
      refine ev_ret rfl (by decide) (by decide) ?_
      show jEv _ _ _ _ _ _ _ (_, [(2, 1), (0, 0), (0, 8)], [(0, 9), (0, 8)], _, _, _)
      refine ev_icmpge f144_38 (fun c25 => absurd c25 (by omega)) (fun c25 => ?_)
      refine ev_iload_n rfl ?_
      refine ev_bipush ?_
      refine ev_icmpge f144_38 (fun c26 => absurd c26 (by omega)) (fun c26 => ?_)
      refine ev_aload_n rfl ?_
      refine ev_getf (r := 1) (v := 4) (hS10.lt (by decide)) (hS10.fam (by decide) (by decide)) ft10_5 ((jw_ne e10 (Or.inl (by decide))).trans ((jw_ne e9 (Or.inl (by decide))).trans ((jw_ne e8 (Or.inl (by decide))).trans ((jw_ne e7 (Or.inl (by decide))).trans ((jw_ne e6 (Or.inl (by decide))).trans ((jw_ne e5 (Or.inl (by decide))).trans ((jw_ne e4 (Or.inl (by decide))).trans ((jw_ne e3 (Or.inl (by decide))).trans ((jw_ne e2 (Or.inl (by decide))).trans ((jw_ne e1 (Or.inl (by decide))).trans ((hF.v rfl)))))))))))) ?_
      refine ev_iload_n rfl ?_
      refine ev_iconst ?_
      refine ev_iastG (r := 4) (j := 8) (hS10.lt (by decide)) (hS10.sh (by decide) rfl).1 rfl (hS10.inb (by decide) (by decide)) (fun h11 e11 => ?_)
      have hS11 := hS10.wr e11
      refine ev_iinc (w := 9) (L' := [(2, 1), (0, 0), (0, 9)]) rfl (by decide) rfl ?_
      refine ev_goto f144_7 ?_
      refine ev_iload_n rfl ?_
      refine ev_iload_n rfl ?_
      refine ev_iconst ?_
      refine ev_iadd (r := 1) (by decide) ?_
      refine ev_iconst ?_
      refine ev_iconst ?_
      refine ev_in (d := 4) (a := 0) (b := 0) (cd' := c147_0) (m := 3) (L0 := [(0, 1), (0, 0), (0, 0)]) (jcall_s (A := [(0, 0), (0, 0), (0, 1)]) (S' := [(0, 9)]) (by decide) rfl (Nat.le_of_ble_eq_true rfl)) (by decide) ml147 pp147 (Nat.le_of_ble_eq_true rfl) rfl (by decide) (by decide) ?_
      refine ev_bipush ?_
      refine ev_iload_n rfl ?_
      refine ev_imul (r := 9) (by decide) ?_
      refine ev_iconst ?_
      refine ev_iload_n rfl ?_
      refine ev_imul (r := 0) (by decide) ?_
      refine ev_iadd (r := 9) (by decide) ?_
      refine ev_iload_n rfl ?_
      refine ev_iadd (r := 9) (by decide) ?_
      refine ev_ret rfl (by decide) (by decide) ?_
      show jEv _ _ _ _ _ _ _ (_, [(2, 1), (0, 0), (0, 9)], [(0, 9), (0, 9)], _, _, _)
      refine ev_icmpge f144_38 (fun c27 => ?_) (fun c27 => absurd c27 (by omega))
      refine ev_ret rfl (by decide) (by decide) ?_
      show jEv _ _ _ _ _ _ _ (_, [(2, 1), (0, (xs 1))], [], _, _, _)
      refine ev_aload_n rfl ?_
      refine ev_dup (by decide) ?_
      refine ev_getf (r := 1) (v := 0) (hS11.lt (by decide)) (hS11.fam (by decide) (by decide)) ft10_0 ((jw_ne e11 (Or.inl (by decide))).trans ((jw_ne e10 (Or.inl (by decide))).trans ((jw_ne e9 (Or.inl (by decide))).trans ((jw_ne e8 (Or.inl (by decide))).trans ((jw_ne e7 (Or.inl (by decide))).trans ((jw_ne e6 (Or.inl (by decide))).trans ((jw_ne e5 (Or.inl (by decide))).trans ((jw_ne e4 (Or.inl (by decide))).trans ((jw_ne e3 (Or.inl (by decide))).trans ((jw_ne e2 (Or.inl (by decide))).trans ((jw_ne e1 (Or.inl (by decide))).trans ((hF.v rfl))))))))))))) ?_
      refine ev_iconst ?_
      refine ev_iadd (r := 1) (by decide) ?_
      refine ev_putfG (r := 1) (hS11.lt (by decide)) (hS11.fam (by decide) (by decide)) ft10_0 (fun e => absurd e nz10_0) (fun e => absurd e (by decide)) (fun h12 e12 => ?_)
      have hS12 := hS11.wr e12
      refine ev_aload_n rfl ?_
      refine ev_iconst ?_
      refine ev_putfG (r := 1) (hS12.lt (by decide)) (hS12.fam (by decide) (by decide)) ft10_2 (fun _ => by decide) (fun e => absurd e (by decide)) (fun h13 e13 => ?_)
      have hS13 := hS12.wr e13
      refine ev_aload_n rfl ?_
      refine ev_getf (r := 1) (v := 1) (hS13.lt (by decide)) (hS13.fam (by decide) (by decide)) ft10_0 ((jw_ne e13 (Or.inr (by decide))).trans (jw_eq e12)) ?_
      refine ev_iconst ?_
      refine ev_isub (r := 0) (by decide) ?_
      refine ev_ret rfl (by decide) (by decide) ?_
      show jEv _ _ _ _ _ _ _ (_, [(2, 0), (0, (xs 1))], [(0, 0)], _, _, _)
      refine ev_ret rfl (by decide) (by decide) ?_
      show jEv _ _ _ _ _ _ _ (_, [(2, (-2)), (2, 0), (2, 42), (0, 0)], [(0, 0)], _, _, _)
      refine ev_aload_n rfl ?_
      refine ev_aload_n rfl ?_
      refine ev_iload_n rfl ?_
      refine ev_iconst ?_
      refine ev_iadd (r := 1) (by decide) ?_
      refine ev_sald (j := 1) (v := (xs 1)) rfl rfl rfl ?_
      refine ev_in (d := 7) (a := 0) (b := 0) (cd' := c247_0) (m := 3) (L0 := [(2, 42), (0, (xs 1)), (9, 0)]) (jcall_v (A := [(0, (xs 1))]) (S' := [(0, 0)]) (r := 42) rfl (hS13.lt (by decide)) (hS13.sh (by decide) rfl).1 (Nat.le_of_ble_eq_true rfl)) (by decide) ml247 pp247 (Nat.le_of_ble_eq_true rfl) rfl (by decide) (by decide) ?_
      refine ev_iload_n rfl ?_
      refine ev_iconst ?_
      refine ev_iconst ?_
      refine ev_in (d := 6) (a := 0) (b := 0) (cd' := c242_0) (m := 3) (L0 := [(0, (xs 1)), (0, 2), (0, 3)]) (jcall_s (A := [(0, 3), (0, 2), (0, (xs 1))]) (S' := []) (by decide) rfl (Nat.le_of_ble_eq_true rfl)) (by decide) ml242 pp242 (Nat.le_of_ble_eq_true rfl) rfl (by decide) (by decide) ?_
      refine ev_iload_n rfl ?_
      refine ev_iload_n rfl ?_
      refine ev_icmplt f242_14 (fun c28 => absurd c28 (by omega)) (fun c28 => ?_)
      refine ev_iload_n rfl ?_
      refine ev_iload_n rfl ?_
      refine ev_icmpgt f242_14 (fun c29 => absurd c29 (by omega)) (fun c29 => ?_)
      refine ev_iconst ?_
      refine ev_goto f242_15 ?_
      refine ev_ret rfl (by decide) (by decide) ?_
      show jEv _ _ _ _ _ _ _ (_, [(2, 42), (0, (xs 1)), (9, 0)], [(0, 1)], _, _, _)
      refine ev_ifne f247_11 (fun c30 => ?_) (fun c30 => absurd c30 (by omega))
      refine ev_aload_n rfl ?_
      refine ev_getf (r := 42) (v := 0) (hS13.lt (by decide)) (hS13.fam (by decide) (by decide)) ft12_9 ((jw_ne e13 (Or.inl (by decide))).trans ((jw_ne e12 (Or.inl (by decide))).trans ((jw_ne e11 (Or.inl (by decide))).trans ((jw_ne e10 (Or.inl (by decide))).trans ((jw_ne e9 (Or.inl (by decide))).trans ((jw_ne e8 (Or.inl (by decide))).trans ((jw_ne e7 (Or.inl (by decide))).trans ((jw_ne e6 (Or.inl (by decide))).trans ((jw_ne e5 (Or.inl (by decide))).trans ((jw_ne e4 (Or.inl (by decide))).trans ((jw_ne e3 (Or.inl (by decide))).trans ((jw_ne e2 (Or.inl (by decide))).trans ((jw_ne e1 (Or.inl (by decide))).trans ((hF.v rfl))))))))))))))) ?_
      refine ev_ifle f247_21 (fun c31 => ?_) (fun c31 => absurd c31 (by omega))
      refine ev_aload_n rfl ?_
      refine ev_getf (r := 42) (v := 0) (hS13.lt (by decide)) (hS13.fam (by decide) (by decide)) ft12_1 ((jw_ne e13 (Or.inl (by decide))).trans ((jw_ne e12 (Or.inl (by decide))).trans ((jw_ne e11 (Or.inl (by decide))).trans ((jw_ne e10 (Or.inl (by decide))).trans ((jw_ne e9 (Or.inl (by decide))).trans ((jw_ne e8 (Or.inl (by decide))).trans ((jw_ne e7 (Or.inl (by decide))).trans ((jw_ne e6 (Or.inl (by decide))).trans ((jw_ne e5 (Or.inl (by decide))).trans ((jw_ne e4 (Or.inl (by decide))).trans ((jw_ne e3 (Or.inl (by decide))).trans ((jw_ne e2 (Or.inl (by decide))).trans ((jw_ne e1 (Or.inl (by decide))).trans ((hF.v rfl))))))))))))))) ?_
      refine ev_iconst ?_
      refine ev_icmpne f247_32 (fun c32 => ?_) (fun c32 => absurd c32 (by omega))
      refine ev_aload_n rfl ?_
      refine ev_getf (r := 42) (v := 43) (hS13.lt (by decide)) (hS13.fam (by decide) (by decide)) ft12_2 ((jw_ne e13 (Or.inl (by decide))).trans ((jw_ne e12 (Or.inl (by decide))).trans ((jw_ne e11 (Or.inl (by decide))).trans ((jw_ne e10 (Or.inl (by decide))).trans ((jw_ne e9 (Or.inl (by decide))).trans ((jw_ne e8 (Or.inl (by decide))).trans ((jw_ne e7 (Or.inl (by decide))).trans ((jw_ne e6 (Or.inl (by decide))).trans ((jw_ne e5 (Or.inl (by decide))).trans ((jw_ne e4 (Or.inl (by decide))).trans ((jw_ne e3 (Or.inl (by decide))).trans ((jw_ne e2 (Or.inl (by decide))).trans ((jw_ne e1 (Or.inl (by decide))).trans ((hF.v rfl))))))))))))))) ?_
      refine ev_aload_n rfl ?_
      refine ev_getf (r := 42) (v := 0) (hS13.lt (by decide)) (hS13.fam (by decide) (by decide)) ft12_1 ((jw_ne e13 (Or.inl (by decide))).trans ((jw_ne e12 (Or.inl (by decide))).trans ((jw_ne e11 (Or.inl (by decide))).trans ((jw_ne e10 (Or.inl (by decide))).trans ((jw_ne e9 (Or.inl (by decide))).trans ((jw_ne e8 (Or.inl (by decide))).trans ((jw_ne e7 (Or.inl (by decide))).trans ((jw_ne e6 (Or.inl (by decide))).trans ((jw_ne e5 (Or.inl (by decide))).trans ((jw_ne e4 (Or.inl (by decide))).trans ((jw_ne e3 (Or.inl (by decide))).trans ((jw_ne e2 (Or.inl (by decide))).trans ((jw_ne e1 (Or.inl (by decide))).trans ((hF.v rfl))))))))))))))) ?_
      refine ev_iload_n rfl ?_
      refine ev_iastG (r := 43) (j := 0) (hS13.lt (by decide)) (hS13.sh (by decide) rfl).1 rfl (hS13.inb (by decide) (by decide)) (fun h14 e14 => ?_)
      have hS14 := hS13.wr e14
      refine ev_bipush ?_
      refine ev_aload_n rfl ?_
      refine ev_getf (r := 42) (v := 0) (hS14.lt (by decide)) (hS14.fam (by decide) (by decide)) ft12_1 ((jw_ne e14 (Or.inl (by decide))).trans ((jw_ne e13 (Or.inl (by decide))).trans ((jw_ne e12 (Or.inl (by decide))).trans ((jw_ne e11 (Or.inl (by decide))).trans ((jw_ne e10 (Or.inl (by decide))).trans ((jw_ne e9 (Or.inl (by decide))).trans ((jw_ne e8 (Or.inl (by decide))).trans ((jw_ne e7 (Or.inl (by decide))).trans ((jw_ne e6 (Or.inl (by decide))).trans ((jw_ne e5 (Or.inl (by decide))).trans ((jw_ne e4 (Or.inl (by decide))).trans ((jw_ne e3 (Or.inl (by decide))).trans ((jw_ne e2 (Or.inl (by decide))).trans ((jw_ne e1 (Or.inl (by decide))).trans ((hF.v rfl)))))))))))))))) ?_
      refine ev_imul (r := 0) (by decide) ?_
      refine ev_istore_n (L' := [(2, 42), (0, (xs 1)), (0, 0)]) (Nat.le_of_ble_eq_true rfl) rfl ?_
      refine ev_iload_n rfl ?_
      refine ev_bipush ?_
      refine ev_aload_n rfl ?_
      refine ev_getf (r := 42) (v := 0) (hS14.lt (by decide)) (hS14.fam (by decide) (by decide)) ft12_1 ((jw_ne e14 (Or.inl (by decide))).trans ((jw_ne e13 (Or.inl (by decide))).trans ((jw_ne e12 (Or.inl (by decide))).trans ((jw_ne e11 (Or.inl (by decide))).trans ((jw_ne e10 (Or.inl (by decide))).trans ((jw_ne e9 (Or.inl (by decide))).trans ((jw_ne e8 (Or.inl (by decide))).trans ((jw_ne e7 (Or.inl (by decide))).trans ((jw_ne e6 (Or.inl (by decide))).trans ((jw_ne e5 (Or.inl (by decide))).trans ((jw_ne e4 (Or.inl (by decide))).trans ((jw_ne e3 (Or.inl (by decide))).trans ((jw_ne e2 (Or.inl (by decide))).trans ((jw_ne e1 (Or.inl (by decide))).trans ((hF.v rfl)))))))))))))))) ?_
      refine ev_imul (r := 0) (by decide) ?_
      refine ev_bipush ?_
      refine ev_iadd (r := 9) (by decide) ?_
      refine ev_icmpge f247_77 (fun c33 => absurd c33 (by omega)) (fun c33 => ?_)
      refine ev_aload_n rfl ?_
      refine ev_getf (r := 42) (v := 45) (hS14.lt (by decide)) (hS14.fam (by decide) (by decide)) ft12_4 ((jw_ne e14 (Or.inl (by decide))).trans ((jw_ne e13 (Or.inl (by decide))).trans ((jw_ne e12 (Or.inl (by decide))).trans ((jw_ne e11 (Or.inl (by decide))).trans ((jw_ne e10 (Or.inl (by decide))).trans ((jw_ne e9 (Or.inl (by decide))).trans ((jw_ne e8 (Or.inl (by decide))).trans ((jw_ne e7 (Or.inl (by decide))).trans ((jw_ne e6 (Or.inl (by decide))).trans ((jw_ne e5 (Or.inl (by decide))).trans ((jw_ne e4 (Or.inl (by decide))).trans ((jw_ne e3 (Or.inl (by decide))).trans ((jw_ne e2 (Or.inl (by decide))).trans ((jw_ne e1 (Or.inl (by decide))).trans ((hF.v rfl)))))))))))))))) ?_
      refine ev_iload_n rfl ?_
      refine ev_iconst ?_
      refine ev_iastG (r := 45) (j := 0) (hS14.lt (by decide)) (hS14.sh (by decide) rfl).1 rfl (hS14.inb (by decide) (by decide)) (fun h15 e15 => ?_)
      have hS15 := hS14.wr e15
      refine ev_iinc (w := 1) (L' := [(2, 42), (0, (xs 1)), (0, 1)]) rfl (by decide) rfl ?_
      refine ev_goto f247_50 ?_
      refine ev_iload_n rfl ?_
      refine ev_bipush ?_
      refine ev_aload_n rfl ?_
      refine ev_getf (r := 42) (v := 0) (hS15.lt (by decide)) (hS15.fam (by decide) (by decide)) ft12_1 ((jw_ne e15 (Or.inl (by decide))).trans ((jw_ne e14 (Or.inl (by decide))).trans ((jw_ne e13 (Or.inl (by decide))).trans ((jw_ne e12 (Or.inl (by decide))).trans ((jw_ne e11 (Or.inl (by decide))).trans ((jw_ne e10 (Or.inl (by decide))).trans ((jw_ne e9 (Or.inl (by decide))).trans ((jw_ne e8 (Or.inl (by decide))).trans ((jw_ne e7 (Or.inl (by decide))).trans ((jw_ne e6 (Or.inl (by decide))).trans ((jw_ne e5 (Or.inl (by decide))).trans ((jw_ne e4 (Or.inl (by decide))).trans ((jw_ne e3 (Or.inl (by decide))).trans ((jw_ne e2 (Or.inl (by decide))).trans ((jw_ne e1 (Or.inl (by decide))).trans ((hF.v rfl))))))))))))))))) ?_
      refine ev_imul (r := 0) (by decide) ?_
      refine ev_bipush ?_
      refine ev_iadd (r := 9) (by decide) ?_
      refine ev_icmpge f247_77 (fun c34 => absurd c34 (by omega)) (fun c34 => ?_)
      refine ev_aload_n rfl ?_
      refine ev_getf (r := 42) (v := 45) (hS15.lt (by decide)) (hS15.fam (by decide) (by decide)) ft12_4 ((jw_ne e15 (Or.inl (by decide))).trans ((jw_ne e14 (Or.inl (by decide))).trans ((jw_ne e13 (Or.inl (by decide))).trans ((jw_ne e12 (Or.inl (by decide))).trans ((jw_ne e11 (Or.inl (by decide))).trans ((jw_ne e10 (Or.inl (by decide))).trans ((jw_ne e9 (Or.inl (by decide))).trans ((jw_ne e8 (Or.inl (by decide))).trans ((jw_ne e7 (Or.inl (by decide))).trans ((jw_ne e6 (Or.inl (by decide))).trans ((jw_ne e5 (Or.inl (by decide))).trans ((jw_ne e4 (Or.inl (by decide))).trans ((jw_ne e3 (Or.inl (by decide))).trans ((jw_ne e2 (Or.inl (by decide))).trans ((jw_ne e1 (Or.inl (by decide))).trans ((hF.v rfl))))))))))))))))) ?_
      refine ev_iload_n rfl ?_
      refine ev_iconst ?_
      refine ev_iastG (r := 45) (j := 1) (hS15.lt (by decide)) (hS15.sh (by decide) rfl).1 rfl (hS15.inb (by decide) (by decide)) (fun h16 e16 => ?_)
      have hS16 := hS15.wr e16
      refine ev_iinc (w := 2) (L' := [(2, 42), (0, (xs 1)), (0, 2)]) rfl (by decide) rfl ?_
      refine ev_goto f247_50 ?_
      refine ev_iload_n rfl ?_
      refine ev_bipush ?_
      refine ev_aload_n rfl ?_
      refine ev_getf (r := 42) (v := 0) (hS16.lt (by decide)) (hS16.fam (by decide) (by decide)) ft12_1 ((jw_ne e16 (Or.inl (by decide))).trans ((jw_ne e15 (Or.inl (by decide))).trans ((jw_ne e14 (Or.inl (by decide))).trans ((jw_ne e13 (Or.inl (by decide))).trans ((jw_ne e12 (Or.inl (by decide))).trans ((jw_ne e11 (Or.inl (by decide))).trans ((jw_ne e10 (Or.inl (by decide))).trans ((jw_ne e9 (Or.inl (by decide))).trans ((jw_ne e8 (Or.inl (by decide))).trans ((jw_ne e7 (Or.inl (by decide))).trans ((jw_ne e6 (Or.inl (by decide))).trans ((jw_ne e5 (Or.inl (by decide))).trans ((jw_ne e4 (Or.inl (by decide))).trans ((jw_ne e3 (Or.inl (by decide))).trans ((jw_ne e2 (Or.inl (by decide))).trans ((jw_ne e1 (Or.inl (by decide))).trans ((hF.v rfl)))))))))))))))))) ?_
      refine ev_imul (r := 0) (by decide) ?_
      refine ev_bipush ?_
      refine ev_iadd (r := 9) (by decide) ?_
      refine ev_icmpge f247_77 (fun c35 => absurd c35 (by omega)) (fun c35 => ?_)
      refine ev_aload_n rfl ?_
      refine ev_getf (r := 42) (v := 45) (hS16.lt (by decide)) (hS16.fam (by decide) (by decide)) ft12_4 ((jw_ne e16 (Or.inl (by decide))).trans ((jw_ne e15 (Or.inl (by decide))).trans ((jw_ne e14 (Or.inl (by decide))).trans ((jw_ne e13 (Or.inl (by decide))).trans ((jw_ne e12 (Or.inl (by decide))).trans ((jw_ne e11 (Or.inl (by decide))).trans ((jw_ne e10 (Or.inl (by decide))).trans ((jw_ne e9 (Or.inl (by decide))).trans ((jw_ne e8 (Or.inl (by decide))).trans ((jw_ne e7 (Or.inl (by decide))).trans ((jw_ne e6 (Or.inl (by decide))).trans ((jw_ne e5 (Or.inl (by decide))).trans ((jw_ne e4 (Or.inl (by decide))).trans ((jw_ne e3 (Or.inl (by decide))).trans ((jw_ne e2 (Or.inl (by decide))).trans ((jw_ne e1 (Or.inl (by decide))).trans ((hF.v rfl)))))))))))))))))) ?_
      refine ev_iload_n rfl ?_
      refine ev_iconst ?_
      refine ev_iastG (r := 45) (j := 2) (hS16.lt (by decide)) (hS16.sh (by decide) rfl).1 rfl (hS16.inb (by decide) (by decide)) (fun h17 e17 => ?_)
      have hS17 := hS16.wr e17
      refine ev_iinc (w := 3) (L' := [(2, 42), (0, (xs 1)), (0, 3)]) rfl (by decide) rfl ?_
      refine ev_goto f247_50 ?_
      refine ev_iload_n rfl ?_
      refine ev_bipush ?_
      refine ev_aload_n rfl ?_
      refine ev_getf (r := 42) (v := 0) (hS17.lt (by decide)) (hS17.fam (by decide) (by decide)) ft12_1 ((jw_ne e17 (Or.inl (by decide))).trans ((jw_ne e16 (Or.inl (by decide))).trans ((jw_ne e15 (Or.inl (by decide))).trans ((jw_ne e14 (Or.inl (by decide))).trans ((jw_ne e13 (Or.inl (by decide))).trans ((jw_ne e12 (Or.inl (by decide))).trans ((jw_ne e11 (Or.inl (by decide))).trans ((jw_ne e10 (Or.inl (by decide))).trans ((jw_ne e9 (Or.inl (by decide))).trans ((jw_ne e8 (Or.inl (by decide))).trans ((jw_ne e7 (Or.inl (by decide))).trans ((jw_ne e6 (Or.inl (by decide))).trans ((jw_ne e5 (Or.inl (by decide))).trans ((jw_ne e4 (Or.inl (by decide))).trans ((jw_ne e3 (Or.inl (by decide))).trans ((jw_ne e2 (Or.inl (by decide))).trans ((jw_ne e1 (Or.inl (by decide))).trans ((hF.v rfl))))))))))))))))))) ?_
      refine ev_imul (r := 0) (by decide) ?_
      refine ev_bipush ?_
      refine ev_iadd (r := 9) (by decide) ?_
      refine ev_icmpge f247_77 (fun c36 => absurd c36 (by omega)) (fun c36 => ?_)
      refine ev_aload_n rfl ?_
      refine ev_getf (r := 42) (v := 45) (hS17.lt (by decide)) (hS17.fam (by decide) (by decide)) ft12_4 ((jw_ne e17 (Or.inl (by decide))).trans ((jw_ne e16 (Or.inl (by decide))).trans ((jw_ne e15 (Or.inl (by decide))).trans ((jw_ne e14 (Or.inl (by decide))).trans ((jw_ne e13 (Or.inl (by decide))).trans ((jw_ne e12 (Or.inl (by decide))).trans ((jw_ne e11 (Or.inl (by decide))).trans ((jw_ne e10 (Or.inl (by decide))).trans ((jw_ne e9 (Or.inl (by decide))).trans ((jw_ne e8 (Or.inl (by decide))).trans ((jw_ne e7 (Or.inl (by decide))).trans ((jw_ne e6 (Or.inl (by decide))).trans ((jw_ne e5 (Or.inl (by decide))).trans ((jw_ne e4 (Or.inl (by decide))).trans ((jw_ne e3 (Or.inl (by decide))).trans ((jw_ne e2 (Or.inl (by decide))).trans ((jw_ne e1 (Or.inl (by decide))).trans ((hF.v rfl))))))))))))))))))) ?_
      refine ev_iload_n rfl ?_
      refine ev_iconst ?_
      refine ev_iastG (r := 45) (j := 3) (hS17.lt (by decide)) (hS17.sh (by decide) rfl).1 rfl (hS17.inb (by decide) (by decide)) (fun h18 e18 => ?_)
      have hS18 := hS17.wr e18
      refine ev_iinc (w := 4) (L' := [(2, 42), (0, (xs 1)), (0, 4)]) rfl (by decide) rfl ?_
      refine ev_goto f247_50 ?_
      refine ev_iload_n rfl ?_
      refine ev_bipush ?_
      refine ev_aload_n rfl ?_
      refine ev_getf (r := 42) (v := 0) (hS18.lt (by decide)) (hS18.fam (by decide) (by decide)) ft12_1 ((jw_ne e18 (Or.inl (by decide))).trans ((jw_ne e17 (Or.inl (by decide))).trans ((jw_ne e16 (Or.inl (by decide))).trans ((jw_ne e15 (Or.inl (by decide))).trans ((jw_ne e14 (Or.inl (by decide))).trans ((jw_ne e13 (Or.inl (by decide))).trans ((jw_ne e12 (Or.inl (by decide))).trans ((jw_ne e11 (Or.inl (by decide))).trans ((jw_ne e10 (Or.inl (by decide))).trans ((jw_ne e9 (Or.inl (by decide))).trans ((jw_ne e8 (Or.inl (by decide))).trans ((jw_ne e7 (Or.inl (by decide))).trans ((jw_ne e6 (Or.inl (by decide))).trans ((jw_ne e5 (Or.inl (by decide))).trans ((jw_ne e4 (Or.inl (by decide))).trans ((jw_ne e3 (Or.inl (by decide))).trans ((jw_ne e2 (Or.inl (by decide))).trans ((jw_ne e1 (Or.inl (by decide))).trans ((hF.v rfl)))))))))))))))))))) ?_
      refine ev_imul (r := 0) (by decide) ?_
      refine ev_bipush ?_
      refine ev_iadd (r := 9) (by decide) ?_
      refine ev_icmpge f247_77 (fun c37 => absurd c37 (by omega)) (fun c37 => ?_)
      refine ev_aload_n rfl ?_
      refine ev_getf (r := 42) (v := 45) (hS18.lt (by decide)) (hS18.fam (by decide) (by decide)) ft12_4 ((jw_ne e18 (Or.inl (by decide))).trans ((jw_ne e17 (Or.inl (by decide))).trans ((jw_ne e16 (Or.inl (by decide))).trans ((jw_ne e15 (Or.inl (by decide))).trans ((jw_ne e14 (Or.inl (by decide))).trans ((jw_ne e13 (Or.inl (by decide))).trans ((jw_ne e12 (Or.inl (by decide))).trans ((jw_ne e11 (Or.inl (by decide))).trans ((jw_ne e10 (Or.inl (by decide))).trans ((jw_ne e9 (Or.inl (by decide))).trans ((jw_ne e8 (Or.inl (by decide))).trans ((jw_ne e7 (Or.inl (by decide))).trans ((jw_ne e6 (Or.inl (by decide))).trans ((jw_ne e5 (Or.inl (by decide))).trans ((jw_ne e4 (Or.inl (by decide))).trans ((jw_ne e3 (Or.inl (by decide))).trans ((jw_ne e2 (Or.inl (by decide))).trans ((jw_ne e1 (Or.inl (by decide))).trans ((hF.v rfl)))))))))))))))))))) ?_
      refine ev_iload_n rfl ?_
      refine ev_iconst ?_
      refine ev_iastG (r := 45) (j := 4) (hS18.lt (by decide)) (hS18.sh (by decide) rfl).1 rfl (hS18.inb (by decide) (by decide)) (fun h19 e19 => ?_)
      have hS19 := hS18.wr e19
      refine ev_iinc (w := 5) (L' := [(2, 42), (0, (xs 1)), (0, 5)]) rfl (by decide) rfl ?_
      refine ev_goto f247_50 ?_
      refine ev_iload_n rfl ?_
      refine ev_bipush ?_
      refine ev_aload_n rfl ?_
      refine ev_getf (r := 42) (v := 0) (hS19.lt (by decide)) (hS19.fam (by decide) (by decide)) ft12_1 ((jw_ne e19 (Or.inl (by decide))).trans ((jw_ne e18 (Or.inl (by decide))).trans ((jw_ne e17 (Or.inl (by decide))).trans ((jw_ne e16 (Or.inl (by decide))).trans ((jw_ne e15 (Or.inl (by decide))).trans ((jw_ne e14 (Or.inl (by decide))).trans ((jw_ne e13 (Or.inl (by decide))).trans ((jw_ne e12 (Or.inl (by decide))).trans ((jw_ne e11 (Or.inl (by decide))).trans ((jw_ne e10 (Or.inl (by decide))).trans ((jw_ne e9 (Or.inl (by decide))).trans ((jw_ne e8 (Or.inl (by decide))).trans ((jw_ne e7 (Or.inl (by decide))).trans ((jw_ne e6 (Or.inl (by decide))).trans ((jw_ne e5 (Or.inl (by decide))).trans ((jw_ne e4 (Or.inl (by decide))).trans ((jw_ne e3 (Or.inl (by decide))).trans ((jw_ne e2 (Or.inl (by decide))).trans ((jw_ne e1 (Or.inl (by decide))).trans ((hF.v rfl))))))))))))))))))))) ?_
      refine ev_imul (r := 0) (by decide) ?_
      refine ev_bipush ?_
      refine ev_iadd (r := 9) (by decide) ?_
      refine ev_icmpge f247_77 (fun c38 => absurd c38 (by omega)) (fun c38 => ?_)
      refine ev_aload_n rfl ?_
      refine ev_getf (r := 42) (v := 45) (hS19.lt (by decide)) (hS19.fam (by decide) (by decide)) ft12_4 ((jw_ne e19 (Or.inl (by decide))).trans ((jw_ne e18 (Or.inl (by decide))).trans ((jw_ne e17 (Or.inl (by decide))).trans ((jw_ne e16 (Or.inl (by decide))).trans ((jw_ne e15 (Or.inl (by decide))).trans ((jw_ne e14 (Or.inl (by decide))).trans ((jw_ne e13 (Or.inl (by decide))).trans ((jw_ne e12 (Or.inl (by decide))).trans ((jw_ne e11 (Or.inl (by decide))).trans ((jw_ne e10 (Or.inl (by decide))).trans ((jw_ne e9 (Or.inl (by decide))).trans ((jw_ne e8 (Or.inl (by decide))).trans ((jw_ne e7 (Or.inl (by decide))).trans ((jw_ne e6 (Or.inl (by decide))).trans ((jw_ne e5 (Or.inl (by decide))).trans ((jw_ne e4 (Or.inl (by decide))).trans ((jw_ne e3 (Or.inl (by decide))).trans ((jw_ne e2 (Or.inl (by decide))).trans ((jw_ne e1 (Or.inl (by decide))).trans ((hF.v rfl))))))))))))))))))))) ?_
      refine ev_iload_n rfl ?_
      refine ev_iconst ?_
      refine ev_iastG (r := 45) (j := 5) (hS19.lt (by decide)) (hS19.sh (by decide) rfl).1 rfl (hS19.inb (by decide) (by decide)) (fun h20 e20 => ?_)
      have hS20 := hS19.wr e20
      refine ev_iinc (w := 6) (L' := [(2, 42), (0, (xs 1)), (0, 6)]) rfl (by decide) rfl ?_
      refine ev_goto f247_50 ?_
      refine ev_iload_n rfl ?_
      refine ev_bipush ?_
      refine ev_aload_n rfl ?_
      refine ev_getf (r := 42) (v := 0) (hS20.lt (by decide)) (hS20.fam (by decide) (by decide)) ft12_1 ((jw_ne e20 (Or.inl (by decide))).trans ((jw_ne e19 (Or.inl (by decide))).trans ((jw_ne e18 (Or.inl (by decide))).trans ((jw_ne e17 (Or.inl (by decide))).trans ((jw_ne e16 (Or.inl (by decide))).trans ((jw_ne e15 (Or.inl (by decide))).trans ((jw_ne e14 (Or.inl (by decide))).trans ((jw_ne e13 (Or.inl (by decide))).trans ((jw_ne e12 (Or.inl (by decide))).trans ((jw_ne e11 (Or.inl (by decide))).trans ((jw_ne e10 (Or.inl (by decide))).trans ((jw_ne e9 (Or.inl (by decide))).trans ((jw_ne e8 (Or.inl (by decide))).trans ((jw_ne e7 (Or.inl (by decide))).trans ((jw_ne e6 (Or.inl (by decide))).trans ((jw_ne e5 (Or.inl (by decide))).trans ((jw_ne e4 (Or.inl (by decide))).trans ((jw_ne e3 (Or.inl (by decide))).trans ((jw_ne e2 (Or.inl (by decide))).trans ((jw_ne e1 (Or.inl (by decide))).trans ((hF.v rfl)))))))))))))))))))))) ?_
      refine ev_imul (r := 0) (by decide) ?_
      refine ev_bipush ?_
      refine ev_iadd (r := 9) (by decide) ?_
      refine ev_icmpge f247_77 (fun c39 => absurd c39 (by omega)) (fun c39 => ?_)
      refine ev_aload_n rfl ?_
      refine ev_getf (r := 42) (v := 45) (hS20.lt (by decide)) (hS20.fam (by decide) (by decide)) ft12_4 ((jw_ne e20 (Or.inl (by decide))).trans ((jw_ne e19 (Or.inl (by decide))).trans ((jw_ne e18 (Or.inl (by decide))).trans ((jw_ne e17 (Or.inl (by decide))).trans ((jw_ne e16 (Or.inl (by decide))).trans ((jw_ne e15 (Or.inl (by decide))).trans ((jw_ne e14 (Or.inl (by decide))).trans ((jw_ne e13 (Or.inl (by decide))).trans ((jw_ne e12 (Or.inl (by decide))).trans ((jw_ne e11 (Or.inl (by decide))).trans ((jw_ne e10 (Or.inl (by decide))).trans ((jw_ne e9 (Or.inl (by decide))).trans ((jw_ne e8 (Or.inl (by decide))).trans ((jw_ne e7 (Or.inl (by decide))).trans ((jw_ne e6 (Or.inl (by decide))).trans ((jw_ne e5 (Or.inl (by decide))).trans ((jw_ne e4 (Or.inl (by decide))).trans ((jw_ne e3 (Or.inl (by decide))).trans ((jw_ne e2 (Or.inl (by decide))).trans ((jw_ne e1 (Or.inl (by decide))).trans ((hF.v rfl)))))))))))))))))))))) ?_
      refine ev_iload_n rfl ?_
      refine ev_iconst ?_
      refine ev_iastG (r := 45) (j := 6) (hS20.lt (by decide)) (hS20.sh (by decide) rfl).1 rfl (hS20.inb (by decide) (by decide)) (fun h21 e21 => ?_)
      have hS21 := hS20.wr e21
      refine ev_iinc (w := 7) (L' := [(2, 42), (0, (xs 1)), (0, 7)]) rfl (by decide) rfl ?_
      refine ev_goto f247_50 ?_
      refine ev_iload_n rfl ?_
      refine ev_bipush ?_
      refine ev_aload_n rfl ?_
      refine ev_getf (r := 42) (v := 0) (hS21.lt (by decide)) (hS21.fam (by decide) (by decide)) ft12_1 ((jw_ne e21 (Or.inl (by decide))).trans ((jw_ne e20 (Or.inl (by decide))).trans ((jw_ne e19 (Or.inl (by decide))).trans ((jw_ne e18 (Or.inl (by decide))).trans ((jw_ne e17 (Or.inl (by decide))).trans ((jw_ne e16 (Or.inl (by decide))).trans ((jw_ne e15 (Or.inl (by decide))).trans ((jw_ne e14 (Or.inl (by decide))).trans ((jw_ne e13 (Or.inl (by decide))).trans ((jw_ne e12 (Or.inl (by decide))).trans ((jw_ne e11 (Or.inl (by decide))).trans ((jw_ne e10 (Or.inl (by decide))).trans ((jw_ne e9 (Or.inl (by decide))).trans ((jw_ne e8 (Or.inl (by decide))).trans ((jw_ne e7 (Or.inl (by decide))).trans ((jw_ne e6 (Or.inl (by decide))).trans ((jw_ne e5 (Or.inl (by decide))).trans ((jw_ne e4 (Or.inl (by decide))).trans ((jw_ne e3 (Or.inl (by decide))).trans ((jw_ne e2 (Or.inl (by decide))).trans ((jw_ne e1 (Or.inl (by decide))).trans ((hF.v rfl))))))))))))))))))))))) ?_
      refine ev_imul (r := 0) (by decide) ?_
      refine ev_bipush ?_
      refine ev_iadd (r := 9) (by decide) ?_
      refine ev_icmpge f247_77 (fun c40 => absurd c40 (by omega)) (fun c40 => ?_)
      refine ev_aload_n rfl ?_
      refine ev_getf (r := 42) (v := 45) (hS21.lt (by decide)) (hS21.fam (by decide) (by decide)) ft12_4 ((jw_ne e21 (Or.inl (by decide))).trans ((jw_ne e20 (Or.inl (by decide))).trans ((jw_ne e19 (Or.inl (by decide))).trans ((jw_ne e18 (Or.inl (by decide))).trans ((jw_ne e17 (Or.inl (by decide))).trans ((jw_ne e16 (Or.inl (by decide))).trans ((jw_ne e15 (Or.inl (by decide))).trans ((jw_ne e14 (Or.inl (by decide))).trans ((jw_ne e13 (Or.inl (by decide))).trans ((jw_ne e12 (Or.inl (by decide))).trans ((jw_ne e11 (Or.inl (by decide))).trans ((jw_ne e10 (Or.inl (by decide))).trans ((jw_ne e9 (Or.inl (by decide))).trans ((jw_ne e8 (Or.inl (by decide))).trans ((jw_ne e7 (Or.inl (by decide))).trans ((jw_ne e6 (Or.inl (by decide))).trans ((jw_ne e5 (Or.inl (by decide))).trans ((jw_ne e4 (Or.inl (by decide))).trans ((jw_ne e3 (Or.inl (by decide))).trans ((jw_ne e2 (Or.inl (by decide))).trans ((jw_ne e1 (Or.inl (by decide))).trans ((hF.v rfl))))))))))))))))))))))) ?_
      refine ev_iload_n rfl ?_
      refine ev_iconst ?_
      refine ev_iastG (r := 45) (j := 7) (hS21.lt (by decide)) (hS21.sh (by decide) rfl).1 rfl (hS21.inb (by decide) (by decide)) (fun h22 e22 => ?_)
      have hS22 := hS21.wr e22
      refine ev_iinc (w := 8) (L' := [(2, 42), (0, (xs 1)), (0, 8)]) rfl (by decide) rfl ?_
      refine ev_goto f247_50 ?_
      refine ev_iload_n rfl ?_
      refine ev_bipush ?_
      refine ev_aload_n rfl ?_
      refine ev_getf (r := 42) (v := 0) (hS22.lt (by decide)) (hS22.fam (by decide) (by decide)) ft12_1 ((jw_ne e22 (Or.inl (by decide))).trans ((jw_ne e21 (Or.inl (by decide))).trans ((jw_ne e20 (Or.inl (by decide))).trans ((jw_ne e19 (Or.inl (by decide))).trans ((jw_ne e18 (Or.inl (by decide))).trans ((jw_ne e17 (Or.inl (by decide))).trans ((jw_ne e16 (Or.inl (by decide))).trans ((jw_ne e15 (Or.inl (by decide))).trans ((jw_ne e14 (Or.inl (by decide))).trans ((jw_ne e13 (Or.inl (by decide))).trans ((jw_ne e12 (Or.inl (by decide))).trans ((jw_ne e11 (Or.inl (by decide))).trans ((jw_ne e10 (Or.inl (by decide))).trans ((jw_ne e9 (Or.inl (by decide))).trans ((jw_ne e8 (Or.inl (by decide))).trans ((jw_ne e7 (Or.inl (by decide))).trans ((jw_ne e6 (Or.inl (by decide))).trans ((jw_ne e5 (Or.inl (by decide))).trans ((jw_ne e4 (Or.inl (by decide))).trans ((jw_ne e3 (Or.inl (by decide))).trans ((jw_ne e2 (Or.inl (by decide))).trans ((jw_ne e1 (Or.inl (by decide))).trans ((hF.v rfl)))))))))))))))))))))))) ?_
      refine ev_imul (r := 0) (by decide) ?_
      refine ev_bipush ?_
      refine ev_iadd (r := 9) (by decide) ?_
      refine ev_icmpge f247_77 (fun c41 => absurd c41 (by omega)) (fun c41 => ?_)
      refine ev_aload_n rfl ?_
      refine ev_getf (r := 42) (v := 45) (hS22.lt (by decide)) (hS22.fam (by decide) (by decide)) ft12_4 ((jw_ne e22 (Or.inl (by decide))).trans ((jw_ne e21 (Or.inl (by decide))).trans ((jw_ne e20 (Or.inl (by decide))).trans ((jw_ne e19 (Or.inl (by decide))).trans ((jw_ne e18 (Or.inl (by decide))).trans ((jw_ne e17 (Or.inl (by decide))).trans ((jw_ne e16 (Or.inl (by decide))).trans ((jw_ne e15 (Or.inl (by decide))).trans ((jw_ne e14 (Or.inl (by decide))).trans ((jw_ne e13 (Or.inl (by decide))).trans ((jw_ne e12 (Or.inl (by decide))).trans ((jw_ne e11 (Or.inl (by decide))).trans ((jw_ne e10 (Or.inl (by decide))).trans ((jw_ne e9 (Or.inl (by decide))).trans ((jw_ne e8 (Or.inl (by decide))).trans ((jw_ne e7 (Or.inl (by decide))).trans ((jw_ne e6 (Or.inl (by decide))).trans ((jw_ne e5 (Or.inl (by decide))).trans ((jw_ne e4 (Or.inl (by decide))).trans ((jw_ne e3 (Or.inl (by decide))).trans ((jw_ne e2 (Or.inl (by decide))).trans ((jw_ne e1 (Or.inl (by decide))).trans ((hF.v rfl)))))))))))))))))))))))) ?_
      refine ev_iload_n rfl ?_
      refine ev_iconst ?_
      refine ev_iastG (r := 45) (j := 8) (hS22.lt (by decide)) (hS22.sh (by decide) rfl).1 rfl (hS22.inb (by decide) (by decide)) (fun h23 e23 => ?_)
      have hS23 := hS22.wr e23
      refine ev_iinc (w := 9) (L' := [(2, 42), (0, (xs 1)), (0, 9)]) rfl (by decide) rfl ?_
      refine ev_goto f247_50 ?_
      refine ev_iload_n rfl ?_
      refine ev_bipush ?_
      refine ev_aload_n rfl ?_
      refine ev_getf (r := 42) (v := 0) (hS23.lt (by decide)) (hS23.fam (by decide) (by decide)) ft12_1 ((jw_ne e23 (Or.inl (by decide))).trans ((jw_ne e22 (Or.inl (by decide))).trans ((jw_ne e21 (Or.inl (by decide))).trans ((jw_ne e20 (Or.inl (by decide))).trans ((jw_ne e19 (Or.inl (by decide))).trans ((jw_ne e18 (Or.inl (by decide))).trans ((jw_ne e17 (Or.inl (by decide))).trans ((jw_ne e16 (Or.inl (by decide))).trans ((jw_ne e15 (Or.inl (by decide))).trans ((jw_ne e14 (Or.inl (by decide))).trans ((jw_ne e13 (Or.inl (by decide))).trans ((jw_ne e12 (Or.inl (by decide))).trans ((jw_ne e11 (Or.inl (by decide))).trans ((jw_ne e10 (Or.inl (by decide))).trans ((jw_ne e9 (Or.inl (by decide))).trans ((jw_ne e8 (Or.inl (by decide))).trans ((jw_ne e7 (Or.inl (by decide))).trans ((jw_ne e6 (Or.inl (by decide))).trans ((jw_ne e5 (Or.inl (by decide))).trans ((jw_ne e4 (Or.inl (by decide))).trans ((jw_ne e3 (Or.inl (by decide))).trans ((jw_ne e2 (Or.inl (by decide))).trans ((jw_ne e1 (Or.inl (by decide))).trans ((hF.v rfl))))))))))))))))))))))))) ?_
      refine ev_imul (r := 0) (by decide) ?_
      refine ev_bipush ?_
      refine ev_iadd (r := 9) (by decide) ?_
      refine ev_icmpge f247_77 (fun c42 => ?_) (fun c42 => absurd c42 (by omega))
      refine ev_aload_n rfl ?_
      refine ev_dup (by decide) ?_
      refine ev_getf (r := 42) (v := 0) (hS23.lt (by decide)) (hS23.fam (by decide) (by decide)) ft12_1 ((jw_ne e23 (Or.inl (by decide))).trans ((jw_ne e22 (Or.inl (by decide))).trans ((jw_ne e21 (Or.inl (by decide))).trans ((jw_ne e20 (Or.inl (by decide))).trans ((jw_ne e19 (Or.inl (by decide))).trans ((jw_ne e18 (Or.inl (by decide))).trans ((jw_ne e17 (Or.inl (by decide))).trans ((jw_ne e16 (Or.inl (by decide))).trans ((jw_ne e15 (Or.inl (by decide))).trans ((jw_ne e14 (Or.inl (by decide))).trans ((jw_ne e13 (Or.inl (by decide))).trans ((jw_ne e12 (Or.inl (by decide))).trans ((jw_ne e11 (Or.inl (by decide))).trans ((jw_ne e10 (Or.inl (by decide))).trans ((jw_ne e9 (Or.inl (by decide))).trans ((jw_ne e8 (Or.inl (by decide))).trans ((jw_ne e7 (Or.inl (by decide))).trans ((jw_ne e6 (Or.inl (by decide))).trans ((jw_ne e5 (Or.inl (by decide))).trans ((jw_ne e4 (Or.inl (by decide))).trans ((jw_ne e3 (Or.inl (by decide))).trans ((jw_ne e2 (Or.inl (by decide))).trans ((jw_ne e1 (Or.inl (by decide))).trans ((hF.v rfl))))))))))))))))))))))))) ?_
      refine ev_iconst ?_
      refine ev_iadd (r := 1) (by decide) ?_
      refine ev_putfG (r := 42) (hS23.lt (by decide)) (hS23.fam (by decide) (by decide)) ft12_1 (fun e => absurd e nz12_1) (fun e => absurd e (by decide)) (fun h24 e24 => ?_)
      have hS24 := hS23.wr e24
      refine ev_aload_n rfl ?_
      refine ev_getf (r := 42) (v := 1) (hS24.lt (by decide)) (hS24.fam (by decide) (by decide)) ft12_1 (jw_eq e24) ?_
      refine ev_iconst ?_
      refine ev_isub (r := 0) (by decide) ?_
      refine ev_ret rfl (by decide) (by decide) ?_
      show jEv _ _ _ _ _ _ _ (_, [(2, (-2)), (2, 0), (2, 42), (0, 0)], [(0, 0), (0, 0)], _, _, _)
      refine ev_icmpeq f384_2190 (fun c43 => ?_) (fun c43 => absurd c43 (by omega))
      exact law_tail _
    · refine ev_iconst ?_
      refine ev_ret rfl (by decide) (by decide) ?_
      show jEv _ _ _ _ _ _ _ (_, [(2, (-2)), (2, 0), (2, 42), (0, 0)], [(0, (-1))], _, _, _)
      refine ev_aload_n rfl ?_
      refine ev_aload_n rfl ?_
      refine ev_iload_n rfl ?_
      refine ev_iconst ?_
      refine ev_iadd (r := 1) (by decide) ?_
      refine ev_sald (j := 1) (v := (xs 1)) rfl rfl rfl ?_
      refine ev_in (d := 7) (a := 0) (b := 0) (cd' := c247_0) (m := 3) (L0 := [(2, 42), (0, (xs 1)), (9, 0)]) (jcall_v (A := [(0, (xs 1))]) (S' := [(0, (-1))]) (r := 42) rfl (hF.1.lt (by decide)) (hF.1.sh (by decide) rfl).1 (Nat.le_of_ble_eq_true rfl)) (by decide) ml247 pp247 (Nat.le_of_ble_eq_true rfl) rfl (by decide) (by decide) ?_
      refine ev_iload_n rfl ?_
      refine ev_iconst ?_
      refine ev_iconst ?_
      refine ev_in (d := 6) (a := 0) (b := 0) (cd' := c242_0) (m := 3) (L0 := [(0, (xs 1)), (0, 2), (0, 3)]) (jcall_s (A := [(0, 3), (0, 2), (0, (xs 1))]) (S' := []) (by decide) rfl (Nat.le_of_ble_eq_true rfl)) (by decide) ml242 pp242 (Nat.le_of_ble_eq_true rfl) rfl (by decide) (by decide) ?_
      refine ev_iload_n rfl ?_
      refine ev_iload_n rfl ?_
      refine ev_icmplt f242_14 (fun c44 => absurd c44 (by omega)) (fun c44 => ?_)
      refine ev_iload_n rfl ?_
      refine ev_iload_n rfl ?_
      refine ev_icmpgt f242_14 (fun c45 => ?_) (fun c45 => absurd c45 (by omega))
      refine ev_iconst ?_
      refine ev_ret rfl (by decide) (by decide) ?_
      show jEv _ _ _ _ _ _ _ (_, [(2, 42), (0, (xs 1)), (9, 0)], [(0, 0)], _, _, _)
      refine ev_ifne f247_11 (fun c46 => absurd c46 (by omega)) (fun c46 => ?_)
      refine ev_iconst ?_
      refine ev_ret rfl (by decide) (by decide) ?_
      show jEv _ _ _ _ _ _ _ (_, [(2, (-2)), (2, 0), (2, 42), (0, 0)], [(0, (-1)), (0, (-1))], _, _, _)
      refine ev_icmpeq f384_2190 (fun c47 => ?_) (fun c47 => absurd c47 (by omega))
      exact law_tail _

/-! hang -/
set_option maxHeartbeats 4000000 in
theorem case_1 {xs : Nat → Int} (hr : ∀ j, -2147483648 ≤ xs j ∧ xs j < 2147483648) {h : JH} (hF : Fresh h) : jEv (jOk 8) (some 6) xs c384_0 600000 7302250 (fun v _ => v = some (0, 1)) (c384_283, [(2, -2), (2, 0), (2, 42), (0, 0)], [], h, 83, 23761) := by
  have r1 := hr 1
  have r2 := hr 2
  have r3 := hr 3
  have r4 := hr 4
  have r5 := hr 5
  refine ev_aload_n rfl ?_
  refine ev_aload_n rfl ?_
  refine ev_iload_n rfl ?_
  refine ev_iconst ?_
  refine ev_iadd (r := 1) (by decide) ?_
  refine ev_sald (j := 1) (v := (xs 1)) rfl rfl rfl ?_
  refine ev_aload_n rfl ?_
  refine ev_iload_n rfl ?_
  refine ev_iconst ?_
  refine ev_iadd (r := 2) (by decide) ?_
  refine ev_sald (j := 2) (v := (xs 2)) rfl rfl rfl ?_
  refine ev_in (d := 7) (a := 0) (b := 0) (cd' := c167_0) (m := 3) (L0 := [(2, 0), (0, (xs 1)), (0, (xs 2))]) (jcall_v (A := [(0, (xs 2)), (0, (xs 1))]) (S' := []) (r := 0) rfl (hF.1.lt (by decide)) (hF.1.sh (by decide) rfl).1 (Nat.le_of_ble_eq_true rfl)) (by decide) ml167 pp167 (Nat.le_of_ble_eq_true rfl) rfl (by decide) (by decide) ?_
  refine ev_aload_n rfl ?_
  refine ev_getf (r := 0) (v := 1) (hF.1.lt (by decide)) (hF.1.fam (by decide) (by decide)) ft11_0 ((hF.v rfl)) ?_
  refine ev_iload_n rfl ?_
  refine ev_in (d := 6) (a := 0) (b := 0) (cd' := c140_0) (m := 2) (L0 := [(2, 1), (0, (xs 1))]) (jcall_v (A := [(0, (xs 1))]) (S' := []) (r := 1) rfl (hF.1.lt (by decide)) (hF.1.sh (by decide) rfl).1 (Nat.le_of_ble_eq_true rfl)) (by decide) ml140 pp140 (Nat.le_of_ble_eq_true rfl) rfl (by decide) (by decide) ?_
  refine ev_iload_n rfl ?_
  refine ev_iflt f140_16 (fun c1 => ?_) (fun c1 => ?_)
  · refine ev_iconst ?_
    refine ev_ret rfl (by decide) (by decide) ?_
    show jEv _ _ _ _ _ _ _ (_, [(2, 0), (0, (xs 1)), (0, (xs 2))], [(0, 0)], _, _, _)
    refine ev_ifeq f167_20 (fun c2 => ?_) (fun c2 => absurd c2 (by omega))
    refine ev_iconst ?_
    refine ev_ret rfl (by decide) (by decide) ?_
    show jEv _ _ _ _ _ _ _ (_, [(2, (-2)), (2, 0), (2, 42), (0, 0)], [(0, (-1))], _, _, _)
    refine ev_aload_n rfl ?_
    refine ev_aload_n rfl ?_
    refine ev_iload_n rfl ?_
    refine ev_iconst ?_
    refine ev_iadd (r := 1) (by decide) ?_
    refine ev_sald (j := 1) (v := (xs 1)) rfl rfl rfl ?_
    refine ev_aload_n rfl ?_
    refine ev_iload_n rfl ?_
    refine ev_iconst ?_
    refine ev_iadd (r := 2) (by decide) ?_
    refine ev_sald (j := 2) (v := (xs 2)) rfl rfl rfl ?_
    refine ev_in (d := 7) (a := 0) (b := 0) (cd' := c248_0) (m := 4) (L0 := [(2, 42), (0, (xs 1)), (0, (xs 2)), (9, 0)]) (jcall_v (A := [(0, (xs 2)), (0, (xs 1))]) (S' := [(0, (-1))]) (r := 42) rfl (hF.1.lt (by decide)) (hF.1.sh (by decide) rfl).1 (Nat.le_of_ble_eq_true rfl)) (by decide) ml248 pp248 (Nat.le_of_ble_eq_true rfl) rfl (by decide) (by decide) ?_
    refine ev_aload_n rfl ?_
    refine ev_iload_n rfl ?_
    refine ev_in (d := 6) (a := 0) (b := 0) (cd' := c245_0) (m := 2) (L0 := [(2, 42), (0, (xs 1))]) (jcall_v (A := [(0, (xs 1))]) (S' := []) (r := 42) rfl (hF.1.lt (by decide)) (hF.1.sh (by decide) rfl).1 (Nat.le_of_ble_eq_true rfl)) (by decide) ml245 pp245 (Nat.le_of_ble_eq_true rfl) rfl (by decide) (by decide) ?_
    refine ev_iload_n rfl ?_
    refine ev_iconst ?_
    refine ev_aload_n rfl ?_
    refine ev_getf (r := 42) (v := 0) (hF.1.lt (by decide)) (hF.1.fam (by decide) (by decide)) ft12_1 ((hF.v rfl)) ?_
    refine ev_iconst ?_
    refine ev_isub (r := (-1)) (by decide) ?_
    refine ev_in (d := 5) (a := 0) (b := 0) (cd' := c242_0) (m := 3) (L0 := [(0, (xs 1)), (0, 0), (0, (-1))]) (jcall_s (A := [(0, (-1)), (0, 0), (0, (xs 1))]) (S' := []) (by decide) rfl (Nat.le_of_ble_eq_true rfl)) (by decide) ml242 pp242 (Nat.le_of_ble_eq_true rfl) rfl (by decide) (by decide) ?_
    refine ev_iload_n rfl ?_
    refine ev_iload_n rfl ?_
    refine ev_icmplt f242_14 (fun c3 => ?_) (fun c3 => absurd c3 (by omega))
    refine ev_iconst ?_
    refine ev_ret rfl (by decide) (by decide) ?_
    show jEv _ _ _ _ _ _ _ (_, [(2, 42), (0, (xs 1))], [(0, 0)], _, _, _)
    refine ev_ret rfl (by decide) (by decide) ?_
    show jEv _ _ _ _ _ _ _ (_, [(2, 42), (0, (xs 1)), (0, (xs 2)), (9, 0)], [(0, 0)], _, _, _)
    refine ev_ifeq f248_19 (fun c4 => ?_) (fun c4 => absurd c4 (by omega))
    refine ev_iconst ?_
    refine ev_ret rfl (by decide) (by decide) ?_
    show jEv _ _ _ _ _ _ _ (_, [(2, (-2)), (2, 0), (2, 42), (0, 0)], [(0, (-1)), (0, (-1))], _, _, _)
    refine ev_icmpeq f384_2190 (fun c5 => ?_) (fun c5 => absurd c5 (by omega))
    exact law_tail _
  · refine ev_iload_n rfl ?_
    refine ev_aload_n rfl ?_
    refine ev_getf (r := 1) (v := 0) (hF.1.lt (by decide)) (hF.1.fam (by decide) (by decide)) ft10_0 ((hF.v rfl)) ?_
    refine ev_icmpge f140_16 (fun c6 => ?_) (fun c6 => absurd c6 (by omega))
    refine ev_iconst ?_
    refine ev_ret rfl (by decide) (by decide) ?_
    show jEv _ _ _ _ _ _ _ (_, [(2, 0), (0, (xs 1)), (0, (xs 2))], [(0, 0)], _, _, _)
    refine ev_ifeq f167_20 (fun c7 => ?_) (fun c7 => absurd c7 (by omega))
    refine ev_iconst ?_
    refine ev_ret rfl (by decide) (by decide) ?_
    show jEv _ _ _ _ _ _ _ (_, [(2, (-2)), (2, 0), (2, 42), (0, 0)], [(0, (-1))], _, _, _)
    refine ev_aload_n rfl ?_
    refine ev_aload_n rfl ?_
    refine ev_iload_n rfl ?_
    refine ev_iconst ?_
    refine ev_iadd (r := 1) (by decide) ?_
    refine ev_sald (j := 1) (v := (xs 1)) rfl rfl rfl ?_
    refine ev_aload_n rfl ?_
    refine ev_iload_n rfl ?_
    refine ev_iconst ?_
    refine ev_iadd (r := 2) (by decide) ?_
    refine ev_sald (j := 2) (v := (xs 2)) rfl rfl rfl ?_
    refine ev_in (d := 7) (a := 0) (b := 0) (cd' := c248_0) (m := 4) (L0 := [(2, 42), (0, (xs 1)), (0, (xs 2)), (9, 0)]) (jcall_v (A := [(0, (xs 2)), (0, (xs 1))]) (S' := [(0, (-1))]) (r := 42) rfl (hF.1.lt (by decide)) (hF.1.sh (by decide) rfl).1 (Nat.le_of_ble_eq_true rfl)) (by decide) ml248 pp248 (Nat.le_of_ble_eq_true rfl) rfl (by decide) (by decide) ?_
    refine ev_aload_n rfl ?_
    refine ev_iload_n rfl ?_
    refine ev_in (d := 6) (a := 0) (b := 0) (cd' := c245_0) (m := 2) (L0 := [(2, 42), (0, (xs 1))]) (jcall_v (A := [(0, (xs 1))]) (S' := []) (r := 42) rfl (hF.1.lt (by decide)) (hF.1.sh (by decide) rfl).1 (Nat.le_of_ble_eq_true rfl)) (by decide) ml245 pp245 (Nat.le_of_ble_eq_true rfl) rfl (by decide) (by decide) ?_
    refine ev_iload_n rfl ?_
    refine ev_iconst ?_
    refine ev_aload_n rfl ?_
    refine ev_getf (r := 42) (v := 0) (hF.1.lt (by decide)) (hF.1.fam (by decide) (by decide)) ft12_1 ((hF.v rfl)) ?_
    refine ev_iconst ?_
    refine ev_isub (r := (-1)) (by decide) ?_
    refine ev_in (d := 5) (a := 0) (b := 0) (cd' := c242_0) (m := 3) (L0 := [(0, (xs 1)), (0, 0), (0, (-1))]) (jcall_s (A := [(0, (-1)), (0, 0), (0, (xs 1))]) (S' := []) (by decide) rfl (Nat.le_of_ble_eq_true rfl)) (by decide) ml242 pp242 (Nat.le_of_ble_eq_true rfl) rfl (by decide) (by decide) ?_
    refine ev_iload_n rfl ?_
    refine ev_iload_n rfl ?_
    refine ev_icmplt f242_14 (fun c8 => absurd c8 (by omega)) (fun c8 => ?_)
    refine ev_iload_n rfl ?_
    refine ev_iload_n rfl ?_
    refine ev_icmpgt f242_14 (fun c9 => ?_) (fun c9 => absurd c9 (by omega))
    refine ev_iconst ?_
    refine ev_ret rfl (by decide) (by decide) ?_
    show jEv _ _ _ _ _ _ _ (_, [(2, 42), (0, (xs 1))], [(0, 0)], _, _, _)
    refine ev_ret rfl (by decide) (by decide) ?_
    show jEv _ _ _ _ _ _ _ (_, [(2, 42), (0, (xs 1)), (0, (xs 2)), (9, 0)], [(0, 0)], _, _, _)
    refine ev_ifeq f248_19 (fun c10 => ?_) (fun c10 => absurd c10 (by omega))
    refine ev_iconst ?_
    refine ev_ret rfl (by decide) (by decide) ?_
    show jEv _ _ _ _ _ _ _ (_, [(2, (-2)), (2, 0), (2, 42), (0, 0)], [(0, (-1)), (0, (-1))], _, _, _)
    refine ev_icmpeq f384_2190 (fun c11 => ?_) (fun c11 => absurd c11 (by omega))
    exact law_tail _

/-! weight -/
set_option maxHeartbeats 4000000 in
theorem case_2 {xs : Nat → Int} (hr : ∀ j, -2147483648 ≤ xs j ∧ xs j < 2147483648) {h : JH} (hF : Fresh h) : jEv (jOk 8) (some 6) xs c384_0 600000 7302250 (fun v _ => v = some (0, 1)) (c384_316, [(2, -2), (2, 0), (2, 42), (0, 0)], [], h, 83, 23761) := by
  have r1 := hr 1
  have r2 := hr 2
  have r3 := hr 3
  have r4 := hr 4
  have r5 := hr 5
  refine ev_aload_n rfl ?_
  refine ev_aload_n rfl ?_
  refine ev_iload_n rfl ?_
  refine ev_iconst ?_
  refine ev_iadd (r := 1) (by decide) ?_
  refine ev_sald (j := 1) (v := (xs 1)) rfl rfl rfl ?_
  refine ev_aload_n rfl ?_
  refine ev_iload_n rfl ?_
  refine ev_iconst ?_
  refine ev_iadd (r := 2) (by decide) ?_
  refine ev_sald (j := 2) (v := (xs 2)) rfl rfl rfl ?_
  refine ev_aload_n rfl ?_
  refine ev_iload_n rfl ?_
  refine ev_iconst ?_
  refine ev_iadd (r := 3) (by decide) ?_
  refine ev_sald (j := 3) (v := (xs 3)) rfl rfl rfl ?_
  refine ev_aload_n rfl ?_
  refine ev_iload_n rfl ?_
  refine ev_iconst ?_
  refine ev_iadd (r := 4) (by decide) ?_
  refine ev_sald (j := 4) (v := (xs 4)) rfl rfl rfl ?_
  refine ev_in (d := 7) (a := 0) (b := 0) (cd' := c168_0) (m := 7) (L0 := [(2, 0), (0, (xs 1)), (0, (xs 2)), (0, (xs 3)), (0, (xs 4)), (9, 0), (9, 0)]) (jcall_v (A := [(0, (xs 4)), (0, (xs 3)), (0, (xs 2)), (0, (xs 1))]) (S' := []) (r := 0) rfl (hF.1.lt (by decide)) (hF.1.sh (by decide) rfl).1 (Nat.le_of_ble_eq_true rfl)) (by decide) ml168 pp168 (Nat.le_of_ble_eq_true rfl) rfl (by decide) (by decide) ?_
  refine ev_aload_n rfl ?_
  refine ev_getf (r := 0) (v := 1) (hF.1.lt (by decide)) (hF.1.fam (by decide) (by decide)) ft11_0 ((hF.v rfl)) ?_
  refine ev_iload_n rfl ?_
  refine ev_iload_n rfl ?_
  refine ev_iload_n rfl ?_
  refine ev_in (d := 6) (a := 0) (b := 0) (cd' := c146_0) (m := 4) (L0 := [(2, 1), (0, (xs 1)), (0, (xs 2)), (0, (xs 3))]) (jcall_v (A := [(0, (xs 3)), (0, (xs 2)), (0, (xs 1))]) (S' := []) (r := 1) rfl (hF.1.lt (by decide)) (hF.1.sh (by decide) rfl).1 (Nat.le_of_ble_eq_true rfl)) (by decide) ml146 pp146 (Nat.le_of_ble_eq_true rfl) rfl (by decide) (by decide) ?_
  refine ev_aload_n rfl ?_
  refine ev_iload_n rfl ?_
  refine ev_in (d := 5) (a := 0) (b := 0) (cd' := c140_0) (m := 2) (L0 := [(2, 1), (0, (xs 1))]) (jcall_v (A := [(0, (xs 1))]) (S' := []) (r := 1) rfl (hF.1.lt (by decide)) (hF.1.sh (by decide) rfl).1 (Nat.le_of_ble_eq_true rfl)) (by decide) ml140 pp140 (Nat.le_of_ble_eq_true rfl) rfl (by decide) (by decide) ?_
  refine ev_iload_n rfl ?_
  refine ev_iflt f140_16 (fun c1 => ?_) (fun c1 => ?_)
  · refine ev_iconst ?_
    refine ev_ret rfl (by decide) (by decide) ?_
    show jEv _ _ _ _ _ _ _ (_, [(2, 1), (0, (xs 1)), (0, (xs 2)), (0, (xs 3))], [(0, 0)], _, _, _)
    refine ev_ifeq f146_39 (fun c2 => ?_) (fun c2 => absurd c2 (by omega))
    refine ev_iconst ?_
    refine ev_ret rfl (by decide) (by decide) ?_
    show jEv _ _ _ _ _ _ _ (_, [(2, 0), (0, (xs 1)), (0, (xs 2)), (0, (xs 3)), (0, (xs 4)), (9, 0), (9, 0)], [(0, 0)], _, _, _)
    refine ev_ifeq f168_26 (fun c3 => ?_) (fun c3 => absurd c3 (by omega))
    refine ev_iconst ?_
    refine ev_ret rfl (by decide) (by decide) ?_
    show jEv _ _ _ _ _ _ _ (_, [(2, (-2)), (2, 0), (2, 42), (0, 0)], [(0, (-1))], _, _, _)
    refine ev_aload_n rfl ?_
    refine ev_aload_n rfl ?_
    refine ev_iload_n rfl ?_
    refine ev_iconst ?_
    refine ev_iadd (r := 1) (by decide) ?_
    refine ev_sald (j := 1) (v := (xs 1)) rfl rfl rfl ?_
    refine ev_aload_n rfl ?_
    refine ev_iload_n rfl ?_
    refine ev_iconst ?_
    refine ev_iadd (r := 2) (by decide) ?_
    refine ev_sald (j := 2) (v := (xs 2)) rfl rfl rfl ?_
    refine ev_aload_n rfl ?_
    refine ev_iload_n rfl ?_
    refine ev_iconst ?_
    refine ev_iadd (r := 3) (by decide) ?_
    refine ev_sald (j := 3) (v := (xs 3)) rfl rfl rfl ?_
    refine ev_aload_n rfl ?_
    refine ev_iload_n rfl ?_
    refine ev_iconst ?_
    refine ev_iadd (r := 4) (by decide) ?_
    refine ev_sald (j := 4) (v := (xs 4)) rfl rfl rfl ?_
    refine ev_in (d := 7) (a := 0) (b := 0) (cd' := c250_0) (m := 7) (L0 := [(2, 42), (0, (xs 1)), (0, (xs 2)), (0, (xs 3)), (0, (xs 4)), (9, 0), (9, 0)]) (jcall_v (A := [(0, (xs 4)), (0, (xs 3)), (0, (xs 2)), (0, (xs 1))]) (S' := [(0, (-1))]) (r := 42) rfl (hF.1.lt (by decide)) (hF.1.sh (by decide) rfl).1 (Nat.le_of_ble_eq_true rfl)) (by decide) ml250 pp250 (Nat.le_of_ble_eq_true rfl) rfl (by decide) (by decide) ?_
    refine ev_aload_n rfl ?_
    refine ev_iload_n rfl ?_
    refine ev_iload_n rfl ?_
    refine ev_iload_n rfl ?_
    refine ev_in (d := 6) (a := 0) (b := 0) (cd' := c249_0) (m := 4) (L0 := [(2, 42), (0, (xs 1)), (0, (xs 2)), (0, (xs 3))]) (jcall_v (A := [(0, (xs 3)), (0, (xs 2)), (0, (xs 1))]) (S' := []) (r := 42) rfl (hF.1.lt (by decide)) (hF.1.sh (by decide) rfl).1 (Nat.le_of_ble_eq_true rfl)) (by decide) ml249 pp249 (Nat.le_of_ble_eq_true rfl) rfl (by decide) (by decide) ?_
    refine ev_aload_n rfl ?_
    refine ev_iload_n rfl ?_
    refine ev_in (d := 5) (a := 0) (b := 0) (cd' := c245_0) (m := 2) (L0 := [(2, 42), (0, (xs 1))]) (jcall_v (A := [(0, (xs 1))]) (S' := []) (r := 42) rfl (hF.1.lt (by decide)) (hF.1.sh (by decide) rfl).1 (Nat.le_of_ble_eq_true rfl)) (by decide) ml245 pp245 (Nat.le_of_ble_eq_true rfl) rfl (by decide) (by decide) ?_
    refine ev_iload_n rfl ?_
    refine ev_iconst ?_
    refine ev_aload_n rfl ?_
    refine ev_getf (r := 42) (v := 0) (hF.1.lt (by decide)) (hF.1.fam (by decide) (by decide)) ft12_1 ((hF.v rfl)) ?_
    refine ev_iconst ?_
    refine ev_isub (r := (-1)) (by decide) ?_
    refine ev_in (d := 4) (a := 0) (b := 0) (cd' := c242_0) (m := 3) (L0 := [(0, (xs 1)), (0, 0), (0, (-1))]) (jcall_s (A := [(0, (-1)), (0, 0), (0, (xs 1))]) (S' := []) (by decide) rfl (Nat.le_of_ble_eq_true rfl)) (by decide) ml242 pp242 (Nat.le_of_ble_eq_true rfl) rfl (by decide) (by decide) ?_
    refine ev_iload_n rfl ?_
    refine ev_iload_n rfl ?_
    refine ev_icmplt f242_14 (fun c4 => ?_) (fun c4 => absurd c4 (by omega))
    refine ev_iconst ?_
    refine ev_ret rfl (by decide) (by decide) ?_
    show jEv _ _ _ _ _ _ _ (_, [(2, 42), (0, (xs 1))], [(0, 0)], _, _, _)
    refine ev_ret rfl (by decide) (by decide) ?_
    show jEv _ _ _ _ _ _ _ (_, [(2, 42), (0, (xs 1)), (0, (xs 2)), (0, (xs 3))], [(0, 0)], _, _, _)
    refine ev_ifeq f249_43 (fun c5 => ?_) (fun c5 => absurd c5 (by omega))
    refine ev_iconst ?_
    refine ev_ret rfl (by decide) (by decide) ?_
    show jEv _ _ _ _ _ _ _ (_, [(2, 42), (0, (xs 1)), (0, (xs 2)), (0, (xs 3)), (0, (xs 4)), (9, 0), (9, 0)], [(0, 0)], _, _, _)
    refine ev_ifeq f250_21 (fun c6 => ?_) (fun c6 => absurd c6 (by omega))
    refine ev_iconst ?_
    refine ev_ret rfl (by decide) (by decide) ?_
    show jEv _ _ _ _ _ _ _ (_, [(2, (-2)), (2, 0), (2, 42), (0, 0)], [(0, (-1)), (0, (-1))], _, _, _)
    refine ev_icmpeq f384_2190 (fun c7 => ?_) (fun c7 => absurd c7 (by omega))
    exact law_tail _
  · refine ev_iload_n rfl ?_
    refine ev_aload_n rfl ?_
    refine ev_getf (r := 1) (v := 0) (hF.1.lt (by decide)) (hF.1.fam (by decide) (by decide)) ft10_0 ((hF.v rfl)) ?_
    refine ev_icmpge f140_16 (fun c8 => ?_) (fun c8 => absurd c8 (by omega))
    refine ev_iconst ?_
    refine ev_ret rfl (by decide) (by decide) ?_
    show jEv _ _ _ _ _ _ _ (_, [(2, 1), (0, (xs 1)), (0, (xs 2)), (0, (xs 3))], [(0, 0)], _, _, _)
    refine ev_ifeq f146_39 (fun c9 => ?_) (fun c9 => absurd c9 (by omega))
    refine ev_iconst ?_
    refine ev_ret rfl (by decide) (by decide) ?_
    show jEv _ _ _ _ _ _ _ (_, [(2, 0), (0, (xs 1)), (0, (xs 2)), (0, (xs 3)), (0, (xs 4)), (9, 0), (9, 0)], [(0, 0)], _, _, _)
    refine ev_ifeq f168_26 (fun c10 => ?_) (fun c10 => absurd c10 (by omega))
    refine ev_iconst ?_
    refine ev_ret rfl (by decide) (by decide) ?_
    show jEv _ _ _ _ _ _ _ (_, [(2, (-2)), (2, 0), (2, 42), (0, 0)], [(0, (-1))], _, _, _)
    refine ev_aload_n rfl ?_
    refine ev_aload_n rfl ?_
    refine ev_iload_n rfl ?_
    refine ev_iconst ?_
    refine ev_iadd (r := 1) (by decide) ?_
    refine ev_sald (j := 1) (v := (xs 1)) rfl rfl rfl ?_
    refine ev_aload_n rfl ?_
    refine ev_iload_n rfl ?_
    refine ev_iconst ?_
    refine ev_iadd (r := 2) (by decide) ?_
    refine ev_sald (j := 2) (v := (xs 2)) rfl rfl rfl ?_
    refine ev_aload_n rfl ?_
    refine ev_iload_n rfl ?_
    refine ev_iconst ?_
    refine ev_iadd (r := 3) (by decide) ?_
    refine ev_sald (j := 3) (v := (xs 3)) rfl rfl rfl ?_
    refine ev_aload_n rfl ?_
    refine ev_iload_n rfl ?_
    refine ev_iconst ?_
    refine ev_iadd (r := 4) (by decide) ?_
    refine ev_sald (j := 4) (v := (xs 4)) rfl rfl rfl ?_
    refine ev_in (d := 7) (a := 0) (b := 0) (cd' := c250_0) (m := 7) (L0 := [(2, 42), (0, (xs 1)), (0, (xs 2)), (0, (xs 3)), (0, (xs 4)), (9, 0), (9, 0)]) (jcall_v (A := [(0, (xs 4)), (0, (xs 3)), (0, (xs 2)), (0, (xs 1))]) (S' := [(0, (-1))]) (r := 42) rfl (hF.1.lt (by decide)) (hF.1.sh (by decide) rfl).1 (Nat.le_of_ble_eq_true rfl)) (by decide) ml250 pp250 (Nat.le_of_ble_eq_true rfl) rfl (by decide) (by decide) ?_
    refine ev_aload_n rfl ?_
    refine ev_iload_n rfl ?_
    refine ev_iload_n rfl ?_
    refine ev_iload_n rfl ?_
    refine ev_in (d := 6) (a := 0) (b := 0) (cd' := c249_0) (m := 4) (L0 := [(2, 42), (0, (xs 1)), (0, (xs 2)), (0, (xs 3))]) (jcall_v (A := [(0, (xs 3)), (0, (xs 2)), (0, (xs 1))]) (S' := []) (r := 42) rfl (hF.1.lt (by decide)) (hF.1.sh (by decide) rfl).1 (Nat.le_of_ble_eq_true rfl)) (by decide) ml249 pp249 (Nat.le_of_ble_eq_true rfl) rfl (by decide) (by decide) ?_
    refine ev_aload_n rfl ?_
    refine ev_iload_n rfl ?_
    refine ev_in (d := 5) (a := 0) (b := 0) (cd' := c245_0) (m := 2) (L0 := [(2, 42), (0, (xs 1))]) (jcall_v (A := [(0, (xs 1))]) (S' := []) (r := 42) rfl (hF.1.lt (by decide)) (hF.1.sh (by decide) rfl).1 (Nat.le_of_ble_eq_true rfl)) (by decide) ml245 pp245 (Nat.le_of_ble_eq_true rfl) rfl (by decide) (by decide) ?_
    refine ev_iload_n rfl ?_
    refine ev_iconst ?_
    refine ev_aload_n rfl ?_
    refine ev_getf (r := 42) (v := 0) (hF.1.lt (by decide)) (hF.1.fam (by decide) (by decide)) ft12_1 ((hF.v rfl)) ?_
    refine ev_iconst ?_
    refine ev_isub (r := (-1)) (by decide) ?_
    refine ev_in (d := 4) (a := 0) (b := 0) (cd' := c242_0) (m := 3) (L0 := [(0, (xs 1)), (0, 0), (0, (-1))]) (jcall_s (A := [(0, (-1)), (0, 0), (0, (xs 1))]) (S' := []) (by decide) rfl (Nat.le_of_ble_eq_true rfl)) (by decide) ml242 pp242 (Nat.le_of_ble_eq_true rfl) rfl (by decide) (by decide) ?_
    refine ev_iload_n rfl ?_
    refine ev_iload_n rfl ?_
    refine ev_icmplt f242_14 (fun c11 => absurd c11 (by omega)) (fun c11 => ?_)
    refine ev_iload_n rfl ?_
    refine ev_iload_n rfl ?_
    refine ev_icmpgt f242_14 (fun c12 => ?_) (fun c12 => absurd c12 (by omega))
    refine ev_iconst ?_
    refine ev_ret rfl (by decide) (by decide) ?_
    show jEv _ _ _ _ _ _ _ (_, [(2, 42), (0, (xs 1))], [(0, 0)], _, _, _)
    refine ev_ret rfl (by decide) (by decide) ?_
    show jEv _ _ _ _ _ _ _ (_, [(2, 42), (0, (xs 1)), (0, (xs 2)), (0, (xs 3))], [(0, 0)], _, _, _)
    refine ev_ifeq f249_43 (fun c13 => ?_) (fun c13 => absurd c13 (by omega))
    refine ev_iconst ?_
    refine ev_ret rfl (by decide) (by decide) ?_
    show jEv _ _ _ _ _ _ _ (_, [(2, 42), (0, (xs 1)), (0, (xs 2)), (0, (xs 3)), (0, (xs 4)), (9, 0), (9, 0)], [(0, 0)], _, _, _)
    refine ev_ifeq f250_21 (fun c14 => ?_) (fun c14 => absurd c14 (by omega))
    refine ev_iconst ?_
    refine ev_ret rfl (by decide) (by decide) ?_
    show jEv _ _ _ _ _ _ _ (_, [(2, (-2)), (2, 0), (2, 42), (0, 0)], [(0, (-1)), (0, (-1))], _, _, _)
    refine ev_icmpeq f384_2190 (fun c15 => ?_) (fun c15 => absurd c15 (by omega))
    exact law_tail _

/-! bottom -/
set_option maxHeartbeats 4000000 in
theorem case_3 {xs : Nat → Int} (hr : ∀ j, -2147483648 ≤ xs j ∧ xs j < 2147483648) {h : JH} (hF : Fresh h) : jEv (jOk 8) (some 6) xs c384_0 600000 7302250 (fun v _ => v = some (0, 1)) (c384_369, [(2, -2), (2, 0), (2, 42), (0, 0)], [], h, 83, 23761) := by
  have r1 := hr 1
  have r2 := hr 2
  have r3 := hr 3
  have r4 := hr 4
  have r5 := hr 5
  refine ev_aload_n rfl ?_
  refine ev_in (d := 7) (a := 0) (b := 0) (cd' := c169_0) (m := 1) (L0 := [(2, 0)]) (jcall_v (A := []) (S' := []) (r := 0) rfl (hF.1.lt (by decide)) (hF.1.sh (by decide) rfl).1 (Nat.le_of_ble_eq_true rfl)) (by decide) ml169 pp169 (Nat.le_of_ble_eq_true rfl) rfl (by decide) (by decide) ?_
  refine ev_aload_n rfl ?_
  refine ev_getf (r := 0) (v := 1) (hF.1.lt (by decide)) (hF.1.fam (by decide) (by decide)) ft11_0 ((hF.v rfl)) ?_
  refine ev_in (d := 6) (a := 0) (b := 0) (cd' := c153_0) (m := 1) (L0 := [(2, 1)]) (jcall_v (A := []) (S' := []) (r := 1) rfl (hF.1.lt (by decide)) (hF.1.sh (by decide) rfl).1 (Nat.le_of_ble_eq_true rfl)) (by decide) ml153 pp153 (Nat.le_of_ble_eq_true rfl) rfl (by decide) (by decide) ?_
  refine ev_aload_n rfl ?_
  refine ev_getf (r := 1) (v := 0) (hF.1.lt (by decide)) (hF.1.fam (by decide) (by decide)) ft10_2 ((hF.v rfl)) ?_
  refine ev_ifne f153_33 (fun c1 => absurd c1 (by omega)) (fun c1 => ?_)
  refine ev_aload_n rfl ?_
  refine ev_iconst ?_
  refine ev_putfG (r := 1) (hF.1.lt (by decide)) (hF.1.fam (by decide) (by decide)) ft10_2 (fun _ => by decide) (fun e => absurd e (by decide)) (fun h25 e25 => ?_)
  have hS25 := hF.1.wr e25
  refine ev_aload_n rfl ?_
  refine ev_aload_n rfl ?_
  refine ev_in (d := 5) (a := 0) (b := 0) (cd' := c152_0) (m := 6) (L0 := [(2, 1), (9, 0), (9, 0), (9, 0), (9, 0), (9, 0)]) (jcall_v (A := []) (S' := [(2, 1)]) (r := 1) rfl (hS25.lt (by decide)) (hS25.sh (by decide) rfl).1 (Nat.le_of_ble_eq_true rfl)) (by decide) ml152 pp152 (Nat.le_of_ble_eq_true rfl) rfl (by decide) (by decide) ?_
  refine ev_lconst ?_
  refine ev_lstore_n (L' := [(2, 1), (1, 1), (9, 0), (9, 0), (9, 0), (9, 0)]) (Nat.le_of_ble_eq_true rfl) rfl ?_
  refine ev_iconst ?_
  refine ev_istore_n (L' := [(2, 1), (1, 1), (9, 0), (0, 0), (9, 0), (9, 0)]) (Nat.le_of_ble_eq_true rfl) rfl ?_
  refine ev_iload_n rfl ?_
  refine ev_aload_n rfl ?_
  refine ev_getf (r := 1) (v := 0) (hS25.lt (by decide)) (hS25.fam (by decide) (by decide)) ft10_0 ((jw_ne e25 (Or.inr (by decide))).trans ((hF.v rfl))) ?_
  refine ev_icmpge f152_50 (fun c2 => ?_) (fun c2 => absurd c2 (by omega))
  refine ev_lload_n rfl ?_
  refine ev_ret rfl (by decide) (by decide) ?_
  show jEv _ _ _ _ _ _ _ (_, [(2, 1)], [(1, 1), (2, 1)], _, _, _)
  refine ev_putfG (r := 1) (hS25.lt (by decide)) (hS25.fam (by decide) (by decide)) ft10_1 (fun e => absurd e nz10_1) (fun e => absurd e (by decide)) (fun h26 e26 => ?_)
  have hS26 := hS25.wr e26
  refine ev_aload_n rfl ?_
  refine ev_getf (r := 1) (v := 1) (hS26.lt (by decide)) (hS26.fam (by decide) (by decide)) ft10_1 (jw_eq e26) ?_
  refine ev_lconst ?_
  refine ev_lcmp ?_
  refine ev_ifle f153_33 (fun c3 => absurd c3 (by unfold jcmpL; (repeat' split) <;> omega)) (fun c3 => ?_)
  refine ev_aload_n rfl ?_
  refine ev_in (d := 5) (a := 0) (b := 0) (cd' := c154_0) (m := 6) (L0 := [(2, 1), (9, 0), (9, 0), (9, 0), (9, 0), (9, 0)]) (jcall_v (A := []) (S' := []) (r := 1) rfl (hS26.lt (by decide)) (hS26.sh (by decide) rfl).1 (Nat.le_of_ble_eq_true rfl)) (by decide) ml154 pp154 (Nat.le_of_ble_eq_true rfl) rfl (by decide) (by decide) ?_
  refine ev_iconst ?_
  refine ev_istore_n (L' := [(2, 1), (0, 0), (9, 0), (9, 0), (9, 0), (9, 0)]) (Nat.le_of_ble_eq_true rfl) rfl ?_
  refine ev_iload_n rfl ?_
  refine ev_aload_n rfl ?_
  refine ev_getf (r := 1) (v := 0) (hS26.lt (by decide)) (hS26.fam (by decide) (by decide)) ft10_0 ((jw_ne e26 (Or.inr (by decide))).trans ((jw_ne e25 (Or.inr (by decide))).trans ((hF.v rfl)))) ?_
  refine ev_icmpge f154_76 (fun c4 => ?_) (fun c4 => absurd c4 (by omega))
  refine ev_aload_n rfl ?_
  refine ev_getf (r := 1) (v := 6) (hS26.lt (by decide)) (hS26.fam (by decide) (by decide)) ft10_7 ((jw_ne e26 (Or.inr (by decide))).trans ((jw_ne e25 (Or.inr (by decide))).trans ((hF.v rfl)))) ?_
  refine ev_iconst ?_
  refine ev_lconst ?_
  refine ev_lastG (r := 6) (j := 0) (hS26.lt (by decide)) (hS26.sh (by decide) rfl).1 rfl (hS26.inb (by decide) (by decide)) (fun h27 e27 => ?_)
  have hS27 := hS26.wr e27
  refine ev_iconst ?_
  refine ev_istore_n (L' := [(2, 1), (0, 0), (9, 0), (9, 0), (9, 0), (9, 0)]) (Nat.le_of_ble_eq_true rfl) rfl ?_
  refine ev_iload_n rfl ?_
  refine ev_aload_n rfl ?_
  refine ev_getf (r := 1) (v := 0) (hS27.lt (by decide)) (hS27.fam (by decide) (by decide)) ft10_0 ((jw_ne e27 (Or.inl (by decide))).trans ((jw_ne e26 (Or.inr (by decide))).trans ((jw_ne e25 (Or.inr (by decide))).trans ((hF.v rfl))))) ?_
  refine ev_icmpge f154_104 (fun c5 => ?_) (fun c5 => absurd c5 (by omega))
  refine ev_iconst ?_
  refine ev_istore_n (L' := [(2, 1), (0, 0), (9, 0), (9, 0), (9, 0), (9, 0)]) (Nat.le_of_ble_eq_true rfl) rfl ?_
  refine ev_iload_n rfl ?_
  refine ev_aload_n rfl ?_
  refine ev_getf (r := 1) (v := 0) (hS27.lt (by decide)) (hS27.fam (by decide) (by decide)) ft10_0 ((jw_ne e27 (Or.inl (by decide))).trans ((jw_ne e26 (Or.inr (by decide))).trans ((jw_ne e25 (Or.inr (by decide))).trans ((hF.v rfl))))) ?_
  refine ev_icmpge f154_125 (fun c6 => ?_) (fun c6 => absurd c6 (by omega))
  refine ev_ret rfl (by decide) (by decide) ?_
  show jEv _ _ _ _ _ _ _ (_, [(2, 1)], [], _, _, _)
  refine ev_aload_n rfl ?_
  refine ev_getf (r := 1) (v := 1) (hS27.lt (by decide)) (hS27.fam (by decide) (by decide)) ft10_1 ((jw_ne e27 (Or.inl (by decide))).trans (jw_eq e26)) ?_
  refine ev_lconst ?_
  refine ev_lcmp ?_
  refine ev_ifle f153_46 (fun c7 => absurd c7 (by unfold jcmpL; (repeat' split) <;> omega)) (fun c7 => ?_)
  refine ev_iconst ?_
  refine ev_goto f153_47 ?_
  refine ev_ret rfl (by decide) (by decide) ?_
  show jEv _ _ _ _ _ _ _ (_, [(2, 0)], [(0, 1)], _, _, _)
  refine ev_ifeq f169_20 (fun c8 => absurd c8 (by omega)) (fun c8 => ?_)
  refine ev_aload_n rfl ?_
  refine ev_getf (r := 0) (v := 1) (hS27.lt (by decide)) (hS27.fam (by decide) (by decide)) ft11_0 ((jw_ne e27 (Or.inl (by decide))).trans ((jw_ne e26 (Or.inl (by decide))).trans ((jw_ne e25 (Or.inl (by decide))).trans ((hF.v rfl))))) ?_
  refine ev_getf (r := 1) (v := 1) (hS27.lt (by decide)) (hS27.fam (by decide) (by decide)) ft10_1 ((jw_ne e27 (Or.inl (by decide))).trans (jw_eq e26)) ?_
  refine ev_goto f169_23 ?_
  refine ev_ret rfl (by decide) (by decide) ?_
  show jEv _ _ _ _ _ _ _ (_, [(2, (-2)), (2, 0), (2, 42), (0, 0)], [(1, 1)], _, _, _)
  refine ev_aload_n rfl ?_
  refine ev_in (d := 7) (a := 0) (b := 0) (cd' := c254_0) (m := 1) (L0 := [(2, 42)]) (jcall_v (A := []) (S' := [(1, 1)]) (r := 42) rfl (hS27.lt (by decide)) (hS27.sh (by decide) rfl).1 (Nat.le_of_ble_eq_true rfl)) (by decide) ml254 pp254 (Nat.le_of_ble_eq_true rfl) rfl (by decide) (by decide) ?_
  refine ev_aload_n rfl ?_
  refine ev_in (d := 6) (a := 0) (b := 0) (cd' := c253_0) (m := 6) (L0 := [(2, 42), (9, 0), (9, 0), (9, 0), (9, 0), (9, 0)]) (jcall_v (A := []) (S' := []) (r := 42) rfl (hS27.lt (by decide)) (hS27.sh (by decide) rfl).1 (Nat.le_of_ble_eq_true rfl)) (by decide) ml253 pp253 (Nat.le_of_ble_eq_true rfl) rfl (by decide) (by decide) ?_
  refine ev_lconst ?_
  refine ev_lstore_n (L' := [(2, 42), (1, 1), (9, 0), (9, 0), (9, 0), (9, 0)]) (Nat.le_of_ble_eq_true rfl) rfl ?_
  refine ev_iconst ?_
  refine ev_istore_n (L' := [(2, 42), (1, 1), (9, 0), (0, 0), (9, 0), (9, 0)]) (Nat.le_of_ble_eq_true rfl) rfl ?_
  refine ev_iload_n rfl ?_
  refine ev_aload_n rfl ?_
  refine ev_getf (r := 42) (v := 0) (hS27.lt (by decide)) (hS27.fam (by decide) (by decide)) ft12_1 ((jw_ne e27 (Or.inl (by decide))).trans ((jw_ne e26 (Or.inl (by decide))).trans ((jw_ne e25 (Or.inl (by decide))).trans ((hF.v rfl))))) ?_
  refine ev_icmpge f253_45 (fun c9 => ?_) (fun c9 => absurd c9 (by omega))
  refine ev_lload_n rfl ?_
  refine ev_ret rfl (by decide) (by decide) ?_
  show jEv _ _ _ _ _ _ _ (_, [(2, 42)], [(1, 1)], _, _, _)
  refine ev_ret rfl (by decide) (by decide) ?_
  show jEv _ _ _ _ _ _ _ (_, [(2, (-2)), (2, 0), (2, 42), (0, 0)], [(1, 1), (1, 1)], _, _, _)
  refine ev_lcmp ?_
  refine ev_ifeq f384_2190 (fun c10 => ?_) (fun c10 => absurd (show _ from by unfold jcmpL; (repeat' split) <;> omega) c10)
  exact law_tail _

/-! feed -/
set_option maxHeartbeats 4000000 in
theorem case_6 {xs : Nat → Int} (hr : ∀ j, -2147483648 ≤ xs j ∧ xs j < 2147483648) {h : JH} (hF : Fresh h) : jEv (jOk 8) (some 6) xs c384_0 600000 7302250 (fun v _ => v = some (0, 1)) (c384_451, [(2, -2), (2, 0), (2, 42), (0, 0)], [], h, 83, 23761) := by
  have r1 := hr 1
  have r2 := hr 2
  have r3 := hr 3
  have r4 := hr 4
  have r5 := hr 5
  refine ev_aload_n rfl ?_
  refine ev_aload_n rfl ?_
  refine ev_iload_n rfl ?_
  refine ev_iconst ?_
  refine ev_iadd (r := 1) (by decide) ?_
  refine ev_sald (j := 1) (v := (xs 1)) rfl rfl rfl ?_
  refine ev_aload_n rfl ?_
  refine ev_iload_n rfl ?_
  refine ev_iconst ?_
  refine ev_iadd (r := 2) (by decide) ?_
  refine ev_sald (j := 2) (v := (xs 2)) rfl rfl rfl ?_
  refine ev_in (d := 7) (a := 0) (b := 0) (cd' := c172_0) (m := 3) (L0 := [(2, 0), (0, (xs 1)), (0, (xs 2))]) (jcall_v (A := [(0, (xs 2)), (0, (xs 1))]) (S' := []) (r := 0) rfl (hF.1.lt (by decide)) (hF.1.sh (by decide) rfl).1 (Nat.le_of_ble_eq_true rfl)) (by decide) ml172 pp172 (Nat.le_of_ble_eq_true rfl) rfl (by decide) (by decide) ?_
  refine ev_iload_n rfl ?_
  refine ev_iconst ?_
  refine ev_icmplt f172_10 (fun c1 => ?_) (fun c1 => ?_)
  · refine ev_iconst ?_
    refine ev_ret rfl (by decide) (by decide) ?_
    show jEv _ _ _ _ _ _ _ (_, [(2, (-2)), (2, 0), (2, 42), (0, 0)], [(0, (-1))], _, _, _)
    refine ev_aload_n rfl ?_
    refine ev_aload_n rfl ?_
    refine ev_iload_n rfl ?_
    refine ev_iconst ?_
    refine ev_iadd (r := 1) (by decide) ?_
    refine ev_sald (j := 1) (v := (xs 1)) rfl rfl rfl ?_
    refine ev_aload_n rfl ?_
    refine ev_iload_n rfl ?_
    refine ev_iconst ?_
    refine ev_iadd (r := 2) (by decide) ?_
    refine ev_sald (j := 2) (v := (xs 2)) rfl rfl rfl ?_
    refine ev_in (d := 7) (a := 0) (b := 0) (cd' := c263_0) (m := 4) (L0 := [(2, 42), (0, (xs 1)), (0, (xs 2)), (9, 0)]) (jcall_v (A := [(0, (xs 2)), (0, (xs 1))]) (S' := [(0, (-1))]) (r := 42) rfl (hF.1.lt (by decide)) (hF.1.sh (by decide) rfl).1 (Nat.le_of_ble_eq_true rfl)) (by decide) ml263 pp263 (Nat.le_of_ble_eq_true rfl) rfl (by decide) (by decide) ?_
    refine ev_iload_n rfl ?_
    refine ev_iconst ?_
    refine ev_iconst ?_
    refine ev_in (d := 6) (a := 0) (b := 0) (cd' := c242_0) (m := 3) (L0 := [(0, (xs 1)), (0, 1), (0, 4)]) (jcall_s (A := [(0, 4), (0, 1), (0, (xs 1))]) (S' := []) (by decide) rfl (Nat.le_of_ble_eq_true rfl)) (by decide) ml242 pp242 (Nat.le_of_ble_eq_true rfl) rfl (by decide) (by decide) ?_
    refine ev_iload_n rfl ?_
    refine ev_iload_n rfl ?_
    refine ev_icmplt f242_14 (fun c2 => ?_) (fun c2 => absurd c2 (by omega))
    refine ev_iconst ?_
    refine ev_ret rfl (by decide) (by decide) ?_
    show jEv _ _ _ _ _ _ _ (_, [(2, 42), (0, (xs 1)), (0, (xs 2)), (9, 0)], [(0, 0)], _, _, _)
    refine ev_ifne f263_11 (fun c3 => absurd c3 (by omega)) (fun c3 => ?_)
    refine ev_iconst ?_
    refine ev_ret rfl (by decide) (by decide) ?_
    show jEv _ _ _ _ _ _ _ (_, [(2, (-2)), (2, 0), (2, 42), (0, 0)], [(0, (-1)), (0, (-1))], _, _, _)
    refine ev_icmpeq f384_2190 (fun c4 => ?_) (fun c4 => absurd c4 (by omega))
    exact law_tail _
  · refine ev_iload_n rfl ?_
    refine ev_iconst ?_
    refine ev_icmple f172_12 (fun c5 => ?_) (fun c5 => ?_)
    · refine ev_aload_n rfl ?_
      refine ev_getf (r := 0) (v := 7) (hF.1.lt (by decide)) (hF.1.fam (by decide) (by decide)) ft11_1 ((hF.v rfl)) ?_
      refine ev_iload_n rfl ?_
      refine ev_in (d := 6) (a := 0) (b := 0) (cd' := c63_0) (m := 2) (L0 := [(2, 7), (0, (xs 1))]) (jcall_v (A := [(0, (xs 1))]) (S' := []) (r := 7) rfl (hF.1.lt (by decide)) (hF.1.sh (by decide) rfl).1 (Nat.le_of_ble_eq_true rfl)) (by decide) ml63 pp63 (Nat.le_of_ble_eq_true rfl) rfl (by decide) (by decide) ?_
      refine ev_iload_n rfl ?_
      refine ev_sipush ?_
      refine ev_aload_n rfl ?_
      refine ev_getf (r := 7) (v := 0) (hF.1.lt (by decide)) (hF.1.fam (by decide) (by decide)) ft5_0 ((hF.v rfl)) ?_
      refine ev_isub (r := 200) (by decide) ?_
      refine ev_icmpgt f63_16 (fun c6 => absurd c6 (by omega)) (fun c6 => ?_)
      refine ev_iconst ?_
      refine ev_goto f63_17 ?_
      refine ev_ret rfl (by decide) (by decide) ?_
      show jEv _ _ _ _ _ _ _ (_, [(2, 0), (0, (xs 1)), (0, (xs 2))], [(0, 1)], _, _, _)
      refine ev_ifeq f172_35 (fun c7 => absurd c7 (by omega)) (fun c7 => ?_)
      refine ev_aload_n rfl ?_
      refine ev_getf (r := 0) (v := 7) (hF.1.lt (by decide)) (hF.1.fam (by decide) (by decide)) ft11_1 ((hF.v rfl)) ?_
      refine ev_iload_n rfl ?_
      refine ev_iload_n rfl ?_
      refine ev_in (d := 6) (a := 0) (b := 0) (cd' := c64_0) (m := 4) (L0 := [(2, 7), (0, (xs 1)), (0, (xs 2)), (9, 0)]) (jcall_v (A := [(0, (xs 2)), (0, (xs 1))]) (S' := []) (r := 7) rfl (hF.1.lt (by decide)) (hF.1.sh (by decide) rfl).1 (Nat.le_of_ble_eq_true rfl)) (by decide) ml64 pp64 (Nat.le_of_ble_eq_true rfl) rfl (by decide) (by decide) ?_
      refine ev_iconst ?_
      refine ev_istore_n (L' := [(2, 7), (0, (xs 1)), (0, (xs 2)), (0, 0)]) (Nat.le_of_ble_eq_true rfl) rfl ?_
      refine ev_iload_n rfl ?_
      refine ev_iload_n rfl ?_
      refine ev_icmpge f64_49 (fun c8 => absurd c8 (by omega)) (fun c8 => ?_)
      refine ev_aload_n rfl ?_
      refine ev_getf (r := 7) (v := 0) (hF.1.lt (by decide)) (hF.1.fam (by decide) (by decide)) ft5_0 ((hF.v rfl)) ?_
      refine ev_sipush ?_
      refine ev_icmpge f64_49 (fun c9 => absurd c9 (by omega)) (fun c9 => ?_)
      refine ev_aload_n rfl ?_
      refine ev_getf (r := 7) (v := 8) (hF.1.lt (by decide)) (hF.1.fam (by decide) (by decide)) ft5_5 ((hF.v rfl)) ?_
      refine ev_aload_n rfl ?_
      refine ev_getf (r := 7) (v := 0) (hF.1.lt (by decide)) (hF.1.fam (by decide) (by decide)) ft5_0 ((hF.v rfl)) ?_
      refine ev_iload_n rfl ?_
      refine ev_bipush ?_
      refine ev_iload_n rfl ?_
      refine ev_imul (r := 0) (by decide) ?_
      refine ev_ishr (r := (xs 2)) (jshr_0 (by omega) (by omega)) ?_
      refine ev_i2b (r := (w8 (xs 2))) rfl ?_
      refine ev_bastG (r := 8) (j := 0) (hF.1.lt (by decide)) (hF.1.sh (by decide) rfl).1 rfl (hF.1.inb (by decide) (by decide)) rfl (fun h28 e28 => ?_)
      have hS28 := hF.1.wr e28
      refine ev_aload_n rfl ?_
      refine ev_dup (by decide) ?_
      refine ev_getf (r := 7) (v := 0) (hS28.lt (by decide)) (hS28.fam (by decide) (by decide)) ft5_0 ((jw_ne e28 (Or.inl (by decide))).trans ((hF.v rfl))) ?_
      refine ev_iconst ?_
      refine ev_iadd (r := 1) (by decide) ?_
      refine ev_putfG (r := 7) (hS28.lt (by decide)) (hS28.fam (by decide) (by decide)) ft5_0 (fun e => absurd e nz5_0) (fun e => absurd e (by decide)) (fun h29 e29 => ?_)
      have hS29 := hS28.wr e29
      refine ev_iinc (w := 1) (L' := [(2, 7), (0, (xs 1)), (0, (xs 2)), (0, 1)]) rfl (by decide) rfl ?_
      refine ev_goto f64_2 ?_
      refine ev_iload_n rfl ?_
      refine ev_iload_n rfl ?_
      refine ev_icmpge f64_49 (fun c10 => ?_) (fun c10 => ?_)
      · refine ev_aload_n rfl ?_
        refine ev_getf (r := 7) (v := 1) (hS29.lt (by decide)) (hS29.fam (by decide) (by decide)) ft5_0 (jw_eq e29) ?_
        refine ev_ret rfl (by decide) (by decide) ?_
        show jEv _ _ _ _ _ _ _ (_, [(2, 0), (0, (xs 1)), (0, (xs 2))], [(0, 1)], _, _, _)
        refine ev_goto f172_37 ?_
        refine ev_ret rfl (by decide) (by decide) ?_
        show jEv _ _ _ _ _ _ _ (_, [(2, (-2)), (2, 0), (2, 42), (0, 0)], [(0, 1)], _, _, _)
        refine ev_aload_n rfl ?_
        refine ev_aload_n rfl ?_
        refine ev_iload_n rfl ?_
        refine ev_iconst ?_
        refine ev_iadd (r := 1) (by decide) ?_
        refine ev_sald (j := 1) (v := (xs 1)) rfl rfl rfl ?_
        refine ev_aload_n rfl ?_
        refine ev_iload_n rfl ?_
        refine ev_iconst ?_
        refine ev_iadd (r := 2) (by decide) ?_
        refine ev_sald (j := 2) (v := (xs 2)) rfl rfl rfl ?_
        refine ev_in (d := 7) (a := 0) (b := 0) (cd' := c263_0) (m := 4) (L0 := [(2, 42), (0, (xs 1)), (0, (xs 2)), (9, 0)]) (jcall_v (A := [(0, (xs 2)), (0, (xs 1))]) (S' := [(0, 1)]) (r := 42) rfl (hS29.lt (by decide)) (hS29.sh (by decide) rfl).1 (Nat.le_of_ble_eq_true rfl)) (by decide) ml263 pp263 (Nat.le_of_ble_eq_true rfl) rfl (by decide) (by decide) ?_
        refine ev_iload_n rfl ?_
        refine ev_iconst ?_
        refine ev_iconst ?_
        refine ev_in (d := 6) (a := 0) (b := 0) (cd' := c242_0) (m := 3) (L0 := [(0, (xs 1)), (0, 1), (0, 4)]) (jcall_s (A := [(0, 4), (0, 1), (0, (xs 1))]) (S' := []) (by decide) rfl (Nat.le_of_ble_eq_true rfl)) (by decide) ml242 pp242 (Nat.le_of_ble_eq_true rfl) rfl (by decide) (by decide) ?_
        refine ev_iload_n rfl ?_
        refine ev_iload_n rfl ?_
        refine ev_icmplt f242_14 (fun c11 => absurd c11 (by omega)) (fun c11 => ?_)
        refine ev_iload_n rfl ?_
        refine ev_iload_n rfl ?_
        refine ev_icmpgt f242_14 (fun c12 => absurd c12 (by omega)) (fun c12 => ?_)
        refine ev_iconst ?_
        refine ev_goto f242_15 ?_
        refine ev_ret rfl (by decide) (by decide) ?_
        show jEv _ _ _ _ _ _ _ (_, [(2, 42), (0, (xs 1)), (0, (xs 2)), (9, 0)], [(0, 1)], _, _, _)
        refine ev_ifne f263_11 (fun c13 => ?_) (fun c13 => absurd c13 (by omega))
        refine ev_aload_n rfl ?_
        refine ev_getf (r := 42) (v := 0) (hS29.lt (by decide)) (hS29.fam (by decide) (by decide)) ft12_17 ((jw_ne e29 (Or.inl (by decide))).trans ((jw_ne e28 (Or.inl (by decide))).trans ((hF.v rfl)))) ?_
        refine ev_iload_n rfl ?_
        refine ev_iadd (r := (xs 1)) (by unfold w32; omega) ?_
        refine ev_sipush ?_
        refine ev_icmple f263_26 (fun c14 => ?_) (fun c14 => absurd c14 (by omega))
        refine ev_iconst ?_
        refine ev_istore_n (L' := [(2, 42), (0, (xs 1)), (0, (xs 2)), (0, 0)]) (Nat.le_of_ble_eq_true rfl) rfl ?_
        refine ev_iload_n rfl ?_
        refine ev_iload_n rfl ?_
        refine ev_icmpge f263_65 (fun c15 => absurd c15 (by omega)) (fun c15 => ?_)
        refine ev_aload_n rfl ?_
        refine ev_getf (r := 42) (v := 54) (hS29.lt (by decide)) (hS29.fam (by decide) (by decide)) ft12_16 ((jw_ne e29 (Or.inl (by decide))).trans ((jw_ne e28 (Or.inl (by decide))).trans ((hF.v rfl)))) ?_
        refine ev_aload_n rfl ?_
        refine ev_getf (r := 42) (v := 0) (hS29.lt (by decide)) (hS29.fam (by decide) (by decide)) ft12_17 ((jw_ne e29 (Or.inl (by decide))).trans ((jw_ne e28 (Or.inl (by decide))).trans ((hF.v rfl)))) ?_
        refine ev_iload_n rfl ?_
        refine ev_bipush ?_
        refine ev_iload_n rfl ?_
        refine ev_imul (r := 0) (by decide) ?_
        refine ev_ishr (r := (xs 2)) (jshr_0 (by omega) (by omega)) ?_
        refine ev_i2b (r := (w8 (xs 2))) rfl ?_
        refine ev_bastG (r := 54) (j := 0) (hS29.lt (by decide)) (hS29.sh (by decide) rfl).1 rfl (hS29.inb (by decide) (by decide)) rfl (fun h30 e30 => ?_)
        have hS30 := hS29.wr e30
        refine ev_aload_n rfl ?_
        refine ev_dup (by decide) ?_
        refine ev_getf (r := 42) (v := 0) (hS30.lt (by decide)) (hS30.fam (by decide) (by decide)) ft12_17 ((jw_ne e30 (Or.inl (by decide))).trans ((jw_ne e29 (Or.inl (by decide))).trans ((jw_ne e28 (Or.inl (by decide))).trans ((hF.v rfl))))) ?_
        refine ev_iconst ?_
        refine ev_iadd (r := 1) (by decide) ?_
        refine ev_putfG (r := 42) (hS30.lt (by decide)) (hS30.fam (by decide) (by decide)) ft12_17 (fun e => absurd e nz12_17) (fun e => absurd e (by decide)) (fun h31 e31 => ?_)
        have hS31 := hS30.wr e31
        refine ev_iinc (w := 1) (L' := [(2, 42), (0, (xs 1)), (0, (xs 2)), (0, 1)]) rfl (by decide) rfl ?_
        refine ev_goto f263_28 ?_
        refine ev_iload_n rfl ?_
        refine ev_iload_n rfl ?_
        refine ev_icmpge f263_65 (fun c16 => ?_) (fun c16 => absurd c16 (by omega))
        refine ev_aload_n rfl ?_
        refine ev_getf (r := 42) (v := 1) (hS31.lt (by decide)) (hS31.fam (by decide) (by decide)) ft12_17 (jw_eq e31) ?_
        refine ev_ret rfl (by decide) (by decide) ?_
        show jEv _ _ _ _ _ _ _ (_, [(2, (-2)), (2, 0), (2, 42), (0, 0)], [(0, 1), (0, 1)], _, _, _)
        refine ev_icmpeq f384_2190 (fun c17 => ?_) (fun c17 => absurd c17 (by omega))
        exact law_tail _
      · refine ev_aload_n rfl ?_
        refine ev_getf (r := 7) (v := 1) (hS29.lt (by decide)) (hS29.fam (by decide) (by decide)) ft5_0 (jw_eq e29) ?_
        refine ev_sipush ?_
        refine ev_icmpge f64_49 (fun c18 => absurd c18 (by omega)) (fun c18 => ?_)
        refine ev_aload_n rfl ?_
        refine ev_getf (r := 7) (v := 8) (hS29.lt (by decide)) (hS29.fam (by decide) (by decide)) ft5_5 ((jw_ne e29 (Or.inr (by decide))).trans ((jw_ne e28 (Or.inl (by decide))).trans ((hF.v rfl)))) ?_
        refine ev_aload_n rfl ?_
        refine ev_getf (r := 7) (v := 1) (hS29.lt (by decide)) (hS29.fam (by decide) (by decide)) ft5_0 (jw_eq e29) ?_
        refine ev_iload_n rfl ?_
        refine ev_bipush ?_
        refine ev_iload_n rfl ?_
        refine ev_imul (r := 8) (by decide) ?_
        refine ev_ishr (r := (jshr (xs 2) 8)) rfl ?_
        refine ev_i2b (r := (w8 (jshr (xs 2) 8))) rfl ?_
        refine ev_bastG (r := 8) (j := 1) (hS29.lt (by decide)) (hS29.sh (by decide) rfl).1 rfl (hS29.inb (by decide) (by decide)) rfl (fun h32 e32 => ?_)
        have hS32 := hS29.wr e32
        refine ev_aload_n rfl ?_
        refine ev_dup (by decide) ?_
        refine ev_getf (r := 7) (v := 1) (hS32.lt (by decide)) (hS32.fam (by decide) (by decide)) ft5_0 ((jw_ne e32 (Or.inl (by decide))).trans (jw_eq e29)) ?_
        refine ev_iconst ?_
        refine ev_iadd (r := 2) (by decide) ?_
        refine ev_putfG (r := 7) (hS32.lt (by decide)) (hS32.fam (by decide) (by decide)) ft5_0 (fun e => absurd e nz5_0) (fun e => absurd e (by decide)) (fun h33 e33 => ?_)
        have hS33 := hS32.wr e33
        refine ev_iinc (w := 2) (L' := [(2, 7), (0, (xs 1)), (0, (xs 2)), (0, 2)]) rfl (by decide) rfl ?_
        refine ev_goto f64_2 ?_
        refine ev_iload_n rfl ?_
        refine ev_iload_n rfl ?_
        refine ev_icmpge f64_49 (fun c19 => ?_) (fun c19 => ?_)
        · refine ev_aload_n rfl ?_
          refine ev_getf (r := 7) (v := 2) (hS33.lt (by decide)) (hS33.fam (by decide) (by decide)) ft5_0 (jw_eq e33) ?_
          refine ev_ret rfl (by decide) (by decide) ?_
          show jEv _ _ _ _ _ _ _ (_, [(2, 0), (0, (xs 1)), (0, (xs 2))], [(0, 2)], _, _, _)
          refine ev_goto f172_37 ?_
          refine ev_ret rfl (by decide) (by decide) ?_
          show jEv _ _ _ _ _ _ _ (_, [(2, (-2)), (2, 0), (2, 42), (0, 0)], [(0, 2)], _, _, _)
          refine ev_aload_n rfl ?_
          refine ev_aload_n rfl ?_
          refine ev_iload_n rfl ?_
          refine ev_iconst ?_
          refine ev_iadd (r := 1) (by decide) ?_
          refine ev_sald (j := 1) (v := (xs 1)) rfl rfl rfl ?_
          refine ev_aload_n rfl ?_
          refine ev_iload_n rfl ?_
          refine ev_iconst ?_
          refine ev_iadd (r := 2) (by decide) ?_
          refine ev_sald (j := 2) (v := (xs 2)) rfl rfl rfl ?_
          refine ev_in (d := 7) (a := 0) (b := 0) (cd' := c263_0) (m := 4) (L0 := [(2, 42), (0, (xs 1)), (0, (xs 2)), (9, 0)]) (jcall_v (A := [(0, (xs 2)), (0, (xs 1))]) (S' := [(0, 2)]) (r := 42) rfl (hS33.lt (by decide)) (hS33.sh (by decide) rfl).1 (Nat.le_of_ble_eq_true rfl)) (by decide) ml263 pp263 (Nat.le_of_ble_eq_true rfl) rfl (by decide) (by decide) ?_
          refine ev_iload_n rfl ?_
          refine ev_iconst ?_
          refine ev_iconst ?_
          refine ev_in (d := 6) (a := 0) (b := 0) (cd' := c242_0) (m := 3) (L0 := [(0, (xs 1)), (0, 1), (0, 4)]) (jcall_s (A := [(0, 4), (0, 1), (0, (xs 1))]) (S' := []) (by decide) rfl (Nat.le_of_ble_eq_true rfl)) (by decide) ml242 pp242 (Nat.le_of_ble_eq_true rfl) rfl (by decide) (by decide) ?_
          refine ev_iload_n rfl ?_
          refine ev_iload_n rfl ?_
          refine ev_icmplt f242_14 (fun c20 => absurd c20 (by omega)) (fun c20 => ?_)
          refine ev_iload_n rfl ?_
          refine ev_iload_n rfl ?_
          refine ev_icmpgt f242_14 (fun c21 => absurd c21 (by omega)) (fun c21 => ?_)
          refine ev_iconst ?_
          refine ev_goto f242_15 ?_
          refine ev_ret rfl (by decide) (by decide) ?_
          show jEv _ _ _ _ _ _ _ (_, [(2, 42), (0, (xs 1)), (0, (xs 2)), (9, 0)], [(0, 1)], _, _, _)
          refine ev_ifne f263_11 (fun c22 => ?_) (fun c22 => absurd c22 (by omega))
          refine ev_aload_n rfl ?_
          refine ev_getf (r := 42) (v := 0) (hS33.lt (by decide)) (hS33.fam (by decide) (by decide)) ft12_17 ((jw_ne e33 (Or.inl (by decide))).trans ((jw_ne e32 (Or.inl (by decide))).trans ((jw_ne e29 (Or.inl (by decide))).trans ((jw_ne e28 (Or.inl (by decide))).trans ((hF.v rfl)))))) ?_
          refine ev_iload_n rfl ?_
          refine ev_iadd (r := (xs 1)) (by unfold w32; omega) ?_
          refine ev_sipush ?_
          refine ev_icmple f263_26 (fun c23 => ?_) (fun c23 => absurd c23 (by omega))
          refine ev_iconst ?_
          refine ev_istore_n (L' := [(2, 42), (0, (xs 1)), (0, (xs 2)), (0, 0)]) (Nat.le_of_ble_eq_true rfl) rfl ?_
          refine ev_iload_n rfl ?_
          refine ev_iload_n rfl ?_
          refine ev_icmpge f263_65 (fun c24 => absurd c24 (by omega)) (fun c24 => ?_)
          refine ev_aload_n rfl ?_
          refine ev_getf (r := 42) (v := 54) (hS33.lt (by decide)) (hS33.fam (by decide) (by decide)) ft12_16 ((jw_ne e33 (Or.inl (by decide))).trans ((jw_ne e32 (Or.inl (by decide))).trans ((jw_ne e29 (Or.inl (by decide))).trans ((jw_ne e28 (Or.inl (by decide))).trans ((hF.v rfl)))))) ?_
          refine ev_aload_n rfl ?_
          refine ev_getf (r := 42) (v := 0) (hS33.lt (by decide)) (hS33.fam (by decide) (by decide)) ft12_17 ((jw_ne e33 (Or.inl (by decide))).trans ((jw_ne e32 (Or.inl (by decide))).trans ((jw_ne e29 (Or.inl (by decide))).trans ((jw_ne e28 (Or.inl (by decide))).trans ((hF.v rfl)))))) ?_
          refine ev_iload_n rfl ?_
          refine ev_bipush ?_
          refine ev_iload_n rfl ?_
          refine ev_imul (r := 0) (by decide) ?_
          refine ev_ishr (r := (xs 2)) (jshr_0 (by omega) (by omega)) ?_
          refine ev_i2b (r := (w8 (xs 2))) rfl ?_
          refine ev_bastG (r := 54) (j := 0) (hS33.lt (by decide)) (hS33.sh (by decide) rfl).1 rfl (hS33.inb (by decide) (by decide)) rfl (fun h34 e34 => ?_)
          have hS34 := hS33.wr e34
          refine ev_aload_n rfl ?_
          refine ev_dup (by decide) ?_
          refine ev_getf (r := 42) (v := 0) (hS34.lt (by decide)) (hS34.fam (by decide) (by decide)) ft12_17 ((jw_ne e34 (Or.inl (by decide))).trans ((jw_ne e33 (Or.inl (by decide))).trans ((jw_ne e32 (Or.inl (by decide))).trans ((jw_ne e29 (Or.inl (by decide))).trans ((jw_ne e28 (Or.inl (by decide))).trans ((hF.v rfl))))))) ?_
          refine ev_iconst ?_
          refine ev_iadd (r := 1) (by decide) ?_
          refine ev_putfG (r := 42) (hS34.lt (by decide)) (hS34.fam (by decide) (by decide)) ft12_17 (fun e => absurd e nz12_17) (fun e => absurd e (by decide)) (fun h35 e35 => ?_)
          have hS35 := hS34.wr e35
          refine ev_iinc (w := 1) (L' := [(2, 42), (0, (xs 1)), (0, (xs 2)), (0, 1)]) rfl (by decide) rfl ?_
          refine ev_goto f263_28 ?_
          refine ev_iload_n rfl ?_
          refine ev_iload_n rfl ?_
          refine ev_icmpge f263_65 (fun c25 => absurd c25 (by omega)) (fun c25 => ?_)
          refine ev_aload_n rfl ?_
          refine ev_getf (r := 42) (v := 54) (hS35.lt (by decide)) (hS35.fam (by decide) (by decide)) ft12_16 ((jw_ne e35 (Or.inr (by decide))).trans ((jw_ne e34 (Or.inl (by decide))).trans ((jw_ne e33 (Or.inl (by decide))).trans ((jw_ne e32 (Or.inl (by decide))).trans ((jw_ne e29 (Or.inl (by decide))).trans ((jw_ne e28 (Or.inl (by decide))).trans ((hF.v rfl)))))))) ?_
          refine ev_aload_n rfl ?_
          refine ev_getf (r := 42) (v := 1) (hS35.lt (by decide)) (hS35.fam (by decide) (by decide)) ft12_17 (jw_eq e35) ?_
          refine ev_iload_n rfl ?_
          refine ev_bipush ?_
          refine ev_iload_n rfl ?_
          refine ev_imul (r := 8) (by decide) ?_
          refine ev_ishr (r := (jshr (xs 2) 8)) rfl ?_
          refine ev_i2b (r := (w8 (jshr (xs 2) 8))) rfl ?_
          refine ev_bastG (r := 54) (j := 1) (hS35.lt (by decide)) (hS35.sh (by decide) rfl).1 rfl (hS35.inb (by decide) (by decide)) rfl (fun h36 e36 => ?_)
          have hS36 := hS35.wr e36
          refine ev_aload_n rfl ?_
          refine ev_dup (by decide) ?_
          refine ev_getf (r := 42) (v := 1) (hS36.lt (by decide)) (hS36.fam (by decide) (by decide)) ft12_17 ((jw_ne e36 (Or.inl (by decide))).trans (jw_eq e35)) ?_
          refine ev_iconst ?_
          refine ev_iadd (r := 2) (by decide) ?_
          refine ev_putfG (r := 42) (hS36.lt (by decide)) (hS36.fam (by decide) (by decide)) ft12_17 (fun e => absurd e nz12_17) (fun e => absurd e (by decide)) (fun h37 e37 => ?_)
          have hS37 := hS36.wr e37
          refine ev_iinc (w := 2) (L' := [(2, 42), (0, (xs 1)), (0, (xs 2)), (0, 2)]) rfl (by decide) rfl ?_
          refine ev_goto f263_28 ?_
          refine ev_iload_n rfl ?_
          refine ev_iload_n rfl ?_
          refine ev_icmpge f263_65 (fun c26 => ?_) (fun c26 => absurd c26 (by omega))
          refine ev_aload_n rfl ?_
          refine ev_getf (r := 42) (v := 2) (hS37.lt (by decide)) (hS37.fam (by decide) (by decide)) ft12_17 (jw_eq e37) ?_
          refine ev_ret rfl (by decide) (by decide) ?_
          show jEv _ _ _ _ _ _ _ (_, [(2, (-2)), (2, 0), (2, 42), (0, 0)], [(0, 2), (0, 2)], _, _, _)
          refine ev_icmpeq f384_2190 (fun c27 => ?_) (fun c27 => absurd c27 (by omega))
          exact law_tail _
        · refine ev_aload_n rfl ?_
          refine ev_getf (r := 7) (v := 2) (hS33.lt (by decide)) (hS33.fam (by decide) (by decide)) ft5_0 (jw_eq e33) ?_
          refine ev_sipush ?_
          refine ev_icmpge f64_49 (fun c28 => absurd c28 (by omega)) (fun c28 => ?_)
          refine ev_aload_n rfl ?_
          refine ev_getf (r := 7) (v := 8) (hS33.lt (by decide)) (hS33.fam (by decide) (by decide)) ft5_5 ((jw_ne e33 (Or.inr (by decide))).trans ((jw_ne e32 (Or.inl (by decide))).trans ((jw_ne e29 (Or.inr (by decide))).trans ((jw_ne e28 (Or.inl (by decide))).trans ((hF.v rfl)))))) ?_
          refine ev_aload_n rfl ?_
          refine ev_getf (r := 7) (v := 2) (hS33.lt (by decide)) (hS33.fam (by decide) (by decide)) ft5_0 (jw_eq e33) ?_
          refine ev_iload_n rfl ?_
          refine ev_bipush ?_
          refine ev_iload_n rfl ?_
          refine ev_imul (r := 16) (by decide) ?_
          refine ev_ishr (r := (jshr (xs 2) 16)) rfl ?_
          refine ev_i2b (r := (w8 (jshr (xs 2) 16))) rfl ?_
          refine ev_bastG (r := 8) (j := 2) (hS33.lt (by decide)) (hS33.sh (by decide) rfl).1 rfl (hS33.inb (by decide) (by decide)) rfl (fun h38 e38 => ?_)
          have hS38 := hS33.wr e38
          refine ev_aload_n rfl ?_
          refine ev_dup (by decide) ?_
          refine ev_getf (r := 7) (v := 2) (hS38.lt (by decide)) (hS38.fam (by decide) (by decide)) ft5_0 ((jw_ne e38 (Or.inl (by decide))).trans (jw_eq e33)) ?_
          refine ev_iconst ?_
          refine ev_iadd (r := 3) (by decide) ?_
          refine ev_putfG (r := 7) (hS38.lt (by decide)) (hS38.fam (by decide) (by decide)) ft5_0 (fun e => absurd e nz5_0) (fun e => absurd e (by decide)) (fun h39 e39 => ?_)
          have hS39 := hS38.wr e39
          refine ev_iinc (w := 3) (L' := [(2, 7), (0, (xs 1)), (0, (xs 2)), (0, 3)]) rfl (by decide) rfl ?_
          refine ev_goto f64_2 ?_
          refine ev_iload_n rfl ?_
          refine ev_iload_n rfl ?_
          refine ev_icmpge f64_49 (fun c29 => ?_) (fun c29 => ?_)
          · refine ev_aload_n rfl ?_
            refine ev_getf (r := 7) (v := 3) (hS39.lt (by decide)) (hS39.fam (by decide) (by decide)) ft5_0 (jw_eq e39) ?_
            refine ev_ret rfl (by decide) (by decide) ?_
            show jEv _ _ _ _ _ _ _ (_, [(2, 0), (0, (xs 1)), (0, (xs 2))], [(0, 3)], _, _, _)
            refine ev_goto f172_37 ?_
            refine ev_ret rfl (by decide) (by decide) ?_
            show jEv _ _ _ _ _ _ _ (_, [(2, (-2)), (2, 0), (2, 42), (0, 0)], [(0, 3)], _, _, _)
            refine ev_aload_n rfl ?_
            refine ev_aload_n rfl ?_
            refine ev_iload_n rfl ?_
            refine ev_iconst ?_
            refine ev_iadd (r := 1) (by decide) ?_
            refine ev_sald (j := 1) (v := (xs 1)) rfl rfl rfl ?_
            refine ev_aload_n rfl ?_
            refine ev_iload_n rfl ?_
            refine ev_iconst ?_
            refine ev_iadd (r := 2) (by decide) ?_
            refine ev_sald (j := 2) (v := (xs 2)) rfl rfl rfl ?_
            refine ev_in (d := 7) (a := 0) (b := 0) (cd' := c263_0) (m := 4) (L0 := [(2, 42), (0, (xs 1)), (0, (xs 2)), (9, 0)]) (jcall_v (A := [(0, (xs 2)), (0, (xs 1))]) (S' := [(0, 3)]) (r := 42) rfl (hS39.lt (by decide)) (hS39.sh (by decide) rfl).1 (Nat.le_of_ble_eq_true rfl)) (by decide) ml263 pp263 (Nat.le_of_ble_eq_true rfl) rfl (by decide) (by decide) ?_
            refine ev_iload_n rfl ?_
            refine ev_iconst ?_
            refine ev_iconst ?_
            refine ev_in (d := 6) (a := 0) (b := 0) (cd' := c242_0) (m := 3) (L0 := [(0, (xs 1)), (0, 1), (0, 4)]) (jcall_s (A := [(0, 4), (0, 1), (0, (xs 1))]) (S' := []) (by decide) rfl (Nat.le_of_ble_eq_true rfl)) (by decide) ml242 pp242 (Nat.le_of_ble_eq_true rfl) rfl (by decide) (by decide) ?_
            refine ev_iload_n rfl ?_
            refine ev_iload_n rfl ?_
            refine ev_icmplt f242_14 (fun c30 => absurd c30 (by omega)) (fun c30 => ?_)
            refine ev_iload_n rfl ?_
            refine ev_iload_n rfl ?_
            refine ev_icmpgt f242_14 (fun c31 => absurd c31 (by omega)) (fun c31 => ?_)
            refine ev_iconst ?_
            refine ev_goto f242_15 ?_
            refine ev_ret rfl (by decide) (by decide) ?_
            show jEv _ _ _ _ _ _ _ (_, [(2, 42), (0, (xs 1)), (0, (xs 2)), (9, 0)], [(0, 1)], _, _, _)
            refine ev_ifne f263_11 (fun c32 => ?_) (fun c32 => absurd c32 (by omega))
            refine ev_aload_n rfl ?_
            refine ev_getf (r := 42) (v := 0) (hS39.lt (by decide)) (hS39.fam (by decide) (by decide)) ft12_17 ((jw_ne e39 (Or.inl (by decide))).trans ((jw_ne e38 (Or.inl (by decide))).trans ((jw_ne e33 (Or.inl (by decide))).trans ((jw_ne e32 (Or.inl (by decide))).trans ((jw_ne e29 (Or.inl (by decide))).trans ((jw_ne e28 (Or.inl (by decide))).trans ((hF.v rfl)))))))) ?_
            refine ev_iload_n rfl ?_
            refine ev_iadd (r := (xs 1)) (by unfold w32; omega) ?_
            refine ev_sipush ?_
            refine ev_icmple f263_26 (fun c33 => ?_) (fun c33 => absurd c33 (by omega))
            refine ev_iconst ?_
            refine ev_istore_n (L' := [(2, 42), (0, (xs 1)), (0, (xs 2)), (0, 0)]) (Nat.le_of_ble_eq_true rfl) rfl ?_
            refine ev_iload_n rfl ?_
            refine ev_iload_n rfl ?_
            refine ev_icmpge f263_65 (fun c34 => absurd c34 (by omega)) (fun c34 => ?_)
            refine ev_aload_n rfl ?_
            refine ev_getf (r := 42) (v := 54) (hS39.lt (by decide)) (hS39.fam (by decide) (by decide)) ft12_16 ((jw_ne e39 (Or.inl (by decide))).trans ((jw_ne e38 (Or.inl (by decide))).trans ((jw_ne e33 (Or.inl (by decide))).trans ((jw_ne e32 (Or.inl (by decide))).trans ((jw_ne e29 (Or.inl (by decide))).trans ((jw_ne e28 (Or.inl (by decide))).trans ((hF.v rfl)))))))) ?_
            refine ev_aload_n rfl ?_
            refine ev_getf (r := 42) (v := 0) (hS39.lt (by decide)) (hS39.fam (by decide) (by decide)) ft12_17 ((jw_ne e39 (Or.inl (by decide))).trans ((jw_ne e38 (Or.inl (by decide))).trans ((jw_ne e33 (Or.inl (by decide))).trans ((jw_ne e32 (Or.inl (by decide))).trans ((jw_ne e29 (Or.inl (by decide))).trans ((jw_ne e28 (Or.inl (by decide))).trans ((hF.v rfl)))))))) ?_
            refine ev_iload_n rfl ?_
            refine ev_bipush ?_
            refine ev_iload_n rfl ?_
            refine ev_imul (r := 0) (by decide) ?_
            refine ev_ishr (r := (xs 2)) (jshr_0 (by omega) (by omega)) ?_
            refine ev_i2b (r := (w8 (xs 2))) rfl ?_
            refine ev_bastG (r := 54) (j := 0) (hS39.lt (by decide)) (hS39.sh (by decide) rfl).1 rfl (hS39.inb (by decide) (by decide)) rfl (fun h40 e40 => ?_)
            have hS40 := hS39.wr e40
            refine ev_aload_n rfl ?_
            refine ev_dup (by decide) ?_
            refine ev_getf (r := 42) (v := 0) (hS40.lt (by decide)) (hS40.fam (by decide) (by decide)) ft12_17 ((jw_ne e40 (Or.inl (by decide))).trans ((jw_ne e39 (Or.inl (by decide))).trans ((jw_ne e38 (Or.inl (by decide))).trans ((jw_ne e33 (Or.inl (by decide))).trans ((jw_ne e32 (Or.inl (by decide))).trans ((jw_ne e29 (Or.inl (by decide))).trans ((jw_ne e28 (Or.inl (by decide))).trans ((hF.v rfl))))))))) ?_
            refine ev_iconst ?_
            refine ev_iadd (r := 1) (by decide) ?_
            refine ev_putfG (r := 42) (hS40.lt (by decide)) (hS40.fam (by decide) (by decide)) ft12_17 (fun e => absurd e nz12_17) (fun e => absurd e (by decide)) (fun h41 e41 => ?_)
            have hS41 := hS40.wr e41
            refine ev_iinc (w := 1) (L' := [(2, 42), (0, (xs 1)), (0, (xs 2)), (0, 1)]) rfl (by decide) rfl ?_
            refine ev_goto f263_28 ?_
            refine ev_iload_n rfl ?_
            refine ev_iload_n rfl ?_
            refine ev_icmpge f263_65 (fun c35 => absurd c35 (by omega)) (fun c35 => ?_)
            refine ev_aload_n rfl ?_
            refine ev_getf (r := 42) (v := 54) (hS41.lt (by decide)) (hS41.fam (by decide) (by decide)) ft12_16 ((jw_ne e41 (Or.inr (by decide))).trans ((jw_ne e40 (Or.inl (by decide))).trans ((jw_ne e39 (Or.inl (by decide))).trans ((jw_ne e38 (Or.inl (by decide))).trans ((jw_ne e33 (Or.inl (by decide))).trans ((jw_ne e32 (Or.inl (by decide))).trans ((jw_ne e29 (Or.inl (by decide))).trans ((jw_ne e28 (Or.inl (by decide))).trans ((hF.v rfl)))))))))) ?_
            refine ev_aload_n rfl ?_
            refine ev_getf (r := 42) (v := 1) (hS41.lt (by decide)) (hS41.fam (by decide) (by decide)) ft12_17 (jw_eq e41) ?_
            refine ev_iload_n rfl ?_
            refine ev_bipush ?_
            refine ev_iload_n rfl ?_
            refine ev_imul (r := 8) (by decide) ?_
            refine ev_ishr (r := (jshr (xs 2) 8)) rfl ?_
            refine ev_i2b (r := (w8 (jshr (xs 2) 8))) rfl ?_
            refine ev_bastG (r := 54) (j := 1) (hS41.lt (by decide)) (hS41.sh (by decide) rfl).1 rfl (hS41.inb (by decide) (by decide)) rfl (fun h42 e42 => ?_)
            have hS42 := hS41.wr e42
            refine ev_aload_n rfl ?_
            refine ev_dup (by decide) ?_
            refine ev_getf (r := 42) (v := 1) (hS42.lt (by decide)) (hS42.fam (by decide) (by decide)) ft12_17 ((jw_ne e42 (Or.inl (by decide))).trans (jw_eq e41)) ?_
            refine ev_iconst ?_
            refine ev_iadd (r := 2) (by decide) ?_
            refine ev_putfG (r := 42) (hS42.lt (by decide)) (hS42.fam (by decide) (by decide)) ft12_17 (fun e => absurd e nz12_17) (fun e => absurd e (by decide)) (fun h43 e43 => ?_)
            have hS43 := hS42.wr e43
            refine ev_iinc (w := 2) (L' := [(2, 42), (0, (xs 1)), (0, (xs 2)), (0, 2)]) rfl (by decide) rfl ?_
            refine ev_goto f263_28 ?_
            refine ev_iload_n rfl ?_
            refine ev_iload_n rfl ?_
            refine ev_icmpge f263_65 (fun c36 => absurd c36 (by omega)) (fun c36 => ?_)
            refine ev_aload_n rfl ?_
            refine ev_getf (r := 42) (v := 54) (hS43.lt (by decide)) (hS43.fam (by decide) (by decide)) ft12_16 ((jw_ne e43 (Or.inr (by decide))).trans ((jw_ne e42 (Or.inl (by decide))).trans ((jw_ne e41 (Or.inr (by decide))).trans ((jw_ne e40 (Or.inl (by decide))).trans ((jw_ne e39 (Or.inl (by decide))).trans ((jw_ne e38 (Or.inl (by decide))).trans ((jw_ne e33 (Or.inl (by decide))).trans ((jw_ne e32 (Or.inl (by decide))).trans ((jw_ne e29 (Or.inl (by decide))).trans ((jw_ne e28 (Or.inl (by decide))).trans ((hF.v rfl)))))))))))) ?_
            refine ev_aload_n rfl ?_
            refine ev_getf (r := 42) (v := 2) (hS43.lt (by decide)) (hS43.fam (by decide) (by decide)) ft12_17 (jw_eq e43) ?_
            refine ev_iload_n rfl ?_
            refine ev_bipush ?_
            refine ev_iload_n rfl ?_
            refine ev_imul (r := 16) (by decide) ?_
            refine ev_ishr (r := (jshr (xs 2) 16)) rfl ?_
            refine ev_i2b (r := (w8 (jshr (xs 2) 16))) rfl ?_
            refine ev_bastG (r := 54) (j := 2) (hS43.lt (by decide)) (hS43.sh (by decide) rfl).1 rfl (hS43.inb (by decide) (by decide)) rfl (fun h44 e44 => ?_)
            have hS44 := hS43.wr e44
            refine ev_aload_n rfl ?_
            refine ev_dup (by decide) ?_
            refine ev_getf (r := 42) (v := 2) (hS44.lt (by decide)) (hS44.fam (by decide) (by decide)) ft12_17 ((jw_ne e44 (Or.inl (by decide))).trans (jw_eq e43)) ?_
            refine ev_iconst ?_
            refine ev_iadd (r := 3) (by decide) ?_
            refine ev_putfG (r := 42) (hS44.lt (by decide)) (hS44.fam (by decide) (by decide)) ft12_17 (fun e => absurd e nz12_17) (fun e => absurd e (by decide)) (fun h45 e45 => ?_)
            have hS45 := hS44.wr e45
            refine ev_iinc (w := 3) (L' := [(2, 42), (0, (xs 1)), (0, (xs 2)), (0, 3)]) rfl (by decide) rfl ?_
            refine ev_goto f263_28 ?_
            refine ev_iload_n rfl ?_
            refine ev_iload_n rfl ?_
            refine ev_icmpge f263_65 (fun c37 => ?_) (fun c37 => absurd c37 (by omega))
            refine ev_aload_n rfl ?_
            refine ev_getf (r := 42) (v := 3) (hS45.lt (by decide)) (hS45.fam (by decide) (by decide)) ft12_17 (jw_eq e45) ?_
            refine ev_ret rfl (by decide) (by decide) ?_
            show jEv _ _ _ _ _ _ _ (_, [(2, (-2)), (2, 0), (2, 42), (0, 0)], [(0, 3), (0, 3)], _, _, _)
            refine ev_icmpeq f384_2190 (fun c38 => ?_) (fun c38 => absurd c38 (by omega))
            exact law_tail _
          · refine ev_aload_n rfl ?_
            refine ev_getf (r := 7) (v := 3) (hS39.lt (by decide)) (hS39.fam (by decide) (by decide)) ft5_0 (jw_eq e39) ?_
            refine ev_sipush ?_
            refine ev_icmpge f64_49 (fun c39 => absurd c39 (by omega)) (fun c39 => ?_)
            refine ev_aload_n rfl ?_
            refine ev_getf (r := 7) (v := 8) (hS39.lt (by decide)) (hS39.fam (by decide) (by decide)) ft5_5 ((jw_ne e39 (Or.inr (by decide))).trans ((jw_ne e38 (Or.inl (by decide))).trans ((jw_ne e33 (Or.inr (by decide))).trans ((jw_ne e32 (Or.inl (by decide))).trans ((jw_ne e29 (Or.inr (by decide))).trans ((jw_ne e28 (Or.inl (by decide))).trans ((hF.v rfl)))))))) ?_
            refine ev_aload_n rfl ?_
            refine ev_getf (r := 7) (v := 3) (hS39.lt (by decide)) (hS39.fam (by decide) (by decide)) ft5_0 (jw_eq e39) ?_
            refine ev_iload_n rfl ?_
            refine ev_bipush ?_
            refine ev_iload_n rfl ?_
            refine ev_imul (r := 24) (by decide) ?_
            refine ev_ishr (r := (jshr (xs 2) 24)) rfl ?_
            refine ev_i2b (r := (w8 (jshr (xs 2) 24))) rfl ?_
            refine ev_bastG (r := 8) (j := 3) (hS39.lt (by decide)) (hS39.sh (by decide) rfl).1 rfl (hS39.inb (by decide) (by decide)) rfl (fun h46 e46 => ?_)
            have hS46 := hS39.wr e46
            refine ev_aload_n rfl ?_
            refine ev_dup (by decide) ?_
            refine ev_getf (r := 7) (v := 3) (hS46.lt (by decide)) (hS46.fam (by decide) (by decide)) ft5_0 ((jw_ne e46 (Or.inl (by decide))).trans (jw_eq e39)) ?_
            refine ev_iconst ?_
            refine ev_iadd (r := 4) (by decide) ?_
            refine ev_putfG (r := 7) (hS46.lt (by decide)) (hS46.fam (by decide) (by decide)) ft5_0 (fun e => absurd e nz5_0) (fun e => absurd e (by decide)) (fun h47 e47 => ?_)
            have hS47 := hS46.wr e47
            refine ev_iinc (w := 4) (L' := [(2, 7), (0, (xs 1)), (0, (xs 2)), (0, 4)]) rfl (by decide) rfl ?_
            refine ev_goto f64_2 ?_
            refine ev_iload_n rfl ?_
            refine ev_iload_n rfl ?_
            refine ev_icmpge f64_49 (fun c40 => ?_) (fun c40 => absurd c40 (by omega))
            refine ev_aload_n rfl ?_
            refine ev_getf (r := 7) (v := 4) (hS47.lt (by decide)) (hS47.fam (by decide) (by decide)) ft5_0 (jw_eq e47) ?_
            refine ev_ret rfl (by decide) (by decide) ?_
            show jEv _ _ _ _ _ _ _ (_, [(2, 0), (0, (xs 1)), (0, (xs 2))], [(0, 4)], _, _, _)
            refine ev_goto f172_37 ?_
            refine ev_ret rfl (by decide) (by decide) ?_
            show jEv _ _ _ _ _ _ _ (_, [(2, (-2)), (2, 0), (2, 42), (0, 0)], [(0, 4)], _, _, _)
            refine ev_aload_n rfl ?_
            refine ev_aload_n rfl ?_
            refine ev_iload_n rfl ?_
            refine ev_iconst ?_
            refine ev_iadd (r := 1) (by decide) ?_
            refine ev_sald (j := 1) (v := (xs 1)) rfl rfl rfl ?_
            refine ev_aload_n rfl ?_
            refine ev_iload_n rfl ?_
            refine ev_iconst ?_
            refine ev_iadd (r := 2) (by decide) ?_
            refine ev_sald (j := 2) (v := (xs 2)) rfl rfl rfl ?_
            refine ev_in (d := 7) (a := 0) (b := 0) (cd' := c263_0) (m := 4) (L0 := [(2, 42), (0, (xs 1)), (0, (xs 2)), (9, 0)]) (jcall_v (A := [(0, (xs 2)), (0, (xs 1))]) (S' := [(0, 4)]) (r := 42) rfl (hS47.lt (by decide)) (hS47.sh (by decide) rfl).1 (Nat.le_of_ble_eq_true rfl)) (by decide) ml263 pp263 (Nat.le_of_ble_eq_true rfl) rfl (by decide) (by decide) ?_
            refine ev_iload_n rfl ?_
            refine ev_iconst ?_
            refine ev_iconst ?_
            refine ev_in (d := 6) (a := 0) (b := 0) (cd' := c242_0) (m := 3) (L0 := [(0, (xs 1)), (0, 1), (0, 4)]) (jcall_s (A := [(0, 4), (0, 1), (0, (xs 1))]) (S' := []) (by decide) rfl (Nat.le_of_ble_eq_true rfl)) (by decide) ml242 pp242 (Nat.le_of_ble_eq_true rfl) rfl (by decide) (by decide) ?_
            refine ev_iload_n rfl ?_
            refine ev_iload_n rfl ?_
            refine ev_icmplt f242_14 (fun c41 => absurd c41 (by omega)) (fun c41 => ?_)
            refine ev_iload_n rfl ?_
            refine ev_iload_n rfl ?_
            refine ev_icmpgt f242_14 (fun c42 => absurd c42 (by omega)) (fun c42 => ?_)
            refine ev_iconst ?_
            refine ev_goto f242_15 ?_
            refine ev_ret rfl (by decide) (by decide) ?_
            show jEv _ _ _ _ _ _ _ (_, [(2, 42), (0, (xs 1)), (0, (xs 2)), (9, 0)], [(0, 1)], _, _, _)
            refine ev_ifne f263_11 (fun c43 => ?_) (fun c43 => absurd c43 (by omega))
            refine ev_aload_n rfl ?_
            refine ev_getf (r := 42) (v := 0) (hS47.lt (by decide)) (hS47.fam (by decide) (by decide)) ft12_17 ((jw_ne e47 (Or.inl (by decide))).trans ((jw_ne e46 (Or.inl (by decide))).trans ((jw_ne e39 (Or.inl (by decide))).trans ((jw_ne e38 (Or.inl (by decide))).trans ((jw_ne e33 (Or.inl (by decide))).trans ((jw_ne e32 (Or.inl (by decide))).trans ((jw_ne e29 (Or.inl (by decide))).trans ((jw_ne e28 (Or.inl (by decide))).trans ((hF.v rfl)))))))))) ?_
            refine ev_iload_n rfl ?_
            refine ev_iadd (r := (xs 1)) (by unfold w32; omega) ?_
            refine ev_sipush ?_
            refine ev_icmple f263_26 (fun c44 => ?_) (fun c44 => absurd c44 (by omega))
            refine ev_iconst ?_
            refine ev_istore_n (L' := [(2, 42), (0, (xs 1)), (0, (xs 2)), (0, 0)]) (Nat.le_of_ble_eq_true rfl) rfl ?_
            refine ev_iload_n rfl ?_
            refine ev_iload_n rfl ?_
            refine ev_icmpge f263_65 (fun c45 => absurd c45 (by omega)) (fun c45 => ?_)
            refine ev_aload_n rfl ?_
            refine ev_getf (r := 42) (v := 54) (hS47.lt (by decide)) (hS47.fam (by decide) (by decide)) ft12_16 ((jw_ne e47 (Or.inl (by decide))).trans ((jw_ne e46 (Or.inl (by decide))).trans ((jw_ne e39 (Or.inl (by decide))).trans ((jw_ne e38 (Or.inl (by decide))).trans ((jw_ne e33 (Or.inl (by decide))).trans ((jw_ne e32 (Or.inl (by decide))).trans ((jw_ne e29 (Or.inl (by decide))).trans ((jw_ne e28 (Or.inl (by decide))).trans ((hF.v rfl)))))))))) ?_
            refine ev_aload_n rfl ?_
            refine ev_getf (r := 42) (v := 0) (hS47.lt (by decide)) (hS47.fam (by decide) (by decide)) ft12_17 ((jw_ne e47 (Or.inl (by decide))).trans ((jw_ne e46 (Or.inl (by decide))).trans ((jw_ne e39 (Or.inl (by decide))).trans ((jw_ne e38 (Or.inl (by decide))).trans ((jw_ne e33 (Or.inl (by decide))).trans ((jw_ne e32 (Or.inl (by decide))).trans ((jw_ne e29 (Or.inl (by decide))).trans ((jw_ne e28 (Or.inl (by decide))).trans ((hF.v rfl)))))))))) ?_
            refine ev_iload_n rfl ?_
            refine ev_bipush ?_
            refine ev_iload_n rfl ?_
            refine ev_imul (r := 0) (by decide) ?_
            refine ev_ishr (r := (xs 2)) (jshr_0 (by omega) (by omega)) ?_
            refine ev_i2b (r := (w8 (xs 2))) rfl ?_
            refine ev_bastG (r := 54) (j := 0) (hS47.lt (by decide)) (hS47.sh (by decide) rfl).1 rfl (hS47.inb (by decide) (by decide)) rfl (fun h48 e48 => ?_)
            have hS48 := hS47.wr e48
            refine ev_aload_n rfl ?_
            refine ev_dup (by decide) ?_
            refine ev_getf (r := 42) (v := 0) (hS48.lt (by decide)) (hS48.fam (by decide) (by decide)) ft12_17 ((jw_ne e48 (Or.inl (by decide))).trans ((jw_ne e47 (Or.inl (by decide))).trans ((jw_ne e46 (Or.inl (by decide))).trans ((jw_ne e39 (Or.inl (by decide))).trans ((jw_ne e38 (Or.inl (by decide))).trans ((jw_ne e33 (Or.inl (by decide))).trans ((jw_ne e32 (Or.inl (by decide))).trans ((jw_ne e29 (Or.inl (by decide))).trans ((jw_ne e28 (Or.inl (by decide))).trans ((hF.v rfl))))))))))) ?_
            refine ev_iconst ?_
            refine ev_iadd (r := 1) (by decide) ?_
            refine ev_putfG (r := 42) (hS48.lt (by decide)) (hS48.fam (by decide) (by decide)) ft12_17 (fun e => absurd e nz12_17) (fun e => absurd e (by decide)) (fun h49 e49 => ?_)
            have hS49 := hS48.wr e49
            refine ev_iinc (w := 1) (L' := [(2, 42), (0, (xs 1)), (0, (xs 2)), (0, 1)]) rfl (by decide) rfl ?_
            refine ev_goto f263_28 ?_
            refine ev_iload_n rfl ?_
            refine ev_iload_n rfl ?_
            refine ev_icmpge f263_65 (fun c46 => absurd c46 (by omega)) (fun c46 => ?_)
            refine ev_aload_n rfl ?_
            refine ev_getf (r := 42) (v := 54) (hS49.lt (by decide)) (hS49.fam (by decide) (by decide)) ft12_16 ((jw_ne e49 (Or.inr (by decide))).trans ((jw_ne e48 (Or.inl (by decide))).trans ((jw_ne e47 (Or.inl (by decide))).trans ((jw_ne e46 (Or.inl (by decide))).trans ((jw_ne e39 (Or.inl (by decide))).trans ((jw_ne e38 (Or.inl (by decide))).trans ((jw_ne e33 (Or.inl (by decide))).trans ((jw_ne e32 (Or.inl (by decide))).trans ((jw_ne e29 (Or.inl (by decide))).trans ((jw_ne e28 (Or.inl (by decide))).trans ((hF.v rfl)))))))))))) ?_
            refine ev_aload_n rfl ?_
            refine ev_getf (r := 42) (v := 1) (hS49.lt (by decide)) (hS49.fam (by decide) (by decide)) ft12_17 (jw_eq e49) ?_
            refine ev_iload_n rfl ?_
            refine ev_bipush ?_
            refine ev_iload_n rfl ?_
            refine ev_imul (r := 8) (by decide) ?_
            refine ev_ishr (r := (jshr (xs 2) 8)) rfl ?_
            refine ev_i2b (r := (w8 (jshr (xs 2) 8))) rfl ?_
            refine ev_bastG (r := 54) (j := 1) (hS49.lt (by decide)) (hS49.sh (by decide) rfl).1 rfl (hS49.inb (by decide) (by decide)) rfl (fun h50 e50 => ?_)
            have hS50 := hS49.wr e50
            refine ev_aload_n rfl ?_
            refine ev_dup (by decide) ?_
            refine ev_getf (r := 42) (v := 1) (hS50.lt (by decide)) (hS50.fam (by decide) (by decide)) ft12_17 ((jw_ne e50 (Or.inl (by decide))).trans (jw_eq e49)) ?_
            refine ev_iconst ?_
            refine ev_iadd (r := 2) (by decide) ?_
            refine ev_putfG (r := 42) (hS50.lt (by decide)) (hS50.fam (by decide) (by decide)) ft12_17 (fun e => absurd e nz12_17) (fun e => absurd e (by decide)) (fun h51 e51 => ?_)
            have hS51 := hS50.wr e51
            refine ev_iinc (w := 2) (L' := [(2, 42), (0, (xs 1)), (0, (xs 2)), (0, 2)]) rfl (by decide) rfl ?_
            refine ev_goto f263_28 ?_
            refine ev_iload_n rfl ?_
            refine ev_iload_n rfl ?_
            refine ev_icmpge f263_65 (fun c47 => absurd c47 (by omega)) (fun c47 => ?_)
            refine ev_aload_n rfl ?_
            refine ev_getf (r := 42) (v := 54) (hS51.lt (by decide)) (hS51.fam (by decide) (by decide)) ft12_16 ((jw_ne e51 (Or.inr (by decide))).trans ((jw_ne e50 (Or.inl (by decide))).trans ((jw_ne e49 (Or.inr (by decide))).trans ((jw_ne e48 (Or.inl (by decide))).trans ((jw_ne e47 (Or.inl (by decide))).trans ((jw_ne e46 (Or.inl (by decide))).trans ((jw_ne e39 (Or.inl (by decide))).trans ((jw_ne e38 (Or.inl (by decide))).trans ((jw_ne e33 (Or.inl (by decide))).trans ((jw_ne e32 (Or.inl (by decide))).trans ((jw_ne e29 (Or.inl (by decide))).trans ((jw_ne e28 (Or.inl (by decide))).trans ((hF.v rfl)))))))))))))) ?_
            refine ev_aload_n rfl ?_
            refine ev_getf (r := 42) (v := 2) (hS51.lt (by decide)) (hS51.fam (by decide) (by decide)) ft12_17 (jw_eq e51) ?_
            refine ev_iload_n rfl ?_
            refine ev_bipush ?_
            refine ev_iload_n rfl ?_
            refine ev_imul (r := 16) (by decide) ?_
            refine ev_ishr (r := (jshr (xs 2) 16)) rfl ?_
            refine ev_i2b (r := (w8 (jshr (xs 2) 16))) rfl ?_
            refine ev_bastG (r := 54) (j := 2) (hS51.lt (by decide)) (hS51.sh (by decide) rfl).1 rfl (hS51.inb (by decide) (by decide)) rfl (fun h52 e52 => ?_)
            have hS52 := hS51.wr e52
            refine ev_aload_n rfl ?_
            refine ev_dup (by decide) ?_
            refine ev_getf (r := 42) (v := 2) (hS52.lt (by decide)) (hS52.fam (by decide) (by decide)) ft12_17 ((jw_ne e52 (Or.inl (by decide))).trans (jw_eq e51)) ?_
            refine ev_iconst ?_
            refine ev_iadd (r := 3) (by decide) ?_
            refine ev_putfG (r := 42) (hS52.lt (by decide)) (hS52.fam (by decide) (by decide)) ft12_17 (fun e => absurd e nz12_17) (fun e => absurd e (by decide)) (fun h53 e53 => ?_)
            have hS53 := hS52.wr e53
            refine ev_iinc (w := 3) (L' := [(2, 42), (0, (xs 1)), (0, (xs 2)), (0, 3)]) rfl (by decide) rfl ?_
            refine ev_goto f263_28 ?_
            refine ev_iload_n rfl ?_
            refine ev_iload_n rfl ?_
            refine ev_icmpge f263_65 (fun c48 => absurd c48 (by omega)) (fun c48 => ?_)
            refine ev_aload_n rfl ?_
            refine ev_getf (r := 42) (v := 54) (hS53.lt (by decide)) (hS53.fam (by decide) (by decide)) ft12_16 ((jw_ne e53 (Or.inr (by decide))).trans ((jw_ne e52 (Or.inl (by decide))).trans ((jw_ne e51 (Or.inr (by decide))).trans ((jw_ne e50 (Or.inl (by decide))).trans ((jw_ne e49 (Or.inr (by decide))).trans ((jw_ne e48 (Or.inl (by decide))).trans ((jw_ne e47 (Or.inl (by decide))).trans ((jw_ne e46 (Or.inl (by decide))).trans ((jw_ne e39 (Or.inl (by decide))).trans ((jw_ne e38 (Or.inl (by decide))).trans ((jw_ne e33 (Or.inl (by decide))).trans ((jw_ne e32 (Or.inl (by decide))).trans ((jw_ne e29 (Or.inl (by decide))).trans ((jw_ne e28 (Or.inl (by decide))).trans ((hF.v rfl)))))))))))))))) ?_
            refine ev_aload_n rfl ?_
            refine ev_getf (r := 42) (v := 3) (hS53.lt (by decide)) (hS53.fam (by decide) (by decide)) ft12_17 (jw_eq e53) ?_
            refine ev_iload_n rfl ?_
            refine ev_bipush ?_
            refine ev_iload_n rfl ?_
            refine ev_imul (r := 24) (by decide) ?_
            refine ev_ishr (r := (jshr (xs 2) 24)) rfl ?_
            refine ev_i2b (r := (w8 (jshr (xs 2) 24))) rfl ?_
            refine ev_bastG (r := 54) (j := 3) (hS53.lt (by decide)) (hS53.sh (by decide) rfl).1 rfl (hS53.inb (by decide) (by decide)) rfl (fun h54 e54 => ?_)
            have hS54 := hS53.wr e54
            refine ev_aload_n rfl ?_
            refine ev_dup (by decide) ?_
            refine ev_getf (r := 42) (v := 3) (hS54.lt (by decide)) (hS54.fam (by decide) (by decide)) ft12_17 ((jw_ne e54 (Or.inl (by decide))).trans (jw_eq e53)) ?_
            refine ev_iconst ?_
            refine ev_iadd (r := 4) (by decide) ?_
            refine ev_putfG (r := 42) (hS54.lt (by decide)) (hS54.fam (by decide) (by decide)) ft12_17 (fun e => absurd e nz12_17) (fun e => absurd e (by decide)) (fun h55 e55 => ?_)
            have hS55 := hS54.wr e55
            refine ev_iinc (w := 4) (L' := [(2, 42), (0, (xs 1)), (0, (xs 2)), (0, 4)]) rfl (by decide) rfl ?_
            refine ev_goto f263_28 ?_
            refine ev_iload_n rfl ?_
            refine ev_iload_n rfl ?_
            refine ev_icmpge f263_65 (fun c49 => ?_) (fun c49 => absurd c49 (by omega))
            refine ev_aload_n rfl ?_
            refine ev_getf (r := 42) (v := 4) (hS55.lt (by decide)) (hS55.fam (by decide) (by decide)) ft12_17 (jw_eq e55) ?_
            refine ev_ret rfl (by decide) (by decide) ?_
            show jEv _ _ _ _ _ _ _ (_, [(2, (-2)), (2, 0), (2, 42), (0, 0)], [(0, 4), (0, 4)], _, _, _)
            refine ev_icmpeq f384_2190 (fun c50 => ?_) (fun c50 => absurd c50 (by omega))
            exact law_tail _
    · refine ev_iconst ?_
      refine ev_ret rfl (by decide) (by decide) ?_
      show jEv _ _ _ _ _ _ _ (_, [(2, (-2)), (2, 0), (2, 42), (0, 0)], [(0, (-1))], _, _, _)
      refine ev_aload_n rfl ?_
      refine ev_aload_n rfl ?_
      refine ev_iload_n rfl ?_
      refine ev_iconst ?_
      refine ev_iadd (r := 1) (by decide) ?_
      refine ev_sald (j := 1) (v := (xs 1)) rfl rfl rfl ?_
      refine ev_aload_n rfl ?_
      refine ev_iload_n rfl ?_
      refine ev_iconst ?_
      refine ev_iadd (r := 2) (by decide) ?_
      refine ev_sald (j := 2) (v := (xs 2)) rfl rfl rfl ?_
      refine ev_in (d := 7) (a := 0) (b := 0) (cd' := c263_0) (m := 4) (L0 := [(2, 42), (0, (xs 1)), (0, (xs 2)), (9, 0)]) (jcall_v (A := [(0, (xs 2)), (0, (xs 1))]) (S' := [(0, (-1))]) (r := 42) rfl (hF.1.lt (by decide)) (hF.1.sh (by decide) rfl).1 (Nat.le_of_ble_eq_true rfl)) (by decide) ml263 pp263 (Nat.le_of_ble_eq_true rfl) rfl (by decide) (by decide) ?_
      refine ev_iload_n rfl ?_
      refine ev_iconst ?_
      refine ev_iconst ?_
      refine ev_in (d := 6) (a := 0) (b := 0) (cd' := c242_0) (m := 3) (L0 := [(0, (xs 1)), (0, 1), (0, 4)]) (jcall_s (A := [(0, 4), (0, 1), (0, (xs 1))]) (S' := []) (by decide) rfl (Nat.le_of_ble_eq_true rfl)) (by decide) ml242 pp242 (Nat.le_of_ble_eq_true rfl) rfl (by decide) (by decide) ?_
      refine ev_iload_n rfl ?_
      refine ev_iload_n rfl ?_
      refine ev_icmplt f242_14 (fun c51 => absurd c51 (by omega)) (fun c51 => ?_)
      refine ev_iload_n rfl ?_
      refine ev_iload_n rfl ?_
      refine ev_icmpgt f242_14 (fun c52 => ?_) (fun c52 => absurd c52 (by omega))
      refine ev_iconst ?_
      refine ev_ret rfl (by decide) (by decide) ?_
      show jEv _ _ _ _ _ _ _ (_, [(2, 42), (0, (xs 1)), (0, (xs 2)), (9, 0)], [(0, 0)], _, _, _)
      refine ev_ifne f263_11 (fun c53 => absurd c53 (by omega)) (fun c53 => ?_)
      refine ev_iconst ?_
      refine ev_ret rfl (by decide) (by decide) ?_
      show jEv _ _ _ _ _ _ _ (_, [(2, (-2)), (2, 0), (2, 42), (0, 0)], [(0, (-1)), (0, (-1))], _, _, _)
      refine ev_icmpeq f384_2190 (fun c54 => ?_) (fun c54 => absurd c54 (by omega))
      exact law_tail _

/-! quarrel -/
set_option maxHeartbeats 4000000 in
theorem case_7 {xs : Nat → Int} (hr : ∀ j, -2147483648 ≤ xs j ∧ xs j < 2147483648) {h : JH} (hF : Fresh h) : jEv (jOk 8) (some 6) xs c384_0 600000 7302250 (fun v _ => v = some (0, 1)) (c384_484, [(2, -2), (2, 0), (2, 42), (0, 0)], [], h, 83, 23761) := by
  have r1 := hr 1
  have r2 := hr 2
  have r3 := hr 3
  have r4 := hr 4
  have r5 := hr 5
  refine ev_aload_n rfl ?_
  refine ev_in (d := 7) (a := 0) (b := 0) (cd' := c173_0) (m := 3) (L0 := [(2, 0), (9, 0), (9, 0)]) (jcall_v (A := []) (S' := []) (r := 0) rfl (hF.1.lt (by decide)) (hF.1.sh (by decide) rfl).1 (Nat.le_of_ble_eq_true rfl)) (by decide) ml173 pp173 (Nat.le_of_ble_eq_true rfl) rfl (by decide) (by decide) ?_
  refine ev_aload_n rfl ?_
  refine ev_getf (r := 0) (v := 0) (hF.1.lt (by decide)) (hF.1.fam (by decide) (by decide)) ft11_3 ((hF.v rfl)) ?_
  refine ev_bipush ?_
  refine ev_icmplt f173_12 (fun c1 => ?_) (fun c1 => absurd c1 (by omega))
  refine ev_aload_n rfl ?_
  refine ev_getf (r := 0) (v := 7) (hF.1.lt (by decide)) (hF.1.fam (by decide) (by decide)) ft11_1 ((hF.v rfl)) ?_
  refine ev_aload_n rfl ?_
  refine ev_getf (r := 0) (v := 1) (hF.1.lt (by decide)) (hF.1.fam (by decide) (by decide)) ft11_0 ((hF.v rfl)) ?_
  refine ev_in (d := 6) (a := 0) (b := 0) (cd' := c67_0) (m := 3) (L0 := [(2, 7), (2, 1), (9, 0)]) (jcall_v (A := [(2, 1)]) (S' := []) (r := 7) rfl (hF.1.lt (by decide)) (hF.1.sh (by decide) rfl).1 (Nat.le_of_ble_eq_true rfl)) (by decide) ml67 pp67 (Nat.le_of_ble_eq_true rfl) rfl (by decide) (by decide) ?_
  refine ev_aload_n rfl ?_
  refine ev_iconst ?_
  refine ev_putfG (r := 7) (hF.1.lt (by decide)) (hF.1.fam (by decide) (by decide)) ft5_2 (fun e => absurd e nz5_2) (fun e => absurd e (by decide)) (fun h56 e56 => ?_)
  have hS56 := hF.1.wr e56
  refine ev_aload_n rfl ?_
  refine ev_iconst ?_
  refine ev_putfG (r := 7) (hS56.lt (by decide)) (hS56.fam (by decide) (by decide)) ft5_1 (fun e => absurd e nz5_1) (fun e => absurd e (by decide)) (fun h57 e57 => ?_)
  have hS57 := hS56.wr e57
  refine ev_aload_n rfl ?_
  refine ev_iconst ?_
  refine ev_putfG (r := 7) (hS57.lt (by decide)) (hS57.fam (by decide) (by decide)) ft5_3 (fun e => absurd e nz5_3) (fun e => absurd e (by decide)) (fun h58 e58 => ?_)
  have hS58 := hS57.wr e58
  refine ev_aload_n rfl ?_
  refine ev_iconst ?_
  refine ev_putfG (r := 7) (hS58.lt (by decide)) (hS58.fam (by decide) (by decide)) ft5_4 (fun e => absurd e nz5_4) (fun e => absurd e (by decide)) (fun h59 e59 => ?_)
  have hS59 := hS58.wr e59
  refine ev_aload_n rfl ?_
  refine ev_getf (r := 7) (v := 0) (hS59.lt (by decide)) (hS59.fam (by decide) (by decide)) ft5_4 (jw_eq e59) ?_
  refine ev_bipush ?_
  refine ev_icmpge f67_105 (fun c2 => absurd c2 (by omega)) (fun c2 => ?_)
  refine ev_aload_n rfl ?_
  refine ev_in (d := 5) (a := 0) (b := 0) (cd' := c68_0) (m := 1) (L0 := [(2, 7)]) (jcall_v (A := []) (S' := []) (r := 7) rfl (hS59.lt (by decide)) (hS59.sh (by decide) rfl).1 (Nat.le_of_ble_eq_true rfl)) (by decide) ml68 pp68 (Nat.le_of_ble_eq_true rfl) rfl (by decide) (by decide) ?_
  refine ev_aload_n rfl ?_
  refine ev_getf (r := 7) (v := 0) (hS59.lt (by decide)) (hS59.fam (by decide) (by decide)) ft5_2 ((jw_ne e59 (Or.inr (by decide))).trans ((jw_ne e58 (Or.inr (by decide))).trans ((jw_ne e57 (Or.inr (by decide))).trans (jw_eq e56)))) ?_
  refine ev_aload_n rfl ?_
  refine ev_getf (r := 7) (v := 0) (hS59.lt (by decide)) (hS59.fam (by decide) (by decide)) ft5_0 ((jw_ne e59 (Or.inr (by decide))).trans ((jw_ne e58 (Or.inr (by decide))).trans ((jw_ne e57 (Or.inr (by decide))).trans ((jw_ne e56 (Or.inr (by decide))).trans ((hF.v rfl)))))) ?_
  refine ev_icmpge f68_27 (fun c3 => ?_) (fun c3 => absurd c3 (by omega))
  refine ev_iconst ?_
  refine ev_ret rfl (by decide) (by decide) ?_
  show jEv _ _ _ _ _ _ _ (_, [(2, 7), (2, 1), (9, 0)], [(0, (-1))], _, _, _)
  refine ev_bipush ?_
  refine ev_aload_n rfl ?_
  refine ev_getf (r := 7) (v := 0) (hS59.lt (by decide)) (hS59.fam (by decide) (by decide)) ft5_4 (jw_eq e59) ?_
  refine ev_iadd (r := 65) (by decide) ?_
  refine ev_icmpne f67_105 (fun c4 => ?_) (fun c4 => absurd c4 (by omega))
  refine ev_aload_n rfl ?_
  refine ev_aload_n rfl ?_
  refine ev_iconst ?_
  refine ev_iconst ?_
  refine ev_in (d := 5) (a := 0) (b := 0) (cd' := c74_0) (m := 5) (L0 := [(2, 7), (2, 1), (0, 0), (0, 0), (9, 0)]) (jcall_v (A := [(0, 0), (0, 0), (2, 1)]) (S' := []) (r := 7) rfl (hS59.lt (by decide)) (hS59.sh (by decide) rfl).1 (Nat.le_of_ble_eq_true rfl)) (by decide) ml74 pp74 (Nat.le_of_ble_eq_true rfl) rfl (by decide) (by decide) ?_
  refine ev_aload_n rfl ?_
  refine ev_getf (r := 7) (v := (-1)) (hS59.lt (by decide)) (hS59.fam (by decide) (by decide)) ft5_1 ((jw_ne e59 (Or.inr (by decide))).trans ((jw_ne e58 (Or.inr (by decide))).trans (jw_eq e57))) ?_
  refine ev_ifge f74_13 (fun c5 => absurd c5 (by omega)) (fun c5 => ?_)
  refine ev_iload_n rfl ?_
  refine ev_bipush ?_
  refine ev_icmple f74_19 (fun c6 => ?_) (fun c6 => absurd c6 (by omega))
  refine ev_aload_n rfl ?_
  refine ev_in (d := 4) (a := 0) (b := 0) (cd' := c68_0) (m := 1) (L0 := [(2, 7)]) (jcall_v (A := []) (S' := []) (r := 7) rfl (hS59.lt (by decide)) (hS59.sh (by decide) rfl).1 (Nat.le_of_ble_eq_true rfl)) (by decide) ml68 pp68 (Nat.le_of_ble_eq_true rfl) rfl (by decide) (by decide) ?_
  refine ev_aload_n rfl ?_
  refine ev_getf (r := 7) (v := 0) (hS59.lt (by decide)) (hS59.fam (by decide) (by decide)) ft5_2 ((jw_ne e59 (Or.inr (by decide))).trans ((jw_ne e58 (Or.inr (by decide))).trans ((jw_ne e57 (Or.inr (by decide))).trans (jw_eq e56)))) ?_
  refine ev_aload_n rfl ?_
  refine ev_getf (r := 7) (v := 0) (hS59.lt (by decide)) (hS59.fam (by decide) (by decide)) ft5_0 ((jw_ne e59 (Or.inr (by decide))).trans ((jw_ne e58 (Or.inr (by decide))).trans ((jw_ne e57 (Or.inr (by decide))).trans ((jw_ne e56 (Or.inr (by decide))).trans ((hF.v rfl)))))) ?_
  refine ev_icmpge f68_27 (fun c7 => ?_) (fun c7 => absurd c7 (by omega))
  refine ev_iconst ?_
  refine ev_ret rfl (by decide) (by decide) ?_
  show jEv _ _ _ _ _ _ _ (_, [(2, 7), (2, 1), (0, 0), (0, 0), (9, 0)], [(0, (-1))], _, _, _)
  refine ev_istore (L' := [(2, 7), (2, 1), (0, 0), (0, 0), (0, (-1))]) (Nat.le_of_ble_eq_true rfl) rfl ?_
  refine ev_iload rfl ?_
  refine ev_bipush ?_
  refine ev_icmpne f74_40 (fun c8 => ?_) (fun c8 => absurd c8 (by omega))
  refine ev_iload rfl ?_
  refine ev_bipush ?_
  refine ev_icmpne f74_55 (fun c9 => ?_) (fun c9 => absurd c9 (by omega))
  refine ev_iload rfl ?_
  refine ev_bipush ?_
  refine ev_icmplt f74_78 (fun c10 => ?_) (fun c10 => absurd c10 (by omega))
  refine ev_aload_n rfl ?_
  refine ev_in (d := 4) (a := 0) (b := 0) (cd' := c75_0) (m := 4) (L0 := [(2, 7), (9, 0), (9, 0), (9, 0)]) (jcall_v (A := []) (S' := []) (r := 7) rfl (hS59.lt (by decide)) (hS59.sh (by decide) rfl).1 (Nat.le_of_ble_eq_true rfl)) (by decide) ml75 pp75 (Nat.le_of_ble_eq_true rfl) rfl (by decide) (by decide) ?_
  refine ev_aload_n rfl ?_
  refine ev_in (d := 3) (a := 0) (b := 0) (cd' := c68_0) (m := 1) (L0 := [(2, 7)]) (jcall_v (A := []) (S' := []) (r := 7) rfl (hS59.lt (by decide)) (hS59.sh (by decide) rfl).1 (Nat.le_of_ble_eq_true rfl)) (by decide) ml68 pp68 (Nat.le_of_ble_eq_true rfl) rfl (by decide) (by decide) ?_
  refine ev_aload_n rfl ?_
  refine ev_getf (r := 7) (v := 0) (hS59.lt (by decide)) (hS59.fam (by decide) (by decide)) ft5_2 ((jw_ne e59 (Or.inr (by decide))).trans ((jw_ne e58 (Or.inr (by decide))).trans ((jw_ne e57 (Or.inr (by decide))).trans (jw_eq e56)))) ?_
  refine ev_aload_n rfl ?_
  refine ev_getf (r := 7) (v := 0) (hS59.lt (by decide)) (hS59.fam (by decide) (by decide)) ft5_0 ((jw_ne e59 (Or.inr (by decide))).trans ((jw_ne e58 (Or.inr (by decide))).trans ((jw_ne e57 (Or.inr (by decide))).trans ((jw_ne e56 (Or.inr (by decide))).trans ((hF.v rfl)))))) ?_
  refine ev_icmpge f68_27 (fun c11 => ?_) (fun c11 => absurd c11 (by omega))
  refine ev_iconst ?_
  refine ev_ret rfl (by decide) (by decide) ?_
  show jEv _ _ _ _ _ _ _ (_, [(2, 7), (9, 0), (9, 0), (9, 0)], [(0, (-1))], _, _, _)
  refine ev_bipush ?_
  refine ev_icmpne f75_13 (fun c12 => ?_) (fun c12 => absurd c12 (by omega))
  refine ev_iconst ?_
  refine ev_istore_n (L' := [(2, 7), (0, 0), (9, 0), (9, 0)]) (Nat.le_of_ble_eq_true rfl) rfl ?_
  refine ev_iload_n rfl ?_
  refine ev_ifeq f75_29 (fun c13 => ?_) (fun c13 => absurd c13 (by omega))
  refine ev_aload_n rfl ?_
  refine ev_iconst ?_
  refine ev_in (d := 3) (a := 0) (b := 0) (cd' := c76_0) (m := 4) (L0 := [(2, 7), (0, 3), (9, 0), (9, 0)]) (jcall_v (A := [(0, 3)]) (S' := []) (r := 7) rfl (hS59.lt (by decide)) (hS59.sh (by decide) rfl).1 (Nat.le_of_ble_eq_true rfl)) (by decide) ml76 pp76 (Nat.le_of_ble_eq_true rfl) rfl (by decide) (by decide) ?_
  refine ev_iconst ?_
  refine ev_istore_n (L' := [(2, 7), (0, 3), (0, 0), (9, 0)]) (Nat.le_of_ble_eq_true rfl) rfl ?_
  refine ev_aload_n rfl ?_
  refine ev_in (d := 2) (a := 0) (b := 0) (cd' := c69_0) (m := 1) (L0 := [(2, 7)]) (jcall_v (A := []) (S' := []) (r := 7) rfl (hS59.lt (by decide)) (hS59.sh (by decide) rfl).1 (Nat.le_of_ble_eq_true rfl)) (by decide) ml69 pp69 (Nat.le_of_ble_eq_true rfl) rfl (by decide) (by decide) ?_
  refine ev_aload_n rfl ?_
  refine ev_in (d := 1) (a := 0) (b := 0) (cd' := c68_0) (m := 1) (L0 := [(2, 7)]) (jcall_v (A := []) (S' := []) (r := 7) rfl (hS59.lt (by decide)) (hS59.sh (by decide) rfl).1 (Nat.le_of_ble_eq_true rfl)) (by decide) ml68 pp68 (Nat.le_of_ble_eq_true rfl) rfl (by decide) (by decide) ?_
  refine ev_aload_n rfl ?_
  refine ev_getf (r := 7) (v := 0) (hS59.lt (by decide)) (hS59.fam (by decide) (by decide)) ft5_2 ((jw_ne e59 (Or.inr (by decide))).trans ((jw_ne e58 (Or.inr (by decide))).trans ((jw_ne e57 (Or.inr (by decide))).trans (jw_eq e56)))) ?_
  refine ev_aload_n rfl ?_
  refine ev_getf (r := 7) (v := 0) (hS59.lt (by decide)) (hS59.fam (by decide) (by decide)) ft5_0 ((jw_ne e59 (Or.inr (by decide))).trans ((jw_ne e58 (Or.inr (by decide))).trans ((jw_ne e57 (Or.inr (by decide))).trans ((jw_ne e56 (Or.inr (by decide))).trans ((hF.v rfl)))))) ?_
  refine ev_icmpge f68_27 (fun c14 => ?_) (fun c14 => absurd c14 (by omega))
  refine ev_iconst ?_
  refine ev_ret rfl (by decide) (by decide) ?_
  show jEv _ _ _ _ _ _ _ (_, [(2, 7)], [(0, (-1))], _, _, _)
  refine ev_bipush ?_
  refine ev_icmplt f69_22 (fun c15 => ?_) (fun c15 => absurd c15 (by omega))
  refine ev_iconst ?_
  refine ev_ret rfl (by decide) (by decide) ?_
  show jEv _ _ _ _ _ _ _ (_, [(2, 7), (0, 3), (0, 0), (9, 0)], [(0, 0)], _, _, _)
  refine ev_ifne f76_13 (fun c16 => absurd c16 (by omega)) (fun c16 => ?_)
  refine ev_aload_n rfl ?_
  refine ev_in (d := 2) (a := 0) (b := 0) (cd' := c70_0) (m := 1) (L0 := [(2, 7)]) (jcall_v (A := []) (S' := []) (r := 7) rfl (hS59.lt (by decide)) (hS59.sh (by decide) rfl).1 (Nat.le_of_ble_eq_true rfl)) (by decide) ml70 pp70 (Nat.le_of_ble_eq_true rfl) rfl (by decide) (by decide) ?_
  refine ev_aload_n rfl ?_
  refine ev_getf (r := 7) (v := (-1)) (hS59.lt (by decide)) (hS59.fam (by decide) (by decide)) ft5_1 ((jw_ne e59 (Or.inr (by decide))).trans ((jw_ne e58 (Or.inr (by decide))).trans (jw_eq e57))) ?_
  refine ev_ifge f70_15 (fun c17 => absurd c17 (by omega)) (fun c17 => ?_)
  refine ev_aload_n rfl ?_
  refine ev_aload_n rfl ?_
  refine ev_getf (r := 7) (v := 0) (hS59.lt (by decide)) (hS59.fam (by decide) (by decide)) ft5_2 ((jw_ne e59 (Or.inr (by decide))).trans ((jw_ne e58 (Or.inr (by decide))).trans ((jw_ne e57 (Or.inr (by decide))).trans (jw_eq e56)))) ?_
  refine ev_putfG (r := 7) (hS59.lt (by decide)) (hS59.fam (by decide) (by decide)) ft5_1 (fun e => absurd e nz5_1) (fun e => absurd e (by decide)) (fun h60 e60 => ?_)
  have hS60 := hS59.wr e60
  refine ev_ret rfl (by decide) (by decide) ?_
  show jEv _ _ _ _ _ _ _ (_, [(2, 7), (0, 3), (0, 0), (9, 0)], [], _, _, _)
  refine ev_iconst ?_
  refine ev_istore_n (L' := [(2, 7), (0, 3), (0, 0), (0, 0)]) (Nat.le_of_ble_eq_true rfl) rfl ?_
  refine ev_iload_n rfl ?_
  refine ev_iload_n rfl ?_
  refine ev_icmpge f76_63 (fun c18 => absurd c18 (by omega)) (fun c18 => ?_)
  refine ev_aload_n rfl ?_
  refine ev_getf (r := 7) (v := 0) (hS60.lt (by decide)) (hS60.fam (by decide) (by decide)) ft5_1 (jw_eq e60) ?_
  refine ev_ifge f76_63 (fun c19 => ?_) (fun c19 => absurd c19 (by omega))
  refine ev_iload_n rfl ?_
  refine ev_ret rfl (by decide) (by decide) ?_
  show jEv _ _ _ _ _ _ _ (_, [(2, 7), (0, 0), (9, 0), (9, 0)], [(0, 0)], _, _, _)
  refine ev_istore_n (L' := [(2, 7), (0, 0), (0, 0), (9, 0)]) (Nat.le_of_ble_eq_true rfl) rfl ?_
  refine ev_aload_n rfl ?_
  refine ev_iconst ?_
  refine ev_in (d := 3) (a := 0) (b := 0) (cd' := c73_0) (m := 2) (L0 := [(2, 7), (0, 0)]) (jcall_v (A := [(0, 0)]) (S' := []) (r := 7) rfl (hS60.lt (by decide)) (hS60.sh (by decide) rfl).1 (Nat.le_of_ble_eq_true rfl)) (by decide) ml73 pp73 (Nat.le_of_ble_eq_true rfl) rfl (by decide) (by decide) ?_
  refine ev_aload_n rfl ?_
  refine ev_getf (r := 7) (v := 0) (hS60.lt (by decide)) (hS60.fam (by decide) (by decide)) ft5_3 ((jw_ne e60 (Or.inr (by decide))).trans ((jw_ne e59 (Or.inr (by decide))).trans (jw_eq e58))) ?_
  refine ev_sipush ?_
  refine ev_icmplt f73_16 (fun c20 => ?_) (fun c20 => absurd c20 (by omega))
  refine ev_aload_n rfl ?_
  refine ev_getf (r := 7) (v := 10) (hS60.lt (by decide)) (hS60.fam (by decide) (by decide)) ft5_7 ((jw_ne e60 (Or.inr (by decide))).trans ((jw_ne e59 (Or.inr (by decide))).trans ((jw_ne e58 (Or.inr (by decide))).trans ((jw_ne e57 (Or.inr (by decide))).trans ((jw_ne e56 (Or.inr (by decide))).trans ((hF.v rfl))))))) ?_
  refine ev_aload_n rfl ?_
  refine ev_getf (r := 7) (v := 0) (hS60.lt (by decide)) (hS60.fam (by decide) (by decide)) ft5_3 ((jw_ne e60 (Or.inr (by decide))).trans ((jw_ne e59 (Or.inr (by decide))).trans (jw_eq e58))) ?_
  refine ev_iload_n rfl ?_
  refine ev_iastG (r := 10) (j := 0) (hS60.lt (by decide)) (hS60.sh (by decide) rfl).1 rfl (hS60.inb (by decide) (by decide)) (fun h61 e61 => ?_)
  have hS61 := hS60.wr e61
  refine ev_aload_n rfl ?_
  refine ev_getf (r := 7) (v := 11) (hS61.lt (by decide)) (hS61.fam (by decide) (by decide)) ft5_8 ((jw_ne e61 (Or.inl (by decide))).trans ((jw_ne e60 (Or.inr (by decide))).trans ((jw_ne e59 (Or.inr (by decide))).trans ((jw_ne e58 (Or.inr (by decide))).trans ((jw_ne e57 (Or.inr (by decide))).trans ((jw_ne e56 (Or.inr (by decide))).trans ((hF.v rfl)))))))) ?_
  refine ev_aload_n rfl ?_
  refine ev_getf (r := 7) (v := 0) (hS61.lt (by decide)) (hS61.fam (by decide) (by decide)) ft5_3 ((jw_ne e61 (Or.inl (by decide))).trans ((jw_ne e60 (Or.inr (by decide))).trans ((jw_ne e59 (Or.inr (by decide))).trans (jw_eq e58)))) ?_
  refine ev_iconst ?_
  refine ev_iastG (r := 11) (j := 0) (hS61.lt (by decide)) (hS61.sh (by decide) rfl).1 rfl (hS61.inb (by decide) (by decide)) (fun h62 e62 => ?_)
  have hS62 := hS61.wr e62
  refine ev_aload_n rfl ?_
  refine ev_getf (r := 7) (v := 12) (hS62.lt (by decide)) (hS62.fam (by decide) (by decide)) ft5_9 ((jw_ne e62 (Or.inl (by decide))).trans ((jw_ne e61 (Or.inl (by decide))).trans ((jw_ne e60 (Or.inr (by decide))).trans ((jw_ne e59 (Or.inr (by decide))).trans ((jw_ne e58 (Or.inr (by decide))).trans ((jw_ne e57 (Or.inr (by decide))).trans ((jw_ne e56 (Or.inr (by decide))).trans ((hF.v rfl))))))))) ?_
  refine ev_aload_n rfl ?_
  refine ev_getf (r := 7) (v := 0) (hS62.lt (by decide)) (hS62.fam (by decide) (by decide)) ft5_3 ((jw_ne e62 (Or.inl (by decide))).trans ((jw_ne e61 (Or.inl (by decide))).trans ((jw_ne e60 (Or.inr (by decide))).trans ((jw_ne e59 (Or.inr (by decide))).trans (jw_eq e58))))) ?_
  refine ev_iconst ?_
  refine ev_iastG (r := 12) (j := 0) (hS62.lt (by decide)) (hS62.sh (by decide) rfl).1 rfl (hS62.inb (by decide) (by decide)) (fun h63 e63 => ?_)
  have hS63 := hS62.wr e63
  refine ev_aload_n rfl ?_
  refine ev_getf (r := 7) (v := 15) (hS63.lt (by decide)) (hS63.fam (by decide) (by decide)) ft5_12 ((jw_ne e63 (Or.inl (by decide))).trans ((jw_ne e62 (Or.inl (by decide))).trans ((jw_ne e61 (Or.inl (by decide))).trans ((jw_ne e60 (Or.inr (by decide))).trans ((jw_ne e59 (Or.inr (by decide))).trans ((jw_ne e58 (Or.inr (by decide))).trans ((jw_ne e57 (Or.inr (by decide))).trans ((jw_ne e56 (Or.inr (by decide))).trans ((hF.v rfl)))))))))) ?_
  refine ev_aload_n rfl ?_
  refine ev_getf (r := 7) (v := 0) (hS63.lt (by decide)) (hS63.fam (by decide) (by decide)) ft5_3 ((jw_ne e63 (Or.inl (by decide))).trans ((jw_ne e62 (Or.inl (by decide))).trans ((jw_ne e61 (Or.inl (by decide))).trans ((jw_ne e60 (Or.inr (by decide))).trans ((jw_ne e59 (Or.inr (by decide))).trans (jw_eq e58)))))) ?_
  refine ev_iconst ?_
  refine ev_iastG (r := 15) (j := 0) (hS63.lt (by decide)) (hS63.sh (by decide) rfl).1 rfl (hS63.inb (by decide) (by decide)) (fun h64 e64 => ?_)
  have hS64 := hS63.wr e64
  refine ev_aload_n rfl ?_
  refine ev_getf (r := 7) (v := 16) (hS64.lt (by decide)) (hS64.fam (by decide) (by decide)) ft5_13 ((jw_ne e64 (Or.inl (by decide))).trans ((jw_ne e63 (Or.inl (by decide))).trans ((jw_ne e62 (Or.inl (by decide))).trans ((jw_ne e61 (Or.inl (by decide))).trans ((jw_ne e60 (Or.inr (by decide))).trans ((jw_ne e59 (Or.inr (by decide))).trans ((jw_ne e58 (Or.inr (by decide))).trans ((jw_ne e57 (Or.inr (by decide))).trans ((jw_ne e56 (Or.inr (by decide))).trans ((hF.v rfl))))))))))) ?_
  refine ev_aload_n rfl ?_
  refine ev_getf (r := 7) (v := 0) (hS64.lt (by decide)) (hS64.fam (by decide) (by decide)) ft5_3 ((jw_ne e64 (Or.inl (by decide))).trans ((jw_ne e63 (Or.inl (by decide))).trans ((jw_ne e62 (Or.inl (by decide))).trans ((jw_ne e61 (Or.inl (by decide))).trans ((jw_ne e60 (Or.inr (by decide))).trans ((jw_ne e59 (Or.inr (by decide))).trans (jw_eq e58))))))) ?_
  refine ev_iconst ?_
  refine ev_iastG (r := 16) (j := 0) (hS64.lt (by decide)) (hS64.sh (by decide) rfl).1 rfl (hS64.inb (by decide) (by decide)) (fun h65 e65 => ?_)
  have hS65 := hS64.wr e65
  refine ev_aload_n rfl ?_
  refine ev_getf (r := 7) (v := 17) (hS65.lt (by decide)) (hS65.fam (by decide) (by decide)) ft5_14 ((jw_ne e65 (Or.inl (by decide))).trans ((jw_ne e64 (Or.inl (by decide))).trans ((jw_ne e63 (Or.inl (by decide))).trans ((jw_ne e62 (Or.inl (by decide))).trans ((jw_ne e61 (Or.inl (by decide))).trans ((jw_ne e60 (Or.inr (by decide))).trans ((jw_ne e59 (Or.inr (by decide))).trans ((jw_ne e58 (Or.inr (by decide))).trans ((jw_ne e57 (Or.inr (by decide))).trans ((jw_ne e56 (Or.inr (by decide))).trans ((hF.v rfl)))))))))))) ?_
  refine ev_aload_n rfl ?_
  refine ev_getf (r := 7) (v := 0) (hS65.lt (by decide)) (hS65.fam (by decide) (by decide)) ft5_3 ((jw_ne e65 (Or.inl (by decide))).trans ((jw_ne e64 (Or.inl (by decide))).trans ((jw_ne e63 (Or.inl (by decide))).trans ((jw_ne e62 (Or.inl (by decide))).trans ((jw_ne e61 (Or.inl (by decide))).trans ((jw_ne e60 (Or.inr (by decide))).trans ((jw_ne e59 (Or.inr (by decide))).trans (jw_eq e58)))))))) ?_
  refine ev_iconst ?_
  refine ev_iastG (r := 17) (j := 0) (hS65.lt (by decide)) (hS65.sh (by decide) rfl).1 rfl (hS65.inb (by decide) (by decide)) (fun h66 e66 => ?_)
  have hS66 := hS65.wr e66
  refine ev_aload_n rfl ?_
  refine ev_dup (by decide) ?_
  refine ev_getf (r := 7) (v := 0) (hS66.lt (by decide)) (hS66.fam (by decide) (by decide)) ft5_3 ((jw_ne e66 (Or.inl (by decide))).trans ((jw_ne e65 (Or.inl (by decide))).trans ((jw_ne e64 (Or.inl (by decide))).trans ((jw_ne e63 (Or.inl (by decide))).trans ((jw_ne e62 (Or.inl (by decide))).trans ((jw_ne e61 (Or.inl (by decide))).trans ((jw_ne e60 (Or.inr (by decide))).trans ((jw_ne e59 (Or.inr (by decide))).trans (jw_eq e58))))))))) ?_
  refine ev_iconst ?_
  refine ev_iadd (r := 1) (by decide) ?_
  refine ev_putfG (r := 7) (hS66.lt (by decide)) (hS66.fam (by decide) (by decide)) ft5_3 (fun e => absurd e nz5_3) (fun e => absurd e (by decide)) (fun h67 e67 => ?_)
  have hS67 := hS66.wr e67
  refine ev_aload_n rfl ?_
  refine ev_getf (r := 7) (v := 1) (hS67.lt (by decide)) (hS67.fam (by decide) (by decide)) ft5_3 (jw_eq e67) ?_
  refine ev_iconst ?_
  refine ev_isub (r := 0) (by decide) ?_
  refine ev_ret rfl (by decide) (by decide) ?_
  show jEv _ _ _ _ _ _ _ (_, [(2, 7), (0, 0), (0, 0), (9, 0)], [(0, 0)], _, _, _)
  refine ev_istore_n (L' := [(2, 7), (0, 0), (0, 0), (0, 0)]) (Nat.le_of_ble_eq_true rfl) rfl ?_
  refine ev_aload_n rfl ?_
  refine ev_getf (r := 7) (v := 0) (hS67.lt (by decide)) (hS67.fam (by decide) (by decide)) ft5_1 ((jw_ne e67 (Or.inr (by decide))).trans ((jw_ne e66 (Or.inl (by decide))).trans ((jw_ne e65 (Or.inl (by decide))).trans ((jw_ne e64 (Or.inl (by decide))).trans ((jw_ne e63 (Or.inl (by decide))).trans ((jw_ne e62 (Or.inl (by decide))).trans ((jw_ne e61 (Or.inl (by decide))).trans (jw_eq e60)))))))) ?_
  refine ev_ifge f75_52 (fun c21 => ?_) (fun c21 => absurd c21 (by omega))
  refine ev_iconst ?_
  refine ev_ret rfl (by decide) (by decide) ?_
  show jEv _ _ _ _ _ _ _ (_, [(2, 7), (2, 1), (0, 0), (0, 0), (0, (-1))], [(0, (-1))], _, _, _)
  refine ev_ret rfl (by decide) (by decide) ?_
  show jEv _ _ _ _ _ _ _ (_, [(2, 7), (2, 1), (9, 0)], [(0, (-1))], _, _, _)
  refine ev_istore_n (L' := [(2, 7), (2, 1), (0, (-1))]) (Nat.le_of_ble_eq_true rfl) rfl ?_
  refine ev_aload_n rfl ?_
  refine ev_getf (r := 7) (v := 0) (hS67.lt (by decide)) (hS67.fam (by decide) (by decide)) ft5_1 ((jw_ne e67 (Or.inr (by decide))).trans ((jw_ne e66 (Or.inl (by decide))).trans ((jw_ne e65 (Or.inl (by decide))).trans ((jw_ne e64 (Or.inl (by decide))).trans ((jw_ne e63 (Or.inl (by decide))).trans ((jw_ne e62 (Or.inl (by decide))).trans ((jw_ne e61 (Or.inl (by decide))).trans (jw_eq e60)))))))) ?_
  refine ev_ifge f67_139 (fun c22 => ?_) (fun c22 => absurd c22 (by omega))
  refine ev_aload_n rfl ?_
  refine ev_getf (r := 7) (v := 0) (hS67.lt (by decide)) (hS67.fam (by decide) (by decide)) ft5_1 ((jw_ne e67 (Or.inr (by decide))).trans ((jw_ne e66 (Or.inl (by decide))).trans ((jw_ne e65 (Or.inl (by decide))).trans ((jw_ne e64 (Or.inl (by decide))).trans ((jw_ne e63 (Or.inl (by decide))).trans ((jw_ne e62 (Or.inl (by decide))).trans ((jw_ne e61 (Or.inl (by decide))).trans (jw_eq e60)))))))) ?_
  refine ev_iflt f67_150 (fun c23 => absurd c23 (by omega)) (fun c23 => ?_)
  refine ev_iconst ?_
  refine ev_goto f67_151 ?_
  refine ev_ret rfl (by decide) (by decide) ?_
  show jEv _ _ _ _ _ _ _ (_, [(2, 0), (9, 0), (9, 0)], [(0, (-1))], _, _, _)
  refine ev_istore_n (L' := [(2, 0), (0, (-1)), (9, 0)]) (Nat.le_of_ble_eq_true rfl) rfl ?_
  refine ev_iload_n rfl ?_
  refine ev_ifge f173_42 (fun c24 => absurd c24 (by omega)) (fun c24 => ?_)
  refine ev_bipush ?_
  refine ev_aload_n rfl ?_
  refine ev_getf (r := 0) (v := 7) (hS67.lt (by decide)) (hS67.fam (by decide) (by decide)) ft11_1 ((jw_ne e67 (Or.inl (by decide))).trans ((jw_ne e66 (Or.inl (by decide))).trans ((jw_ne e65 (Or.inl (by decide))).trans ((jw_ne e64 (Or.inl (by decide))).trans ((jw_ne e63 (Or.inl (by decide))).trans ((jw_ne e62 (Or.inl (by decide))).trans ((jw_ne e61 (Or.inl (by decide))).trans ((jw_ne e60 (Or.inl (by decide))).trans ((jw_ne e59 (Or.inl (by decide))).trans ((jw_ne e58 (Or.inl (by decide))).trans ((jw_ne e57 (Or.inl (by decide))).trans ((jw_ne e56 (Or.inl (by decide))).trans ((hF.v rfl)))))))))))))) ?_
  refine ev_getf (r := 7) (v := 0) (hS67.lt (by decide)) (hS67.fam (by decide) (by decide)) ft5_1 ((jw_ne e67 (Or.inr (by decide))).trans ((jw_ne e66 (Or.inl (by decide))).trans ((jw_ne e65 (Or.inl (by decide))).trans ((jw_ne e64 (Or.inl (by decide))).trans ((jw_ne e63 (Or.inl (by decide))).trans ((jw_ne e62 (Or.inl (by decide))).trans ((jw_ne e61 (Or.inl (by decide))).trans (jw_eq e60)))))))) ?_
  refine ev_isub (r := (-100)) (by decide) ?_
  refine ev_istore_n (L' := [(2, 0), (0, (-1)), (0, (-100))]) (Nat.le_of_ble_eq_true rfl) rfl ?_
  refine ev_goto f173_93 ?_
  refine ev_aload_n rfl ?_
  refine ev_getf (r := 0) (v := 7) (hS67.lt (by decide)) (hS67.fam (by decide) (by decide)) ft11_1 ((jw_ne e67 (Or.inl (by decide))).trans ((jw_ne e66 (Or.inl (by decide))).trans ((jw_ne e65 (Or.inl (by decide))).trans ((jw_ne e64 (Or.inl (by decide))).trans ((jw_ne e63 (Or.inl (by decide))).trans ((jw_ne e62 (Or.inl (by decide))).trans ((jw_ne e61 (Or.inl (by decide))).trans ((jw_ne e60 (Or.inl (by decide))).trans ((jw_ne e59 (Or.inl (by decide))).trans ((jw_ne e58 (Or.inl (by decide))).trans ((jw_ne e57 (Or.inl (by decide))).trans ((jw_ne e56 (Or.inl (by decide))).trans ((hF.v rfl)))))))))))))) ?_
  refine ev_in (d := 6) (a := 0) (b := 0) (cd' := c65_0) (m := 1) (L0 := [(2, 7)]) (jcall_v (A := []) (S' := []) (r := 7) rfl (hS67.lt (by decide)) (hS67.sh (by decide) rfl).1 (Nat.le_of_ble_eq_true rfl)) (by decide) ml65 pp65 (Nat.le_of_ble_eq_true rfl) rfl (by decide) (by decide) ?_
  refine ev_aload_n rfl ?_
  refine ev_iconst ?_
  refine ev_putfG (r := 7) (hS67.lt (by decide)) (hS67.fam (by decide) (by decide)) ft5_0 (fun e => absurd e nz5_0) (fun e => absurd e (by decide)) (fun h68 e68 => ?_)
  have hS68 := hS67.wr e68
  refine ev_ret rfl (by decide) (by decide) ?_
  show jEv _ _ _ _ _ _ _ (_, [(2, 0), (0, (-1)), (0, (-100))], [], _, _, _)
  refine ev_iload_n rfl ?_
  refine ev_ret rfl (by decide) (by decide) ?_
  show jEv _ _ _ _ _ _ _ (_, [(2, (-2)), (2, 0), (2, 42), (0, 0)], [(0, (-100))], _, _, _)
  refine ev_aload_n rfl ?_
  refine ev_in (d := 7) (a := 0) (b := 0) (cd' := c274_0) (m := 2) (L0 := [(2, 42), (9, 0)]) (jcall_v (A := []) (S' := [(0, (-100))]) (r := 42) rfl (hS68.lt (by decide)) (hS68.sh (by decide) rfl).1 (Nat.le_of_ble_eq_true rfl)) (by decide) ml274 pp274 (Nat.le_of_ble_eq_true rfl) rfl (by decide) (by decide) ?_
  refine ev_aload_n rfl ?_
  refine ev_getf (r := 42) (v := 0) (hS68.lt (by decide)) (hS68.fam (by decide) (by decide)) ft12_9 ((jw_ne e68 (Or.inl (by decide))).trans ((jw_ne e67 (Or.inl (by decide))).trans ((jw_ne e66 (Or.inl (by decide))).trans ((jw_ne e65 (Or.inl (by decide))).trans ((jw_ne e64 (Or.inl (by decide))).trans ((jw_ne e63 (Or.inl (by decide))).trans ((jw_ne e62 (Or.inl (by decide))).trans ((jw_ne e61 (Or.inl (by decide))).trans ((jw_ne e60 (Or.inl (by decide))).trans ((jw_ne e59 (Or.inl (by decide))).trans ((jw_ne e58 (Or.inl (by decide))).trans ((jw_ne e57 (Or.inl (by decide))).trans ((jw_ne e56 (Or.inl (by decide))).trans ((hF.v rfl))))))))))))))) ?_
  refine ev_bipush ?_
  refine ev_icmpne f274_12 (fun c25 => ?_) (fun c25 => absurd c25 (by omega))
  refine ev_aload_n rfl ?_
  refine ev_iconst ?_
  refine ev_putfG (r := 42) (hS68.lt (by decide)) (hS68.fam (by decide) (by decide)) ft12_20 (fun e => absurd e nz12_20) (fun e => absurd e (by decide)) (fun h69 e69 => ?_)
  have hS69 := hS68.wr e69
  refine ev_aload_n rfl ?_
  refine ev_iconst ?_
  refine ev_putfG (r := 42) (hS69.lt (by decide)) (hS69.fam (by decide) (by decide)) ft12_21 (fun e => absurd e nz12_21) (fun e => absurd e (by decide)) (fun h70 e70 => ?_)
  have hS70 := hS69.wr e70
  refine ev_aload_n rfl ?_
  refine ev_in (d := 6) (a := 0) (b := 0) (cd' := c273_0) (m := 3) (L0 := [(2, 42), (9, 0), (9, 0)]) (jcall_v (A := []) (S' := []) (r := 42) rfl (hS70.lt (by decide)) (hS70.sh (by decide) rfl).1 (Nat.le_of_ble_eq_true rfl)) (by decide) ml273 pp273 (Nat.le_of_ble_eq_true rfl) rfl (by decide) (by decide) ?_
  refine ev_iconst ?_
  refine ev_istore_n (L' := [(2, 42), (0, 0), (9, 0)]) (Nat.le_of_ble_eq_true rfl) rfl ?_
  refine ev_aload_n rfl ?_
  refine ev_iconst ?_
  refine ev_putfG (r := 42) (hS70.lt (by decide)) (hS70.fam (by decide) (by decide)) ft12_19 (fun e => absurd e nz12_19) (fun e => absurd e (by decide)) (fun h71 e71 => ?_)
  have hS71 := hS70.wr e71
  refine ev_aload_n rfl ?_
  refine ev_getf (r := 42) (v := 0) (hS71.lt (by decide)) (hS71.fam (by decide) (by decide)) ft12_19 (jw_eq e71) ?_
  refine ev_bipush ?_
  refine ev_icmpge f273_112 (fun c26 => absurd c26 (by omega)) (fun c26 => ?_)
  refine ev_aload_n rfl ?_
  refine ev_iload_n rfl ?_
  refine ev_in (d := 5) (a := 0) (b := 0) (cd' := c264_0) (m := 2) (L0 := [(2, 42), (0, 0)]) (jcall_v (A := [(0, 0)]) (S' := []) (r := 42) rfl (hS71.lt (by decide)) (hS71.sh (by decide) rfl).1 (Nat.le_of_ble_eq_true rfl)) (by decide) ml264 pp264 (Nat.le_of_ble_eq_true rfl) rfl (by decide) (by decide) ?_
  refine ev_iload_n rfl ?_
  refine ev_aload_n rfl ?_
  refine ev_getf (r := 42) (v := 0) (hS71.lt (by decide)) (hS71.fam (by decide) (by decide)) ft12_17 ((jw_ne e71 (Or.inr (by decide))).trans ((jw_ne e70 (Or.inr (by decide))).trans ((jw_ne e69 (Or.inr (by decide))).trans ((jw_ne e68 (Or.inl (by decide))).trans ((jw_ne e67 (Or.inl (by decide))).trans ((jw_ne e66 (Or.inl (by decide))).trans ((jw_ne e65 (Or.inl (by decide))).trans ((jw_ne e64 (Or.inl (by decide))).trans ((jw_ne e63 (Or.inl (by decide))).trans ((jw_ne e62 (Or.inl (by decide))).trans ((jw_ne e61 (Or.inl (by decide))).trans ((jw_ne e60 (Or.inl (by decide))).trans ((jw_ne e59 (Or.inl (by decide))).trans ((jw_ne e58 (Or.inl (by decide))).trans ((jw_ne e57 (Or.inl (by decide))).trans ((jw_ne e56 (Or.inl (by decide))).trans ((hF.v rfl)))))))))))))))))) ?_
  refine ev_icmpge f264_17 (fun c27 => ?_) (fun c27 => absurd c27 (by omega))
  refine ev_iconst ?_
  refine ev_ret rfl (by decide) (by decide) ?_
  show jEv _ _ _ _ _ _ _ (_, [(2, 42), (0, 0), (9, 0)], [(0, (-1))], _, _, _)
  refine ev_bipush ?_
  refine ev_aload_n rfl ?_
  refine ev_getf (r := 42) (v := 0) (hS71.lt (by decide)) (hS71.fam (by decide) (by decide)) ft12_19 (jw_eq e71) ?_
  refine ev_iadd (r := 65) (by decide) ?_
  refine ev_icmpne f273_112 (fun c28 => ?_) (fun c28 => absurd c28 (by omega))
  refine ev_aload_n rfl ?_
  refine ev_iload_n rfl ?_
  refine ev_iconst ?_
  refine ev_iconst ?_
  refine ev_iconst ?_
  refine ev_in (d := 5) (a := 0) (b := 0) (cd' := c272_0) (m := 7) (L0 := [(2, 42), (0, 0), (0, 0), (0, 0), (0, 1), (9, 0), (9, 0)]) (jcall_v (A := [(0, 1), (0, 0), (0, 0), (0, 0)]) (S' := []) (r := 42) rfl (hS71.lt (by decide)) (hS71.sh (by decide) rfl).1 (Nat.le_of_ble_eq_true rfl)) (by decide) ml272 pp272 (Nat.le_of_ble_eq_true rfl) rfl (by decide) (by decide) ?_
  refine ev_aload_n rfl ?_
  refine ev_iload_n rfl ?_
  refine ev_in (d := 4) (a := 0) (b := 0) (cd' := c264_0) (m := 2) (L0 := [(2, 42), (0, 0)]) (jcall_v (A := [(0, 0)]) (S' := []) (r := 42) rfl (hS71.lt (by decide)) (hS71.sh (by decide) rfl).1 (Nat.le_of_ble_eq_true rfl)) (by decide) ml264 pp264 (Nat.le_of_ble_eq_true rfl) rfl (by decide) (by decide) ?_
  refine ev_iload_n rfl ?_
  refine ev_aload_n rfl ?_
  refine ev_getf (r := 42) (v := 0) (hS71.lt (by decide)) (hS71.fam (by decide) (by decide)) ft12_17 ((jw_ne e71 (Or.inr (by decide))).trans ((jw_ne e70 (Or.inr (by decide))).trans ((jw_ne e69 (Or.inr (by decide))).trans ((jw_ne e68 (Or.inl (by decide))).trans ((jw_ne e67 (Or.inl (by decide))).trans ((jw_ne e66 (Or.inl (by decide))).trans ((jw_ne e65 (Or.inl (by decide))).trans ((jw_ne e64 (Or.inl (by decide))).trans ((jw_ne e63 (Or.inl (by decide))).trans ((jw_ne e62 (Or.inl (by decide))).trans ((jw_ne e61 (Or.inl (by decide))).trans ((jw_ne e60 (Or.inl (by decide))).trans ((jw_ne e59 (Or.inl (by decide))).trans ((jw_ne e58 (Or.inl (by decide))).trans ((jw_ne e57 (Or.inl (by decide))).trans ((jw_ne e56 (Or.inl (by decide))).trans ((hF.v rfl)))))))))))))))))) ?_
  refine ev_icmpge f264_17 (fun c29 => ?_) (fun c29 => absurd c29 (by omega))
  refine ev_iconst ?_
  refine ev_ret rfl (by decide) (by decide) ?_
  show jEv _ _ _ _ _ _ _ (_, [(2, 42), (0, 0), (0, 0), (0, 0), (0, 1), (9, 0), (9, 0)], [(0, (-1))], _, _, _)
  refine ev_istore (L' := [(2, 42), (0, 0), (0, 0), (0, 0), (0, 1), (0, (-1)), (9, 0)]) (Nat.le_of_ble_eq_true rfl) rfl ?_
  refine ev_iload rfl ?_
  refine ev_bipush ?_
  refine ev_icmpne f272_24 (fun c30 => ?_) (fun c30 => absurd c30 (by omega))
  refine ev_iload rfl ?_
  refine ev_bipush ?_
  refine ev_icmpne f272_41 (fun c31 => ?_) (fun c31 => absurd c31 (by omega))
  refine ev_iload rfl ?_
  refine ev_bipush ?_
  refine ev_icmpeq f272_56 (fun c32 => absurd c32 (by omega)) (fun c32 => ?_)
  refine ev_aload_n rfl ?_
  refine ev_iload_n rfl ?_
  refine ev_in (d := 4) (a := 0) (b := 0) (cd' := c265_0) (m := 2) (L0 := [(2, 42), (0, 0)]) (jcall_v (A := [(0, 0)]) (S' := []) (r := 42) rfl (hS71.lt (by decide)) (hS71.sh (by decide) rfl).1 (Nat.le_of_ble_eq_true rfl)) (by decide) ml265 pp265 (Nat.le_of_ble_eq_true rfl) rfl (by decide) (by decide) ?_
  refine ev_aload_n rfl ?_
  refine ev_iload_n rfl ?_
  refine ev_in (d := 3) (a := 0) (b := 0) (cd' := c264_0) (m := 2) (L0 := [(2, 42), (0, 0)]) (jcall_v (A := [(0, 0)]) (S' := []) (r := 42) rfl (hS71.lt (by decide)) (hS71.sh (by decide) rfl).1 (Nat.le_of_ble_eq_true rfl)) (by decide) ml264 pp264 (Nat.le_of_ble_eq_true rfl) rfl (by decide) (by decide) ?_
  refine ev_iload_n rfl ?_
  refine ev_aload_n rfl ?_
  refine ev_getf (r := 42) (v := 0) (hS71.lt (by decide)) (hS71.fam (by decide) (by decide)) ft12_17 ((jw_ne e71 (Or.inr (by decide))).trans ((jw_ne e70 (Or.inr (by decide))).trans ((jw_ne e69 (Or.inr (by decide))).trans ((jw_ne e68 (Or.inl (by decide))).trans ((jw_ne e67 (Or.inl (by decide))).trans ((jw_ne e66 (Or.inl (by decide))).trans ((jw_ne e65 (Or.inl (by decide))).trans ((jw_ne e64 (Or.inl (by decide))).trans ((jw_ne e63 (Or.inl (by decide))).trans ((jw_ne e62 (Or.inl (by decide))).trans ((jw_ne e61 (Or.inl (by decide))).trans ((jw_ne e60 (Or.inl (by decide))).trans ((jw_ne e59 (Or.inl (by decide))).trans ((jw_ne e58 (Or.inl (by decide))).trans ((jw_ne e57 (Or.inl (by decide))).trans ((jw_ne e56 (Or.inl (by decide))).trans ((hF.v rfl)))))))))))))))))) ?_
  refine ev_icmpge f264_17 (fun c33 => ?_) (fun c33 => absurd c33 (by omega))
  refine ev_iconst ?_
  refine ev_ret rfl (by decide) (by decide) ?_
  show jEv _ _ _ _ _ _ _ (_, [(2, 42), (0, 0)], [(0, (-1))], _, _, _)
  refine ev_bipush ?_
  refine ev_bipush ?_
  refine ev_in (d := 3) (a := 0) (b := 0) (cd' := c242_0) (m := 3) (L0 := [(0, (-1)), (0, 48), (0, 57)]) (jcall_s (A := [(0, 57), (0, 48), (0, (-1))]) (S' := []) (by decide) rfl (Nat.le_of_ble_eq_true rfl)) (by decide) ml242 pp242 (Nat.le_of_ble_eq_true rfl) rfl (by decide) (by decide) ?_
  refine ev_iload_n rfl ?_
  refine ev_iload_n rfl ?_
  refine ev_icmplt f242_14 (fun c34 => ?_) (fun c34 => absurd c34 (by omega))
  refine ev_iconst ?_
  refine ev_ret rfl (by decide) (by decide) ?_
  show jEv _ _ _ _ _ _ _ (_, [(2, 42), (0, 0)], [(0, 0)], _, _, _)
  refine ev_ret rfl (by decide) (by decide) ?_
  show jEv _ _ _ _ _ _ _ (_, [(2, 42), (0, 0), (0, 0), (0, 0), (0, 1), (0, (-1)), (9, 0)], [(0, 0)], _, _, _)
  refine ev_ifeq f272_64 (fun c35 => ?_) (fun c35 => absurd c35 (by omega))
  refine ev_iload rfl ?_
  refine ev_bipush ?_
  refine ev_isub (r := (-66)) (by decide) ?_
  refine ev_istore (L' := [(2, 42), (0, 0), (0, 0), (0, 0), (0, 1), (0, (-1)), (0, (-66))]) (Nat.le_of_ble_eq_true rfl) rfl ?_
  refine ev_iload rfl ?_
  refine ev_iconst ?_
  refine ev_aload_n rfl ?_
  refine ev_getf (r := 42) (v := 0) (hS71.lt (by decide)) (hS71.fam (by decide) (by decide)) ft12_19 (jw_eq e71) ?_
  refine ev_iconst ?_
  refine ev_isub (r := (-1)) (by decide) ?_
  refine ev_in (d := 4) (a := 0) (b := 0) (cd' := c242_0) (m := 3) (L0 := [(0, (-66)), (0, 0), (0, (-1))]) (jcall_s (A := [(0, (-1)), (0, 0), (0, (-66))]) (S' := []) (by decide) rfl (Nat.le_of_ble_eq_true rfl)) (by decide) ml242 pp242 (Nat.le_of_ble_eq_true rfl) rfl (by decide) (by decide) ?_
  refine ev_iload_n rfl ?_
  refine ev_iload_n rfl ?_
  refine ev_icmplt f242_14 (fun c36 => ?_) (fun c36 => absurd c36 (by omega))
  refine ev_iconst ?_
  refine ev_ret rfl (by decide) (by decide) ?_
  show jEv _ _ _ _ _ _ _ (_, [(2, 42), (0, 0), (0, 0), (0, 0), (0, 1), (0, (-1)), (0, (-66))], [(0, 0)], _, _, _)
  refine ev_ifne f272_92 (fun c37 => absurd c37 (by omega)) (fun c37 => ?_)
  refine ev_aload_n rfl ?_
  refine ev_iload_n rfl ?_
  refine ev_in (d := 4) (a := 0) (b := 0) (cd' := c266_0) (m := 2) (L0 := [(2, 42), (0, 0)]) (jcall_v (A := [(0, 0)]) (S' := []) (r := 42) rfl (hS71.lt (by decide)) (hS71.sh (by decide) rfl).1 (Nat.le_of_ble_eq_true rfl)) (by decide) ml266 pp266 (Nat.le_of_ble_eq_true rfl) rfl (by decide) (by decide) ?_
  refine ev_aload_n rfl ?_
  refine ev_iload_n rfl ?_
  refine ev_putfG (r := 42) (hS71.lt (by decide)) (hS71.fam (by decide) (by decide)) ft12_20 (fun e => absurd e nz12_20) (fun e => absurd e (by decide)) (fun h72 e72 => ?_)
  have hS72 := hS71.wr e72
  refine ev_iconst ?_
  refine ev_ret rfl (by decide) (by decide) ?_
  show jEv _ _ _ _ _ _ _ (_, [(2, 42), (0, 0), (0, 0), (0, 0), (0, 1), (0, (-1)), (0, (-66))], [(0, (-1))], _, _, _)
  refine ev_ret rfl (by decide) (by decide) ?_
  show jEv _ _ _ _ _ _ _ (_, [(2, 42), (0, 0), (9, 0)], [(0, (-1))], _, _, _)
  refine ev_istore_n (L' := [(2, 42), (0, (-1)), (9, 0)]) (Nat.le_of_ble_eq_true rfl) rfl ?_
  refine ev_iload_n rfl ?_
  refine ev_ifge f273_129 (fun c38 => absurd c38 (by omega)) (fun c38 => ?_)
  refine ev_iconst ?_
  refine ev_goto f273_146 ?_
  refine ev_ret rfl (by decide) (by decide) ?_
  show jEv _ _ _ _ _ _ _ (_, [(2, 42), (9, 0)], [(0, (-1))], _, _, _)
  refine ev_istore_n (L' := [(2, 42), (0, (-1))]) (Nat.le_of_ble_eq_true rfl) rfl ?_
  refine ev_aload_n rfl ?_
  refine ev_iconst ?_
  refine ev_putfG (r := 42) (hS72.lt (by decide)) (hS72.fam (by decide) (by decide)) ft12_17 (fun e => absurd e nz12_17) (fun e => absurd e (by decide)) (fun h73 e73 => ?_)
  have hS73 := hS72.wr e73
  refine ev_iload_n rfl ?_
  refine ev_ifge f274_44 (fun c39 => absurd c39 (by omega)) (fun c39 => ?_)
  refine ev_bipush ?_
  refine ev_aload_n rfl ?_
  refine ev_getf (r := 42) (v := 0) (hS73.lt (by decide)) (hS73.fam (by decide) (by decide)) ft12_20 ((jw_ne e73 (Or.inr (by decide))).trans (jw_eq e72)) ?_
  refine ev_isub (r := (-100)) (by decide) ?_
  refine ev_ret rfl (by decide) (by decide) ?_
  show jEv _ _ _ _ _ _ _ (_, [(2, (-2)), (2, 0), (2, 42), (0, 0)], [(0, (-100)), (0, (-100))], _, _, _)
  refine ev_icmpeq f384_2190 (fun c40 => ?_) (fun c40 => absurd c40 (by omega))
  exact law_tail _
