/-! thing -/
set_option maxHeartbeats 4000000 in
theorem case_0 {xs : Nat → Int} (hr : ∀ j, -2147483648 ≤ xs j ∧ xs j < 2147483648) {h : JH} (hF : Fresh h) : jEv (jOk 8) (some 6) xs c384_0 600000 7302250 (fun v _ => v = some (0, 1)) (c384_260, [(2, -2), (2, 0), (2, 42), (0, 0)], [], h, 83, 23761) := by
  have r1 := hr 1
  have r2 := hr 2
  have r3 := hr 3
  have r4 := hr 4
  have r5 := hr 5
  refine ev_aload_n rfl ?_
  refine ev_aload_n rfl ?_
  refine ev_iload_n rfl ?_
  refine ev_iconst ?_
  refine ev_iadd (r := 1) (by decide) ?_
  refine ev_sald (j := 1) (v := (xs 1)) rfl rfl rfl ?_
  refine ev_in (d := 7) (a := 0) (b := 0) (cd' := c166_0) (m := 2) (L0 := [(2, 0), (0, (xs 1))]) (jcall_v (A := [(0, (xs 1))]) (S' := []) (r := 0) rfl (hF.1.lt (by decide)) (hF.1.sh (by decide) rfl).1 (Nat.le_of_ble_eq_true rfl)) (by decide) ml166 pp166 (Nat.le_of_ble_eq_true rfl) rfl (by decide) (by decide) ?_
  refine ev_iload_n rfl ?_
  refine ev_iconst ?_
  refine ev_icmplt f166_10 (fun c1 => ?_) (fun c1 => ?_)
  · refine ev_iconst ?_
    refine ev_ret rfl (by decide) (by decide) ?_
    show jEv _ _ _ _ _ _ _ (_, [(2, (-2)), (2, 0), (2, 42), (0, 0)], [(0, (-1))], _, _, _)
    refine ev_aload_n rfl ?_
    refine ev_aload_n rfl ?_
    refine ev_iload_n rfl ?_
    refine ev_iconst ?_
    refine ev_iadd (r := 1) (by decide) ?_
    refine ev_sald (j := 1) (v := (xs 1)) rfl rfl rfl ?_
    refine ev_in (d := 7) (a := 0) (b := 0) (cd' := c247_0) (m := 3) (L0 := [(2, 42), (0, (xs 1)), (9, 0)]) (jcall_v (A := [(0, (xs 1))]) (S' := [(0, (-1))]) (r := 42) rfl (hF.1.lt (by decide)) (hF.1.sh (by decide) rfl).1 (Nat.le_of_ble_eq_true rfl)) (by decide) ml247 pp247 (Nat.le_of_ble_eq_true rfl) rfl (by decide) (by decide) ?_
    refine ev_iload_n rfl ?_
    refine ev_iconst ?_
    refine ev_iconst ?_
    refine ev_in (d := 6) (a := 0) (b := 0) (cd' := c242_0) (m := 3) (L0 := [(0, (xs 1)), (0, 2), (0, 3)]) (jcall_s (A := [(0, 3), (0, 2), (0, (xs 1))]) (S' := []) (by decide) rfl (Nat.le_of_ble_eq_true rfl)) (by decide) ml242 pp242 (Nat.le_of_ble_eq_true rfl) rfl (by decide) (by decide) ?_
    refine ev_iload_n rfl ?_
    refine ev_iload_n rfl ?_
    refine ev_icmplt f242_14 (fun c2 => ?_) (fun c2 => absurd c2 (by omega))
    refine ev_iconst ?_
    refine ev_ret rfl (by decide) (by decide) ?_
    show jEv _ _ _ _ _ _ _ (_, [(2, 42), (0, (xs 1)), (9, 0)], [(0, 0)], _, _, _)
    refine ev_ifne f247_11 (fun c3 => absurd c3 (by omega)) (fun c3 => ?_)
    refine ev_iconst ?_
    refine ev_ret rfl (by decide) (by decide) ?_
    show jEv _ _ _ _ _ _ _ (_, [(2, (-2)), (2, 0), (2, 42), (0, 0)], [(0, (-1)), (0, (-1))], _, _, _)
    refine ev_icmpeq f384_2190 (fun c4 => ?_) (fun c4 => absurd c4 (by omega))
    exact law_tail _
  · refine ev_iload_n rfl ?_
    refine ev_iconst ?_
    refine ev_icmple f166_12 (fun c5 => ?_) (fun c5 => ?_)
    · refine ev_aload_n rfl ?_
      refine ev_getf (r := 0) (v := 0) (hF.1.lt (by decide)) (hF.1.fam (by decide) (by decide)) ft11_3 ((hF.v rfl)) ?_
      refine ev_ifle f166_22 (fun c6 => ?_) (fun c6 => absurd c6 (by omega))
      refine ev_aload_n rfl ?_
      refine ev_getf (r := 0) (v := 1) (hF.1.lt (by decide)) (hF.1.fam (by decide) (by decide)) ft11_0 ((hF.v rfl)) ?_
      refine ev_getf (r := 1) (v := 0) (hF.1.lt (by decide)) (hF.1.fam (by decide) (by decide)) ft10_0 ((hF.v rfl)) ?_
      refine ev_iconst ?_
      refine ev_icmplt f166_38 (fun c7 => ?_) (fun c7 => absurd c7 (by omega))
      refine ev_aload_n rfl ?_
      refine ev_getf (r := 0) (v := 1) (hF.1.lt (by decide)) (hF.1.fam (by decide) (by decide)) ft11_0 ((hF.v rfl)) ?_
      refine ev_iload_n rfl ?_
      refine ev_in (d := 6) (a := 0) (b := 0) (cd' := c139_0) (m := 2) (L0 := [(2, 1), (0, (xs 1))]) (jcall_v (A := [(0, (xs 1))]) (S' := []) (r := 1) rfl (hF.1.lt (by decide)) (hF.1.sh (by decide) rfl).1 (Nat.le_of_ble_eq_true rfl)) (by decide) ml139 pp139 (Nat.le_of_ble_eq_true rfl) rfl (by decide) (by decide) ?_
      refine ev_aload_n rfl ?_
      refine ev_getf (r := 1) (v := 0) (hF.1.lt (by decide)) (hF.1.fam (by decide) (by decide)) ft10_0 ((hF.v rfl)) ?_
      refine ev_iconst ?_
      refine ev_icmplt f139_11 (fun c8 => ?_) (fun c8 => absurd c8 (by omega))
      refine ev_aload_n rfl ?_
      refine ev_getf (r := 1) (v := 2) (hF.1.lt (by decide)) (hF.1.fam (by decide) (by decide)) ft10_3 ((hF.v rfl)) ?_
      refine ev_aload_n rfl ?_
      refine ev_getf (r := 1) (v := 0) (hF.1.lt (by decide)) (hF.1.fam (by decide) (by decide)) ft10_0 ((hF.v rfl)) ?_
      refine ev_iload_n rfl ?_
      refine ev_iastG (r := 2) (j := 0) (hF.1.lt (by decide)) (hF.1.sh (by decide) rfl).1 rfl (hF.1.inb (by decide) (by decide)) (fun h1 e1 => ?_)
      have hS1 := hF.1.wr e1
      refine ev_aload_n rfl ?_
      refine ev_getf (r := 1) (v := 3) (hS1.lt (by decide)) (hS1.fam (by decide) (by decide)) ft10_4 ((jw_ne e1 (Or.inl (by decide))).trans ((hF.v rfl))) ?_
      refine ev_aload_n rfl ?_
      refine ev_getf (r := 1) (v := 0) (hS1.lt (by decide)) (hS1.fam (by decide) (by decide)) ft10_0 ((jw_ne e1 (Or.inl (by decide))).trans ((hF.v rfl))) ?_
      refine ev_iconst ?_
      refine ev_iastG (r := 3) (j := 0) (hS1.lt (by decide)) (hS1.sh (by decide) rfl).1 rfl (hS1.inb (by decide) (by decide)) (fun h2 e2 => ?_)
      have hS2 := hS1.wr e2
      refine ev_aload_n rfl ?_
      refine ev_aload_n rfl ?_
      refine ev_getf (r := 1) (v := 0) (hS2.lt (by decide)) (hS2.fam (by decide) (by decide)) ft10_0 ((jw_ne e2 (Or.inl (by decide))).trans ((jw_ne e1 (Or.inl (by decide))).trans ((hF.v rfl)))) ?_
      refine ev_in (d := 5) (a := 0) (b := 0) (cd' := c144_0) (m := 3) (L0 := [(2, 1), (0, 0), (9, 0)]) (jcall_v (A := [(0, 0)]) (S' := []) (r := 1) rfl (hS2.lt (by decide)) (hS2.sh (by decide) rfl).1 (Nat.le_of_ble_eq_true rfl)) (by decide) ml144 pp144 (Nat.le_of_ble_eq_true rfl) rfl (by decide) (by decide) ?_
      refine ev_iload_n rfl ?_
      refine ev_iconst ?_
      refine ev_iconst ?_
      refine ev_in (d := 4) (a := 0) (b := 0) (cd' := c147_0) (m := 3) (L0 := [(0, 0), (0, 0), (0, 0)]) (jcall_s (A := [(0, 0), (0, 0), (0, 0)]) (S' := []) (by decide) rfl (Nat.le_of_ble_eq_true rfl)) (by decide) ml147 pp147 (Nat.le_of_ble_eq_true rfl) rfl (by decide) (by decide) ?_
      refine ev_bipush ?_
      refine ev_iload_n rfl ?_
      refine ev_imul (r := 0) (by decide) ?_
      refine ev_iconst ?_
      refine ev_iload_n rfl ?_
      refine ev_imul (r := 0) (by decide) ?_
      refine ev_iadd (r := 0) (by decide) ?_
      refine ev_iload_n rfl ?_
      refine ev_iadd (r := 0) (by decide) ?_
      refine ev_ret rfl (by decide) (by decide) ?_
      show jEv _ _ _ _ _ _ _ (_, [(2, 1), (0, 0), (9, 0)], [(0, 0)], _, _, _)
      refine ev_istore_n (L' := [(2, 1), (0, 0), (0, 0)]) (Nat.le_of_ble_eq_true rfl) rfl ?_
      refine ev_iload_n rfl ?_
      refine ev_iload_n rfl ?_
      refine ev_iconst ?_
      refine ev_iadd (r := 1) (by decide) ?_
      refine ev_iconst ?_
      refine ev_iconst ?_
      refine ev_in (d := 4) (a := 0) (b := 0) (cd' := c147_0) (m := 3) (L0 := [(0, 1), (0, 0), (0, 0)]) (jcall_s (A := [(0, 0), (0, 0), (0, 1)]) (S' := [(0, 0)]) (by decide) rfl (Nat.le_of_ble_eq_true rfl)) (by decide) ml147 pp147 (Nat.le_of_ble_eq_true rfl) rfl (by decide) (by decide) ?_
      refine ev_bipush ?_
      refine ev_iload_n rfl ?_
      refine ev_imul (r := 9) (by decide) ?_
      refine ev_iconst ?_
      refine ev_iload_n rfl ?_
      refine ev_imul (r := 0) (by decide) ?_
      refine ev_iadd (r := 9) (by decide) ?_
      refine ev_iload_n rfl ?_
      refine ev_iadd (r := 9) (by decide) ?_
      refine ev_ret rfl (by decide) (by decide) ?_
      show jEv _ _ _ _ _ _ _ (_, [(2, 1), (0, 0), (0, 0)], [(0, 9), (0, 0)], _, _, _)
      refine ev_icmpge f144_38 (fun c9 => absurd c9 (by omega)) (fun c9 => ?_)
      refine ev_iload_n rfl ?_
      refine ev_bipush ?_
      refine ev_icmpge f144_38 (fun c10 => absurd c10 (by omega)) (fun c10 => ?_)
      refine ev_aload_n rfl ?_
      refine ev_getf (r := 1) (v := 4) (hS2.lt (by decide)) (hS2.fam (by decide) (by decide)) ft10_5 ((jw_ne e2 (Or.inl (by decide))).trans ((jw_ne e1 (Or.inl (by decide))).trans ((hF.v rfl)))) ?_
      refine ev_iload_n rfl ?_
      refine ev_iconst ?_
      refine ev_iastG (r := 4) (j := 0) (hS2.lt (by decide)) (hS2.sh (by decide) rfl).1 rfl (hS2.inb (by decide) (by decide)) (fun h3 e3 => ?_)
      have hS3 := hS2.wr e3
      refine ev_iinc (w := 1) (L' := [(2, 1), (0, 0), (0, 1)]) rfl (by decide) rfl ?_
      refine ev_goto f144_7 ?_
      refine ev_iload_n rfl ?_
      refine ev_iload_n rfl ?_
      refine ev_iconst ?_
      refine ev_iadd (r := 1) (by decide) ?_
      refine ev_iconst ?_
      refine ev_iconst ?_
      refine ev_in (d := 4) (a := 0) (b := 0) (cd' := c147_0) (m := 3) (L0 := [(0, 1), (0, 0), (0, 0)]) (jcall_s (A := [(0, 0), (0, 0), (0, 1)]) (S' := [(0, 1)]) (by decide) rfl (Nat.le_of_ble_eq_true rfl)) (by decide) ml147 pp147 (Nat.le_of_ble_eq_true rfl) rfl (by decide) (by decide) ?_
      refine ev_bipush ?_
      refine ev_iload_n rfl ?_
      refine ev_imul (r := 9) (by decide) ?_
      refine ev_iconst ?_
      refine ev_iload_n rfl ?_
      refine ev_imul (r := 0) (by decide) ?_
      refine ev_iadd (r := 9) (by decide) ?_
      refine ev_iload_n rfl ?_
      refine ev_iadd (r := 9) (by decide) ?_
      refine ev_ret rfl (by decide) (by decide) ?_
      show jEv _ _ _ _ _ _ _ (_, [(2, 1), (0, 0), (0, 1)], [(0, 9), (0, 1)], _, _, _)
      refine ev_icmpge f144_38 (fun c11 => absurd c11 (by omega)) (fun c11 => ?_)
      refine ev_iload_n rfl ?_
      refine ev_bipush ?_
      refine ev_icmpge f144_38 (fun c12 => absurd c12 (by omega)) (fun c12 => ?_)
      refine ev_aload_n rfl ?_
      refine ev_getf (r := 1) (v := 4) (hS3.lt (by decide)) (hS3.fam (by decide) (by decide)) ft10_5 ((jw_ne e3 (Or.inl (by decide))).trans ((jw_ne e2 (Or.inl (by decide))).trans ((jw_ne e1 (Or.inl (by decide))).trans ((hF.v rfl))))) ?_
      refine ev_iload_n rfl ?_
      refine ev_iconst ?_
      refine ev_iastG (r := 4) (j := 1) (hS3.lt (by decide)) (hS3.sh (by decide) rfl).1 rfl (hS3.inb (by decide) (by decide)) (fun h4 e4 => ?_)
      have hS4 := hS3.wr e4
      refine ev_iinc (w := 2) (L' := [(2, 1), (0, 0), (0, 2)]) rfl (by decide) rfl ?_
      refine ev_goto f144_7 ?_
      refine ev_iload_n rfl ?_
      refine ev_iload_n rfl ?_
      refine ev_iconst ?_
      refine ev_iadd (r := 1) (by decide) ?_
      refine ev_iconst ?_
      refine ev_iconst ?_
      refine ev_in (d := 4) (a := 0) (b := 0) (cd' := c147_0) (m := 3) (L0 := [(0, 1), (0, 0), (0, 0)]) (jcall_s (A := [(0, 0), (0, 0), (0, 1)]) (S' := [(0, 2)]) (by decide) rfl (Nat.le_of_ble_eq_true rfl)) (by decide) ml147 pp147 (Nat.le_of_ble_eq_true rfl) rfl (by decide) (by decide) ?_
      refine ev_bipush ?_
      refine ev_iload_n rfl ?_
      refine ev_imul (r := 9) (by decide) ?_
      refine ev_iconst ?_
      refine ev_iload_n rfl ?_
      refine ev_imul (r := 0) (by decide) ?_
      refine ev_iadd (r := 9) (by decide) ?_
      refine ev_iload_n rfl ?_
      refine ev_iadd (r := 9) (by decide) ?_
      refine ev_ret rfl (by decide) (by decide) ?_
      show jEv _ _ _ _ _ _ _ (_, [(2, 1), (0, 0), (0, 2)], [(0, 9), (0, 2)], _, _, _)
      refine ev_icmpge f144_38 (fun c13 => absurd c13 (by omega)) (fun c13 => ?_)
      refine ev_iload_n rfl ?_
      refine ev_bipush ?_
      refine ev_icmpge f144_38 (fun c14 => absurd c14 (by omega)) (fun c14 => ?_)
      refine ev_aload_n rfl ?_
      refine ev_getf (r := 1) (v := 4) (hS4.lt (by decide)) (hS4.fam (by decide) (by decide)) ft10_5 ((jw_ne e4 (Or.inl (by decide))).trans ((jw_ne e3 (Or.inl (by decide))).trans ((jw_ne e2 (Or.inl (by decide))).trans ((jw_ne e1 (Or.inl (by decide))).trans ((hF.v rfl)))))) ?_
      refine ev_iload_n rfl ?_
      refine ev_iconst ?_
      refine ev_iastG (r := 4) (j := 2) (hS4.lt (by decide)) (hS4.sh (by decide) rfl).1 rfl (hS4.inb (by decide) (by decide)) (fun h5 e5 => ?_)
      have hS5 := hS4.wr e5
      refine ev_iinc (w := 3) (L' := [(2, 1), (0, 0), (0, 3)]) rfl (by decide) rfl ?_
      refine ev_goto f144_7 ?_
      refine ev_iload_n rfl ?_
      refine ev_iload_n rfl ?_
      refine ev_iconst ?_
      refine ev_iadd (r := 1) (by decide) ?_
      refine ev_iconst ?_
      refine ev_iconst ?_
      refine ev_in (d := 4) (a := 0) (b := 0) (cd' := c147_0) (m := 3) (L0 := [(0, 1), (0, 0), (0, 0)]) (jcall_s (A := [(0, 0), (0, 0), (0, 1)]) (S' := [(0, 3)]) (by decide) rfl (Nat.le_of_ble_eq_true rfl)) (by decide) ml147 pp147 (Nat.le_of_ble_eq_true rfl) rfl (by decide) (by decide) ?_
      refine ev_bipush ?_
      refine ev_iload_n rfl ?_
      refine ev_imul (r := 9) (by decide) ?_
      refine ev_iconst ?_
      refine ev_iload_n rfl ?_
      refine ev_imul (r := 0) (by decide) ?_
      refine ev_iadd (r := 9) (by decide) ?_
      refine ev_iload_n rfl ?_
      refine ev_iadd (r := 9) (by decide) ?_
      refine ev_ret rfl (by decide) (by decide) ?_
      show jEv _ _ _ _ _ _ _ (_, [(2, 1), (0, 0), (0, 3)], [(0, 9), (0, 3)], _, _, _)
      refine ev_icmpge f144_38 (fun c15 => absurd c15 (by omega)) (fun c15 => ?_)
      refine ev_iload_n rfl ?_
      refine ev_bipush ?_
      refine ev_icmpge f144_38 (fun c16 => absurd c16 (by omega)) (fun c16 => ?_)
      refine ev_aload_n rfl ?_
      refine ev_getf (r := 1) (v := 4) (hS5.lt (by decide)) (hS5.fam (by decide) (by decide)) ft10_5 ((jw_ne e5 (Or.inl (by decide))).trans ((jw_ne e4 (Or.inl (by decide))).trans ((jw_ne e3 (Or.inl (by decide))).trans ((jw_ne e2 (Or.inl (by decide))).trans ((jw_ne e1 (Or.inl (by decide))).trans ((hF.v rfl))))))) ?_
      refine ev_iload_n rfl ?_
      refine ev_iconst ?_
      refine ev_iastG (r := 4) (j := 3) (hS5.lt (by decide)) (hS5.sh (by decide) rfl).1 rfl (hS5.inb (by decide) (by decide)) (fun h6 e6 => ?_)
      have hS6 := hS5.wr e6
      refine ev_iinc (w := 4) (L' := [(2, 1), (0, 0), (0, 4)]) rfl (by decide) rfl ?_
      refine ev_goto f144_7 ?_
      refine ev_iload_n rfl ?_
      refine ev_iload_n rfl ?_
      refine ev_iconst ?_
      refine ev_iadd (r := 1) (by decide) ?_
      refine ev_iconst ?_
      refine ev_iconst ?_
      refine ev_in (d := 4) (a := 0) (b := 0) (cd' := c147_0) (m := 3) (L0 := [(0, 1), (0, 0), (0, 0)]) (jcall_s (A := [(0, 0), (0, 0), (0, 1)]) (S' := [(0, 4)]) (by decide) rfl (Nat.le_of_ble_eq_true rfl)) (by decide) ml147 pp147 (Nat.le_of_ble_eq_true rfl) rfl (by decide) (by decide) ?_
      refine ev_bipush ?_
      refine ev_iload_n rfl ?_
      refine ev_imul (r := 9) (by decide) ?_
      refine ev_iconst ?_
      refine ev_iload_n rfl ?_
      refine ev_imul (r := 0) (by decide) ?_
      refine ev_iadd (r := 9) (by decide) ?_
      refine ev_iload_n rfl ?_
      refine ev_iadd (r := 9) (by decide) ?_
      refine ev_ret rfl (by decide) (by decide) ?_
      show jEv _ _ _ _ _ _ _ (_, [(2, 1), (0, 0), (0, 4)], [(0, 9), (0, 4)], _, _, _)
      refine ev_icmpge f144_38 (fun c17 => absurd c17 (by omega)) (fun c17 => ?_)
      refine ev_iload_n rfl ?_
      refine ev_bipush ?_
      refine ev_icmpge f144_38 (fun c18 => absurd c18 (by omega)) (fun c18 => ?_)
      refine ev_aload_n rfl ?_
      refine ev_getf (r := 1) (v := 4) (hS6.lt (by decide)) (hS6.fam (by decide) (by decide)) ft10_5 ((jw_ne e6 (Or.inl (by decide))).trans ((jw_ne e5 (Or.inl (by decide))).trans ((jw_ne e4 (Or.inl (by decide))).trans ((jw_ne e3 (Or.inl (by decide))).trans ((jw_ne e2 (Or.inl (by decide))).trans ((jw_ne e1 (Or.inl (by decide))).trans ((hF.v rfl)))))))) ?_
      refine ev_iload_n rfl ?_
      refine ev_iconst ?_
      refine ev_iastG (r := 4) (j := 4) (hS6.lt (by decide)) (hS6.sh (by decide) rfl).1 rfl (hS6.inb (by decide) (by decide)) (fun h7 e7 => ?_)
      have hS7 := hS6.wr e7
      refine ev_iinc (w := 5) (L' := [(2, 1), (0, 0), (0, 5)]) rfl (by decide) rfl ?_
      refine ev_goto f144_7 ?_
      refine ev_iload_n rfl ?_
      refine ev_iload_n rfl ?_
      refine ev_iconst ?_
      refine ev_iadd (r := 1) (by decide) ?_
      refine ev_iconst ?_
      refine ev_iconst ?_
      refine ev_in (d := 4) (a := 0) (b := 0) (cd' := c147_0) (m := 3) (L0 := [(0, 1), (0, 0), (0, 0)]) (jcall_s (A := [(0, 0), (0, 0), (0, 1)]) (S' := [(0, 5)]) (by decide) rfl (Nat.le_of_ble_eq_true rfl)) (by decide) ml147 pp147 (Nat.le_of_ble_eq_true rfl) rfl (by decide) (by decide) ?_
      refine ev_bipush ?_
      refine ev_iload_n rfl ?_
      refine ev_imul (r := 9) (by decide) ?_
      refine ev_iconst ?_
      refine ev_iload_n rfl ?_
      refine ev_imul (r := 0) (by decide) ?_
      refine ev_iadd (r := 9) (by decide) ?_
      refine ev_iload_n rfl ?_
      refine ev_iadd (r := 9) (by decide) ?_
      refine ev_ret rfl (by decide) (by decide) ?_
      show jEv _ _ _ _ _ _ _ (_, [(2, 1), (0, 0), (0, 5)], [(0, 9), (0, 5)], _, _, _)
      refine ev_icmpge f144_38 (fun c19 => absurd c19 (by omega)) (fun c19 => ?_)
      refine ev_iload_n rfl ?_
      refine ev_bipush ?_
      refine ev_icmpge f144_38 (fun c20 => absurd c20 (by omega)) (fun c20 => ?_)
      refine ev_aload_n rfl ?_
      refine ev_getf (r := 1) (v := 4) (hS7.lt (by decide)) (hS7.fam (by decide) (by decide)) ft10_5 ((jw_ne e7 (Or.inl (by decide))).trans ((jw_ne e6 (Or.inl (by decide))).trans ((jw_ne e5 (Or.inl (by decide))).trans ((jw_ne e4 (Or.inl (by decide))).trans ((jw_ne e3 (Or.inl (by decide))).trans ((jw_ne e2 (Or.inl (by decide))).trans ((jw_ne e1 (Or.inl (by decide))).trans ((hF.v rfl))))))))) ?_
      refine ev_iload_n rfl ?_
      refine ev_iconst ?_
      refine ev_iastG (r := 4) (j := 5) (hS7.lt (by decide)) (hS7.sh (by decide) rfl).1 rfl (hS7.inb (by decide) (by decide)) (fun h8 e8 => ?_)
      have hS8 := hS7.wr e8
      refine ev_iinc (w := 6) (L' := [(2, 1), (0, 0), (0, 6)]) rfl (by decide) rfl ?_
      refine ev_goto f144_7 ?_
      refine ev_iload_n rfl ?_
      refine ev_iload_n rfl ?_
      refine ev_iconst ?_
      refine ev_iadd (r := 1) (by decide) ?_
      refine ev_iconst ?_
      refine ev_iconst ?_
      refine ev_in (d := 4) (a := 0) (b := 0) (cd' := c147_0) (m := 3) (L0 := [(0, 1), (0, 0), (0, 0)]) (jcall_s (A := [(0, 0), (0, 0), (0, 1)]) (S' := [(0, 6)]) (by decide) rfl (Nat.le_of_ble_eq_true rfl)) (by decide) ml147 pp147 (Nat.le_of_ble_eq_true rfl) rfl (by decide) (by decide) ?_
      refine ev_bipush ?_
      refine ev_iload_n rfl ?_
      refine ev_imul (r := 9) (by decide) ?_
      refine ev_iconst ?_
      refine ev_iload_n rfl ?_
      refine ev_imul (r := 0) (by decide) ?_
      refine ev_iadd (r := 9) (by decide) ?_
      refine ev_iload_n rfl ?_
      refine ev_iadd (r := 9) (by decide) ?_
      refine ev_ret rfl (by decide) (by decide) ?_
      show jEv _ _ _ _ _ _ _ (_, [(2, 1), (0, 0), (0, 6)], [(0, 9), (0, 6)], _, _, _)
      refine ev_icmpge f144_38 (fun c21 => absurd c21 (by omega)) (fun c21 => ?_)
      refine ev_iload_n rfl ?_
      refine ev_bipush ?_
      refine ev_icmpge f144_38 (fun c22 => absurd c22 (by omega)) (fun c22 => ?_)
      refine ev_aload_n rfl ?_
      refine ev_getf (r := 1) (v := 4) (hS8.lt (by decide)) (hS8.fam (by decide) (by decide)) ft10_5 ((jw_ne e8 (Or.inl (by decide))).trans ((jw_ne e7 (Or.inl (by decide))).trans ((jw_ne e6 (Or.inl (by decide))).trans ((jw_ne e5 (Or.inl (by decide))).trans ((jw_ne e4 (Or.inl (by decide))).trans ((jw_ne e3 (Or.inl (by decide))).trans ((jw_ne e2 (Or.inl (by decide))).trans ((jw_ne e1 (Or.inl (by decide))).trans ((hF.v rfl)))))))))) ?_
      refine ev_iload_n rfl ?_
      refine ev_iconst ?_
      refine ev_iastG (r := 4) (j := 6) (hS8.lt (by decide)) (hS8.sh (by decide) rfl).1 rfl (hS8.inb (by decide) (by decide)) (fun h9 e9 => ?_)
      have hS9 := hS8.wr e9
      refine ev_iinc (w := 7) (L' := [(2, 1), (0, 0), (0, 7)]) rfl (by decide) rfl ?_
      refine ev_goto f144_7 ?_
      refine ev_iload_n rfl ?_
      refine ev_iload_n rfl ?_
      refine ev_iconst ?_
      refine ev_iadd (r := 1) (by decide) ?_
      refine ev_iconst ?_
      refine ev_iconst ?_
      refine ev_in (d := 4) (a := 0) (b := 0) (cd' := c147_0) (m := 3) (L0 := [(0, 1), (0, 0), (0, 0)]) (jcall_s (A := [(0, 0), (0, 0), (0, 1)]) (S' := [(0, 7)]) (by decide) rfl (Nat.le_of_ble_eq_true rfl)) (by decide) ml147 pp147 (Nat.le_of_ble_eq_true rfl) rfl (by decide) (by decide) ?_
      refine ev_bipush ?_
      refine ev_iload_n rfl ?_
      refine ev_imul (r := 9) (by decide) ?_
      refine ev_iconst ?_
      refine ev_iload_n rfl ?_
      refine ev_imul (r := 0) (by decide) ?_
      refine ev_iadd (r := 9) (by decide) ?_
      refine ev_iload_n rfl ?_
      refine ev_iadd (r := 9) (by decide) ?_
      refine ev_ret rfl (by decide) (by decide) ?_
      show jEv _ _ _ _ _ _ _ (_, [(2, 1), (0, 0), (0, 7)], [(0, 9), (0, 7)], _, _, _)
      refine ev_icmpge f144_38 (fun c23 => absurd c23 (by omega)) (fun c23 => ?_)
      refine ev_iload_n rfl ?_
      refine ev_bipush ?_
      refine ev_icmpge f144_38 (fun c24 => absurd c24 (by omega)) (fun c24 => ?_)
      refine ev_aload_n rfl ?_
      refine ev_getf (r := 1) (v := 4) (hS9.lt (by decide)) (hS9.fam (by decide) (by decide)) ft10_5 ((jw_ne e9 (Or.inl (by decide))).trans ((jw_ne e8 (Or.inl (by decide))).trans ((jw_ne e7 (Or.inl (by decide))).trans ((jw_ne e6 (Or.inl (by decide))).trans ((jw_ne e5 (Or.inl (by decide))).trans ((jw_ne e4 (Or.inl (by decide))).trans ((jw_ne e3 (Or.inl (by decide))).trans ((jw_ne e2 (Or.inl (by decide))).trans ((jw_ne e1 (Or.inl (by decide))).trans ((hF.v rfl))))))))))) ?_
      refine ev_iload_n rfl ?_
      refine ev_iconst ?_
      refine ev_iastG (r := 4) (j := 7) (hS9.lt (by decide)) (hS9.sh (by decide) rfl).1 rfl (hS9.inb (by decide) (by decide)) (fun h10 e10 => ?_)
      have hS10 := hS9.wr e10
      refine ev_iinc (w := 8) (L' := [(2, 1), (0, 0), (0, 8)]) rfl (by decide) rfl ?_
      refine ev_goto f144_7 ?_
      refine ev_iload_n rfl ?_
      refine ev_iload_n rfl ?_
      refine ev_iconst ?_
      refine ev_iadd (r := 1) (by decide) ?_
      refine ev_iconst ?_
      refine ev_iconst ?_
      refine ev_in (d := 4) (a := 0) (b := 0) (cd' := c147_0) (m := 3) (L0 := [(0, 1), (0, 0), (0, 0)]) (jcall_s (A := [(0, 0), (0, 0), (0, 1)]) (S' := [(0, 8)]) (by decide) rfl (Nat.le_of_ble_eq_true rfl)) (by decide) ml147 pp147 (Nat.le_of_ble_eq_true rfl) rfl (by decide) (by decide) ?_
      refine ev_bipush ?_
      refine ev_iload_n rfl ?_
      refine ev_imul (r := 9) (by decide) ?_
      refine ev_iconst ?_
      refine ev_iload_n rfl ?_
      refine ev_imul (r := 0) (by decide) ?_
      refine ev_iadd (r := 9) (by decide) ?_
      refine ev_iload_n rfl ?_
      refine ev_iadd (r := 9) (by decide) ?_
      refine ev_ret rfl (by decide) (by decide) ?_
      show jEv _ _ _ _ _ _ _ (_, [(2, 1), (0, 0), (0, 8)], [(0, 9), (0, 8)], _, _, _)
      refine ev_icmpge f144_38 (fun c25 => absurd c25 (by omega)) (fun c25 => ?_)
      refine ev_iload_n rfl ?_
      refine ev_bipush ?_
      refine ev_icmpge f144_38 (fun c26 => absurd c26 (by omega)) (fun c26 => ?_)
      refine ev_aload_n rfl ?_
      refine ev_getf (r := 1) (v := 4) (hS10.lt (by decide)) (hS10.fam (by decide) (by decide)) ft10_5 ((jw_ne e10 (Or.inl (by decide))).trans ((jw_ne e9 (Or.inl (by decide))).trans ((jw_ne e8 (Or.inl (by decide))).trans ((jw_ne e7 (Or.inl (by decide))).trans ((jw_ne e6 (Or.inl (by decide))).trans ((jw_ne e5 (Or.inl (by decide))).trans ((jw_ne e4 (Or.inl (by decide))).trans ((jw_ne e3 (Or.inl (by decide))).trans ((jw_ne e2 (Or.inl (by decide))).trans ((jw_ne e1 (Or.inl (by decide))).trans ((hF.v rfl)))))))))))) ?_
      refine ev_iload_n rfl ?_
      refine ev_iconst ?_
      refine ev_iastG (r := 4) (j := 8) (hS10.lt (by decide)) (hS10.sh (by decide) rfl).1 rfl (hS10.inb (by decide) (by decide)) (fun h11 e11 => ?_)
      have hS11 := hS10.wr e11
      refine ev_iinc (w := 9) (L' := [(2, 1), (0, 0), (0, 9)]) rfl (by decide) rfl ?_
      refine ev_goto f144_7 ?_
      refine ev_iload_n rfl ?_
      refine ev_iload_n rfl ?_
      refine ev_iconst ?_
      refine ev_iadd (r := 1) (by decide) ?_
      refine ev_iconst ?_
      refine ev_iconst ?_
      refine ev_in (d := 4) (a := 0) (b := 0) (cd' := c147_0) (m := 3) (L0 := [(0, 1), (0, 0), (0, 0)]) (jcall_s (A := [(0, 0), (0, 0), (0, 1)]) (S' := [(0, 9)]) (by decide) rfl (Nat.le_of_ble_eq_true rfl)) (by decide) ml147 pp147 (Nat.le_of_ble_eq_true rfl) rfl (by decide) (by decide) ?_
      refine ev_bipush ?_
      refine ev_iload_n rfl ?_
      refine ev_imul (r := 9) (by decide) ?_
      refine ev_iconst ?_
      refine ev_iload_n rfl ?_
      refine ev_imul (r := 0) (by decide) ?_
      refine ev_iadd (r := 9) (by decide) ?_
      refine ev_iload_n rfl ?_
      refine ev_iadd (r := 9) (by decide) ?_
      refine ev_ret rfl (by decide) (by decide) ?_
      show jEv _ _ _ _ _ _ _ (_, [(2, 1), (0, 0), (0, 9)], [(0, 9), (0, 9)], _, _, _)
      refine ev_icmpge f144_38 (fun c27 => ?_) (fun c27 => absurd c27 (by omega))
      refine ev_ret rfl (by decide) (by decide) ?_
      show jEv _ _ _ _ _ _ _ (_, [(2, 1), (0, (xs 1))], [], _, _, _)
      refine ev_aload_n rfl ?_
      refine ev_dup (by decide) ?_
      refine ev_getf (r := 1) (v := 0) (hS11.lt (by decide)) (hS11.fam (by decide) (by decide)) ft10_0 ((jw_ne e11 (Or.inl (by decide))).trans ((jw_ne e10 (Or.inl (by decide))).trans ((jw_ne e9 (Or.inl (by decide))).trans ((jw_ne e8 (Or.inl (by decide))).trans ((jw_ne e7 (Or.inl (by decide))).trans ((jw_ne e6 (Or.inl (by decide))).trans ((jw_ne e5 (Or.inl (by decide))).trans ((jw_ne e4 (Or.inl (by decide))).trans ((jw_ne e3 (Or.inl (by decide))).trans ((jw_ne e2 (Or.inl (by decide))).trans ((jw_ne e1 (Or.inl (by decide))).trans ((hF.v rfl))))))))))))) ?_
      refine ev_iconst ?_
      refine ev_iadd (r := 1) (by decide) ?_
      refine ev_putfG (r := 1) (hS11.lt (by decide)) (hS11.fam (by decide) (by decide)) ft10_0 (fun e => absurd e nz10_0) (fun e => absurd e (by decide)) (fun h12 e12 => ?_)
      have hS12 := hS11.wr e12
      refine ev_aload_n rfl ?_
      refine ev_iconst ?_
      refine ev_putfG (r := 1) (hS12.lt (by decide)) (hS12.fam (by decide) (by decide)) ft10_2 (fun _ => by decide) (fun e => absurd e (by decide)) (fun h13 e13 => ?_)
      have hS13 := hS12.wr e13
      refine ev_aload_n rfl ?_
      refine ev_getf (r := 1) (v := 1) (hS13.lt (by decide)) (hS13.fam (by decide) (by decide)) ft10_0 ((jw_ne e13 (Or.inr (by decide))).trans (jw_eq e12)) ?_
      refine ev_iconst ?_
      refine ev_isub (r := 0) (by decide) ?_
      refine ev_ret rfl (by decide) (by decide) ?_
      show jEv _ _ _ _ _ _ _ (_, [(2, 0), (0, (xs 1))], [(0, 0)], _, _, _)
      refine ev_ret rfl (by decide) (by decide) ?_
      show jEv _ _ _ _ _ _ _ (_, [(2, (-2)), (2, 0), (2, 42), (0, 0)], [(0, 0)], _, _, _)
      refine ev_aload_n rfl ?_
      refine ev_aload_n rfl ?_
      refine ev_iload_n rfl ?_
      refine ev_iconst ?_
      refine ev_iadd (r := 1) (by decide) ?_
      refine ev_sald (j := 1) (v := (xs 1)) rfl rfl rfl ?_
      refine ev_in (d := 7) (a := 0) (b := 0) (cd' := c247_0) (m := 3) (L0 := [(2, 42), (0, (xs 1)), (9, 0)]) (jcall_v (A := [(0, (xs 1))]) (S' := [(0, 0)]) (r := 42) rfl (hS13.lt (by decide)) (hS13.sh (by decide) rfl).1 (Nat.le_of_ble_eq_true rfl)) (by decide) ml247 pp247 (Nat.le_of_ble_eq_true rfl) rfl (by decide) (by decide) ?_
      refine ev_iload_n rfl ?_
      refine ev_iconst ?_
      refine ev_iconst ?_
      refine ev_in (d := 6) (a := 0) (b := 0) (cd' := c242_0) (m := 3) (L0 := [(0, (xs 1)), (0, 2), (0, 3)]) (jcall_s (A := [(0, 3), (0, 2), (0, (xs 1))]) (S' := []) (by decide) rfl (Nat.le_of_ble_eq_true rfl)) (by decide) ml242 pp242 (Nat.le_of_ble_eq_true rfl) rfl (by decide) (by decide) ?_
      refine ev_iload_n rfl ?_
      refine ev_iload_n rfl ?_
      refine ev_icmplt f242_14 (fun c28 => absurd c28 (by omega)) (fun c28 => ?_)
      refine ev_iload_n rfl ?_
      refine ev_iload_n rfl ?_
      refine ev_icmpgt f242_14 (fun c29 => absurd c29 (by omega)) (fun c29 => ?_)
      refine ev_iconst ?_
      refine ev_goto f242_15 ?_
      refine ev_ret rfl (by decide) (by decide) ?_
      show jEv _ _ _ _ _ _ _ (_, [(2, 42), (0, (xs 1)), (9, 0)], [(0, 1)], _, _, _)
      refine ev_ifne f247_11 (fun c30 => ?_) (fun c30 => absurd c30 (by omega))
      refine ev_aload_n rfl ?_
      refine ev_getf (r := 42) (v := 0) (hS13.lt (by decide)) (hS13.fam (by decide) (by decide)) ft12_9 ((jw_ne e13 (Or.inl (by decide))).trans ((jw_ne e12 (Or.inl (by decide))).trans ((jw_ne e11 (Or.inl (by decide))).trans ((jw_ne e10 (Or.inl (by decide))).trans ((jw_ne e9 (Or.inl (by decide))).trans ((jw_ne e8 (Or.inl (by decide))).trans ((jw_ne e7 (Or.inl (by decide))).trans ((jw_ne e6 (Or.inl (by decide))).trans ((jw_ne e5 (Or.inl (by decide))).trans ((jw_ne e4 (Or.inl (by decide))).trans ((jw_ne e3 (Or.inl (by decide))).trans ((jw_ne e2 (Or.inl (by decide))).trans ((jw_ne e1 (Or.inl (by decide))).trans ((hF.v rfl))))))))))))))) ?_
      refine ev_ifle f247_21 (fun c31 => ?_) (fun c31 => absurd c31 (by omega))
      refine ev_aload_n rfl ?_
      refine ev_getf (r := 42) (v := 0) (hS13.lt (by decide)) (hS13.fam (by decide) (by decide)) ft12_1 ((jw_ne e13 (Or.inl (by decide))).trans ((jw_ne e12 (Or.inl (by decide))).trans ((jw_ne e11 (Or.inl (by decide))).trans ((jw_ne e10 (Or.inl (by decide))).trans ((jw_ne e9 (Or.inl (by decide))).trans ((jw_ne e8 (Or.inl (by decide))).trans ((jw_ne e7 (Or.inl (by decide))).trans ((jw_ne e6 (Or.inl (by decide))).trans ((jw_ne e5 (Or.inl (by decide))).trans ((jw_ne e4 (Or.inl (by decide))).trans ((jw_ne e3 (Or.inl (by decide))).trans ((jw_ne e2 (Or.inl (by decide))).trans ((jw_ne e1 (Or.inl (by decide))).trans ((hF.v rfl))))))))))))))) ?_
      refine ev_iconst ?_
      refine ev_icmpne f247_32 (fun c32 => ?_) (fun c32 => absurd c32 (by omega))
      refine ev_aload_n rfl ?_
      refine ev_getf (r := 42) (v := 43) (hS13.lt (by decide)) (hS13.fam (by decide) (by decide)) ft12_2 ((jw_ne e13 (Or.inl (by decide))).trans ((jw_ne e12 (Or.inl (by decide))).trans ((jw_ne e11 (Or.inl (by decide))).trans ((jw_ne e10 (Or.inl (by decide))).trans ((jw_ne e9 (Or.inl (by decide))).trans ((jw_ne e8 (Or.inl (by decide))).trans ((jw_ne e7 (Or.inl (by decide))).trans ((jw_ne e6 (Or.inl (by decide))).trans ((jw_ne e5 (Or.inl (by decide))).trans ((jw_ne e4 (Or.inl (by decide))).trans ((jw_ne e3 (Or.inl (by decide))).trans ((jw_ne e2 (Or.inl (by decide))).trans ((jw_ne e1 (Or.inl (by decide))).trans ((hF.v rfl))))))))))))))) ?_
      refine ev_aload_n rfl ?_
      refine ev_getf (r := 42) (v := 0) (hS13.lt (by decide)) (hS13.fam (by decide) (by decide)) ft12_1 ((jw_ne e13 (Or.inl (by decide))).trans ((jw_ne e12 (Or.inl (by decide))).trans ((jw_ne e11 (Or.inl (by decide))).trans ((jw_ne e10 (Or.inl (by decide))).trans ((jw_ne e9 (Or.inl (by decide))).trans ((jw_ne e8 (Or.inl (by decide))).trans ((jw_ne e7 (Or.inl (by decide))).trans ((jw_ne e6 (Or.inl (by decide))).trans ((jw_ne e5 (Or.inl (by decide))).trans ((jw_ne e4 (Or.inl (by decide))).trans ((jw_ne e3 (Or.inl (by decide))).trans ((jw_ne e2 (Or.inl (by decide))).trans ((jw_ne e1 (Or.inl (by decide))).trans ((hF.v rfl))))))))))))))) ?_
      refine ev_iload_n rfl ?_
      refine ev_iastG (r := 43) (j := 0) (hS13.lt (by decide)) (hS13.sh (by decide) rfl).1 rfl (hS13.inb (by decide) (by decide)) (fun h14 e14 => ?_)
      have hS14 := hS13.wr e14
      refine ev_bipush ?_
      refine ev_aload_n rfl ?_
      refine ev_getf (r := 42) (v := 0) (hS14.lt (by decide)) (hS14.fam (by decide) (by decide)) ft12_1 ((jw_ne e14 (Or.inl (by decide))).trans ((jw_ne e13 (Or.inl (by decide))).trans ((jw_ne e12 (Or.inl (by decide))).trans ((jw_ne e11 (Or.inl (by decide))).trans ((jw_ne e10 (Or.inl (by decide))).trans ((jw_ne e9 (Or.inl (by decide))).trans ((jw_ne e8 (Or.inl (by decide))).trans ((jw_ne e7 (Or.inl (by decide))).trans ((jw_ne e6 (Or.inl (by decide))).trans ((jw_ne e5 (Or.inl (by decide))).trans ((jw_ne e4 (Or.inl (by decide))).trans ((jw_ne e3 (Or.inl (by decide))).trans ((jw_ne e2 (Or.inl (by decide))).trans ((jw_ne e1 (Or.inl (by decide))).trans ((hF.v rfl)))))))))))))))) ?_
      refine ev_imul (r := 0) (by decide) ?_
      refine ev_istore_n (L' := [(2, 42), (0, (xs 1)), (0, 0)]) (Nat.le_of_ble_eq_true rfl) rfl ?_
      refine ev_iload_n rfl ?_
      refine ev_bipush ?_
      refine ev_aload_n rfl ?_
      refine ev_getf (r := 42) (v := 0) (hS14.lt (by decide)) (hS14.fam (by decide) (by decide)) ft12_1 ((jw_ne e14 (Or.inl (by decide))).trans ((jw_ne e13 (Or.inl (by decide))).trans ((jw_ne e12 (Or.inl (by decide))).trans ((jw_ne e11 (Or.inl (by decide))).trans ((jw_ne e10 (Or.inl (by decide))).trans ((jw_ne e9 (Or.inl (by decide))).trans ((jw_ne e8 (Or.inl (by decide))).trans ((jw_ne e7 (Or.inl (by decide))).trans ((jw_ne e6 (Or.inl (by decide))).trans ((jw_ne e5 (Or.inl (by decide))).trans ((jw_ne e4 (Or.inl (by decide))).trans ((jw_ne e3 (Or.inl (by decide))).trans ((jw_ne e2 (Or.inl (by decide))).trans ((jw_ne e1 (Or.inl (by decide))).trans ((hF.v rfl)))))))))))))))) ?_
      refine ev_imul (r := 0) (by decide) ?_
      refine ev_bipush ?_
      refine ev_iadd (r := 9) (by decide) ?_
      refine ev_icmpge f247_77 (fun c33 => absurd c33 (by omega)) (fun c33 => ?_)
      refine ev_aload_n rfl ?_
      refine ev_getf (r := 42) (v := 45) (hS14.lt (by decide)) (hS14.fam (by decide) (by decide)) ft12_4 ((jw_ne e14 (Or.inl (by decide))).trans ((jw_ne e13 (Or.inl (by decide))).trans ((jw_ne e12 (Or.inl (by decide))).trans ((jw_ne e11 (Or.inl (by decide))).trans ((jw_ne e10 (Or.inl (by decide))).trans ((jw_ne e9 (Or.inl (by decide))).trans ((jw_ne e8 (Or.inl (by decide))).trans ((jw_ne e7 (Or.inl (by decide))).trans ((jw_ne e6 (Or.inl (by decide))).trans ((jw_ne e5 (Or.inl (by decide))).trans ((jw_ne e4 (Or.inl (by decide))).trans ((jw_ne e3 (Or.inl (by decide))).trans ((jw_ne e2 (Or.inl (by decide))).trans ((jw_ne e1 (Or.inl (by decide))).trans ((hF.v rfl)))))))))))))))) ?_
      refine ev_iload_n rfl ?_
      refine ev_iconst ?_
      refine ev_iastG (r := 45) (j := 0) (hS14.lt (by decide)) (hS14.sh (by decide) rfl).1 rfl (hS14.inb (by decide) (by decide)) (fun h15 e15 => ?_)
      have hS15 := hS14.wr e15
      refine ev_iinc (w := 1) (L' := [(2, 42), (0, (xs 1)), (0, 1)]) rfl (by decide) rfl ?_
      refine ev_goto f247_50 ?_
      refine ev_iload_n rfl ?_
      refine ev_bipush ?_
      refine ev_aload_n rfl ?_
      refine ev_getf (r := 42) (v := 0) (hS15.lt (by decide)) (hS15.fam (by decide) (by decide)) ft12_1 ((jw_ne e15 (Or.inl (by decide))).trans ((jw_ne e14 (Or.inl (by decide))).trans ((jw_ne e13 (Or.inl (by decide))).trans ((jw_ne e12 (Or.inl (by decide))).trans ((jw_ne e11 (Or.inl (by decide))).trans ((jw_ne e10 (Or.inl (by decide))).trans ((jw_ne e9 (Or.inl (by decide))).trans ((jw_ne e8 (Or.inl (by decide))).trans ((jw_ne e7 (Or.inl (by decide))).trans ((jw_ne e6 (Or.inl (by decide))).trans ((jw_ne e5 (Or.inl (by decide))).trans ((jw_ne e4 (Or.inl (by decide))).trans ((jw_ne e3 (Or.inl (by decide))).trans ((jw_ne e2 (Or.inl (by decide))).trans ((jw_ne e1 (Or.inl (by decide))).trans ((hF.v rfl))))))))))))))))) ?_
      refine ev_imul (r := 0) (by decide) ?_
      refine ev_bipush ?_
      refine ev_iadd (r := 9) (by decide) ?_
      refine ev_icmpge f247_77 (fun c34 => absurd c34 (by omega)) (fun c34 => ?_)
      refine ev_aload_n rfl ?_
      refine ev_getf (r := 42) (v := 45) (hS15.lt (by decide)) (hS15.fam (by decide) (by decide)) ft12_4 ((jw_ne e15 (Or.inl (by decide))).trans ((jw_ne e14 (Or.inl (by decide))).trans ((jw_ne e13 (Or.inl (by decide))).trans ((jw_ne e12 (Or.inl (by decide))).trans ((jw_ne e11 (Or.inl (by decide))).trans ((jw_ne e10 (Or.inl (by decide))).trans ((jw_ne e9 (Or.inl (by decide))).trans ((jw_ne e8 (Or.inl (by decide))).trans ((jw_ne e7 (Or.inl (by decide))).trans ((jw_ne e6 (Or.inl (by decide))).trans ((jw_ne e5 (Or.inl (by decide))).trans ((jw_ne e4 (Or.inl (by decide))).trans ((jw_ne e3 (Or.inl (by decide))).trans ((jw_ne e2 (Or.inl (by decide))).trans ((jw_ne e1 (Or.inl (by decide))).trans ((hF.v rfl))))))))))))))))) ?_
      refine ev_iload_n rfl ?_
      refine ev_iconst ?_
      refine ev_iastG (r := 45) (j := 1) (hS15.lt (by decide)) (hS15.sh (by decide) rfl).1 rfl (hS15.inb (by decide) (by decide)) (fun h16 e16 => ?_)
      have hS16 := hS15.wr e16
      refine ev_iinc (w := 2) (L' := [(2, 42), (0, (xs 1)), (0, 2)]) rfl (by decide) rfl ?_
      refine ev_goto f247_50 ?_
      refine ev_iload_n rfl ?_
      refine ev_bipush ?_
      refine ev_aload_n rfl ?_
      refine ev_getf (r := 42) (v := 0) (hS16.lt (by decide)) (hS16.fam (by decide) (by decide)) ft12_1 ((jw_ne e16 (Or.inl (by decide))).trans ((jw_ne e15 (Or.inl (by decide))).trans ((jw_ne e14 (Or.inl (by decide))).trans ((jw_ne e13 (Or.inl (by decide))).trans ((jw_ne e12 (Or.inl (by decide))).trans ((jw_ne e11 (Or.inl (by decide))).trans ((jw_ne e10 (Or.inl (by decide))).trans ((jw_ne e9 (Or.inl (by decide))).trans ((jw_ne e8 (Or.inl (by decide))).trans ((jw_ne e7 (Or.inl (by decide))).trans ((jw_ne e6 (Or.inl (by decide))).trans ((jw_ne e5 (Or.inl (by decide))).trans ((jw_ne e4 (Or.inl (by decide))).trans ((jw_ne e3 (Or.inl (by decide))).trans ((jw_ne e2 (Or.inl (by decide))).trans ((jw_ne e1 (Or.inl (by decide))).trans ((hF.v rfl)))))))))))))))))) ?_
      refine ev_imul (r := 0) (by decide) ?_
      refine ev_bipush ?_
      refine ev_iadd (r := 9) (by decide) ?_
      refine ev_icmpge f247_77 (fun c35 => absurd c35 (by omega)) (fun c35 => ?_)
      refine ev_aload_n rfl ?_
      refine ev_getf (r := 42) (v := 45) (hS16.lt (by decide)) (hS16.fam (by decide) (by decide)) ft12_4 ((jw_ne e16 (Or.inl (by decide))).trans ((jw_ne e15 (Or.inl (by decide))).trans ((jw_ne e14 (Or.inl (by decide))).trans ((jw_ne e13 (Or.inl (by decide))).trans ((jw_ne e12 (Or.inl (by decide))).trans ((jw_ne e11 (Or.inl (by decide))).trans ((jw_ne e10 (Or.inl (by decide))).trans ((jw_ne e9 (Or.inl (by decide))).trans ((jw_ne e8 (Or.inl (by decide))).trans ((jw_ne e7 (Or.inl (by decide))).trans ((jw_ne e6 (Or.inl (by decide))).trans ((jw_ne e5 (Or.inl (by decide))).trans ((jw_ne e4 (Or.inl (by decide))).trans ((jw_ne e3 (Or.inl (by decide))).trans ((jw_ne e2 (Or.inl (by decide))).trans ((jw_ne e1 (Or.inl (by decide))).trans ((hF.v rfl)))))))))))))))))) ?_
      refine ev_iload_n rfl ?_
      refine ev_iconst ?_
      refine ev_iastG (r := 45) (j := 2) (hS16.lt (by decide)) (hS16.sh (by decide) rfl).1 rfl (hS16.inb (by decide) (by decide)) (fun h17 e17 => ?_)
      have hS17 := hS16.wr e17
      refine ev_iinc (w := 3) (L' := [(2, 42), (0, (xs 1)), (0, 3)]) rfl (by decide) rfl ?_
      refine ev_goto f247_50 ?_
      refine ev_iload_n rfl ?_
      refine ev_bipush ?_
      refine ev_aload_n rfl ?_
      refine ev_getf (r := 42) (v := 0) (hS17.lt (by decide)) (hS17.fam (by decide) (by decide)) ft12_1 ((jw_ne e17 (Or.inl (by decide))).trans ((jw_ne e16 (Or.inl (by decide))).trans ((jw_ne e15 (Or.inl (by decide))).trans ((jw_ne e14 (Or.inl (by decide))).trans ((jw_ne e13 (Or.inl (by decide))).trans ((jw_ne e12 (Or.inl (by decide))).trans ((jw_ne e11 (Or.inl (by decide))).trans ((jw_ne e10 (Or.inl (by decide))).trans ((jw_ne e9 (Or.inl (by decide))).trans ((jw_ne e8 (Or.inl (by decide))).trans ((jw_ne e7 (Or.inl (by decide))).trans ((jw_ne e6 (Or.inl (by decide))).trans ((jw_ne e5 (Or.inl (by decide))).trans ((jw_ne e4 (Or.inl (by decide))).trans ((jw_ne e3 (Or.inl (by decide))).trans ((jw_ne e2 (Or.inl (by decide))).trans ((jw_ne e1 (Or.inl (by decide))).trans ((hF.v rfl))))))))))))))))))) ?_
      refine ev_imul (r := 0) (by decide) ?_
      refine ev_bipush ?_
      refine ev_iadd (r := 9) (by decide) ?_
      refine ev_icmpge f247_77 (fun c36 => absurd c36 (by omega)) (fun c36 => ?_)
      refine ev_aload_n rfl ?_
      refine ev_getf (r := 42) (v := 45) (hS17.lt (by decide)) (hS17.fam (by decide) (by decide)) ft12_4 ((jw_ne e17 (Or.inl (by decide))).trans ((jw_ne e16 (Or.inl (by decide))).trans ((jw_ne e15 (Or.inl (by decide))).trans ((jw_ne e14 (Or.inl (by decide))).trans ((jw_ne e13 (Or.inl (by decide))).trans ((jw_ne e12 (Or.inl (by decide))).trans ((jw_ne e11 (Or.inl (by decide))).trans ((jw_ne e10 (Or.inl (by decide))).trans ((jw_ne e9 (Or.inl (by decide))).trans ((jw_ne e8 (Or.inl (by decide))).trans ((jw_ne e7 (Or.inl (by decide))).trans ((jw_ne e6 (Or.inl (by decide))).trans ((jw_ne e5 (Or.inl (by decide))).trans ((jw_ne e4 (Or.inl (by decide))).trans ((jw_ne e3 (Or.inl (by decide))).trans ((jw_ne e2 (Or.inl (by decide))).trans ((jw_ne e1 (Or.inl (by decide))).trans ((hF.v rfl))))))))))))))))))) ?_
      refine ev_iload_n rfl ?_
      refine ev_iconst ?_
      refine ev_iastG (r := 45) (j := 3) (hS17.lt (by decide)) (hS17.sh (by decide) rfl).1 rfl (hS17.inb (by decide) (by decide)) (fun h18 e18 => ?_)
      have hS18 := hS17.wr e18
      refine ev_iinc (w := 4) (L' := [(2, 42), (0, (xs 1)), (0, 4)]) rfl (by decide) rfl ?_
      refine ev_goto f247_50 ?_
      refine ev_iload_n rfl ?_
      refine ev_bipush ?_
      refine ev_aload_n rfl ?_
      refine ev_getf (r := 42) (v := 0) (hS18.lt (by decide)) (hS18.fam (by decide) (by decide)) ft12_1 ((jw_ne e18 (Or.inl (by decide))).trans ((jw_ne e17 (Or.inl (by decide))).trans ((jw_ne e16 (Or.inl (by decide))).trans ((jw_ne e15 (Or.inl (by decide))).trans ((jw_ne e14 (Or.inl (by decide))).trans ((jw_ne e13 (Or.inl (by decide))).trans ((jw_ne e12 (Or.inl (by decide))).trans ((jw_ne e11 (Or.inl (by decide))).trans ((jw_ne e10 (Or.inl (by decide))).trans ((jw_ne e9 (Or.inl (by decide))).trans ((jw_ne e8 (Or.inl (by decide))).trans ((jw_ne e7 (Or.inl (by decide))).trans ((jw_ne e6 (Or.inl (by decide))).trans ((jw_ne e5 (Or.inl (by decide))).trans ((jw_ne e4 (Or.inl (by decide))).trans ((jw_ne e3 (Or.inl (by decide))).trans ((jw_ne e2 (Or.inl (by decide))).trans ((jw_ne e1 (Or.inl (by decide))).trans ((hF.v rfl)))))))))))))))))))) ?_
      refine ev_imul (r := 0) (by decide) ?_
      refine ev_bipush ?_
      refine ev_iadd (r := 9) (by decide) ?_
      refine ev_icmpge f247_77 (fun c37 => absurd c37 (by omega)) (fun c37 => ?_)
      refine ev_aload_n rfl ?_
      refine ev_getf (r := 42) (v := 45) (hS18.lt (by decide)) (hS18.fam (by decide) (by decide)) ft12_4 ((jw_ne e18 (Or.inl (by decide))).trans ((jw_ne e17 (Or.inl (by decide))).trans ((jw_ne e16 (Or.inl (by decide))).trans ((jw_ne e15 (Or.inl (by decide))).trans ((jw_ne e14 (Or.inl (by decide))).trans ((jw_ne e13 (Or.inl (by decide))).trans ((jw_ne e12 (Or.inl (by decide))).trans ((jw_ne e11 (Or.inl (by decide))).trans ((jw_ne e10 (Or.inl (by decide))).trans ((jw_ne e9 (Or.inl (by decide))).trans ((jw_ne e8 (Or.inl (by decide))).trans ((jw_ne e7 (Or.inl (by decide))).trans ((jw_ne e6 (Or.inl (by decide))).trans ((jw_ne e5 (Or.inl (by decide))).trans ((jw_ne e4 (Or.inl (by decide))).trans ((jw_ne e3 (Or.inl (by decide))).trans ((jw_ne e2 (Or.inl (by decide))).trans ((jw_ne e1 (Or.inl (by decide))).trans ((hF.v rfl)))))))))))))))))))) ?_
      refine ev_iload_n rfl ?_
      refine ev_iconst ?_
      refine ev_iastG (r := 45) (j := 4) (hS18.lt (by decide)) (hS18.sh (by decide) rfl).1 rfl (hS18.inb (by decide) (by decide)) (fun h19 e19 => ?_)
      have hS19 := hS18.wr e19
      refine ev_iinc (w := 5) (L' := [(2, 42), (0, (xs 1)), (0, 5)]) rfl (by decide) rfl ?_
      refine ev_goto f247_50 ?_
      refine ev_iload_n rfl ?_
      refine ev_bipush ?_
      refine ev_aload_n rfl ?_
      refine ev_getf (r := 42) (v := 0) (hS19.lt (by decide)) (hS19.fam (by decide) (by decide)) ft12_1 ((jw_ne e19 (Or.inl (by decide))).trans ((jw_ne e18 (Or.inl (by decide))).trans ((jw_ne e17 (Or.inl (by decide))).trans ((jw_ne e16 (Or.inl (by decide))).trans ((jw_ne e15 (Or.inl (by decide))).trans ((jw_ne e14 (Or.inl (by decide))).trans ((jw_ne e13 (Or.inl (by decide))).trans ((jw_ne e12 (Or.inl (by decide))).trans ((jw_ne e11 (Or.inl (by decide))).trans ((jw_ne e10 (Or.inl (by decide))).trans ((jw_ne e9 (Or.inl (by decide))).trans ((jw_ne e8 (Or.inl (by decide))).trans ((jw_ne e7 (Or.inl (by decide))).trans ((jw_ne e6 (Or.inl (by decide))).trans ((jw_ne e5 (Or.inl (by decide))).trans ((jw_ne e4 (Or.inl (by decide))).trans ((jw_ne e3 (Or.inl (by decide))).trans ((jw_ne e2 (Or.inl (by decide))).trans ((jw_ne e1 (Or.inl (by decide))).trans ((hF.v rfl))))))))))))))))))))) ?_
      refine ev_imul (r := 0) (by decide) ?_
      refine ev_bipush ?_
      refine ev_iadd (r := 9) (by decide) ?_
      refine ev_icmpge f247_77 (fun c38 => absurd c38 (by omega)) (fun c38 => ?_)
      refine ev_aload_n rfl ?_
      refine ev_getf (r := 42) (v := 45) (hS19.lt (by decide)) (hS19.fam (by decide) (by decide)) ft12_4 ((jw_ne e19 (Or.inl (by decide))).trans ((jw_ne e18 (Or.inl (by decide))).trans ((jw_ne e17 (Or.inl (by decide))).trans ((jw_ne e16 (Or.inl (by decide))).trans ((jw_ne e15 (Or.inl (by decide))).trans ((jw_ne e14 (Or.inl (by decide))).trans ((jw_ne e13 (Or.inl (by decide))).trans ((jw_ne e12 (Or.inl (by decide))).trans ((jw_ne e11 (Or.inl (by decide))).trans ((jw_ne e10 (Or.inl (by decide))).trans ((jw_ne e9 (Or.inl (by decide))).trans ((jw_ne e8 (Or.inl (by decide))).trans ((jw_ne e7 (Or.inl (by decide))).trans ((jw_ne e6 (Or.inl (by decide))).trans ((jw_ne e5 (Or.inl (by decide))).trans ((jw_ne e4 (Or.inl (by decide))).trans ((jw_ne e3 (Or.inl (by decide))).trans ((jw_ne e2 (Or.inl (by decide))).trans ((jw_ne e1 (Or.inl (by decide))).trans ((hF.v rfl))))))))))))))))))))) ?_
      refine ev_iload_n rfl ?_
      refine ev_iconst ?_
      refine ev_iastG (r := 45) (j := 5) (hS19.lt (by decide)) (hS19.sh (by decide) rfl).1 rfl (hS19.inb (by decide) (by decide)) (fun h20 e20 => ?_)
      have hS20 := hS19.wr e20
      refine ev_iinc (w := 6) (L' := [(2, 42), (0, (xs 1)), (0, 6)]) rfl (by decide) rfl ?_
      refine ev_goto f247_50 ?_
      refine ev_iload_n rfl ?_
      refine ev_bipush ?_
      refine ev_aload_n rfl ?_
      refine ev_getf (r := 42) (v := 0) (hS20.lt (by decide)) (hS20.fam (by decide) (by decide)) ft12_1 ((jw_ne e20 (Or.inl (by decide))).trans ((jw_ne e19 (Or.inl (by decide))).trans ((jw_ne e18 (Or.inl (by decide))).trans ((jw_ne e17 (Or.inl (by decide))).trans ((jw_ne e16 (Or.inl (by decide))).trans ((jw_ne e15 (Or.inl (by decide))).trans ((jw_ne e14 (Or.inl (by decide))).trans ((jw_ne e13 (Or.inl (by decide))).trans ((jw_ne e12 (Or.inl (by decide))).trans ((jw_ne e11 (Or.inl (by decide))).trans ((jw_ne e10 (Or.inl (by decide))).trans ((jw_ne e9 (Or.inl (by decide))).trans ((jw_ne e8 (Or.inl (by decide))).trans ((jw_ne e7 (Or.inl (by decide))).trans ((jw_ne e6 (Or.inl (by decide))).trans ((jw_ne e5 (Or.inl (by decide))).trans ((jw_ne e4 (Or.inl (by decide))).trans ((jw_ne e3 (Or.inl (by decide))).trans ((jw_ne e2 (Or.inl (by decide))).trans ((jw_ne e1 (Or.inl (by decide))).trans ((hF.v rfl)))))))))))))))))))))) ?_
      refine ev_imul (r := 0) (by decide) ?_
      refine ev_bipush ?_
      refine ev_iadd (r := 9) (by decide) ?_
      refine ev_icmpge f247_77 (fun c39 => absurd c39 (by omega)) (fun c39 => ?_)
      refine ev_aload_n rfl ?_
      refine ev_getf (r := 42) (v := 45) (hS20.lt (by decide)) (hS20.fam (by decide) (by decide)) ft12_4 ((jw_ne e20 (Or.inl (by decide))).trans ((jw_ne e19 (Or.inl (by decide))).trans ((jw_ne e18 (Or.inl (by decide))).trans ((jw_ne e17 (Or.inl (by decide))).trans ((jw_ne e16 (Or.inl (by decide))).trans ((jw_ne e15 (Or.inl (by decide))).trans ((jw_ne e14 (Or.inl (by decide))).trans ((jw_ne e13 (Or.inl (by decide))).trans ((jw_ne e12 (Or.inl (by decide))).trans ((jw_ne e11 (Or.inl (by decide))).trans ((jw_ne e10 (Or.inl (by decide))).trans ((jw_ne e9 (Or.inl (by decide))).trans ((jw_ne e8 (Or.inl (by decide))).trans ((jw_ne e7 (Or.inl (by decide))).trans ((jw_ne e6 (Or.inl (by decide))).trans ((jw_ne e5 (Or.inl (by decide))).trans ((jw_ne e4 (Or.inl (by decide))).trans ((jw_ne e3 (Or.inl (by decide))).trans ((jw_ne e2 (Or.inl (by decide))).trans ((jw_ne e1 (Or.inl (by decide))).trans ((hF.v rfl)))))))))))))))))))))) ?_
      refine ev_iload_n rfl ?_
      refine ev_iconst ?_
      refine ev_iastG (r := 45) (j := 6) (hS20.lt (by decide)) (hS20.sh (by decide) rfl).1 rfl (hS20.inb (by decide) (by decide)) (fun h21 e21 => ?_)
      have hS21 := hS20.wr e21
      refine ev_iinc (w := 7) (L' := [(2, 42), (0, (xs 1)), (0, 7)]) rfl (by decide) rfl ?_
      refine ev_goto f247_50 ?_
      refine ev_iload_n rfl ?_
      refine ev_bipush ?_
      refine ev_aload_n rfl ?_
      refine ev_getf (r := 42) (v := 0) (hS21.lt (by decide)) (hS21.fam (by decide) (by decide)) ft12_1 ((jw_ne e21 (Or.inl (by decide))).trans ((jw_ne e20 (Or.inl (by decide))).trans ((jw_ne e19 (Or.inl (by decide))).trans ((jw_ne e18 (Or.inl (by decide))).trans ((jw_ne e17 (Or.inl (by decide))).trans ((jw_ne e16 (Or.inl (by decide))).trans ((jw_ne e15 (Or.inl (by decide))).trans ((jw_ne e14 (Or.inl (by decide))).trans ((jw_ne e13 (Or.inl (by decide))).trans ((jw_ne e12 (Or.inl (by decide))).trans ((jw_ne e11 (Or.inl (by decide))).trans ((jw_ne e10 (Or.inl (by decide))).trans ((jw_ne e9 (Or.inl (by decide))).trans ((jw_ne e8 (Or.inl (by decide))).trans ((jw_ne e7 (Or.inl (by decide))).trans ((jw_ne e6 (Or.inl (by decide))).trans ((jw_ne e5 (Or.inl (by decide))).trans ((jw_ne e4 (Or.inl (by decide))).trans ((jw_ne e3 (Or.inl (by decide))).trans ((jw_ne e2 (Or.inl (by decide))).trans ((jw_ne e1 (Or.inl (by decide))).trans ((hF.v rfl))))))))))))))))))))))) ?_
      refine ev_imul (r := 0) (by decide) ?_
      refine ev_bipush ?_
      refine ev_iadd (r := 9) (by decide) ?_
      refine ev_icmpge f247_77 (fun c40 => absurd c40 (by omega)) (fun c40 => ?_)
      refine ev_aload_n rfl ?_
      refine ev_getf (r := 42) (v := 45) (hS21.lt (by decide)) (hS21.fam (by decide) (by decide)) ft12_4 ((jw_ne e21 (Or.inl (by decide))).trans ((jw_ne e20 (Or.inl (by decide))).trans ((jw_ne e19 (Or.inl (by decide))).trans ((jw_ne e18 (Or.inl (by decide))).trans ((jw_ne e17 (Or.inl (by decide))).trans ((jw_ne e16 (Or.inl (by decide))).trans ((jw_ne e15 (Or.inl (by decide))).trans ((jw_ne e14 (Or.inl (by decide))).trans ((jw_ne e13 (Or.inl (by decide))).trans ((jw_ne e12 (Or.inl (by decide))).trans ((jw_ne e11 (Or.inl (by decide))).trans ((jw_ne e10 (Or.inl (by decide))).trans ((jw_ne e9 (Or.inl (by decide))).trans ((jw_ne e8 (Or.inl (by decide))).trans ((jw_ne e7 (Or.inl (by decide))).trans ((jw_ne e6 (Or.inl (by decide))).trans ((jw_ne e5 (Or.inl (by decide))).trans ((jw_ne e4 (Or.inl (by decide))).trans ((jw_ne e3 (Or.inl (by decide))).trans ((jw_ne e2 (Or.inl (by decide))).trans ((jw_ne e1 (Or.inl (by decide))).trans ((hF.v rfl))))))))))))))))))))))) ?_
      refine ev_iload_n rfl ?_
      refine ev_iconst ?_
      refine ev_iastG (r := 45) (j := 7) (hS21.lt (by decide)) (hS21.sh (by decide) rfl).1 rfl (hS21.inb (by decide) (by decide)) (fun h22 e22 => ?_)
      have hS22 := hS21.wr e22
      refine ev_iinc (w := 8) (L' := [(2, 42), (0, (xs 1)), (0, 8)]) rfl (by decide) rfl ?_
      refine ev_goto f247_50 ?_
      refine ev_iload_n rfl ?_
      refine ev_bipush ?_
      refine ev_aload_n rfl ?_
      refine ev_getf (r := 42) (v := 0) (hS22.lt (by decide)) (hS22.fam (by decide) (by decide)) ft12_1 ((jw_ne e22 (Or.inl (by decide))).trans ((jw_ne e21 (Or.inl (by decide))).trans ((jw_ne e20 (Or.inl (by decide))).trans ((jw_ne e19 (Or.inl (by decide))).trans ((jw_ne e18 (Or.inl (by decide))).trans ((jw_ne e17 (Or.inl (by decide))).trans ((jw_ne e16 (Or.inl (by decide))).trans ((jw_ne e15 (Or.inl (by decide))).trans ((jw_ne e14 (Or.inl (by decide))).trans ((jw_ne e13 (Or.inl (by decide))).trans ((jw_ne e12 (Or.inl (by decide))).trans ((jw_ne e11 (Or.inl (by decide))).trans ((jw_ne e10 (Or.inl (by decide))).trans ((jw_ne e9 (Or.inl (by decide))).trans ((jw_ne e8 (Or.inl (by decide))).trans ((jw_ne e7 (Or.inl (by decide))).trans ((jw_ne e6 (Or.inl (by decide))).trans ((jw_ne e5 (Or.inl (by decide))).trans ((jw_ne e4 (Or.inl (by decide))).trans ((jw_ne e3 (Or.inl (by decide))).trans ((jw_ne e2 (Or.inl (by decide))).trans ((jw_ne e1 (Or.inl (by decide))).trans ((hF.v rfl)))))))))))))))))))))))) ?_
      refine ev_imul (r := 0) (by decide) ?_
      refine ev_bipush ?_
      refine ev_iadd (r := 9) (by decide) ?_
      refine ev_icmpge f247_77 (fun c41 => absurd c41 (by omega)) (fun c41 => ?_)
      refine ev_aload_n rfl ?_
      refine ev_getf (r := 42) (v := 45) (hS22.lt (by decide)) (hS22.fam (by decide) (by decide)) ft12_4 ((jw_ne e22 (Or.inl (by decide))).trans ((jw_ne e21 (Or.inl (by decide))).trans ((jw_ne e20 (Or.inl (by decide))).trans ((jw_ne e19 (Or.inl (by decide))).trans ((jw_ne e18 (Or.inl (by decide))).trans ((jw_ne e17 (Or.inl (by decide))).trans ((jw_ne e16 (Or.inl (by decide))).trans ((jw_ne e15 (Or.inl (by decide))).trans ((jw_ne e14 (Or.inl (by decide))).trans ((jw_ne e13 (Or.inl (by decide))).trans ((jw_ne e12 (Or.inl (by decide))).trans ((jw_ne e11 (Or.inl (by decide))).trans ((jw_ne e10 (Or.inl (by decide))).trans ((jw_ne e9 (Or.inl (by decide))).trans ((jw_ne e8 (Or.inl (by decide))).trans ((jw_ne e7 (Or.inl (by decide))).trans ((jw_ne e6 (Or.inl (by decide))).trans ((jw_ne e5 (Or.inl (by decide))).trans ((jw_ne e4 (Or.inl (by decide))).trans ((jw_ne e3 (Or.inl (by decide))).trans ((jw_ne e2 (Or.inl (by decide))).trans ((jw_ne e1 (Or.inl (by decide))).trans ((hF.v rfl)))))))))))))))))))))))) ?_
      refine ev_iload_n rfl ?_
      refine ev_iconst ?_
      refine ev_iastG (r := 45) (j := 8) (hS22.lt (by decide)) (hS22.sh (by decide) rfl).1 rfl (hS22.inb (by decide) (by decide)) (fun h23 e23 => ?_)
      have hS23 := hS22.wr e23
      refine ev_iinc (w := 9) (L' := [(2, 42), (0, (xs 1)), (0, 9)]) rfl (by decide) rfl ?_
      refine ev_goto f247_50 ?_
      refine ev_iload_n rfl ?_
      refine ev_bipush ?_
      refine ev_aload_n rfl ?_
      refine ev_getf (r := 42) (v := 0) (hS23.lt (by decide)) (hS23.fam (by decide) (by decide)) ft12_1 ((jw_ne e23 (Or.inl (by decide))).trans ((jw_ne e22 (Or.inl (by decide))).trans ((jw_ne e21 (Or.inl (by decide))).trans ((jw_ne e20 (Or.inl (by decide))).trans ((jw_ne e19 (Or.inl (by decide))).trans ((jw_ne e18 (Or.inl (by decide))).trans ((jw_ne e17 (Or.inl (by decide))).trans ((jw_ne e16 (Or.inl (by decide))).trans ((jw_ne e15 (Or.inl (by decide))).trans ((jw_ne e14 (Or.inl (by decide))).trans ((jw_ne e13 (Or.inl (by decide))).trans ((jw_ne e12 (Or.inl (by decide))).trans ((jw_ne e11 (Or.inl (by decide))).trans ((jw_ne e10 (Or.inl (by decide))).trans ((jw_ne e9 (Or.inl (by decide))).trans ((jw_ne e8 (Or.inl (by decide))).trans ((jw_ne e7 (Or.inl (by decide))).trans ((jw_ne e6 (Or.inl (by decide))).trans ((jw_ne e5 (Or.inl (by decide))).trans ((jw_ne e4 (Or.inl (by decide))).trans ((jw_ne e3 (Or.inl (by decide))).trans ((jw_ne e2 (Or.inl (by decide))).trans ((jw_ne e1 (Or.inl (by decide))).trans ((hF.v rfl))))))))))))))))))))))))) ?_
      refine ev_imul (r := 0) (by decide) ?_
      refine ev_bipush ?_
      refine ev_iadd (r := 9) (by decide) ?_
      refine ev_icmpge f247_77 (fun c42 => ?_) (fun c42 => absurd c42 (by omega))
      refine ev_aload_n rfl ?_
      refine ev_dup (by decide) ?_
      refine ev_getf (r := 42) (v := 0) (hS23.lt (by decide)) (hS23.fam (by decide) (by decide)) ft12_1 ((jw_ne e23 (Or.inl (by decide))).trans ((jw_ne e22 (Or.inl (by decide))).trans ((jw_ne e21 (Or.inl (by decide))).trans ((jw_ne e20 (Or.inl (by decide))).trans ((jw_ne e19 (Or.inl (by decide))).trans ((jw_ne e18 (Or.inl (by decide))).trans ((jw_ne e17 (Or.inl (by decide))).trans ((jw_ne e16 (Or.inl (by decide))).trans ((jw_ne e15 (Or.inl (by decide))).trans ((jw_ne e14 (Or.inl (by decide))).trans ((jw_ne e13 (Or.inl (by decide))).trans ((jw_ne e12 (Or.inl (by decide))).trans ((jw_ne e11 (Or.inl (by decide))).trans ((jw_ne e10 (Or.inl (by decide))).trans ((jw_ne e9 (Or.inl (by decide))).trans ((jw_ne e8 (Or.inl (by decide))).trans ((jw_ne e7 (Or.inl (by decide))).trans ((jw_ne e6 (Or.inl (by decide))).trans ((jw_ne e5 (Or.inl (by decide))).trans ((jw_ne e4 (Or.inl (by decide))).trans ((jw_ne e3 (Or.inl (by decide))).trans ((jw_ne e2 (Or.inl (by decide))).trans ((jw_ne e1 (Or.inl (by decide))).trans ((hF.v rfl))))))))))))))))))))))))) ?_
      refine ev_iconst ?_
      refine ev_iadd (r := 1) (by decide) ?_
      refine ev_putfG (r := 42) (hS23.lt (by decide)) (hS23.fam (by decide) (by decide)) ft12_1 (fun e => absurd e nz12_1) (fun e => absurd e (by decide)) (fun h24 e24 => ?_)
      have hS24 := hS23.wr e24
      refine ev_aload_n rfl ?_
      refine ev_getf (r := 42) (v := 1) (hS24.lt (by decide)) (hS24.fam (by decide) (by decide)) ft12_1 (jw_eq e24) ?_
      refine ev_iconst ?_
      refine ev_isub (r := 0) (by decide) ?_
      refine ev_ret rfl (by decide) (by decide) ?_
      show jEv _ _ _ _ _ _ _ (_, [(2, (-2)), (2, 0), (2, 42), (0, 0)], [(0, 0), (0, 0)], _, _, _)
      refine ev_icmpeq f384_2190 (fun c43 => ?_) (fun c43 => absurd c43 (by omega))
      exact law_tail _
    · refine ev_iconst ?_
      refine ev_ret rfl (by decide) (by decide) ?_
      show jEv _ _ _ _ _ _ _ (_, [(2, (-2)), (2, 0), (2, 42), (0, 0)], [(0, (-1))], _, _, _)
      refine ev_aload_n rfl ?_
      refine ev_aload_n rfl ?_
      refine ev_iload_n rfl ?_
      refine ev_iconst ?_
      refine ev_iadd (r := 1) (by decide) ?_
      refine ev_sald (j := 1) (v := (xs 1)) rfl rfl rfl ?_
      refine ev_in (d := 7) (a := 0) (b := 0) (cd' := c247_0) (m := 3) (L0 := [(2, 42), (0, (xs 1)), (9, 0)]) (jcall_v (A := [(0, (xs 1))]) (S' := [(0, (-1))]) (r := 42) rfl (hF.1.lt (by decide)) (hF.1.sh (by decide) rfl).1 (Nat.le_of_ble_eq_true rfl)) (by decide) ml247 pp247 (Nat.le_of_ble_eq_true rfl) rfl (by decide) (by decide) ?_
      refine ev_iload_n rfl ?_
      refine ev_iconst ?_
      refine ev_iconst ?_
      refine ev_in (d := 6) (a := 0) (b := 0) (cd' := c242_0) (m := 3) (L0 := [(0, (xs 1)), (0, 2), (0, 3)]) (jcall_s (A := [(0, 3), (0, 2), (0, (xs 1))]) (S' := []) (by decide) rfl (Nat.le_of_ble_eq_true rfl)) (by decide) ml242 pp242 (Nat.le_of_ble_eq_true rfl) rfl (by decide) (by decide) ?_
      refine ev_iload_n rfl ?_
      refine ev_iload_n rfl ?_
      refine ev_icmplt f242_14 (fun c44 => absurd c44 (by omega)) (fun c44 => ?_)
      refine ev_iload_n rfl ?_
      refine ev_iload_n rfl ?_
      refine ev_icmpgt f242_14 (fun c45 => ?_) (fun c45 => absurd c45 (by omega))
      refine ev_iconst ?_
      refine ev_ret rfl (by decide) (by decide) ?_
      show jEv _ _ _ _ _ _ _ (_, [(2, 42), (0, (xs 1)), (9, 0)], [(0, 0)], _, _, _)
      refine ev_ifne f247_11 (fun c46 => absurd c46 (by omega)) (fun c46 => ?_)
      refine ev_iconst ?_
      refine ev_ret rfl (by decide) (by decide) ?_
      show jEv _ _ _ _ _ _ _ (_, [(2, (-2)), (2, 0), (2, 42), (0, 0)], [(0, (-1)), (0, (-1))], _, _, _)
      refine ev_icmpeq f384_2190 (fun c47 => ?_) (fun c47 => absurd c47 (by omega))
      exact law_tail _

/-! hang -/
set_option maxHeartbeats 4000000 in
theorem case_1 {xs : Nat → Int} (hr : ∀ j, -2147483648 ≤ xs j ∧ xs j < 2147483648) {h : JH} (hF : Fresh h) : jEv (jOk 8) (some 6) xs c384_0 600000 7302250 (fun v _ => v = some (0, 1)) (c384_283, [(2, -2), (2, 0), (2, 42), (0, 0)], [], h, 83, 23761) := by
  have r1 := hr 1
  have r2 := hr 2
  have r3 := hr 3
  have r4 := hr 4
  have r5 := hr 5
  refine ev_aload_n rfl ?_
  refine ev_aload_n rfl ?_
  refine ev_iload_n rfl ?_
  refine ev_iconst ?_
  refine ev_iadd (r := 1) (by decide) ?_
  refine ev_sald (j := 1) (v := (xs 1)) rfl rfl rfl ?_
  refine ev_aload_n rfl ?_
  refine ev_iload_n rfl ?_
  refine ev_iconst ?_
  refine ev_iadd (r := 2) (by decide) ?_
  refine ev_sald (j := 2) (v := (xs 2)) rfl rfl rfl ?_
  refine ev_in (d := 7) (a := 0) (b := 0) (cd' := c167_0) (m := 3) (L0 := [(2, 0), (0, (xs 1)), (0, (xs 2))]) (jcall_v (A := [(0, (xs 2)), (0, (xs 1))]) (S' := []) (r := 0) rfl (hF.1.lt (by decide)) (hF.1.sh (by decide) rfl).1 (Nat.le_of_ble_eq_true rfl)) (by decide) ml167 pp167 (Nat.le_of_ble_eq_true rfl) rfl (by decide) (by decide) ?_
  refine ev_aload_n rfl ?_
  refine ev_getf (r := 0) (v := 1) (hF.1.lt (by decide)) (hF.1.fam (by decide) (by decide)) ft11_0 ((hF.v rfl)) ?_
  refine ev_iload_n rfl ?_
  refine ev_in (d := 6) (a := 0) (b := 0) (cd' := c140_0) (m := 2) (L0 := [(2, 1), (0, (xs 1))]) (jcall_v (A := [(0, (xs 1))]) (S' := []) (r := 1) rfl (hF.1.lt (by decide)) (hF.1.sh (by decide) rfl).1 (Nat.le_of_ble_eq_true rfl)) (by decide) ml140 pp140 (Nat.le_of_ble_eq_true rfl) rfl (by decide) (by decide) ?_
  refine ev_iload_n rfl ?_
  refine ev_iflt f140_16 (fun c1 => ?_) (fun c1 => ?_)
  · refine ev_iconst ?_
    refine ev_ret rfl (by decide) (by decide) ?_
    show jEv _ _ _ _ _ _ _ (_, [(2, 0), (0, (xs 1)), (0, (xs 2))], [(0, 0)], _, _, _)
    refine ev_ifeq f167_20 (fun c2 => ?_) (fun c2 => absurd c2 (by omega))
    refine ev_iconst ?_
    refine ev_ret rfl (by decide) (by decide) ?_
    show jEv _ _ _ _ _ _ _ (_, [(2, (-2)), (2, 0), (2, 42), (0, 0)], [(0, (-1))], _, _, _)
    refine ev_aload_n rfl ?_
    refine ev_aload_n rfl ?_
    refine ev_iload_n rfl ?_
    refine ev_iconst ?_
    refine ev_iadd (r := 1) (by decide) ?_
    refine ev_sald (j := 1) (v := (xs 1)) rfl rfl rfl ?_
    refine ev_aload_n rfl ?_
    refine ev_iload_n rfl ?_
    refine ev_iconst ?_
    refine ev_iadd (r := 2) (by decide) ?_
    refine ev_sald (j := 2) (v := (xs 2)) rfl rfl rfl ?_
    refine ev_in (d := 7) (a := 0) (b := 0) (cd' := c248_0) (m := 4) (L0 := [(2, 42), (0, (xs 1)), (0, (xs 2)), (9, 0)]) (jcall_v (A := [(0, (xs 2)), (0, (xs 1))]) (S' := [(0, (-1))]) (r := 42) rfl (hF.1.lt (by decide)) (hF.1.sh (by decide) rfl).1 (Nat.le_of_ble_eq_true rfl)) (by decide) ml248 pp248 (Nat.le_of_ble_eq_true rfl) rfl (by decide) (by decide) ?_
    refine ev_aload_n rfl ?_
    refine ev_iload_n rfl ?_
    refine ev_in (d := 6) (a := 0) (b := 0) (cd' := c245_0) (m := 2) (L0 := [(2, 42), (0, (xs 1))]) (jcall_v (A := [(0, (xs 1))]) (S' := []) (r := 42) rfl (hF.1.lt (by decide)) (hF.1.sh (by decide) rfl).1 (Nat.le_of_ble_eq_true rfl)) (by decide) ml245 pp245 (Nat.le_of_ble_eq_true rfl) rfl (by decide) (by decide) ?_
    refine ev_iload_n rfl ?_
    refine ev_iconst ?_
    refine ev_aload_n rfl ?_
    refine ev_getf (r := 42) (v := 0) (hF.1.lt (by decide)) (hF.1.fam (by decide) (by decide)) ft12_1 ((hF.v rfl)) ?_
    refine ev_iconst ?_
    refine ev_isub (r := (-1)) (by decide) ?_
    refine ev_in (d := 5) (a := 0) (b := 0) (cd' := c242_0) (m := 3) (L0 := [(0, (xs 1)), (0, 0), (0, (-1))]) (jcall_s (A := [(0, (-1)), (0, 0), (0, (xs 1))]) (S' := []) (by decide) rfl (Nat.le_of_ble_eq_true rfl)) (by decide) ml242 pp242 (Nat.le_of_ble_eq_true rfl) rfl (by decide) (by decide) ?_
    refine ev_iload_n rfl ?_
    refine ev_iload_n rfl ?_
    refine ev_icmplt f242_14 (fun c3 => ?_) (fun c3 => absurd c3 (by omega))
    refine ev_iconst ?_
    refine ev_ret rfl (by decide) (by decide) ?_
    show jEv _ _ _ _ _ _ _ (_, [(2, 42), (0, (xs 1))], [(0, 0)], _, _, _)
    refine ev_ret rfl (by decide) (by decide) ?_
    show jEv _ _ _ _ _ _ _ (_, [(2, 42), (0, (xs 1)), (0, (xs 2)), (9, 0)], [(0, 0)], _, _, _)
    refine ev_ifeq f248_19 (fun c4 => ?_) (fun c4 => absurd c4 (by omega))
    refine ev_iconst ?_
    refine ev_ret rfl (by decide) (by decide) ?_
    show jEv _ _ _ _ _ _ _ (_, [(2, (-2)), (2, 0), (2, 42), (0, 0)], [(0, (-1)), (0, (-1))], _, _, _)
    refine ev_icmpeq f384_2190 (fun c5 => ?_) (fun c5 => absurd c5 (by omega))
    exact law_tail _
  · refine ev_iload_n rfl ?_
    refine ev_aload_n rfl ?_
    refine ev_getf (r := 1) (v := 0) (hF.1.lt (by decide)) (hF.1.fam (by decide) (by decide)) ft10_0 ((hF.v rfl)) ?_
    refine ev_icmpge f140_16 (fun c6 => ?_) (fun c6 => absurd c6 (by omega))
    refine ev_iconst ?_
    refine ev_ret rfl (by decide) (by decide) ?_
    show jEv _ _ _ _ _ _ _ (_, [(2, 0), (0, (xs 1)), (0, (xs 2))], [(0, 0)], _, _, _)
    refine ev_ifeq f167_20 (fun c7 => ?_) (fun c7 => absurd c7 (by omega))
    refine ev_iconst ?_
    refine ev_ret rfl (by decide) (by decide) ?_
    show jEv _ _ _ _ _ _ _ (_, [(2, (-2)), (2, 0), (2, 42), (0, 0)], [(0, (-1))], _, _, _)
    refine ev_aload_n rfl ?_
    refine ev_aload_n rfl ?_
    refine ev_iload_n rfl ?_
    refine ev_iconst ?_
    refine ev_iadd (r := 1) (by decide) ?_
    refine ev_sald (j := 1) (v := (xs 1)) rfl rfl rfl ?_
    refine ev_aload_n rfl ?_
    refine ev_iload_n rfl ?_
    refine ev_iconst ?_
    refine ev_iadd (r := 2) (by decide) ?_
    refine ev_sald (j := 2) (v := (xs 2)) rfl rfl rfl ?_
    refine ev_in (d := 7) (a := 0) (b := 0) (cd' := c248_0) (m := 4) (L0 := [(2, 42), (0, (xs 1)), (0, (xs 2)), (9, 0)]) (jcall_v (A := [(0, (xs 2)), (0, (xs 1))]) (S' := [(0, (-1))]) (r := 42) rfl (hF.1.lt (by decide)) (hF.1.sh (by decide) rfl).1 (Nat.le_of_ble_eq_true rfl)) (by decide) ml248 pp248 (Nat.le_of_ble_eq_true rfl) rfl (by decide) (by decide) ?_
    refine ev_aload_n rfl ?_
    refine ev_iload_n rfl ?_
    refine ev_in (d := 6) (a := 0) (b := 0) (cd' := c245_0) (m := 2) (L0 := [(2, 42), (0, (xs 1))]) (jcall_v (A := [(0, (xs 1))]) (S' := []) (r := 42) rfl (hF.1.lt (by decide)) (hF.1.sh (by decide) rfl).1 (Nat.le_of_ble_eq_true rfl)) (by decide) ml245 pp245 (Nat.le_of_ble_eq_true rfl) rfl (by decide) (by decide) ?_
    refine ev_iload_n rfl ?_
    refine ev_iconst ?_
    refine ev_aload_n rfl ?_
    refine ev_getf (r := 42) (v := 0) (hF.1.lt (by decide)) (hF.1.fam (by decide) (by decide)) ft12_1 ((hF.v rfl)) ?_
    refine ev_iconst ?_
    refine ev_isub (r := (-1)) (by decide) ?_
    refine ev_in (d := 5) (a := 0) (b := 0) (cd' := c242_0) (m := 3) (L0 := [(0, (xs 1)), (0, 0), (0, (-1))]) (jcall_s (A := [(0, (-1)), (0, 0), (0, (xs 1))]) (S' := []) (by decide) rfl (Nat.le_of_ble_eq_true rfl)) (by decide) ml242 pp242 (Nat.le_of_ble_eq_true rfl) rfl (by decide) (by decide) ?_
    refine ev_iload_n rfl ?_
    refine ev_iload_n rfl ?_
    refine ev_icmplt f242_14 (fun c8 => absurd c8 (by omega)) (fun c8 => ?_)
    refine ev_iload_n rfl ?_
    refine ev_iload_n rfl ?_
    refine ev_icmpgt f242_14 (fun c9 => ?_) (fun c9 => absurd c9 (by omega))
    refine ev_iconst ?_
    refine ev_ret rfl (by decide) (by decide) ?_
    show jEv _ _ _ _ _ _ _ (_, [(2, 42), (0, (xs 1))], [(0, 0)], _, _, _)
    refine ev_ret rfl (by decide) (by decide) ?_
    show jEv _ _ _ _ _ _ _ (_, [(2, 42), (0, (xs 1)), (0, (xs 2)), (9, 0)], [(0, 0)], _, _, _)
    refine ev_ifeq f248_19 (fun c10 => ?_) (fun c10 => absurd c10 (by omega))
    refine ev_iconst ?_
    refine ev_ret rfl (by decide) (by decide) ?_
    show jEv _ _ _ _ _ _ _ (_, [(2, (-2)), (2, 0), (2, 42), (0, 0)], [(0, (-1)), (0, (-1))], _, _, _)
    refine ev_icmpeq f384_2190 (fun c11 => ?_) (fun c11 => absurd c11 (by omega))
    exact law_tail _

/-! weight -/
set_option maxHeartbeats 4000000 in
theorem case_2 {xs : Nat → Int} (hr : ∀ j, -2147483648 ≤ xs j ∧ xs j < 2147483648) {h : JH} (hF : Fresh h) : jEv (jOk 8) (some 6) xs c384_0 600000 7302250 (fun v _ => v = some (0, 1)) (c384_316, [(2, -2), (2, 0), (2, 42), (0, 0)], [], h, 83, 23761) := by
  have r1 := hr 1
  have r2 := hr 2
  have r3 := hr 3
  have r4 := hr 4
  have r5 := hr 5
  refine ev_aload_n rfl ?_
  refine ev_aload_n rfl ?_
  refine ev_iload_n rfl ?_
  refine ev_iconst ?_
  refine ev_iadd (r := 1) (by decide) ?_
  refine ev_sald (j := 1) (v := (xs 1)) rfl rfl rfl ?_
  refine ev_aload_n rfl ?_
  refine ev_iload_n rfl ?_
  refine ev_iconst ?_
  refine ev_iadd (r := 2) (by decide) ?_
  refine ev_sald (j := 2) (v := (xs 2)) rfl rfl rfl ?_
  refine ev_aload_n rfl ?_
  refine ev_iload_n rfl ?_
  refine ev_iconst ?_
  refine ev_iadd (r := 3) (by decide) ?_
  refine ev_sald (j := 3) (v := (xs 3)) rfl rfl rfl ?_
  refine ev_aload_n rfl ?_
  refine ev_iload_n rfl ?_
  refine ev_iconst ?_
  refine ev_iadd (r := 4) (by decide) ?_
  refine ev_sald (j := 4) (v := (xs 4)) rfl rfl rfl ?_
  refine ev_in (d := 7) (a := 0) (b := 0) (cd' := c168_0) (m := 7) (L0 := [(2, 0), (0, (xs 1)), (0, (xs 2)), (0, (xs 3)), (0, (xs 4)), (9, 0), (9, 0)]) (jcall_v (A := [(0, (xs 4)), (0, (xs 3)), (0, (xs 2)), (0, (xs 1))]) (S' := []) (r := 0) rfl (hF.1.lt (by decide)) (hF.1.sh (by decide) rfl).1 (Nat.le_of_ble_eq_true rfl)) (by decide) ml168 pp168 (Nat.le_of_ble_eq_true rfl) rfl (by decide) (by decide) ?_
  refine ev_aload_n rfl ?_
  refine ev_getf (r := 0) (v := 1) (hF.1.lt (by decide)) (hF.1.fam (by decide) (by decide)) ft11_0 ((hF.v rfl)) ?_
  refine ev_iload_n rfl ?_
  refine ev_iload_n rfl ?_
  refine ev_iload_n rfl ?_
  refine ev_in (d := 6) (a := 0) (b := 0) (cd' := c146_0) (m := 4) (L0 := [(2, 1), (0, (xs 1)), (0, (xs 2)), (0, (xs 3))]) (jcall_v (A := [(0, (xs 3)), (0, (xs 2)), (0, (xs 1))]) (S' := []) (r := 1) rfl (hF.1.lt (by decide)) (hF.1.sh (by decide) rfl).1 (Nat.le_of_ble_eq_true rfl)) (by decide) ml146 pp146 (Nat.le_of_ble_eq_true rfl) rfl (by decide) (by decide) ?_
  refine ev_aload_n rfl ?_
  refine ev_iload_n rfl ?_
  refine ev_in (d := 5) (a := 0) (b := 0) (cd' := c140_0) (m := 2) (L0 := [(2, 1), (0, (xs 1))]) (jcall_v (A := [(0, (xs 1))]) (S' := []) (r := 1) rfl (hF.1.lt (by decide)) (hF.1.sh (by decide) rfl).1 (Nat.le_of_ble_eq_true rfl)) (by decide) ml140 pp140 (Nat.le_of_ble_eq_true rfl) rfl (by decide) (by decide) ?_
  refine ev_iload_n rfl ?_
  refine ev_iflt f140_16 (fun c1 => ?_) (fun c1 => ?_)
  · refine ev_iconst ?_
    refine ev_ret rfl (by decide) (by decide) ?_
    show jEv _ _ _ _ _ _ _ (_, [(2, 1), (0, (xs 1)), (0, (xs 2)), (0, (xs 3))], [(0, 0)], _, _, _)
    refine ev_ifeq f146_39 (fun c2 => ?_) (fun c2 => absurd c2 (by omega))
    refine ev_iconst ?_
    refine ev_ret rfl (by decide) (by decide) ?_
    show jEv _ _ _ _ _ _ _ (_, [(2, 0), (0, (xs 1)), (0, (xs 2)), (0, (xs 3)), (0, (xs 4)), (9, 0), (9, 0)], [(0, 0)], _, _, _)
    refine ev_ifeq f168_26 (fun c3 => ?_) (fun c3 => absurd c3 (by omega))
    refine ev_iconst ?_
    refine ev_ret rfl (by decide) (by decide) ?_
    show jEv _ _ _ _ _ _ _ (_, [(2, (-2)), (2, 0), (2, 42), (0, 0)], [(0, (-1))], _, _, _)
    refine ev_aload_n rfl ?_
    refine ev_aload_n rfl ?_
    refine ev_iload_n rfl ?_
    refine ev_iconst ?_
    refine ev_iadd (r := 1) (by decide) ?_
    refine ev_sald (j := 1) (v := (xs 1)) rfl rfl rfl ?_
    refine ev_aload_n rfl ?_
    refine ev_iload_n rfl ?_
    refine ev_iconst ?_
    refine ev_iadd (r := 2) (by decide) ?_
    refine ev_sald (j := 2) (v := (xs 2)) rfl rfl rfl ?_
    refine ev_aload_n rfl ?_
    refine ev_iload_n rfl ?_
    refine ev_iconst ?_
    refine ev_iadd (r := 3) (by decide) ?_
    refine ev_sald (j := 3) (v := (xs 3)) rfl rfl rfl ?_
    refine ev_aload_n rfl ?_
    refine ev_iload_n rfl ?_
    refine ev_iconst ?_
    refine ev_iadd (r := 4) (by decide) ?_
    refine ev_sald (j := 4) (v := (xs 4)) rfl rfl rfl ?_
    refine ev_in (d := 7) (a := 0) (b := 0) (cd' := c250_0) (m := 7) (L0 := [(2, 42), (0, (xs 1)), (0, (xs 2)), (0, (xs 3)), (0, (xs 4)), (9, 0), (9, 0)]) (jcall_v (A := [(0, (xs 4)), (0, (xs 3)), (0, (xs 2)), (0, (xs 1))]) (S' := [(0, (-1))]) (r := 42) rfl (hF.1.lt (by decide)) (hF.1.sh (by decide) rfl).1 (Nat.le_of_ble_eq_true rfl)) (by decide) ml250 pp250 (Nat.le_of_ble_eq_true rfl) rfl (by decide) (by decide) ?_
    refine ev_aload_n rfl ?_
    refine ev_iload_n rfl ?_
    refine ev_iload_n rfl ?_
    refine ev_iload_n rfl ?_
    refine ev_in (d := 6) (a := 0) (b := 0) (cd' := c249_0) (m := 4) (L0 := [(2, 42), (0, (xs 1)), (0, (xs 2)), (0, (xs 3))]) (jcall_v (A := [(0, (xs 3)), (0, (xs 2)), (0, (xs 1))]) (S' := []) (r := 42) rfl (hF.1.lt (by decide)) (hF.1.sh (by decide) rfl).1 (Nat.le_of_ble_eq_true rfl)) (by decide) ml249 pp249 (Nat.le_of_ble_eq_true rfl) rfl (by decide) (by decide) ?_
    refine ev_aload_n rfl ?_
    refine ev_iload_n rfl ?_
    refine ev_in (d := 5) (a := 0) (b := 0) (cd' := c245_0) (m := 2) (L0 := [(2, 42), (0, (xs 1))]) (jcall_v (A := [(0, (xs 1))]) (S' := []) (r := 42) rfl (hF.1.lt (by decide)) (hF.1.sh (by decide) rfl).1 (Nat.le_of_ble_eq_true rfl)) (by decide) ml245 pp245 (Nat.le_of_ble_eq_true rfl) rfl (by decide) (by decide) ?_
    refine ev_iload_n rfl ?_
    refine ev_iconst ?_
    refine ev_aload_n rfl ?_
    refine ev_getf (r := 42) (v := 0) (hF.1.lt (by decide)) (hF.1.fam (by decide) (by decide)) ft12_1 ((hF.v rfl)) ?_
    refine ev_iconst ?_
    refine ev_isub (r := (-1)) (by decide) ?_
    refine ev_in (d := 4) (a := 0) (b := 0) (cd' := c242_0) (m := 3) (L0 := [(0, (xs 1)), (0, 0), (0, (-1))]) (jcall_s (A := [(0, (-1)), (0, 0), (0, (xs 1))]) (S' := []) (by decide) rfl (Nat.le_of_ble_eq_true rfl)) (by decide) ml242 pp242 (Nat.le_of_ble_eq_true rfl) rfl (by decide) (by decide) ?_
    refine ev_iload_n rfl ?_
    refine ev_iload_n rfl ?_
    refine ev_icmplt f242_14 (fun c4 => ?_) (fun c4 => absurd c4 (by omega))
    refine ev_iconst ?_
    refine ev_ret rfl (by decide) (by decide) ?_
    show jEv _ _ _ _ _ _ _ (_, [(2, 42), (0, (xs 1))], [(0, 0)], _, _, _)
    refine ev_ret rfl (by decide) (by decide) ?_
    show jEv _ _ _ _ _ _ _ (_, [(2, 42), (0, (xs 1)), (0, (xs 2)), (0, (xs 3))], [(0, 0)], _, _, _)
    refine ev_ifeq f249_43 (fun c5 => ?_) (fun c5 => absurd c5 (by omega))
    refine ev_iconst ?_
    refine ev_ret rfl (by decide) (by decide) ?_
    show jEv _ _ _ _ _ _ _ (_, [(2, 42), (0, (xs 1)), (0, (xs 2)), (0, (xs 3)), (0, (xs 4)), (9, 0), (9, 0)], [(0, 0)], _, _, _)
    refine ev_ifeq f250_21 (fun c6 => ?_) (fun c6 => absurd c6 (by omega))
    refine ev_iconst ?_
    refine ev_ret rfl (by decide) (by decide) ?_
    show jEv _ _ _ _ _ _ _ (_, [(2, (-2)), (2, 0), (2, 42), (0, 0)], [(0, (-1)), (0, (-1))], _, _, _)
    refine ev_icmpeq f384_2190 (fun c7 => ?_) (fun c7 => absurd c7 (by omega))
    exact law_tail _
  · refine ev_iload_n rfl ?_
    refine ev_aload_n rfl ?_
    refine ev_getf (r := 1) (v := 0) (hF.1.lt (by decide)) (hF.1.fam (by decide) (by decide)) ft10_0 ((hF.v rfl)) ?_
    refine ev_icmpge f140_16 (fun c8 => ?_) (fun c8 => absurd c8 (by omega))
    refine ev_iconst ?_
    refine ev_ret rfl (by decide) (by decide) ?_
    show jEv _ _ _ _ _ _ _ (_, [(2, 1), (0, (xs 1)), (0, (xs 2)), (0, (xs 3))], [(0, 0)], _, _, _)
    refine ev_ifeq f146_39 (fun c9 => ?_) (fun c9 => absurd c9 (by omega))
    refine ev_iconst ?_
    refine ev_ret rfl (by decide) (by decide) ?_
    show jEv _ _ _ _ _ _ _ (_, [(2, 0), (0, (xs 1)), (0, (xs 2)), (0, (xs 3)), (0, (xs 4)), (9, 0), (9, 0)], [(0, 0)], _, _, _)
    refine ev_ifeq f168_26 (fun c10 => ?_) (fun c10 => absurd c10 (by omega))
    refine ev_iconst ?_
    refine ev_ret rfl (by decide) (by decide) ?_
    show jEv _ _ _ _ _ _ _ (_, [(2, (-2)), (2, 0), (2, 42), (0, 0)], [(0, (-1))], _, _, _)
    refine ev_aload_n rfl ?_
    refine ev_aload_n rfl ?_
    refine ev_iload_n rfl ?_
    refine ev_iconst ?_
    refine ev_iadd (r := 1) (by decide) ?_
    refine ev_sald (j := 1) (v := (xs 1)) rfl rfl rfl ?_
    refine ev_aload_n rfl ?_
    refine ev_iload_n rfl ?_
    refine ev_iconst ?_
    refine ev_iadd (r := 2) (by decide) ?_
    refine ev_sald (j := 2) (v := (xs 2)) rfl rfl rfl ?_
    refine ev_aload_n rfl ?_
    refine ev_iload_n rfl ?_
    refine ev_iconst ?_
    refine ev_iadd (r := 3) (by decide) ?_
    refine ev_sald (j := 3) (v := (xs 3)) rfl rfl rfl ?_
    refine ev_aload_n rfl ?_
    refine ev_iload_n rfl ?_
    refine ev_iconst ?_
    refine ev_iadd (r := 4) (by decide) ?_
    refine ev_sald (j := 4) (v := (xs 4)) rfl rfl rfl ?_
    refine ev_in (d := 7) (a := 0) (b := 0) (cd' := c250_0) (m := 7) (L0 := [(2, 42), (0, (xs 1)), (0, (xs 2)), (0, (xs 3)), (0, (xs 4)), (9, 0), (9, 0)]) (jcall_v (A := [(0, (xs 4)), (0, (xs 3)), (0, (xs 2)), (0, (xs 1))]) (S' := [(0, (-1))]) (r := 42) rfl (hF.1.lt (by decide)) (hF.1.sh (by decide) rfl).1 (Nat.le_of_ble_eq_true rfl)) (by decide) ml250 pp250 (Nat.le_of_ble_eq_true rfl) rfl (by decide) (by decide) ?_
    refine ev_aload_n rfl ?_
    refine ev_iload_n rfl ?_
    refine ev_iload_n rfl ?_
    refine ev_iload_n rfl ?_
    refine ev_in (d := 6) (a := 0) (b := 0) (cd' := c249_0) (m := 4) (L0 := [(2, 42), (0, (xs 1)), (0, (xs 2)), (0, (xs 3))]) (jcall_v (A := [(0, (xs 3)), (0, (xs 2)), (0, (xs 1))]) (S' := []) (r := 42) rfl (hF.1.lt (by decide)) (hF.1.sh (by decide) rfl).1 (Nat.le_of_ble_eq_true rfl)) (by decide) ml249 pp249 (Nat.le_of_ble_eq_true rfl) rfl (by decide) (by decide) ?_
    refine ev_aload_n rfl ?_
    refine ev_iload_n rfl ?_
    refine ev_in (d := 5) (a := 0) (b := 0) (cd' := c245_0) (m := 2) (L0 := [(2, 42), (0, (xs 1))]) (jcall_v (A := [(0, (xs 1))]) (S' := []) (r := 42) rfl (hF.1.lt (by decide)) (hF.1.sh (by decide) rfl).1 (Nat.le_of_ble_eq_true rfl)) (by decide) ml245 pp245 (Nat.le_of_ble_eq_true rfl) rfl (by decide) (by decide) ?_
    refine ev_iload_n rfl ?_
    refine ev_iconst ?_
    refine ev_aload_n rfl ?_
    refine ev_getf (r := 42) (v := 0) (hF.1.lt (by decide)) (hF.1.fam (by decide) (by decide)) ft12_1 ((hF.v rfl)) ?_
    refine ev_iconst ?_
    refine ev_isub (r := (-1)) (by decide) ?_
    refine ev_in (d := 4) (a := 0) (b := 0) (cd' := c242_0) (m := 3) (L0 := [(0, (xs 1)), (0, 0), (0, (-1))]) (jcall_s (A := [(0, (-1)), (0, 0), (0, (xs 1))]) (S' := []) (by decide) rfl (Nat.le_of_ble_eq_true rfl)) (by decide) ml242 pp242 (Nat.le_of_ble_eq_true rfl) rfl (by decide) (by decide) ?_
    refine ev_iload_n rfl ?_
    refine ev_iload_n rfl ?_
    refine ev_icmplt f242_14 (fun c11 => absurd c11 (by omega)) (fun c11 => ?_)
    refine ev_iload_n rfl ?_
    refine ev_iload_n rfl ?_
    refine ev_icmpgt f242_14 (fun c12 => ?_) (fun c12 => absurd c12 (by omega))
    refine ev_iconst ?_
    refine ev_ret rfl (by decide) (by decide) ?_
    show jEv _ _ _ _ _ _ _ (_, [(2, 42), (0, (xs 1))], [(0, 0)], _, _, _)
    refine ev_ret rfl (by decide) (by decide) ?_
    show jEv _ _ _ _ _ _ _ (_, [(2, 42), (0, (xs 1)), (0, (xs 2)), (0, (xs 3))], [(0, 0)], _, _, _)
    refine ev_ifeq f249_43 (fun c13 => ?_) (fun c13 => absurd c13 (by omega))
    refine ev_iconst ?_
    refine ev_ret rfl (by decide) (by decide) ?_
    show jEv _ _ _ _ _ _ _ (_, [(2, 42), (0, (xs 1)), (0, (xs 2)), (0, (xs 3)), (0, (xs 4)), (9, 0), (9, 0)], [(0, 0)], _, _, _)
    refine ev_ifeq f250_21 (fun c14 => ?_) (fun c14 => absurd c14 (by omega))
    refine ev_iconst ?_
    refine ev_ret rfl (by decide) (by decide) ?_
    show jEv _ _ _ _ _ _ _ (_, [(2, (-2)), (2, 0), (2, 42), (0, 0)], [(0, (-1)), (0, (-1))], _, _, _)
    refine ev_icmpeq f384_2190 (fun c15 => ?_) (fun c15 => absurd c15 (by omega))
    exact law_tail _

/-! bottom -/
set_option maxHeartbeats 4000000 in
theorem case_3 {xs : Nat → Int} (hr : ∀ j, -2147483648 ≤ xs j ∧ xs j < 2147483648) {h : JH} (hF : Fresh h) : jEv (jOk 8) (some 6) xs c384_0 600000 7302250 (fun v _ => v = some (0, 1)) (c384_369, [(2, -2), (2, 0), (2, 42), (0, 0)], [], h, 83, 23761) := by
  have r1 := hr 1
  have r2 := hr 2
  have r3 := hr 3
  have r4 := hr 4
  have r5 := hr 5
  refine ev_aload_n rfl ?_
  refine ev_in (d := 7) (a := 0) (b := 0) (cd' := c169_0) (m := 1) (L0 := [(2, 0)]) (jcall_v (A := []) (S' := []) (r := 0) rfl (hF.1.lt (by decide)) (hF.1.sh (by decide) rfl).1 (Nat.le_of_ble_eq_true rfl)) (by decide) ml169 pp169 (Nat.le_of_ble_eq_true rfl) rfl (by decide) (by decide) ?_
  refine ev_aload_n rfl ?_
  refine ev_getf (r := 0) (v := 1) (hF.1.lt (by decide)) (hF.1.fam (by decide) (by decide)) ft11_0 ((hF.v rfl)) ?_
  refine ev_in (d := 6) (a := 0) (b := 0) (cd' := c153_0) (m := 1) (L0 := [(2, 1)]) (jcall_v (A := []) (S' := []) (r := 1) rfl (hF.1.lt (by decide)) (hF.1.sh (by decide) rfl).1 (Nat.le_of_ble_eq_true rfl)) (by decide) ml153 pp153 (Nat.le_of_ble_eq_true rfl) rfl (by decide) (by decide) ?_
  refine ev_aload_n rfl ?_
  refine ev_getf (r := 1) (v := 0) (hF.1.lt (by decide)) (hF.1.fam (by decide) (by decide)) ft10_2 ((hF.v rfl)) ?_
  refine ev_ifne f153_33 (fun c1 => absurd c1 (by omega)) (fun c1 => ?_)
  refine ev_aload_n rfl ?_
  refine ev_iconst ?_
  refine ev_putfG (r := 1) (hF.1.lt (by decide)) (hF.1.fam (by decide) (by decide)) ft10_2 (fun _ => by decide) (fun e => absurd e (by decide)) (fun h25 e25 => ?_)
  have hS25 := hF.1.wr e25
  refine ev_aload_n rfl ?_
  refine ev_aload_n rfl ?_
  refine ev_in (d := 5) (a := 0) (b := 0) (cd' := c152_0) (m := 6) (L0 := [(2, 1), (9, 0), (9, 0), (9, 0), (9, 0), (9, 0)]) (jcall_v (A := []) (S' := [(2, 1)]) (r := 1) rfl (hS25.lt (by decide)) (hS25.sh (by decide) rfl).1 (Nat.le_of_ble_eq_true rfl)) (by decide) ml152 pp152 (Nat.le_of_ble_eq_true rfl) rfl (by decide) (by decide) ?_
  refine ev_lconst ?_
  refine ev_lstore_n (L' := [(2, 1), (1, 1), (9, 0), (9, 0), (9, 0), (9, 0)]) (Nat.le_of_ble_eq_true rfl) rfl ?_
  refine ev_iconst ?_
  refine ev_istore_n (L' := [(2, 1), (1, 1), (9, 0), (0, 0), (9, 0), (9, 0)]) (Nat.le_of_ble_eq_true rfl) rfl ?_
  refine ev_iload_n rfl ?_
  refine ev_aload_n rfl ?_
  refine ev_getf (r := 1) (v := 0) (hS25.lt (by decide)) (hS25.fam (by decide) (by decide)) ft10_0 ((jw_ne e25 (Or.inr (by decide))).trans ((hF.v rfl))) ?_
  refine ev_icmpge f152_50 (fun c2 => ?_) (fun c2 => absurd c2 (by omega))
  refine ev_lload_n rfl ?_
  refine ev_ret rfl (by decide) (by decide) ?_
  show jEv _ _ _ _ _ _ _ (_, [(2, 1)], [(1, 1), (2, 1)], _, _, _)
  refine ev_putfG (r := 1) (hS25.lt (by decide)) (hS25.fam (by decide) (by decide)) ft10_1 (fun e => absurd e nz10_1) (fun e => absurd e (by decide)) (fun h26 e26 => ?_)
  have hS26 := hS25.wr e26
  refine ev_aload_n rfl ?_
  refine ev_getf (r := 1) (v := 1) (hS26.lt (by decide)) (hS26.fam (by decide) (by decide)) ft10_1 (jw_eq e26) ?_
  refine ev_lconst ?_
  refine ev_lcmp ?_
  refine ev_ifle f153_33 (fun c3 => absurd c3 (by unfold jcmpL; (repeat' split) <;> omega)) (fun c3 => ?_)
  refine ev_aload_n rfl ?_
  refine ev_in (d := 5) (a := 0) (b := 0) (cd' := c154_0) (m := 6) (L0 := [(2, 1), (9, 0), (9, 0), (9, 0), (9, 0), (9, 0)]) (jcall_v (A := []) (S' := []) (r := 1) rfl (hS26.lt (by decide)) (hS26.sh (by decide) rfl).1 (Nat.le_of_ble_eq_true rfl)) (by decide) ml154 pp154 (Nat.le_of_ble_eq_true rfl) rfl (by decide) (by decide) ?_
  refine ev_iconst ?_
  refine ev_istore_n (L' := [(2, 1), (0, 0), (9, 0), (9, 0), (9, 0), (9, 0)]) (Nat.le_of_ble_eq_true rfl) rfl ?_
  refine ev_iload_n rfl ?_
  refine ev_aload_n rfl ?_
  refine ev_getf (r := 1) (v := 0) (hS26.lt (by decide)) (hS26.fam (by decide) (by decide)) ft10_0 ((jw_ne e26 (Or.inr (by decide))).trans ((jw_ne e25 (Or.inr (by decide))).trans ((hF.v rfl)))) ?_
  refine ev_icmpge f154_76 (fun c4 => ?_) (fun c4 => absurd c4 (by omega))
  refine ev_aload_n rfl ?_
  refine ev_getf (r := 1) (v := 6) (hS26.lt (by decide)) (hS26.fam (by decide) (by decide)) ft10_7 ((jw_ne e26 (Or.inr (by decide))).trans ((jw_ne e25 (Or.inr (by decide))).trans ((hF.v rfl)))) ?_
  refine ev_iconst ?_
  refine ev_lconst ?_
  refine ev_lastG (r := 6) (j := 0) (hS26.lt (by decide)) (hS26.sh (by decide) rfl).1 rfl (hS26.inb (by decide) (by decide)) (fun h27 e27 => ?_)
  have hS27 := hS26.wr e27
  refine ev_iconst ?_
  refine ev_istore_n (L' := [(2, 1), (0, 0), (9, 0), (9, 0), (9, 0), (9, 0)]) (Nat.le_of_ble_eq_true rfl) rfl ?_
  refine ev_iload_n rfl ?_
  refine ev_aload_n rfl ?_
  refine ev_getf (r := 1) (v := 0) (hS27.lt (by decide)) (hS27.fam (by decide) (by decide)) ft10_0 ((jw_ne e27 (Or.inl (by decide))).trans ((jw_ne e26 (Or.inr (by decide))).trans ((jw_ne e25 (Or.inr (by decide))).trans ((hF.v rfl))))) ?_
  refine ev_icmpge f154_104 (fun c5 => ?_) (fun c5 => absurd c5 (by omega))
  refine ev_iconst ?_
  refine ev_istore_n (L' := [(2, 1), (0, 0), (9, 0), (9, 0), (9, 0), (9, 0)]) (Nat.le_of_ble_eq_true rfl) rfl ?_
  refine ev_iload_n rfl ?_
  refine ev_aload_n rfl ?_
  refine ev_getf (r := 1) (v := 0) (hS27.lt (by decide)) (hS27.fam (by decide) (by decide)) ft10_0 ((jw_ne e27 (Or.inl (by decide))).trans ((jw_ne e26 (Or.inr (by decide))).trans ((jw_ne e25 (Or.inr (by decide))).trans ((hF.v rfl))))) ?_
  refine ev_icmpge f154_125 (fun c6 => ?_) (fun c6 => absurd c6 (by omega))
  refine ev_ret rfl (by decide) (by decide) ?_
  show jEv _ _ _ _ _ _ _ (_, [(2, 1)], [], _, _, _)
  refine ev_aload_n rfl ?_
  refine ev_getf (r := 1) (v := 1) (hS27.lt (by decide)) (hS27.fam (by decide) (by decide)) ft10_1 ((jw_ne e27 (Or.inl (by decide))).trans (jw_eq e26)) ?_
  refine ev_lconst ?_
  refine ev_lcmp ?_
  refine ev_ifle f153_46 (fun c7 => absurd c7 (by unfold jcmpL; (repeat' split) <;> omega)) (fun c7 => ?_)
  refine ev_iconst ?_
  refine ev_goto f153_47 ?_
  refine ev_ret rfl (by decide) (by decide) ?_
  show jEv _ _ _ _ _ _ _ (_, [(2, 0)], [(0, 1)], _, _, _)
  refine ev_ifeq f169_20 (fun c8 => absurd c8 (by omega)) (fun c8 => ?_)
  refine ev_aload_n rfl ?_
  refine ev_getf (r := 0) (v := 1) (hS27.lt (by decide)) (hS27.fam (by decide) (by decide)) ft11_0 ((jw_ne e27 (Or.inl (by decide))).trans ((jw_ne e26 (Or.inl (by decide))).trans ((jw_ne e25 (Or.inl (by decide))).trans ((hF.v rfl))))) ?_
  refine ev_getf (r := 1) (v := 1) (hS27.lt (by decide)) (hS27.fam (by decide) (by decide)) ft10_1 ((jw_ne e27 (Or.inl (by decide))).trans (jw_eq e26)) ?_
  refine ev_goto f169_23 ?_
  refine ev_ret rfl (by decide) (by decide) ?_
  show jEv _ _ _ _ _ _ _ (_, [(2, (-2)), (2, 0), (2, 42), (0, 0)], [(1, 1)], _, _, _)
  refine ev_aload_n rfl ?_
  refine ev_in (d := 7) (a := 0) (b := 0) (cd' := c254_0) (m := 1) (L0 := [(2, 42)]) (jcall_v (A := []) (S' := [(1, 1)]) (r := 42) rfl (hS27.lt (by decide)) (hS27.sh (by decide) rfl).1 (Nat.le_of_ble_eq_true rfl)) (by decide) ml254 pp254 (Nat.le_of_ble_eq_true rfl) rfl (by decide) (by decide) ?_
  refine ev_aload_n rfl ?_
  refine ev_in (d := 6) (a := 0) (b := 0) (cd' := c253_0) (m := 6) (L0 := [(2, 42), (9, 0), (9, 0), (9, 0), (9, 0), (9, 0)]) (jcall_v (A := []) (S' := []) (r := 42) rfl (hS27.lt (by decide)) (hS27.sh (by decide) rfl).1 (Nat.le_of_ble_eq_true rfl)) (by decide) ml253 pp253 (Nat.le_of_ble_eq_true rfl) rfl (by decide) (by decide) ?_
  refine ev_lconst ?_
  refine ev_lstore_n (L' := [(2, 42), (1, 1), (9, 0), (9, 0), (9, 0), (9, 0)]) (Nat.le_of_ble_eq_true rfl) rfl ?_
  refine ev_iconst ?_
  refine ev_istore_n (L' := [(2, 42), (1, 1), (9, 0), (0, 0), (9, 0), (9, 0)]) (Nat.le_of_ble_eq_true rfl) rfl ?_
  refine ev_iload_n rfl ?_
  refine ev_aload_n rfl ?_
  refine ev_getf (r := 42) (v := 0) (hS27.lt (by decide)) (hS27.fam (by decide) (by decide)) ft12_1 ((jw_ne e27 (Or.inl (by decide))).trans ((jw_ne e26 (Or.inl (by decide))).trans ((jw_ne e25 (Or.inl (by decide))).trans ((hF.v rfl))))) ?_
  refine ev_icmpge f253_45 (fun c9 => ?_) (fun c9 => absurd c9 (by omega))
  refine ev_lload_n rfl ?_
  refine ev_ret rfl (by decide) (by decide) ?_
  show jEv _ _ _ _ _ _ _ (_, [(2, 42)], [(1, 1)], _, _, _)
  refine ev_ret rfl (by decide) (by decide) ?_
  show jEv _ _ _ _ _ _ _ (_, [(2, (-2)), (2, 0), (2, 42), (0, 0)], [(1, 1), (1, 1)], _, _, _)
  refine ev_lcmp ?_
  refine ev_ifeq f384_2190 (fun c10 => ?_) (fun c10 => absurd (show _ from by unfold jcmpL; (repeat' split) <;> omega) c10)
  exact law_tail _

/-! number -/
set_option maxHeartbeats 4000000 in
theorem case_4 {xs : Nat → Int} (hr : ∀ j, -2147483648 ≤ xs j ∧ xs j < 2147483648) {h : JH} (hF : Fresh h) : jEv (jOk 8) (some 6) xs c384_0 600000 7302250 (fun v _ => v = some (0, 1)) (c384_383, [(2, -2), (2, 0), (2, 42), (0, 0)], [], h, 83, 23761) := by
  have r1 := hr 1
  have r2 := hr 2
  have r3 := hr 3
  have r4 := hr 4
  have r5 := hr 5
  refine ev_aload_n rfl ?_
  refine ev_aload_n rfl ?_
  refine ev_iload_n rfl ?_
  refine ev_iconst ?_
  refine ev_iadd (r := 1) (by decide) ?_
  refine ev_sald (j := 1) (v := (xs 1)) rfl rfl rfl ?_
  refine ev_in (d := 7) (a := 0) (b := 0) (cd' := c170_0) (m := 2) (L0 := [(2, 0), (0, (xs 1))]) (jcall_v (A := [(0, (xs 1))]) (S' := []) (r := 0) rfl (hF.1.lt (by decide)) (hF.1.sh (by decide) rfl).1 (Nat.le_of_ble_eq_true rfl)) (by decide) ml170 pp170 (Nat.le_of_ble_eq_true rfl) rfl (by decide) (by decide) ?_
  refine ev_aload_n rfl ?_
  refine ev_getf (r := 0) (v := 1) (hF.1.lt (by decide)) (hF.1.fam (by decide) (by decide)) ft11_0 ((hF.v rfl)) ?_
  refine ev_iload_n rfl ?_
  refine ev_in (d := 6) (a := 0) (b := 0) (cd' := c159_0) (m := 3) (L0 := [(2, 1), (0, (xs 1)), (9, 0)]) (jcall_v (A := [(0, (xs 1))]) (S' := []) (r := 1) rfl (hF.1.lt (by decide)) (hF.1.sh (by decide) rfl).1 (Nat.le_of_ble_eq_true rfl)) (by decide) ml159 pp159 (Nat.le_of_ble_eq_true rfl) rfl (by decide) (by decide) ?_
  refine ev_iload_n rfl ?_
  refine ev_iflt f159_12 (fun c1 => ?_) (fun c1 => ?_)
  · refine ev_iconst ?_
    refine ev_ret rfl (by decide) (by decide) ?_
    show jEv _ _ _ _ _ _ _ (_, [(2, 0), (0, (xs 1))], [(0, 0)], _, _, _)
    refine ev_ifne f170_15 (fun c2 => absurd c2 (by omega)) (fun c2 => ?_)
    refine ev_ldc2_w ?_
    refine ev_ret rfl (by decide) (by decide) ?_
    show jEv _ _ _ _ _ _ _ (_, [(2, (-2)), (2, 0), (2, 42), (0, 0)], [(1, (-1))], _, _, _)
    refine ev_aload_n rfl ?_
    refine ev_aload_n rfl ?_
    refine ev_iload_n rfl ?_
    refine ev_iconst ?_
    refine ev_iadd (r := 1) (by decide) ?_
    refine ev_sald (j := 1) (v := (xs 1)) rfl rfl rfl ?_
    refine ev_in (d := 7) (a := 0) (b := 0) (cd' := c257_0) (m := 6) (L0 := [(2, 42), (0, (xs 1)), (9, 0), (9, 0), (9, 0), (9, 0)]) (jcall_v (A := [(0, (xs 1))]) (S' := [(1, (-1))]) (r := 42) rfl (hF.1.lt (by decide)) (hF.1.sh (by decide) rfl).1 (Nat.le_of_ble_eq_true rfl)) (by decide) ml257 pp257 (Nat.le_of_ble_eq_true rfl) rfl (by decide) (by decide) ?_
    refine ev_iload_n rfl ?_
    refine ev_iflt f257_15 (fun c3 => ?_) (fun c3 => absurd c3 (by omega))
    refine ev_ldc2_w ?_
    refine ev_ret rfl (by decide) (by decide) ?_
    show jEv _ _ _ _ _ _ _ (_, [(2, (-2)), (2, 0), (2, 42), (0, 0)], [(1, (-1)), (1, (-1))], _, _, _)
    refine ev_lcmp ?_
    refine ev_ifeq f384_2190 (fun c4 => ?_) (fun c4 => absurd (show _ from by unfold jcmpL; (repeat' split) <;> omega) c4)
    exact law_tail _
  · refine ev_iload_n rfl ?_
    refine ev_aload_n rfl ?_
    refine ev_in (d := 5) (a := 0) (b := 0) (cd' := c157_0) (m := 1) (L0 := [(2, 1)]) (jcall_v (A := []) (S' := [(0, (xs 1))]) (r := 1) rfl (hF.1.lt (by decide)) (hF.1.sh (by decide) rfl).1 (Nat.le_of_ble_eq_true rfl)) (by decide) ml157 pp157 (Nat.le_of_ble_eq_true rfl) rfl (by decide) (by decide) ?_
    refine ev_iconst ?_
    refine ev_iconst ?_
    refine ev_aload_n rfl ?_
    refine ev_getf (r := 1) (v := 0) (hF.1.lt (by decide)) (hF.1.fam (by decide) (by decide)) ft10_0 ((hF.v rfl)) ?_
    refine ev_imul (r := 0) (by decide) ?_
    refine ev_ishl (r := 1) (by decide) ?_
    refine ev_ret rfl (by decide) (by decide) ?_
    show jEv _ _ _ _ _ _ _ (_, [(2, 1), (0, (xs 1)), (9, 0)], [(0, 1), (0, (xs 1))], _, _, _)
    refine ev_icmplt f159_14 (fun c5 => ?_) (fun c5 => ?_)
    · refine ev_iconst ?_
      refine ev_istore_n (L' := [(2, 1), (0, (xs 1)), (0, 0)]) (Nat.le_of_ble_eq_true rfl) rfl ?_
      refine ev_iload_n rfl ?_
      refine ev_aload_n rfl ?_
      refine ev_getf (r := 1) (v := 0) (hF.1.lt (by decide)) (hF.1.fam (by decide) (by decide)) ft10_0 ((hF.v rfl)) ?_
      refine ev_icmpge f159_48 (fun c6 => ?_) (fun c6 => absurd c6 (by omega))
      refine ev_iconst ?_
      refine ev_ret rfl (by decide) (by decide) ?_
      show jEv _ _ _ _ _ _ _ (_, [(2, 0), (0, (xs 1))], [(0, 1)], _, _, _)
      refine ev_ifne f170_15 (fun c7 => ?_) (fun c7 => absurd c7 (by omega))
      refine ev_aload_n rfl ?_
      refine ev_getf (r := 0) (v := 1) (hF.1.lt (by decide)) (hF.1.fam (by decide) (by decide)) ft11_0 ((hF.v rfl)) ?_
      refine ev_in (d := 6) (a := 0) (b := 0) (cd' := c153_0) (m := 1) (L0 := [(2, 1)]) (jcall_v (A := []) (S' := []) (r := 1) rfl (hF.1.lt (by decide)) (hF.1.sh (by decide) rfl).1 (Nat.le_of_ble_eq_true rfl)) (by decide) ml153 pp153 (Nat.le_of_ble_eq_true rfl) rfl (by decide) (by decide) ?_
      refine ev_aload_n rfl ?_
      refine ev_getf (r := 1) (v := 0) (hF.1.lt (by decide)) (hF.1.fam (by decide) (by decide)) ft10_2 ((hF.v rfl)) ?_
      refine ev_ifne f153_33 (fun c8 => absurd c8 (by omega)) (fun c8 => ?_)
      refine ev_aload_n rfl ?_
      refine ev_iconst ?_
      refine ev_putfG (r := 1) (hF.1.lt (by decide)) (hF.1.fam (by decide) (by decide)) ft10_2 (fun _ => by decide) (fun e => absurd e (by decide)) (fun h28 e28 => ?_)
      have hS28 := hF.1.wr e28
      refine ev_aload_n rfl ?_
      refine ev_aload_n rfl ?_
      refine ev_in (d := 5) (a := 0) (b := 0) (cd' := c152_0) (m := 6) (L0 := [(2, 1), (9, 0), (9, 0), (9, 0), (9, 0), (9, 0)]) (jcall_v (A := []) (S' := [(2, 1)]) (r := 1) rfl (hS28.lt (by decide)) (hS28.sh (by decide) rfl).1 (Nat.le_of_ble_eq_true rfl)) (by decide) ml152 pp152 (Nat.le_of_ble_eq_true rfl) rfl (by decide) (by decide) ?_
      refine ev_lconst ?_
      refine ev_lstore_n (L' := [(2, 1), (1, 1), (9, 0), (9, 0), (9, 0), (9, 0)]) (Nat.le_of_ble_eq_true rfl) rfl ?_
      refine ev_iconst ?_
      refine ev_istore_n (L' := [(2, 1), (1, 1), (9, 0), (0, 0), (9, 0), (9, 0)]) (Nat.le_of_ble_eq_true rfl) rfl ?_
      refine ev_iload_n rfl ?_
      refine ev_aload_n rfl ?_
      refine ev_getf (r := 1) (v := 0) (hS28.lt (by decide)) (hS28.fam (by decide) (by decide)) ft10_0 ((jw_ne e28 (Or.inr (by decide))).trans ((hF.v rfl))) ?_
      refine ev_icmpge f152_50 (fun c9 => ?_) (fun c9 => absurd c9 (by omega))
      refine ev_lload_n rfl ?_
      refine ev_ret rfl (by decide) (by decide) ?_
      show jEv _ _ _ _ _ _ _ (_, [(2, 1)], [(1, 1), (2, 1)], _, _, _)
      refine ev_putfG (r := 1) (hS28.lt (by decide)) (hS28.fam (by decide) (by decide)) ft10_1 (fun e => absurd e nz10_1) (fun e => absurd e (by decide)) (fun h29 e29 => ?_)
      have hS29 := hS28.wr e29
      refine ev_aload_n rfl ?_
      refine ev_getf (r := 1) (v := 1) (hS29.lt (by decide)) (hS29.fam (by decide) (by decide)) ft10_1 (jw_eq e29) ?_
      refine ev_lconst ?_
      refine ev_lcmp ?_
      refine ev_ifle f153_33 (fun c10 => absurd c10 (by unfold jcmpL; (repeat' split) <;> omega)) (fun c10 => ?_)
      refine ev_aload_n rfl ?_
      refine ev_in (d := 5) (a := 0) (b := 0) (cd' := c154_0) (m := 6) (L0 := [(2, 1), (9, 0), (9, 0), (9, 0), (9, 0), (9, 0)]) (jcall_v (A := []) (S' := []) (r := 1) rfl (hS29.lt (by decide)) (hS29.sh (by decide) rfl).1 (Nat.le_of_ble_eq_true rfl)) (by decide) ml154 pp154 (Nat.le_of_ble_eq_true rfl) rfl (by decide) (by decide) ?_
      refine ev_iconst ?_
      refine ev_istore_n (L' := [(2, 1), (0, 0), (9, 0), (9, 0), (9, 0), (9, 0)]) (Nat.le_of_ble_eq_true rfl) rfl ?_
      refine ev_iload_n rfl ?_
      refine ev_aload_n rfl ?_
      refine ev_getf (r := 1) (v := 0) (hS29.lt (by decide)) (hS29.fam (by decide) (by decide)) ft10_0 ((jw_ne e29 (Or.inr (by decide))).trans ((jw_ne e28 (Or.inr (by decide))).trans ((hF.v rfl)))) ?_
      refine ev_icmpge f154_76 (fun c11 => ?_) (fun c11 => absurd c11 (by omega))
      refine ev_aload_n rfl ?_
      refine ev_getf (r := 1) (v := 6) (hS29.lt (by decide)) (hS29.fam (by decide) (by decide)) ft10_7 ((jw_ne e29 (Or.inr (by decide))).trans ((jw_ne e28 (Or.inr (by decide))).trans ((hF.v rfl)))) ?_
      refine ev_iconst ?_
      refine ev_lconst ?_
      refine ev_lastG (r := 6) (j := 0) (hS29.lt (by decide)) (hS29.sh (by decide) rfl).1 rfl (hS29.inb (by decide) (by decide)) (fun h30 e30 => ?_)
      have hS30 := hS29.wr e30
      refine ev_iconst ?_
      refine ev_istore_n (L' := [(2, 1), (0, 0), (9, 0), (9, 0), (9, 0), (9, 0)]) (Nat.le_of_ble_eq_true rfl) rfl ?_
      refine ev_iload_n rfl ?_
      refine ev_aload_n rfl ?_
      refine ev_getf (r := 1) (v := 0) (hS30.lt (by decide)) (hS30.fam (by decide) (by decide)) ft10_0 ((jw_ne e30 (Or.inl (by decide))).trans ((jw_ne e29 (Or.inr (by decide))).trans ((jw_ne e28 (Or.inr (by decide))).trans ((hF.v rfl))))) ?_
      refine ev_icmpge f154_104 (fun c12 => ?_) (fun c12 => absurd c12 (by omega))
      refine ev_iconst ?_
      refine ev_istore_n (L' := [(2, 1), (0, 0), (9, 0), (9, 0), (9, 0), (9, 0)]) (Nat.le_of_ble_eq_true rfl) rfl ?_
      refine ev_iload_n rfl ?_
      refine ev_aload_n rfl ?_
      refine ev_getf (r := 1) (v := 0) (hS30.lt (by decide)) (hS30.fam (by decide) (by decide)) ft10_0 ((jw_ne e30 (Or.inl (by decide))).trans ((jw_ne e29 (Or.inr (by decide))).trans ((jw_ne e28 (Or.inr (by decide))).trans ((hF.v rfl))))) ?_
      refine ev_icmpge f154_125 (fun c13 => ?_) (fun c13 => absurd c13 (by omega))
      refine ev_ret rfl (by decide) (by decide) ?_
      show jEv _ _ _ _ _ _ _ (_, [(2, 1)], [], _, _, _)
      refine ev_aload_n rfl ?_
      refine ev_getf (r := 1) (v := 1) (hS30.lt (by decide)) (hS30.fam (by decide) (by decide)) ft10_1 ((jw_ne e30 (Or.inl (by decide))).trans (jw_eq e29)) ?_
      refine ev_lconst ?_
      refine ev_lcmp ?_
      refine ev_ifle f153_46 (fun c14 => absurd c14 (by unfold jcmpL; (repeat' split) <;> omega)) (fun c14 => ?_)
      refine ev_iconst ?_
      refine ev_goto f153_47 ?_
      refine ev_ret rfl (by decide) (by decide) ?_
      show jEv _ _ _ _ _ _ _ (_, [(2, 0), (0, (xs 1))], [(0, 1)], _, _, _)
      refine ev_ifeq f170_43 (fun c15 => absurd c15 (by omega)) (fun c15 => ?_)
      refine ev_aload_n rfl ?_
      refine ev_getf (r := 0) (v := 1) (hS30.lt (by decide)) (hS30.fam (by decide) (by decide)) ft11_0 ((jw_ne e30 (Or.inl (by decide))).trans ((jw_ne e29 (Or.inl (by decide))).trans ((jw_ne e28 (Or.inl (by decide))).trans ((hF.v rfl))))) ?_
      refine ev_aload_n rfl ?_
      refine ev_getf (r := 0) (v := 1) (hS30.lt (by decide)) (hS30.fam (by decide) (by decide)) ft11_0 ((jw_ne e30 (Or.inl (by decide))).trans ((jw_ne e29 (Or.inl (by decide))).trans ((jw_ne e28 (Or.inl (by decide))).trans ((hF.v rfl))))) ?_
      refine ev_iload_n rfl ?_
      refine ev_in (d := 6) (a := 0) (b := 0) (cd' := c160_0) (m := 2) (L0 := [(2, 1), (0, (xs 1))]) (jcall_v (A := [(0, (xs 1))]) (S' := [(2, 1)]) (r := 1) rfl (hS30.lt (by decide)) (hS30.sh (by decide) rfl).1 (Nat.le_of_ble_eq_true rfl)) (by decide) ml160 pp160 (Nat.le_of_ble_eq_true rfl) rfl (by decide) (by decide) ?_
      refine ev_iload_n rfl ?_
      refine ev_aload_n rfl ?_
      refine ev_in (d := 5) (a := 0) (b := 0) (cd' := c157_0) (m := 1) (L0 := [(2, 1)]) (jcall_v (A := []) (S' := [(0, (xs 1))]) (r := 1) rfl (hS30.lt (by decide)) (hS30.sh (by decide) rfl).1 (Nat.le_of_ble_eq_true rfl)) (by decide) ml157 pp157 (Nat.le_of_ble_eq_true rfl) rfl (by decide) (by decide) ?_
      refine ev_iconst ?_
      refine ev_iconst ?_
      refine ev_aload_n rfl ?_
      refine ev_getf (r := 1) (v := 0) (hS30.lt (by decide)) (hS30.fam (by decide) (by decide)) ft10_0 ((jw_ne e30 (Or.inl (by decide))).trans ((jw_ne e29 (Or.inr (by decide))).trans ((jw_ne e28 (Or.inr (by decide))).trans ((hF.v rfl))))) ?_
      refine ev_imul (r := 0) (by decide) ?_
      refine ev_ishl (r := 1) (by decide) ?_
      refine ev_ret rfl (by decide) (by decide) ?_
      show jEv _ _ _ _ _ _ _ (_, [(2, 1), (0, (xs 1))], [(0, 1), (0, (xs 1))], _, _, _)
      refine ev_iconst ?_
      refine ev_isub (r := 0) (by decide) ?_
      refine ev_iconst ?_
      refine ev_idiv (r := 0) (by decide) (by decide) ?_
      refine ev_iadd (r := (xs 1)) (by unfold w32; omega) ?_
      refine ev_ret rfl (by decide) (by decide) ?_
      show jEv _ _ _ _ _ _ _ (_, [(2, 0), (0, (xs 1))], [(0, (xs 1)), (2, 1)], _, _, _)
      refine ev_in (d := 6) (a := 0) (b := 0) (cd' := c161_0) (m := 2) (L0 := [(2, 1), (0, (xs 1))]) (jcall_v (A := [(0, (xs 1))]) (S' := []) (r := 1) rfl (hS30.lt (by decide)) (hS30.sh (by decide) rfl).1 (Nat.le_of_ble_eq_true rfl)) (by decide) ml161 pp161 (Nat.le_of_ble_eq_true rfl) rfl (by decide) (by decide) ?_
      refine ev_iload_n rfl ?_
      refine ev_iflt f161_12 (fun c16 => absurd c16 (by omega)) (fun c16 => ?_)
      refine ev_iload_n rfl ?_
      refine ev_aload_n rfl ?_
      refine ev_in (d := 5) (a := 0) (b := 0) (cd' := c157_0) (m := 1) (L0 := [(2, 1)]) (jcall_v (A := []) (S' := [(0, (xs 1))]) (r := 1) rfl (hS30.lt (by decide)) (hS30.sh (by decide) rfl).1 (Nat.le_of_ble_eq_true rfl)) (by decide) ml157 pp157 (Nat.le_of_ble_eq_true rfl) rfl (by decide) (by decide) ?_
      refine ev_iconst ?_
      refine ev_iconst ?_
      refine ev_aload_n rfl ?_
      refine ev_getf (r := 1) (v := 0) (hS30.lt (by decide)) (hS30.fam (by decide) (by decide)) ft10_0 ((jw_ne e30 (Or.inl (by decide))).trans ((jw_ne e29 (Or.inr (by decide))).trans ((jw_ne e28 (Or.inr (by decide))).trans ((hF.v rfl))))) ?_
      refine ev_imul (r := 0) (by decide) ?_
      refine ev_ishl (r := 1) (by decide) ?_
      refine ev_ret rfl (by decide) (by decide) ?_
      show jEv _ _ _ _ _ _ _ (_, [(2, 1), (0, (xs 1))], [(0, 1), (0, (xs 1))], _, _, _)
      refine ev_icmplt f161_16 (fun c17 => ?_) (fun c17 => absurd c17 (by omega))
      refine ev_aload_n rfl ?_
      refine ev_getf (r := 1) (v := 6) (hS30.lt (by decide)) (hS30.fam (by decide) (by decide)) ft10_7 ((jw_ne e30 (Or.inl (by decide))).trans ((jw_ne e29 (Or.inr (by decide))).trans ((jw_ne e28 (Or.inr (by decide))).trans ((hF.v rfl))))) ?_
      refine ev_iload_n rfl ?_
      refine ev_lald (r := 6) (j := 0) (v := 1) (hS30.lt (by decide)) (hS30.sh (by decide) rfl).1 (by omega) (hS30.inb (by decide) (by decide)) (jw_eq e30) ?_
      refine ev_ret rfl (by decide) (by decide) ?_
      show jEv _ _ _ _ _ _ _ (_, [(2, 0), (0, (xs 1))], [(1, 1)], _, _, _)
      refine ev_goto f170_46 ?_
      refine ev_ret rfl (by decide) (by decide) ?_
      show jEv _ _ _ _ _ _ _ (_, [(2, (-2)), (2, 0), (2, 42), (0, 0)], [(1, 1)], _, _, _)
      refine ev_aload_n rfl ?_
      refine ev_aload_n rfl ?_
      refine ev_iload_n rfl ?_
      refine ev_iconst ?_
      refine ev_iadd (r := 1) (by decide) ?_
      refine ev_sald (j := 1) (v := (xs 1)) rfl rfl rfl ?_
      refine ev_in (d := 7) (a := 0) (b := 0) (cd' := c257_0) (m := 6) (L0 := [(2, 42), (0, (xs 1)), (9, 0), (9, 0), (9, 0), (9, 0)]) (jcall_v (A := [(0, (xs 1))]) (S' := [(1, 1)]) (r := 42) rfl (hS30.lt (by decide)) (hS30.sh (by decide) rfl).1 (Nat.le_of_ble_eq_true rfl)) (by decide) ml257 pp257 (Nat.le_of_ble_eq_true rfl) rfl (by decide) (by decide) ?_
      refine ev_iload_n rfl ?_
      refine ev_iflt f257_15 (fun c18 => absurd c18 (by omega)) (fun c18 => ?_)
      refine ev_iload_n rfl ?_
      refine ev_iconst ?_
      refine ev_aload_n rfl ?_
      refine ev_getf (r := 42) (v := 0) (hS30.lt (by decide)) (hS30.fam (by decide) (by decide)) ft12_1 ((jw_ne e30 (Or.inl (by decide))).trans ((jw_ne e29 (Or.inl (by decide))).trans ((jw_ne e28 (Or.inl (by decide))).trans ((hF.v rfl))))) ?_
      refine ev_imul (r := 0) (by decide) ?_
      refine ev_ishr (r := 0) (by rw [show (xs 1) = 0 by omega]; decide) ?_
      refine ev_ifeq f257_19 (fun c19 => ?_) (fun c19 => absurd c19 (by omega))
      refine ev_iconst ?_
      refine ev_istore_n (L' := [(2, 42), (0, (xs 1)), (0, 0), (9, 0), (9, 0), (9, 0)]) (Nat.le_of_ble_eq_true rfl) rfl ?_
      refine ev_iconst ?_
      refine ev_istore_n (L' := [(2, 42), (0, (xs 1)), (0, 0), (0, 1), (9, 0), (9, 0)]) (Nat.le_of_ble_eq_true rfl) rfl ?_
      refine ev_iconst ?_
      refine ev_istore (L' := [(2, 42), (0, (xs 1)), (0, 0), (0, 1), (0, 0), (9, 0)]) (Nat.le_of_ble_eq_true rfl) rfl ?_
      refine ev_iload rfl ?_
      refine ev_aload_n rfl ?_
      refine ev_getf (r := 42) (v := 0) (hS30.lt (by decide)) (hS30.fam (by decide) (by decide)) ft12_1 ((jw_ne e30 (Or.inl (by decide))).trans ((jw_ne e29 (Or.inl (by decide))).trans ((jw_ne e28 (Or.inl (by decide))).trans ((hF.v rfl))))) ?_
      refine ev_icmpge f257_84 (fun c20 => ?_) (fun c20 => absurd c20 (by omega))
      refine ev_aload_n rfl ?_
      refine ev_in (d := 6) (a := 0) (b := 0) (cd' := c256_0) (m := 4) (L0 := [(2, 42), (9, 0), (9, 0), (9, 0)]) (jcall_v (A := []) (S' := []) (r := 42) rfl (hS30.lt (by decide)) (hS30.sh (by decide) rfl).1 (Nat.le_of_ble_eq_true rfl)) (by decide) ml256 pp256 (Nat.le_of_ble_eq_true rfl) rfl (by decide) (by decide) ?_
      refine ev_aload_n rfl ?_
      refine ev_aload_n rfl ?_
      refine ev_in (d := 5) (a := 0) (b := 0) (cd' := c253_0) (m := 6) (L0 := [(2, 42), (9, 0), (9, 0), (9, 0), (9, 0), (9, 0)]) (jcall_v (A := []) (S' := [(2, 42)]) (r := 42) rfl (hS30.lt (by decide)) (hS30.sh (by decide) rfl).1 (Nat.le_of_ble_eq_true rfl)) (by decide) ml253 pp253 (Nat.le_of_ble_eq_true rfl) rfl (by decide) (by decide) ?_
      refine ev_lconst ?_
      refine ev_lstore_n (L' := [(2, 42), (1, 1), (9, 0), (9, 0), (9, 0), (9, 0)]) (Nat.le_of_ble_eq_true rfl) rfl ?_
      refine ev_iconst ?_
      refine ev_istore_n (L' := [(2, 42), (1, 1), (9, 0), (0, 0), (9, 0), (9, 0)]) (Nat.le_of_ble_eq_true rfl) rfl ?_
      refine ev_iload_n rfl ?_
      refine ev_aload_n rfl ?_
      refine ev_getf (r := 42) (v := 0) (hS30.lt (by decide)) (hS30.fam (by decide) (by decide)) ft12_1 ((jw_ne e30 (Or.inl (by decide))).trans ((jw_ne e29 (Or.inl (by decide))).trans ((jw_ne e28 (Or.inl (by decide))).trans ((hF.v rfl))))) ?_
      refine ev_icmpge f253_45 (fun c21 => ?_) (fun c21 => absurd c21 (by omega))
      refine ev_lload_n rfl ?_
      refine ev_ret rfl (by decide) (by decide) ?_
      show jEv _ _ _ _ _ _ _ (_, [(2, 42), (9, 0), (9, 0), (9, 0)], [(1, 1), (2, 42)], _, _, _)
      refine ev_putfG (r := 42) (hS30.lt (by decide)) (hS30.fam (by decide) (by decide)) ft12_8 (fun e => absurd e nz12_8) (fun e => absurd e (by decide)) (fun h31 e31 => ?_)
      have hS31 := hS30.wr e31
      refine ev_aload_n rfl ?_
      refine ev_getf (r := 42) (v := 1) (hS31.lt (by decide)) (hS31.fam (by decide) (by decide)) ft12_8 (jw_eq e31) ?_
      refine ev_lconst ?_
      refine ev_lcmp ?_
      refine ev_ifge f256_19 (fun c22 => ?_) (fun c22 => absurd (show _ from by unfold jcmpL; (repeat' split) <;> omega) c22)
      refine ev_aload_n rfl ?_
      refine ev_iconst ?_
      refine ev_putfG (r := 42) (hS31.lt (by decide)) (hS31.fam (by decide) (by decide)) ft12_5 (fun e => absurd e nz12_5) (fun e => absurd e (by decide)) (fun h32 e32 => ?_)
      have hS32 := hS31.wr e32
      refine ev_iconst ?_
      refine ev_istore_n (L' := [(2, 42), (0, 0), (9, 0), (9, 0)]) (Nat.le_of_ble_eq_true rfl) rfl ?_
      refine ev_iload_n rfl ?_
      refine ev_aload_n rfl ?_
      refine ev_getf (r := 42) (v := 0) (hS32.lt (by decide)) (hS32.fam (by decide) (by decide)) ft12_1 ((jw_ne e32 (Or.inr (by decide))).trans ((jw_ne e31 (Or.inr (by decide))).trans ((jw_ne e30 (Or.inl (by decide))).trans ((jw_ne e29 (Or.inl (by decide))).trans ((jw_ne e28 (Or.inl (by decide))).trans ((hF.v rfl))))))) ?_
      refine ev_icmpge f256_55 (fun c23 => ?_) (fun c23 => absurd c23 (by omega))
      refine ev_iconst ?_
      refine ev_istore_n (L' := [(2, 42), (0, 0), (9, 0), (9, 0)]) (Nat.le_of_ble_eq_true rfl) rfl ?_
      refine ev_iload_n rfl ?_
      refine ev_aload_n rfl ?_
      refine ev_getf (r := 42) (v := 1) (hS32.lt (by decide)) (hS32.fam (by decide) (by decide)) ft12_5 (jw_eq e32) ?_
      refine ev_icmpge f256_127 (fun c24 => absurd c24 (by omega)) (fun c24 => ?_)
      refine ev_iload_n rfl ?_
      refine ev_istore_n (L' := [(2, 42), (0, 0), (0, 0), (9, 0)]) (Nat.le_of_ble_eq_true rfl) rfl ?_
      refine ev_iconst ?_
      refine ev_istore_n (L' := [(2, 42), (0, 0), (0, 0), (0, 0)]) (Nat.le_of_ble_eq_true rfl) rfl ?_
      refine ev_iload_n rfl ?_
      refine ev_aload_n rfl ?_
      refine ev_getf (r := 42) (v := 0) (hS32.lt (by decide)) (hS32.fam (by decide) (by decide)) ft12_1 ((jw_ne e32 (Or.inr (by decide))).trans ((jw_ne e31 (Or.inr (by decide))).trans ((jw_ne e30 (Or.inl (by decide))).trans ((jw_ne e29 (Or.inl (by decide))).trans ((jw_ne e28 (Or.inl (by decide))).trans ((hF.v rfl))))))) ?_
      refine ev_icmpge f256_110 (fun c25 => ?_) (fun c25 => absurd c25 (by omega))
      refine ev_aload_n rfl ?_
      refine ev_getf (r := 42) (v := 47) (hS32.lt (by decide)) (hS32.fam (by decide) (by decide)) ft12_7 ((jw_ne e32 (Or.inr (by decide))).trans ((jw_ne e31 (Or.inr (by decide))).trans ((jw_ne e30 (Or.inl (by decide))).trans ((jw_ne e29 (Or.inl (by decide))).trans ((jw_ne e28 (Or.inl (by decide))).trans ((hF.v rfl))))))) ?_
      refine ev_iload_n rfl ?_
      refine ev_aload_n rfl ?_
      refine ev_iload_n rfl ?_
      refine ev_in (d := 5) (a := 0) (b := 0) (cd' := c255_0) (m := 6) (L0 := [(2, 42), (0, 0), (9, 0), (9, 0), (9, 0), (9, 0)]) (jcall_v (A := [(0, 0)]) (S' := [(0, 0), (2, 47)]) (r := 42) rfl (hS32.lt (by decide)) (hS32.sh (by decide) rfl).1 (Nat.le_of_ble_eq_true rfl)) (by decide) ml255 pp255 (Nat.le_of_ble_eq_true rfl) rfl (by decide) (by decide) ?_
      refine ev_lconst ?_
      refine ev_lstore_n (L' := [(2, 42), (0, 0), (1, 1), (9, 0), (9, 0), (9, 0)]) (Nat.le_of_ble_eq_true rfl) rfl ?_
      refine ev_iconst ?_
      refine ev_istore (L' := [(2, 42), (0, 0), (1, 1), (9, 0), (0, 0), (9, 0)]) (Nat.le_of_ble_eq_true rfl) rfl ?_
      refine ev_iload rfl ?_
      refine ev_aload_n rfl ?_
      refine ev_getf (r := 42) (v := 0) (hS32.lt (by decide)) (hS32.fam (by decide) (by decide)) ft12_1 ((jw_ne e32 (Or.inr (by decide))).trans ((jw_ne e31 (Or.inr (by decide))).trans ((jw_ne e30 (Or.inl (by decide))).trans ((jw_ne e29 (Or.inl (by decide))).trans ((jw_ne e28 (Or.inl (by decide))).trans ((hF.v rfl))))))) ?_
      refine ev_icmpge f255_100 (fun c26 => ?_) (fun c26 => absurd c26 (by omega))
      refine ev_lload_n rfl ?_
      refine ev_ret rfl (by decide) (by decide) ?_
      show jEv _ _ _ _ _ _ _ (_, [(2, 42), (0, 0), (0, 0), (0, 0)], [(1, 1), (0, 0), (2, 47)], _, _, _)
      refine ev_lastG (r := 47) (j := 0) (hS32.lt (by decide)) (hS32.sh (by decide) rfl).1 rfl (hS32.inb (by decide) (by decide)) (fun h33 e33 => ?_)
      have hS33 := hS32.wr e33
      refine ev_iinc (w := 1) (L' := [(2, 42), (0, 1), (0, 0), (0, 0)]) rfl (by decide) rfl ?_
      refine ev_goto f256_57 ?_
      refine ev_iload_n rfl ?_
      refine ev_aload_n rfl ?_
      refine ev_getf (r := 42) (v := 1) (hS33.lt (by decide)) (hS33.fam (by decide) (by decide)) ft12_5 ((jw_ne e33 (Or.inl (by decide))).trans (jw_eq e32)) ?_
      refine ev_icmpge f256_127 (fun c27 => ?_) (fun c27 => absurd c27 (by omega))
      refine ev_iconst ?_
      refine ev_ret rfl (by decide) (by decide) ?_
      show jEv _ _ _ _ _ _ _ (_, [(2, 42), (0, (xs 1)), (0, 0), (0, 1), (0, 0), (9, 0)], [(0, 1)], _, _, _)
      refine ev_ifeq f257_100 (fun c28 => absurd c28 (by omega)) (fun c28 => ?_)
      refine ev_aload_n rfl ?_
      refine ev_getf (r := 42) (v := 47) (hS33.lt (by decide)) (hS33.fam (by decide) (by decide)) ft12_7 ((jw_ne e33 (Or.inl (by decide))).trans ((jw_ne e32 (Or.inr (by decide))).trans ((jw_ne e31 (Or.inr (by decide))).trans ((jw_ne e30 (Or.inl (by decide))).trans ((jw_ne e29 (Or.inl (by decide))).trans ((jw_ne e28 (Or.inl (by decide))).trans ((hF.v rfl)))))))) ?_
      refine ev_iload_n rfl ?_
      refine ev_lald (r := 47) (j := 0) (v := 1) (hS33.lt (by decide)) (hS33.sh (by decide) rfl).1 rfl (hS33.inb (by decide) (by decide)) (jw_eq e33) ?_
      refine ev_goto f257_103 ?_
      refine ev_ret rfl (by decide) (by decide) ?_
      show jEv _ _ _ _ _ _ _ (_, [(2, (-2)), (2, 0), (2, 42), (0, 0)], [(1, 1), (1, 1)], _, _, _)
      refine ev_lcmp ?_
      refine ev_ifeq f384_2190 (fun c29 => ?_) (fun c29 => absurd (show _ from by unfold jcmpL; (repeat' split) <;> omega) c29)
      exact law_tail _
    · refine ev_iconst ?_
      refine ev_ret rfl (by decide) (by decide) ?_
      show jEv _ _ _ _ _ _ _ (_, [(2, 0), (0, (xs 1))], [(0, 0)], _, _, _)
      refine ev_ifne f170_15 (fun c30 => absurd c30 (by omega)) (fun c30 => ?_)
      refine ev_ldc2_w ?_
      refine ev_ret rfl (by decide) (by decide) ?_
      show jEv _ _ _ _ _ _ _ (_, [(2, (-2)), (2, 0), (2, 42), (0, 0)], [(1, (-1))], _, _, _)
      refine ev_aload_n rfl ?_
      refine ev_aload_n rfl ?_
      refine ev_iload_n rfl ?_
      refine ev_iconst ?_
      refine ev_iadd (r := 1) (by decide) ?_
      refine ev_sald (j := 1) (v := (xs 1)) rfl rfl rfl ?_
      refine ev_in (d := 7) (a := 0) (b := 0) (cd' := c257_0) (m := 6) (L0 := [(2, 42), (0, (xs 1)), (9, 0), (9, 0), (9, 0), (9, 0)]) (jcall_v (A := [(0, (xs 1))]) (S' := [(1, (-1))]) (r := 42) rfl (hF.1.lt (by decide)) (hF.1.sh (by decide) rfl).1 (Nat.le_of_ble_eq_true rfl)) (by decide) ml257 pp257 (Nat.le_of_ble_eq_true rfl) rfl (by decide) (by decide) ?_
      refine ev_iload_n rfl ?_
      refine ev_iflt f257_15 (fun c31 => absurd c31 (by omega)) (fun c31 => ?_)
      refine ev_iload_n rfl ?_
      refine ev_iconst ?_
      refine ev_aload_n rfl ?_
      refine ev_getf (r := 42) (v := 0) (hF.1.lt (by decide)) (hF.1.fam (by decide) (by decide)) ft12_1 ((hF.v rfl)) ?_
      refine ev_imul (r := 0) (by decide) ?_
      refine ev_ishr (r := (xs 1)) (jshr_0 (by omega) (by omega)) ?_
      refine ev_ifeq f257_19 (fun c32 => absurd c32 (by omega)) (fun c32 => ?_)
      refine ev_ldc2_w ?_
      refine ev_ret rfl (by decide) (by decide) ?_
      show jEv _ _ _ _ _ _ _ (_, [(2, (-2)), (2, 0), (2, 42), (0, 0)], [(1, (-1)), (1, (-1))], _, _, _)
      refine ev_lcmp ?_
      refine ev_ifeq f384_2190 (fun c33 => ?_) (fun c33 => absurd (show _ from by unfold jcmpL; (repeat' split) <;> omega) c33)
      exact law_tail _

/-! chance -/
set_option maxHeartbeats 4000000 in
theorem case_5 {xs : Nat → Int} (hr : ∀ j, -2147483648 ≤ xs j ∧ xs j < 2147483648) {h : JH} (hF : Fresh h) : jEv (jOk 8) (some 6) xs c384_0 600000 7302250 (fun v _ => v = some (0, 1)) (c384_407, [(2, -2), (2, 0), (2, 42), (0, 0)], [], h, 83, 23761) := by
  have r1 := hr 1
  have r2 := hr 2
  have r3 := hr 3
  have r4 := hr 4
  have r5 := hr 5
  refine ev_aload_n rfl ?_
  refine ev_aload_n rfl ?_
  refine ev_iload_n rfl ?_
  refine ev_iconst ?_
  refine ev_iadd (r := 1) (by decide) ?_
  refine ev_sald (j := 1) (v := (xs 1)) rfl rfl rfl ?_
  refine ev_aload_n rfl ?_
  refine ev_iload_n rfl ?_
  refine ev_iconst ?_
  refine ev_iadd (r := 2) (by decide) ?_
  refine ev_sald (j := 2) (v := (xs 2)) rfl rfl rfl ?_
  refine ev_aload_n rfl ?_
  refine ev_iload_n rfl ?_
  refine ev_iconst ?_
  refine ev_iadd (r := 3) (by decide) ?_
  refine ev_sald (j := 3) (v := (xs 3)) rfl rfl rfl ?_
  refine ev_in (d := 7) (a := 0) (b := 0) (cd' := c171_0) (m := 4) (L0 := [(2, 0), (0, (xs 1)), (0, (xs 2)), (0, (xs 3))]) (jcall_v (A := [(0, (xs 3)), (0, (xs 2)), (0, (xs 1))]) (S' := []) (r := 0) rfl (hF.1.lt (by decide)) (hF.1.sh (by decide) rfl).1 (Nat.le_of_ble_eq_true rfl)) (by decide) ml171 pp171 (Nat.le_of_ble_eq_true rfl) rfl (by decide) (by decide) ?_
  refine ev_aload_n rfl ?_
  refine ev_getf (r := 0) (v := 1) (hF.1.lt (by decide)) (hF.1.fam (by decide) (by decide)) ft11_0 ((hF.v rfl)) ?_
  refine ev_iload_n rfl ?_
  refine ev_in (d := 6) (a := 0) (b := 0) (cd' := c158_0) (m := 3) (L0 := [(2, 1), (0, (xs 1)), (9, 0)]) (jcall_v (A := [(0, (xs 1))]) (S' := []) (r := 1) rfl (hF.1.lt (by decide)) (hF.1.sh (by decide) rfl).1 (Nat.le_of_ble_eq_true rfl)) (by decide) ml158 pp158 (Nat.le_of_ble_eq_true rfl) rfl (by decide) (by decide) ?_
  refine ev_iload_n rfl ?_
  refine ev_iflt f158_12 (fun c1 => ?_) (fun c1 => ?_)
  · refine ev_iconst ?_
    refine ev_ret rfl (by decide) (by decide) ?_
    show jEv _ _ _ _ _ _ _ (_, [(2, 0), (0, (xs 1)), (0, (xs 2)), (0, (xs 3))], [(0, 0)], _, _, _)
    refine ev_ifeq f171_29 (fun c2 => ?_) (fun c2 => absurd c2 (by omega))
    refine ev_ldc2_w ?_
    refine ev_ret rfl (by decide) (by decide) ?_
    show jEv _ _ _ _ _ _ _ (_, [(2, (-2)), (2, 0), (2, 42), (0, 0)], [(1, (-1))], _, _, _)
    refine ev_aload_n rfl ?_
    refine ev_aload_n rfl ?_
    refine ev_iload_n rfl ?_
    refine ev_iconst ?_
    refine ev_iadd (r := 1) (by decide) ?_
    refine ev_sald (j := 1) (v := (xs 1)) rfl rfl rfl ?_
    refine ev_aload_n rfl ?_
    refine ev_iload_n rfl ?_
    refine ev_iconst ?_
    refine ev_iadd (r := 2) (by decide) ?_
    refine ev_sald (j := 2) (v := (xs 2)) rfl rfl rfl ?_
    refine ev_aload_n rfl ?_
    refine ev_iload_n rfl ?_
    refine ev_iconst ?_
    refine ev_iadd (r := 3) (by decide) ?_
    refine ev_sald (j := 3) (v := (xs 3)) rfl rfl rfl ?_
    refine ev_in (d := 7) (a := 0) (b := 0) (cd' := c260_0) (m := 9) (L0 := [(2, 42), (0, (xs 1)), (0, (xs 2)), (0, (xs 3)), (9, 0), (9, 0), (9, 0), (9, 0), (9, 0)]) (jcall_v (A := [(0, (xs 3)), (0, (xs 2)), (0, (xs 1))]) (S' := [(1, (-1))]) (r := 42) rfl (hF.1.lt (by decide)) (hF.1.sh (by decide) rfl).1 (Nat.le_of_ble_eq_true rfl)) (by decide) ml260 pp260 (Nat.le_of_ble_eq_true rfl) rfl (by decide) (by decide) ?_
    refine ev_aload_n rfl ?_
    refine ev_iload_n rfl ?_
    refine ev_in (d := 6) (a := 0) (b := 0) (cd' := c258_0) (m := 3) (L0 := [(2, 42), (0, (xs 1)), (9, 0)]) (jcall_v (A := [(0, (xs 1))]) (S' := []) (r := 42) rfl (hF.1.lt (by decide)) (hF.1.sh (by decide) rfl).1 (Nat.le_of_ble_eq_true rfl)) (by decide) ml258 pp258 (Nat.le_of_ble_eq_true rfl) rfl (by decide) (by decide) ?_
    refine ev_iload_n rfl ?_
    refine ev_iflt f258_15 (fun c3 => ?_) (fun c3 => absurd c3 (by omega))
    refine ev_iconst ?_
    refine ev_ret rfl (by decide) (by decide) ?_
    show jEv _ _ _ _ _ _ _ (_, [(2, 42), (0, (xs 1)), (0, (xs 2)), (0, (xs 3)), (9, 0), (9, 0), (9, 0), (9, 0), (9, 0)], [(0, 0)], _, _, _)
    refine ev_ifeq f260_25 (fun c4 => ?_) (fun c4 => absurd c4 (by omega))
    refine ev_ldc2_w ?_
    refine ev_ret rfl (by decide) (by decide) ?_
    show jEv _ _ _ _ _ _ _ (_, [(2, (-2)), (2, 0), (2, 42), (0, 0)], [(1, (-1)), (1, (-1))], _, _, _)
    refine ev_lcmp ?_
    refine ev_ifeq f384_2190 (fun c5 => ?_) (fun c5 => absurd (show _ from by unfold jcmpL; (repeat' split) <;> omega) c5)
    exact law_tail _
  · refine ev_iload_n rfl ?_
    refine ev_aload_n rfl ?_
    refine ev_in (d := 5) (a := 0) (b := 0) (cd' := c157_0) (m := 1) (L0 := [(2, 1)]) (jcall_v (A := []) (S' := [(0, (xs 1))]) (r := 1) rfl (hF.1.lt (by decide)) (hF.1.sh (by decide) rfl).1 (Nat.le_of_ble_eq_true rfl)) (by decide) ml157 pp157 (Nat.le_of_ble_eq_true rfl) rfl (by decide) (by decide) ?_
    refine ev_iconst ?_
    refine ev_iconst ?_
    refine ev_aload_n rfl ?_
    refine ev_getf (r := 1) (v := 0) (hF.1.lt (by decide)) (hF.1.fam (by decide) (by decide)) ft10_0 ((hF.v rfl)) ?_
    refine ev_imul (r := 0) (by decide) ?_
    refine ev_ishl (r := 1) (by decide) ?_
    refine ev_ret rfl (by decide) (by decide) ?_
    show jEv _ _ _ _ _ _ _ (_, [(2, 1), (0, (xs 1)), (9, 0)], [(0, 1), (0, (xs 1))], _, _, _)
    refine ev_icmplt f158_14 (fun c6 => ?_) (fun c6 => ?_)
    · refine ev_iconst ?_
      refine ev_istore_n (L' := [(2, 1), (0, (xs 1)), (0, 0)]) (Nat.le_of_ble_eq_true rfl) rfl ?_
      refine ev_iload_n rfl ?_
      refine ev_aload_n rfl ?_
      refine ev_getf (r := 1) (v := 0) (hF.1.lt (by decide)) (hF.1.fam (by decide) (by decide)) ft10_0 ((hF.v rfl)) ?_
      refine ev_icmpge f158_48 (fun c7 => ?_) (fun c7 => absurd c7 (by omega))
      refine ev_iconst ?_
      refine ev_ret rfl (by decide) (by decide) ?_
      show jEv _ _ _ _ _ _ _ (_, [(2, 0), (0, (xs 1)), (0, (xs 2)), (0, (xs 3))], [(0, 1)], _, _, _)
      refine ev_ifeq f171_29 (fun c8 => absurd c8 (by omega)) (fun c8 => ?_)
      refine ev_aload_n rfl ?_
      refine ev_getf (r := 0) (v := 1) (hF.1.lt (by decide)) (hF.1.fam (by decide) (by decide)) ft11_0 ((hF.v rfl)) ?_
      refine ev_iload_n rfl ?_
      refine ev_in (d := 6) (a := 0) (b := 0) (cd' := c158_0) (m := 3) (L0 := [(2, 1), (0, (xs 2)), (9, 0)]) (jcall_v (A := [(0, (xs 2))]) (S' := []) (r := 1) rfl (hF.1.lt (by decide)) (hF.1.sh (by decide) rfl).1 (Nat.le_of_ble_eq_true rfl)) (by decide) ml158 pp158 (Nat.le_of_ble_eq_true rfl) rfl (by decide) (by decide) ?_
      refine ev_iload_n rfl ?_
      refine ev_iflt f158_12 (fun c9 => ?_) (fun c9 => ?_)
      · refine ev_iconst ?_
        refine ev_ret rfl (by decide) (by decide) ?_
        show jEv _ _ _ _ _ _ _ (_, [(2, 0), (0, (xs 1)), (0, (xs 2)), (0, (xs 3))], [(0, 0)], _, _, _)
        refine ev_ifeq f171_29 (fun c10 => ?_) (fun c10 => absurd c10 (by omega))
        refine ev_ldc2_w ?_
        refine ev_ret rfl (by decide) (by decide) ?_
        show jEv _ _ _ _ _ _ _ (_, [(2, (-2)), (2, 0), (2, 42), (0, 0)], [(1, (-1))], _, _, _)
        refine ev_aload_n rfl ?_
        refine ev_aload_n rfl ?_
        refine ev_iload_n rfl ?_
        refine ev_iconst ?_
        refine ev_iadd (r := 1) (by decide) ?_
        refine ev_sald (j := 1) (v := (xs 1)) rfl rfl rfl ?_
        refine ev_aload_n rfl ?_
        refine ev_iload_n rfl ?_
        refine ev_iconst ?_
        refine ev_iadd (r := 2) (by decide) ?_
        refine ev_sald (j := 2) (v := (xs 2)) rfl rfl rfl ?_
        refine ev_aload_n rfl ?_
        refine ev_iload_n rfl ?_
        refine ev_iconst ?_
        refine ev_iadd (r := 3) (by decide) ?_
        refine ev_sald (j := 3) (v := (xs 3)) rfl rfl rfl ?_
        refine ev_in (d := 7) (a := 0) (b := 0) (cd' := c260_0) (m := 9) (L0 := [(2, 42), (0, (xs 1)), (0, (xs 2)), (0, (xs 3)), (9, 0), (9, 0), (9, 0), (9, 0), (9, 0)]) (jcall_v (A := [(0, (xs 3)), (0, (xs 2)), (0, (xs 1))]) (S' := [(1, (-1))]) (r := 42) rfl (hF.1.lt (by decide)) (hF.1.sh (by decide) rfl).1 (Nat.le_of_ble_eq_true rfl)) (by decide) ml260 pp260 (Nat.le_of_ble_eq_true rfl) rfl (by decide) (by decide) ?_
        refine ev_aload_n rfl ?_
        refine ev_iload_n rfl ?_
        refine ev_in (d := 6) (a := 0) (b := 0) (cd' := c258_0) (m := 3) (L0 := [(2, 42), (0, (xs 1)), (9, 0)]) (jcall_v (A := [(0, (xs 1))]) (S' := []) (r := 42) rfl (hF.1.lt (by decide)) (hF.1.sh (by decide) rfl).1 (Nat.le_of_ble_eq_true rfl)) (by decide) ml258 pp258 (Nat.le_of_ble_eq_true rfl) rfl (by decide) (by decide) ?_
        refine ev_iload_n rfl ?_
        refine ev_iflt f258_15 (fun c11 => absurd c11 (by omega)) (fun c11 => ?_)
        refine ev_iload_n rfl ?_
        refine ev_iconst ?_
        refine ev_aload_n rfl ?_
        refine ev_getf (r := 42) (v := 0) (hF.1.lt (by decide)) (hF.1.fam (by decide) (by decide)) ft12_1 ((hF.v rfl)) ?_
        refine ev_imul (r := 0) (by decide) ?_
        refine ev_ishr (r := 0) (by rw [show (xs 1) = 0 by omega]; decide) ?_
        refine ev_ifeq f258_17 (fun c12 => ?_) (fun c12 => absurd c12 (by omega))
        refine ev_iconst ?_
        refine ev_istore_n (L' := [(2, 42), (0, (xs 1)), (0, 0)]) (Nat.le_of_ble_eq_true rfl) rfl ?_
        refine ev_iload_n rfl ?_
        refine ev_aload_n rfl ?_
        refine ev_getf (r := 42) (v := 0) (hF.1.lt (by decide)) (hF.1.fam (by decide) (by decide)) ft12_1 ((hF.v rfl)) ?_
        refine ev_icmpge f258_51 (fun c13 => ?_) (fun c13 => absurd c13 (by omega))
        refine ev_iconst ?_
        refine ev_ret rfl (by decide) (by decide) ?_
        show jEv _ _ _ _ _ _ _ (_, [(2, 42), (0, (xs 1)), (0, (xs 2)), (0, (xs 3)), (9, 0), (9, 0), (9, 0), (9, 0), (9, 0)], [(0, 1)], _, _, _)
        refine ev_ifeq f260_25 (fun c14 => absurd c14 (by omega)) (fun c14 => ?_)
        refine ev_aload_n rfl ?_
        refine ev_iload_n rfl ?_
        refine ev_in (d := 6) (a := 0) (b := 0) (cd' := c258_0) (m := 3) (L0 := [(2, 42), (0, (xs 2)), (9, 0)]) (jcall_v (A := [(0, (xs 2))]) (S' := []) (r := 42) rfl (hF.1.lt (by decide)) (hF.1.sh (by decide) rfl).1 (Nat.le_of_ble_eq_true rfl)) (by decide) ml258 pp258 (Nat.le_of_ble_eq_true rfl) rfl (by decide) (by decide) ?_
        refine ev_iload_n rfl ?_
        refine ev_iflt f258_15 (fun c15 => ?_) (fun c15 => absurd c15 (by omega))
        refine ev_iconst ?_
        refine ev_ret rfl (by decide) (by decide) ?_
        show jEv _ _ _ _ _ _ _ (_, [(2, 42), (0, (xs 1)), (0, (xs 2)), (0, (xs 3)), (9, 0), (9, 0), (9, 0), (9, 0), (9, 0)], [(0, 0)], _, _, _)
        refine ev_ifeq f260_25 (fun c16 => ?_) (fun c16 => absurd c16 (by omega))
        refine ev_ldc2_w ?_
        refine ev_ret rfl (by decide) (by decide) ?_
        show jEv _ _ _ _ _ _ _ (_, [(2, (-2)), (2, 0), (2, 42), (0, 0)], [(1, (-1)), (1, (-1))], _, _, _)
        refine ev_lcmp ?_
        refine ev_ifeq f384_2190 (fun c17 => ?_) (fun c17 => absurd (show _ from by unfold jcmpL; (repeat' split) <;> omega) c17)
        exact law_tail _
      · refine ev_iload_n rfl ?_
        refine ev_aload_n rfl ?_
        refine ev_in (d := 5) (a := 0) (b := 0) (cd' := c157_0) (m := 1) (L0 := [(2, 1)]) (jcall_v (A := []) (S' := [(0, (xs 2))]) (r := 1) rfl (hF.1.lt (by decide)) (hF.1.sh (by decide) rfl).1 (Nat.le_of_ble_eq_true rfl)) (by decide) ml157 pp157 (Nat.le_of_ble_eq_true rfl) rfl (by decide) (by decide) ?_
        refine ev_iconst ?_
        refine ev_iconst ?_
        refine ev_aload_n rfl ?_
        refine ev_getf (r := 1) (v := 0) (hF.1.lt (by decide)) (hF.1.fam (by decide) (by decide)) ft10_0 ((hF.v rfl)) ?_
        refine ev_imul (r := 0) (by decide) ?_
        refine ev_ishl (r := 1) (by decide) ?_
        refine ev_ret rfl (by decide) (by decide) ?_
        show jEv _ _ _ _ _ _ _ (_, [(2, 1), (0, (xs 2)), (9, 0)], [(0, 1), (0, (xs 2))], _, _, _)
        refine ev_icmplt f158_14 (fun c18 => ?_) (fun c18 => ?_)
        · refine ev_iconst ?_
          refine ev_istore_n (L' := [(2, 1), (0, (xs 2)), (0, 0)]) (Nat.le_of_ble_eq_true rfl) rfl ?_
          refine ev_iload_n rfl ?_
          refine ev_aload_n rfl ?_
          refine ev_getf (r := 1) (v := 0) (hF.1.lt (by decide)) (hF.1.fam (by decide) (by decide)) ft10_0 ((hF.v rfl)) ?_
          refine ev_icmpge f158_48 (fun c19 => ?_) (fun c19 => absurd c19 (by omega))
          refine ev_iconst ?_
          refine ev_ret rfl (by decide) (by decide) ?_
          show jEv _ _ _ _ _ _ _ (_, [(2, 0), (0, (xs 1)), (0, (xs 2)), (0, (xs 3))], [(0, 1)], _, _, _)
          refine ev_ifeq f171_29 (fun c20 => absurd c20 (by omega)) (fun c20 => ?_)
          refine ev_iload_n rfl ?_
          refine ev_in (d := 6) (a := 0) (b := 0) (cd' := c221_0) (m := 1) (L0 := [(0, (xs 3))]) (jcall_s (A := [(0, (xs 3))]) (S' := []) (by decide) rfl (Nat.le_of_ble_eq_true rfl)) (by decide) ml221 pp221 (Nat.le_of_ble_eq_true rfl) rfl (by decide) (by decide) ?_
          refine ev_iload_n rfl ?_
          refine ev_ifeq f221_9 (fun c21 => ?_) (fun c21 => ?_)
          · refine ev_iconst ?_
            refine ev_goto f221_14 ?_
            refine ev_ret rfl (by decide) (by decide) ?_
            show jEv _ _ _ _ _ _ _ (_, [(2, 0), (0, (xs 1)), (0, (xs 2)), (0, (xs 3))], [(0, 1)], _, _, _)
            refine ev_ifne f171_33 (fun c22 => ?_) (fun c22 => absurd c22 (by omega))
            refine ev_aload_n rfl ?_
            refine ev_getf (r := 0) (v := 1) (hF.1.lt (by decide)) (hF.1.fam (by decide) (by decide)) ft11_0 ((hF.v rfl)) ?_
            refine ev_in (d := 6) (a := 0) (b := 0) (cd' := c153_0) (m := 1) (L0 := [(2, 1)]) (jcall_v (A := []) (S' := []) (r := 1) rfl (hF.1.lt (by decide)) (hF.1.sh (by decide) rfl).1 (Nat.le_of_ble_eq_true rfl)) (by decide) ml153 pp153 (Nat.le_of_ble_eq_true rfl) rfl (by decide) (by decide) ?_
            refine ev_aload_n rfl ?_
            refine ev_getf (r := 1) (v := 0) (hF.1.lt (by decide)) (hF.1.fam (by decide) (by decide)) ft10_2 ((hF.v rfl)) ?_
            refine ev_ifne f153_33 (fun c23 => absurd c23 (by omega)) (fun c23 => ?_)
            refine ev_aload_n rfl ?_
            refine ev_iconst ?_
            refine ev_putfG (r := 1) (hF.1.lt (by decide)) (hF.1.fam (by decide) (by decide)) ft10_2 (fun _ => by decide) (fun e => absurd e (by decide)) (fun h34 e34 => ?_)
            have hS34 := hF.1.wr e34
            refine ev_aload_n rfl ?_
            refine ev_aload_n rfl ?_
            refine ev_in (d := 5) (a := 0) (b := 0) (cd' := c152_0) (m := 6) (L0 := [(2, 1), (9, 0), (9, 0), (9, 0), (9, 0), (9, 0)]) (jcall_v (A := []) (S' := [(2, 1)]) (r := 1) rfl (hS34.lt (by decide)) (hS34.sh (by decide) rfl).1 (Nat.le_of_ble_eq_true rfl)) (by decide) ml152 pp152 (Nat.le_of_ble_eq_true rfl) rfl (by decide) (by decide) ?_
            refine ev_lconst ?_
            refine ev_lstore_n (L' := [(2, 1), (1, 1), (9, 0), (9, 0), (9, 0), (9, 0)]) (Nat.le_of_ble_eq_true rfl) rfl ?_
            refine ev_iconst ?_
            refine ev_istore_n (L' := [(2, 1), (1, 1), (9, 0), (0, 0), (9, 0), (9, 0)]) (Nat.le_of_ble_eq_true rfl) rfl ?_
            refine ev_iload_n rfl ?_
            refine ev_aload_n rfl ?_
            refine ev_getf (r := 1) (v := 0) (hS34.lt (by decide)) (hS34.fam (by decide) (by decide)) ft10_0 ((jw_ne e34 (Or.inr (by decide))).trans ((hF.v rfl))) ?_
            refine ev_icmpge f152_50 (fun c24 => ?_) (fun c24 => absurd c24 (by omega))
            refine ev_lload_n rfl ?_
            refine ev_ret rfl (by decide) (by decide) ?_
            show jEv _ _ _ _ _ _ _ (_, [(2, 1)], [(1, 1), (2, 1)], _, _, _)
            refine ev_putfG (r := 1) (hS34.lt (by decide)) (hS34.fam (by decide) (by decide)) ft10_1 (fun e => absurd e nz10_1) (fun e => absurd e (by decide)) (fun h35 e35 => ?_)
            have hS35 := hS34.wr e35
            refine ev_aload_n rfl ?_
            refine ev_getf (r := 1) (v := 1) (hS35.lt (by decide)) (hS35.fam (by decide) (by decide)) ft10_1 (jw_eq e35) ?_
            refine ev_lconst ?_
            refine ev_lcmp ?_
            refine ev_ifle f153_33 (fun c25 => absurd c25 (by unfold jcmpL; (repeat' split) <;> omega)) (fun c25 => ?_)
            refine ev_aload_n rfl ?_
            refine ev_in (d := 5) (a := 0) (b := 0) (cd' := c154_0) (m := 6) (L0 := [(2, 1), (9, 0), (9, 0), (9, 0), (9, 0), (9, 0)]) (jcall_v (A := []) (S' := []) (r := 1) rfl (hS35.lt (by decide)) (hS35.sh (by decide) rfl).1 (Nat.le_of_ble_eq_true rfl)) (by decide) ml154 pp154 (Nat.le_of_ble_eq_true rfl) rfl (by decide) (by decide) ?_
            refine ev_iconst ?_
            refine ev_istore_n (L' := [(2, 1), (0, 0), (9, 0), (9, 0), (9, 0), (9, 0)]) (Nat.le_of_ble_eq_true rfl) rfl ?_
            refine ev_iload_n rfl ?_
            refine ev_aload_n rfl ?_
            refine ev_getf (r := 1) (v := 0) (hS35.lt (by decide)) (hS35.fam (by decide) (by decide)) ft10_0 ((jw_ne e35 (Or.inr (by decide))).trans ((jw_ne e34 (Or.inr (by decide))).trans ((hF.v rfl)))) ?_
            refine ev_icmpge f154_76 (fun c26 => ?_) (fun c26 => absurd c26 (by omega))
            refine ev_aload_n rfl ?_
            refine ev_getf (r := 1) (v := 6) (hS35.lt (by decide)) (hS35.fam (by decide) (by decide)) ft10_7 ((jw_ne e35 (Or.inr (by decide))).trans ((jw_ne e34 (Or.inr (by decide))).trans ((hF.v rfl)))) ?_
            refine ev_iconst ?_
            refine ev_lconst ?_
            refine ev_lastG (r := 6) (j := 0) (hS35.lt (by decide)) (hS35.sh (by decide) rfl).1 rfl (hS35.inb (by decide) (by decide)) (fun h36 e36 => ?_)
            have hS36 := hS35.wr e36
            refine ev_iconst ?_
            refine ev_istore_n (L' := [(2, 1), (0, 0), (9, 0), (9, 0), (9, 0), (9, 0)]) (Nat.le_of_ble_eq_true rfl) rfl ?_
            refine ev_iload_n rfl ?_
            refine ev_aload_n rfl ?_
            refine ev_getf (r := 1) (v := 0) (hS36.lt (by decide)) (hS36.fam (by decide) (by decide)) ft10_0 ((jw_ne e36 (Or.inl (by decide))).trans ((jw_ne e35 (Or.inr (by decide))).trans ((jw_ne e34 (Or.inr (by decide))).trans ((hF.v rfl))))) ?_
            refine ev_icmpge f154_104 (fun c27 => ?_) (fun c27 => absurd c27 (by omega))
            refine ev_iconst ?_
            refine ev_istore_n (L' := [(2, 1), (0, 0), (9, 0), (9, 0), (9, 0), (9, 0)]) (Nat.le_of_ble_eq_true rfl) rfl ?_
            refine ev_iload_n rfl ?_
            refine ev_aload_n rfl ?_
            refine ev_getf (r := 1) (v := 0) (hS36.lt (by decide)) (hS36.fam (by decide) (by decide)) ft10_0 ((jw_ne e36 (Or.inl (by decide))).trans ((jw_ne e35 (Or.inr (by decide))).trans ((jw_ne e34 (Or.inr (by decide))).trans ((hF.v rfl))))) ?_
            refine ev_icmpge f154_125 (fun c28 => ?_) (fun c28 => absurd c28 (by omega))
            refine ev_ret rfl (by decide) (by decide) ?_
            show jEv _ _ _ _ _ _ _ (_, [(2, 1)], [], _, _, _)
            refine ev_aload_n rfl ?_
            refine ev_getf (r := 1) (v := 1) (hS36.lt (by decide)) (hS36.fam (by decide) (by decide)) ft10_1 ((jw_ne e36 (Or.inl (by decide))).trans (jw_eq e35)) ?_
            refine ev_lconst ?_
            refine ev_lcmp ?_
            refine ev_ifle f153_46 (fun c29 => absurd c29 (by unfold jcmpL; (repeat' split) <;> omega)) (fun c29 => ?_)
            refine ev_iconst ?_
            refine ev_goto f153_47 ?_
            refine ev_ret rfl (by decide) (by decide) ?_
            show jEv _ _ _ _ _ _ _ (_, [(2, 0), (0, (xs 1)), (0, (xs 2)), (0, (xs 3))], [(0, 1)], _, _, _)
            refine ev_ifne f171_47 (fun c30 => ?_) (fun c30 => absurd c30 (by omega))
            refine ev_aload_n rfl ?_
            refine ev_getf (r := 0) (v := 1) (hS36.lt (by decide)) (hS36.fam (by decide) (by decide)) ft11_0 ((jw_ne e36 (Or.inl (by decide))).trans ((jw_ne e35 (Or.inl (by decide))).trans ((jw_ne e34 (Or.inl (by decide))).trans ((hF.v rfl))))) ?_
            refine ev_iload_n rfl ?_
            refine ev_iload_n rfl ?_
            refine ev_in (d := 6) (a := 0) (b := 0) (cd' := c163_0) (m := 3) (L0 := [(2, 1), (0, (xs 1)), (0, (xs 2))]) (jcall_v (A := [(0, (xs 2)), (0, (xs 1))]) (S' := []) (r := 1) rfl (hS36.lt (by decide)) (hS36.sh (by decide) rfl).1 (Nat.le_of_ble_eq_true rfl)) (by decide) ml163 pp163 (Nat.le_of_ble_eq_true rfl) rfl (by decide) (by decide) ?_
            refine ev_iload_n rfl ?_
            refine ev_iload_n rfl ?_
            refine ev_ixor (r := 0) (by rw [show (xs 1) = 0 by omega, show (xs 2) = 0 by omega]; decide) ?_
            refine ev_iload_n rfl ?_
            refine ev_in (d := 5) (a := 0) (b := 0) (cd' := c162_0) (m := 1) (L0 := [(0, (xs 1))]) (jcall_s (A := [(0, (xs 1))]) (S' := [(0, 0)]) (by decide) rfl (Nat.le_of_ble_eq_true rfl)) (by decide) ml162 pp162 (Nat.le_of_ble_eq_true rfl) rfl (by decide) (by decide) ?_
            refine ev_iload_n rfl ?_
            refine ev_iload_n rfl ?_
            refine ev_iconst ?_
            refine ev_ishr (r := 0) (by rw [show (xs 1) = 0 by omega]; decide) ?_
            refine ev_ior (r := 0) (by rw [show (xs 1) = 0 by omega]; decide) ?_
            refine ev_bipush ?_
            refine ev_iand (r := 0) (by decide) ?_
            refine ev_iconst ?_
            refine ev_imul (r := 0) (by decide) ?_
            refine ev_ret rfl (by decide) (by decide) ?_
            show jEv _ _ _ _ _ _ _ (_, [(2, 1), (0, (xs 1)), (0, (xs 2))], [(0, 0), (0, 0)], _, _, _)
            refine ev_iand (r := 0) (by decide) ?_
            refine ev_iload_n rfl ?_
            refine ev_in (d := 5) (a := 0) (b := 0) (cd' := c162_0) (m := 1) (L0 := [(0, (xs 2))]) (jcall_s (A := [(0, (xs 2))]) (S' := [(0, 0)]) (by decide) rfl (Nat.le_of_ble_eq_true rfl)) (by decide) ml162 pp162 (Nat.le_of_ble_eq_true rfl) rfl (by decide) (by decide) ?_
            refine ev_iload_n rfl ?_
            refine ev_iload_n rfl ?_
            refine ev_iconst ?_
            refine ev_ishr (r := 0) (by rw [show (xs 2) = 0 by omega]; decide) ?_
            refine ev_ior (r := 0) (by rw [show (xs 2) = 0 by omega]; decide) ?_
            refine ev_bipush ?_
            refine ev_iand (r := 0) (by decide) ?_
            refine ev_iconst ?_
            refine ev_imul (r := 0) (by decide) ?_
            refine ev_ret rfl (by decide) (by decide) ?_
            show jEv _ _ _ _ _ _ _ (_, [(2, 1), (0, (xs 1)), (0, (xs 2))], [(0, 0), (0, 0)], _, _, _)
            refine ev_iand (r := 0) (by decide) ?_
            refine ev_ifeq f163_20 (fun c31 => ?_) (fun c31 => absurd c31 (by omega))
            refine ev_aload_n rfl ?_
            refine ev_iload_n rfl ?_
            refine ev_iload_n rfl ?_
            refine ev_ior (r := 0) (by rw [show (xs 1) = 0 by omega, show (xs 2) = 0 by omega]; decide) ?_
            refine ev_in (d := 5) (a := 0) (b := 0) (cd' := c161_0) (m := 2) (L0 := [(2, 1), (0, 0)]) (jcall_v (A := [(0, 0)]) (S' := []) (r := 1) rfl (hS36.lt (by decide)) (hS36.sh (by decide) rfl).1 (Nat.le_of_ble_eq_true rfl)) (by decide) ml161 pp161 (Nat.le_of_ble_eq_true rfl) rfl (by decide) (by decide) ?_
            refine ev_iload_n rfl ?_
            refine ev_iflt f161_12 (fun c32 => absurd c32 (by omega)) (fun c32 => ?_)
            refine ev_iload_n rfl ?_
            refine ev_aload_n rfl ?_
            refine ev_in (d := 4) (a := 0) (b := 0) (cd' := c157_0) (m := 1) (L0 := [(2, 1)]) (jcall_v (A := []) (S' := [(0, 0)]) (r := 1) rfl (hS36.lt (by decide)) (hS36.sh (by decide) rfl).1 (Nat.le_of_ble_eq_true rfl)) (by decide) ml157 pp157 (Nat.le_of_ble_eq_true rfl) rfl (by decide) (by decide) ?_
            refine ev_iconst ?_
            refine ev_iconst ?_
            refine ev_aload_n rfl ?_
            refine ev_getf (r := 1) (v := 0) (hS36.lt (by decide)) (hS36.fam (by decide) (by decide)) ft10_0 ((jw_ne e36 (Or.inl (by decide))).trans ((jw_ne e35 (Or.inr (by decide))).trans ((jw_ne e34 (Or.inr (by decide))).trans ((hF.v rfl))))) ?_
            refine ev_imul (r := 0) (by decide) ?_
            refine ev_ishl (r := 1) (by decide) ?_
            refine ev_ret rfl (by decide) (by decide) ?_
            show jEv _ _ _ _ _ _ _ (_, [(2, 1), (0, 0)], [(0, 1), (0, 0)], _, _, _)
            refine ev_icmplt f161_16 (fun c33 => ?_) (fun c33 => absurd c33 (by omega))
            refine ev_aload_n rfl ?_
            refine ev_getf (r := 1) (v := 6) (hS36.lt (by decide)) (hS36.fam (by decide) (by decide)) ft10_7 ((jw_ne e36 (Or.inl (by decide))).trans ((jw_ne e35 (Or.inr (by decide))).trans ((jw_ne e34 (Or.inr (by decide))).trans ((hF.v rfl))))) ?_
            refine ev_iload_n rfl ?_
            refine ev_lald (r := 6) (j := 0) (v := 1) (hS36.lt (by decide)) (hS36.sh (by decide) rfl).1 rfl (hS36.inb (by decide) (by decide)) (jw_eq e36) ?_
            refine ev_ret rfl (by decide) (by decide) ?_
            show jEv _ _ _ _ _ _ _ (_, [(2, 1), (0, (xs 1)), (0, (xs 2))], [(1, 1)], _, _, _)
            refine ev_ret rfl (by decide) (by decide) ?_
            show jEv _ _ _ _ _ _ _ (_, [(2, 0), (0, (xs 1)), (0, (xs 2)), (0, (xs 3))], [(1, 1)], _, _, _)
            refine ev_aload_n rfl ?_
            refine ev_getf (r := 0) (v := 1) (hS36.lt (by decide)) (hS36.fam (by decide) (by decide)) ft11_0 ((jw_ne e36 (Or.inl (by decide))).trans ((jw_ne e35 (Or.inl (by decide))).trans ((jw_ne e34 (Or.inl (by decide))).trans ((hF.v rfl))))) ?_
            refine ev_iload_n rfl ?_
            refine ev_in (d := 6) (a := 0) (b := 0) (cd' := c161_0) (m := 2) (L0 := [(2, 1), (0, (xs 2))]) (jcall_v (A := [(0, (xs 2))]) (S' := [(1, 1)]) (r := 1) rfl (hS36.lt (by decide)) (hS36.sh (by decide) rfl).1 (Nat.le_of_ble_eq_true rfl)) (by decide) ml161 pp161 (Nat.le_of_ble_eq_true rfl) rfl (by decide) (by decide) ?_
            refine ev_iload_n rfl ?_
            refine ev_iflt f161_12 (fun c34 => absurd c34 (by omega)) (fun c34 => ?_)
            refine ev_iload_n rfl ?_
            refine ev_aload_n rfl ?_
            refine ev_in (d := 5) (a := 0) (b := 0) (cd' := c157_0) (m := 1) (L0 := [(2, 1)]) (jcall_v (A := []) (S' := [(0, (xs 2))]) (r := 1) rfl (hS36.lt (by decide)) (hS36.sh (by decide) rfl).1 (Nat.le_of_ble_eq_true rfl)) (by decide) ml157 pp157 (Nat.le_of_ble_eq_true rfl) rfl (by decide) (by decide) ?_
            refine ev_iconst ?_
            refine ev_iconst ?_
            refine ev_aload_n rfl ?_
            refine ev_getf (r := 1) (v := 0) (hS36.lt (by decide)) (hS36.fam (by decide) (by decide)) ft10_0 ((jw_ne e36 (Or.inl (by decide))).trans ((jw_ne e35 (Or.inr (by decide))).trans ((jw_ne e34 (Or.inr (by decide))).trans ((hF.v rfl))))) ?_
            refine ev_imul (r := 0) (by decide) ?_
            refine ev_ishl (r := 1) (by decide) ?_
            refine ev_ret rfl (by decide) (by decide) ?_
            show jEv _ _ _ _ _ _ _ (_, [(2, 1), (0, (xs 2))], [(0, 1), (0, (xs 2))], _, _, _)
            refine ev_icmplt f161_16 (fun c35 => ?_) (fun c35 => absurd c35 (by omega))
            refine ev_aload_n rfl ?_
            refine ev_getf (r := 1) (v := 6) (hS36.lt (by decide)) (hS36.fam (by decide) (by decide)) ft10_7 ((jw_ne e36 (Or.inl (by decide))).trans ((jw_ne e35 (Or.inr (by decide))).trans ((jw_ne e34 (Or.inr (by decide))).trans ((hF.v rfl))))) ?_
            refine ev_iload_n rfl ?_
            refine ev_lald (r := 6) (j := 0) (v := 1) (hS36.lt (by decide)) (hS36.sh (by decide) rfl).1 (by omega) (hS36.inb (by decide) (by decide)) (jw_eq e36) ?_
            refine ev_ret rfl (by decide) (by decide) ?_
            show jEv _ _ _ _ _ _ _ (_, [(2, 0), (0, (xs 1)), (0, (xs 2)), (0, (xs 3))], [(1, 1), (1, 1)], _, _, _)
            refine ev_iload_n rfl ?_
            refine ev_in (d := 6) (a := 0) (b := 0) (cd' := c223_0) (m := 9) (L0 := [(1, 1), (9, 0), (1, 1), (9, 0), (0, (xs 3)), (9, 0), (9, 0), (9, 0), (9, 0)]) (jcall_s (A := [(0, (xs 3)), (1, 1), (1, 1)]) (S' := []) (by decide) rfl (Nat.le_of_ble_eq_true rfl)) (by decide) ml223 pp223 (Nat.le_of_ble_eq_true rfl) rfl (by decide) (by decide) ?_
            refine ev_lload_n rfl ?_
            refine ev_lconst ?_
            refine ev_lcmp ?_
            refine ev_ifge f223_11 (fun c36 => ?_) (fun c36 => absurd (show _ from by unfold jcmpL; (repeat' split) <;> omega) c36)
            refine ev_lload_n rfl ?_
            refine ev_lload_n rfl ?_
            refine ev_in (d := 5) (a := 0) (b := 0) (cd' := c224_0) (m := 11) (L0 := [(1, 1), (9, 0), (1, 1), (9, 0), (9, 0), (9, 0), (9, 0), (9, 0), (9, 0), (9, 0), (9, 0)]) (jcall_s (A := [(1, 1), (1, 1)]) (S' := []) (by decide) rfl (Nat.le_of_ble_eq_true rfl)) (by decide) ml224 pp224 (Nat.le_of_ble_eq_true rfl) rfl (by decide) (by decide) ?_
            refine ev_lload_n rfl ?_
            refine ev_lstore (L' := [(1, 1), (9, 0), (1, 1), (9, 0), (1, 1), (9, 0), (9, 0), (9, 0), (9, 0), (9, 0), (9, 0)]) (Nat.le_of_ble_eq_true rfl) rfl ?_
            refine ev_lload_n rfl ?_
            refine ev_lstore (L' := [(1, 1), (9, 0), (1, 1), (9, 0), (1, 1), (9, 0), (1, 1), (9, 0), (9, 0), (9, 0), (9, 0)]) (Nat.le_of_ble_eq_true rfl) rfl ?_
            refine ev_iconst ?_
            refine ev_istore (L' := [(1, 1), (9, 0), (1, 1), (9, 0), (1, 1), (9, 0), (1, 1), (9, 0), (0, 0), (9, 0), (9, 0)]) (Nat.le_of_ble_eq_true rfl) rfl ?_
            refine ev_iload rfl ?_
            refine ev_sipush ?_
            refine ev_icmpge f224_45 (fun c37 => absurd c37 (by omega)) (fun c37 => ?_)
            refine ev_lload rfl ?_
            refine ev_lconst ?_
            refine ev_lcmp ?_
            refine ev_ifeq f224_45 (fun c38 => absurd c38 (by unfold jcmpL; (repeat' split) <;> omega)) (fun c38 => ?_)
            refine ev_lload rfl ?_
            refine ev_lload rfl ?_
            refine ev_lrem (r := 0) (by decide) (by decide) ?_
            refine ev_lstore (L' := [(1, 1), (9, 0), (1, 1), (9, 0), (1, 1), (9, 0), (1, 1), (9, 0), (0, 0), (1, 0), (9, 0)]) (Nat.le_of_ble_eq_true rfl) rfl ?_
            refine ev_lload rfl ?_
            refine ev_lstore (L' := [(1, 1), (9, 0), (1, 1), (9, 0), (1, 1), (9, 0), (1, 1), (9, 0), (0, 0), (1, 0), (9, 0)]) (Nat.le_of_ble_eq_true rfl) rfl ?_
            refine ev_lload rfl ?_
            refine ev_lstore (L' := [(1, 1), (9, 0), (1, 1), (9, 0), (1, 1), (9, 0), (1, 0), (9, 0), (0, 0), (1, 0), (9, 0)]) (Nat.le_of_ble_eq_true rfl) rfl ?_
            refine ev_iinc (w := 1) (L' := [(1, 1), (9, 0), (1, 1), (9, 0), (1, 1), (9, 0), (1, 0), (9, 0), (0, 1), (1, 0), (9, 0)]) rfl (by decide) rfl ?_
            refine ev_goto f224_9 ?_
            refine ev_iload rfl ?_
            refine ev_sipush ?_
            refine ev_icmpge f224_45 (fun c39 => absurd c39 (by omega)) (fun c39 => ?_)
            refine ev_lload rfl ?_
            refine ev_lconst ?_
            refine ev_lcmp ?_
            refine ev_ifeq f224_45 (fun c40 => ?_) (fun c40 => absurd (show _ from by unfold jcmpL; (repeat' split) <;> omega) c40)
            refine ev_lload rfl ?_
            refine ev_ret rfl (by decide) (by decide) ?_
            show jEv _ _ _ _ _ _ _ (_, [(1, 1), (9, 0), (1, 1), (9, 0), (0, (xs 3)), (9, 0), (9, 0), (9, 0), (9, 0)], [(1, 1)], _, _, _)
            refine ev_lstore (L' := [(1, 1), (9, 0), (1, 1), (9, 0), (0, (xs 3)), (1, 1), (9, 0), (9, 0), (9, 0)]) (Nat.le_of_ble_eq_true rfl) rfl ?_
            refine ev_iload rfl ?_
            refine ev_ifne f223_27 (fun c41 => absurd c41 (by omega)) (fun c41 => ?_)
            refine ev_lload_n rfl ?_
            refine ev_goto f223_28 ?_
            refine ev_lstore (L' := [(1, 1), (9, 0), (1, 1), (9, 0), (0, (xs 3)), (1, 1), (9, 0), (1, 1), (9, 0)]) (Nat.le_of_ble_eq_true rfl) rfl ?_
            refine ev_lload rfl ?_
            refine ev_lconst ?_
            refine ev_lcmp ?_
            refine ev_ifgt f223_42 (fun c42 => absurd c42 (by unfold jcmpL; (repeat' split) <;> omega)) (fun c42 => ?_)
            refine ev_lload rfl ?_
            refine ev_goto f223_47 ?_
            refine ev_ret rfl (by decide) (by decide) ?_
            show jEv _ _ _ _ _ _ _ (_, [(2, 0), (0, (xs 1)), (0, (xs 2)), (0, (xs 3))], [(1, 1)], _, _, _)
            refine ev_ret rfl (by decide) (by decide) ?_
            show jEv _ _ _ _ _ _ _ (_, [(2, (-2)), (2, 0), (2, 42), (0, 0)], [(1, 1)], _, _, _)
            refine ev_aload_n rfl ?_
            refine ev_aload_n rfl ?_
            refine ev_iload_n rfl ?_
            refine ev_iconst ?_
            refine ev_iadd (r := 1) (by decide) ?_
            refine ev_sald (j := 1) (v := (xs 1)) rfl rfl rfl ?_
            refine ev_aload_n rfl ?_
            refine ev_iload_n rfl ?_
            refine ev_iconst ?_
            refine ev_iadd (r := 2) (by decide) ?_
            refine ev_sald (j := 2) (v := (xs 2)) rfl rfl rfl ?_
            refine ev_aload_n rfl ?_
            refine ev_iload_n rfl ?_
            refine ev_iconst ?_
            refine ev_iadd (r := 3) (by decide) ?_
            refine ev_sald (j := 3) (v := (xs 3)) rfl rfl rfl ?_
            refine ev_in (d := 7) (a := 0) (b := 0) (cd' := c260_0) (m := 9) (L0 := [(2, 42), (0, (xs 1)), (0, (xs 2)), (0, (xs 3)), (9, 0), (9, 0), (9, 0), (9, 0), (9, 0)]) (jcall_v (A := [(0, (xs 3)), (0, (xs 2)), (0, (xs 1))]) (S' := [(1, 1)]) (r := 42) rfl (hS36.lt (by decide)) (hS36.sh (by decide) rfl).1 (Nat.le_of_ble_eq_true rfl)) (by decide) ml260 pp260 (Nat.le_of_ble_eq_true rfl) rfl (by decide) (by decide) ?_
            refine ev_aload_n rfl ?_
            refine ev_iload_n rfl ?_
            refine ev_in (d := 6) (a := 0) (b := 0) (cd' := c258_0) (m := 3) (L0 := [(2, 42), (0, (xs 1)), (9, 0)]) (jcall_v (A := [(0, (xs 1))]) (S' := []) (r := 42) rfl (hS36.lt (by decide)) (hS36.sh (by decide) rfl).1 (Nat.le_of_ble_eq_true rfl)) (by decide) ml258 pp258 (Nat.le_of_ble_eq_true rfl) rfl (by decide) (by decide) ?_
            refine ev_iload_n rfl ?_
            refine ev_iflt f258_15 (fun c43 => absurd c43 (by omega)) (fun c43 => ?_)
            refine ev_iload_n rfl ?_
            refine ev_iconst ?_
            refine ev_aload_n rfl ?_
            refine ev_getf (r := 42) (v := 0) (hS36.lt (by decide)) (hS36.fam (by decide) (by decide)) ft12_1 ((jw_ne e36 (Or.inl (by decide))).trans ((jw_ne e35 (Or.inl (by decide))).trans ((jw_ne e34 (Or.inl (by decide))).trans ((hF.v rfl))))) ?_
            refine ev_imul (r := 0) (by decide) ?_
            refine ev_ishr (r := 0) (by rw [show (xs 1) = 0 by omega]; decide) ?_
            refine ev_ifeq f258_17 (fun c44 => ?_) (fun c44 => absurd c44 (by omega))
            refine ev_iconst ?_
            refine ev_istore_n (L' := [(2, 42), (0, (xs 1)), (0, 0)]) (Nat.le_of_ble_eq_true rfl) rfl ?_
            refine ev_iload_n rfl ?_
            refine ev_aload_n rfl ?_
            refine ev_getf (r := 42) (v := 0) (hS36.lt (by decide)) (hS36.fam (by decide) (by decide)) ft12_1 ((jw_ne e36 (Or.inl (by decide))).trans ((jw_ne e35 (Or.inl (by decide))).trans ((jw_ne e34 (Or.inl (by decide))).trans ((hF.v rfl))))) ?_
            refine ev_icmpge f258_51 (fun c45 => ?_) (fun c45 => absurd c45 (by omega))
            refine ev_iconst ?_
            refine ev_ret rfl (by decide) (by decide) ?_
            show jEv _ _ _ _ _ _ _ (_, [(2, 42), (0, (xs 1)), (0, (xs 2)), (0, (xs 3)), (9, 0), (9, 0), (9, 0), (9, 0), (9, 0)], [(0, 1)], _, _, _)
            refine ev_ifeq f260_25 (fun c46 => absurd c46 (by omega)) (fun c46 => ?_)
            refine ev_aload_n rfl ?_
            refine ev_iload_n rfl ?_
            refine ev_in (d := 6) (a := 0) (b := 0) (cd' := c258_0) (m := 3) (L0 := [(2, 42), (0, (xs 2)), (9, 0)]) (jcall_v (A := [(0, (xs 2))]) (S' := []) (r := 42) rfl (hS36.lt (by decide)) (hS36.sh (by decide) rfl).1 (Nat.le_of_ble_eq_true rfl)) (by decide) ml258 pp258 (Nat.le_of_ble_eq_true rfl) rfl (by decide) (by decide) ?_
            refine ev_iload_n rfl ?_
            refine ev_iflt f258_15 (fun c47 => absurd c47 (by omega)) (fun c47 => ?_)
            refine ev_iload_n rfl ?_
            refine ev_iconst ?_
            refine ev_aload_n rfl ?_
            refine ev_getf (r := 42) (v := 0) (hS36.lt (by decide)) (hS36.fam (by decide) (by decide)) ft12_1 ((jw_ne e36 (Or.inl (by decide))).trans ((jw_ne e35 (Or.inl (by decide))).trans ((jw_ne e34 (Or.inl (by decide))).trans ((hF.v rfl))))) ?_
            refine ev_imul (r := 0) (by decide) ?_
            refine ev_ishr (r := 0) (by rw [show (xs 2) = 0 by omega]; decide) ?_
            refine ev_ifeq f258_17 (fun c48 => ?_) (fun c48 => absurd c48 (by omega))
            refine ev_iconst ?_
            refine ev_istore_n (L' := [(2, 42), (0, (xs 2)), (0, 0)]) (Nat.le_of_ble_eq_true rfl) rfl ?_
            refine ev_iload_n rfl ?_
            refine ev_aload_n rfl ?_
            refine ev_getf (r := 42) (v := 0) (hS36.lt (by decide)) (hS36.fam (by decide) (by decide)) ft12_1 ((jw_ne e36 (Or.inl (by decide))).trans ((jw_ne e35 (Or.inl (by decide))).trans ((jw_ne e34 (Or.inl (by decide))).trans ((hF.v rfl))))) ?_
            refine ev_icmpge f258_51 (fun c49 => ?_) (fun c49 => absurd c49 (by omega))
            refine ev_iconst ?_
            refine ev_ret rfl (by decide) (by decide) ?_
            show jEv _ _ _ _ _ _ _ (_, [(2, 42), (0, (xs 1)), (0, (xs 2)), (0, (xs 3)), (9, 0), (9, 0), (9, 0), (9, 0), (9, 0)], [(0, 1)], _, _, _)
            refine ev_ifeq f260_25 (fun c50 => absurd c50 (by omega)) (fun c50 => ?_)
            refine ev_iload_n rfl ?_
            refine ev_iconst ?_
            refine ev_iconst ?_
            refine ev_in (d := 6) (a := 0) (b := 0) (cd' := c242_0) (m := 3) (L0 := [(0, (xs 3)), (0, 0), (0, 1)]) (jcall_s (A := [(0, 1), (0, 0), (0, (xs 3))]) (S' := []) (by decide) rfl (Nat.le_of_ble_eq_true rfl)) (by decide) ml242 pp242 (Nat.le_of_ble_eq_true rfl) rfl (by decide) (by decide) ?_
            refine ev_iload_n rfl ?_
            refine ev_iload_n rfl ?_
            refine ev_icmplt f242_14 (fun c51 => absurd c51 (by omega)) (fun c51 => ?_)
            refine ev_iload_n rfl ?_
            refine ev_iload_n rfl ?_
            refine ev_icmpgt f242_14 (fun c52 => absurd c52 (by omega)) (fun c52 => ?_)
            refine ev_iconst ?_
            refine ev_goto f242_15 ?_
            refine ev_ret rfl (by decide) (by decide) ?_
            show jEv _ _ _ _ _ _ _ (_, [(2, 42), (0, (xs 1)), (0, (xs 2)), (0, (xs 3)), (9, 0), (9, 0), (9, 0), (9, 0), (9, 0)], [(0, 1)], _, _, _)
            refine ev_ifne f260_29 (fun c53 => ?_) (fun c53 => absurd c53 (by omega))
            refine ev_aload_n rfl ?_
            refine ev_in (d := 6) (a := 0) (b := 0) (cd' := c256_0) (m := 4) (L0 := [(2, 42), (9, 0), (9, 0), (9, 0)]) (jcall_v (A := []) (S' := []) (r := 42) rfl (hS36.lt (by decide)) (hS36.sh (by decide) rfl).1 (Nat.le_of_ble_eq_true rfl)) (by decide) ml256 pp256 (Nat.le_of_ble_eq_true rfl) rfl (by decide) (by decide) ?_
            refine ev_aload_n rfl ?_
            refine ev_aload_n rfl ?_
            refine ev_in (d := 5) (a := 0) (b := 0) (cd' := c253_0) (m := 6) (L0 := [(2, 42), (9, 0), (9, 0), (9, 0), (9, 0), (9, 0)]) (jcall_v (A := []) (S' := [(2, 42)]) (r := 42) rfl (hS36.lt (by decide)) (hS36.sh (by decide) rfl).1 (Nat.le_of_ble_eq_true rfl)) (by decide) ml253 pp253 (Nat.le_of_ble_eq_true rfl) rfl (by decide) (by decide) ?_
            refine ev_lconst ?_
            refine ev_lstore_n (L' := [(2, 42), (1, 1), (9, 0), (9, 0), (9, 0), (9, 0)]) (Nat.le_of_ble_eq_true rfl) rfl ?_
            refine ev_iconst ?_
            refine ev_istore_n (L' := [(2, 42), (1, 1), (9, 0), (0, 0), (9, 0), (9, 0)]) (Nat.le_of_ble_eq_true rfl) rfl ?_
            refine ev_iload_n rfl ?_
            refine ev_aload_n rfl ?_
            refine ev_getf (r := 42) (v := 0) (hS36.lt (by decide)) (hS36.fam (by decide) (by decide)) ft12_1 ((jw_ne e36 (Or.inl (by decide))).trans ((jw_ne e35 (Or.inl (by decide))).trans ((jw_ne e34 (Or.inl (by decide))).trans ((hF.v rfl))))) ?_
            refine ev_icmpge f253_45 (fun c54 => ?_) (fun c54 => absurd c54 (by omega))
            refine ev_lload_n rfl ?_
            refine ev_ret rfl (by decide) (by decide) ?_
            show jEv _ _ _ _ _ _ _ (_, [(2, 42), (9, 0), (9, 0), (9, 0)], [(1, 1), (2, 42)], _, _, _)
            refine ev_putfG (r := 42) (hS36.lt (by decide)) (hS36.fam (by decide) (by decide)) ft12_8 (fun e => absurd e nz12_8) (fun e => absurd e (by decide)) (fun h37 e37 => ?_)
            have hS37 := hS36.wr e37
            refine ev_aload_n rfl ?_
            refine ev_getf (r := 42) (v := 1) (hS37.lt (by decide)) (hS37.fam (by decide) (by decide)) ft12_8 (jw_eq e37) ?_
            refine ev_lconst ?_
            refine ev_lcmp ?_
            refine ev_ifge f256_19 (fun c55 => ?_) (fun c55 => absurd (show _ from by unfold jcmpL; (repeat' split) <;> omega) c55)
            refine ev_aload_n rfl ?_
            refine ev_iconst ?_
            refine ev_putfG (r := 42) (hS37.lt (by decide)) (hS37.fam (by decide) (by decide)) ft12_5 (fun e => absurd e nz12_5) (fun e => absurd e (by decide)) (fun h38 e38 => ?_)
            have hS38 := hS37.wr e38
            refine ev_iconst ?_
            refine ev_istore_n (L' := [(2, 42), (0, 0), (9, 0), (9, 0)]) (Nat.le_of_ble_eq_true rfl) rfl ?_
            refine ev_iload_n rfl ?_
            refine ev_aload_n rfl ?_
            refine ev_getf (r := 42) (v := 0) (hS38.lt (by decide)) (hS38.fam (by decide) (by decide)) ft12_1 ((jw_ne e38 (Or.inr (by decide))).trans ((jw_ne e37 (Or.inr (by decide))).trans ((jw_ne e36 (Or.inl (by decide))).trans ((jw_ne e35 (Or.inl (by decide))).trans ((jw_ne e34 (Or.inl (by decide))).trans ((hF.v rfl))))))) ?_
            refine ev_icmpge f256_55 (fun c56 => ?_) (fun c56 => absurd c56 (by omega))
            refine ev_iconst ?_
            refine ev_istore_n (L' := [(2, 42), (0, 0), (9, 0), (9, 0)]) (Nat.le_of_ble_eq_true rfl) rfl ?_
            refine ev_iload_n rfl ?_
            refine ev_aload_n rfl ?_
            refine ev_getf (r := 42) (v := 1) (hS38.lt (by decide)) (hS38.fam (by decide) (by decide)) ft12_5 (jw_eq e38) ?_
            refine ev_icmpge f256_127 (fun c57 => absurd c57 (by omega)) (fun c57 => ?_)
            refine ev_iload_n rfl ?_
            refine ev_istore_n (L' := [(2, 42), (0, 0), (0, 0), (9, 0)]) (Nat.le_of_ble_eq_true rfl) rfl ?_
            refine ev_iconst ?_
            refine ev_istore_n (L' := [(2, 42), (0, 0), (0, 0), (0, 0)]) (Nat.le_of_ble_eq_true rfl) rfl ?_
            refine ev_iload_n rfl ?_
            refine ev_aload_n rfl ?_
            refine ev_getf (r := 42) (v := 0) (hS38.lt (by decide)) (hS38.fam (by decide) (by decide)) ft12_1 ((jw_ne e38 (Or.inr (by decide))).trans ((jw_ne e37 (Or.inr (by decide))).trans ((jw_ne e36 (Or.inl (by decide))).trans ((jw_ne e35 (Or.inl (by decide))).trans ((jw_ne e34 (Or.inl (by decide))).trans ((hF.v rfl))))))) ?_
            refine ev_icmpge f256_110 (fun c58 => ?_) (fun c58 => absurd c58 (by omega))
            refine ev_aload_n rfl ?_
            refine ev_getf (r := 42) (v := 47) (hS38.lt (by decide)) (hS38.fam (by decide) (by decide)) ft12_7 ((jw_ne e38 (Or.inr (by decide))).trans ((jw_ne e37 (Or.inr (by decide))).trans ((jw_ne e36 (Or.inl (by decide))).trans ((jw_ne e35 (Or.inl (by decide))).trans ((jw_ne e34 (Or.inl (by decide))).trans ((hF.v rfl))))))) ?_
            refine ev_iload_n rfl ?_
            refine ev_aload_n rfl ?_
            refine ev_iload_n rfl ?_
            refine ev_in (d := 5) (a := 0) (b := 0) (cd' := c255_0) (m := 6) (L0 := [(2, 42), (0, 0), (9, 0), (9, 0), (9, 0), (9, 0)]) (jcall_v (A := [(0, 0)]) (S' := [(0, 0), (2, 47)]) (r := 42) rfl (hS38.lt (by decide)) (hS38.sh (by decide) rfl).1 (Nat.le_of_ble_eq_true rfl)) (by decide) ml255 pp255 (Nat.le_of_ble_eq_true rfl) rfl (by decide) (by decide) ?_
            refine ev_lconst ?_
            refine ev_lstore_n (L' := [(2, 42), (0, 0), (1, 1), (9, 0), (9, 0), (9, 0)]) (Nat.le_of_ble_eq_true rfl) rfl ?_
            refine ev_iconst ?_
            refine ev_istore (L' := [(2, 42), (0, 0), (1, 1), (9, 0), (0, 0), (9, 0)]) (Nat.le_of_ble_eq_true rfl) rfl ?_
            refine ev_iload rfl ?_
            refine ev_aload_n rfl ?_
            refine ev_getf (r := 42) (v := 0) (hS38.lt (by decide)) (hS38.fam (by decide) (by decide)) ft12_1 ((jw_ne e38 (Or.inr (by decide))).trans ((jw_ne e37 (Or.inr (by decide))).trans ((jw_ne e36 (Or.inl (by decide))).trans ((jw_ne e35 (Or.inl (by decide))).trans ((jw_ne e34 (Or.inl (by decide))).trans ((hF.v rfl))))))) ?_
            refine ev_icmpge f255_100 (fun c59 => ?_) (fun c59 => absurd c59 (by omega))
            refine ev_lload_n rfl ?_
            refine ev_ret rfl (by decide) (by decide) ?_
            show jEv _ _ _ _ _ _ _ (_, [(2, 42), (0, 0), (0, 0), (0, 0)], [(1, 1), (0, 0), (2, 47)], _, _, _)
            refine ev_lastG (r := 47) (j := 0) (hS38.lt (by decide)) (hS38.sh (by decide) rfl).1 rfl (hS38.inb (by decide) (by decide)) (fun h39 e39 => ?_)
            have hS39 := hS38.wr e39
            refine ev_iinc (w := 1) (L' := [(2, 42), (0, 1), (0, 0), (0, 0)]) rfl (by decide) rfl ?_
            refine ev_goto f256_57 ?_
            refine ev_iload_n rfl ?_
            refine ev_aload_n rfl ?_
            refine ev_getf (r := 42) (v := 1) (hS39.lt (by decide)) (hS39.fam (by decide) (by decide)) ft12_5 ((jw_ne e39 (Or.inl (by decide))).trans (jw_eq e38)) ?_
            refine ev_icmpge f256_127 (fun c60 => ?_) (fun c60 => absurd c60 (by omega))
            refine ev_iconst ?_
            refine ev_ret rfl (by decide) (by decide) ?_
            show jEv _ _ _ _ _ _ _ (_, [(2, 42), (0, (xs 1)), (0, (xs 2)), (0, (xs 3)), (9, 0), (9, 0), (9, 0), (9, 0), (9, 0)], [(0, 1)], _, _, _)
            refine ev_ifne f260_40 (fun c61 => ?_) (fun c61 => absurd c61 (by omega))
            refine ev_lconst ?_
            refine ev_lstore (L' := [(2, 42), (0, (xs 1)), (0, (xs 2)), (0, (xs 3)), (1, 0), (9, 0), (9, 0), (9, 0), (9, 0)]) (Nat.le_of_ble_eq_true rfl) rfl ?_
            refine ev_lconst ?_
            refine ev_lstore (L' := [(2, 42), (0, (xs 1)), (0, (xs 2)), (0, (xs 3)), (1, 0), (9, 0), (1, 0), (9, 0), (9, 0)]) (Nat.le_of_ble_eq_true rfl) rfl ?_
            refine ev_iconst ?_
            refine ev_istore (L' := [(2, 42), (0, (xs 1)), (0, (xs 2)), (0, (xs 3)), (1, 0), (9, 0), (1, 0), (9, 0), (0, 0)]) (Nat.le_of_ble_eq_true rfl) rfl ?_
            refine ev_iload rfl ?_
            refine ev_aload_n rfl ?_
            refine ev_getf (r := 42) (v := 1) (hS39.lt (by decide)) (hS39.fam (by decide) (by decide)) ft12_5 ((jw_ne e39 (Or.inl (by decide))).trans (jw_eq e38)) ?_
            refine ev_icmpge f260_111 (fun c62 => absurd c62 (by omega)) (fun c62 => ?_)
            refine ev_aload_n rfl ?_
            refine ev_iload rfl ?_
            refine ev_iload_n rfl ?_
            refine ev_in (d := 6) (a := 0) (b := 0) (cd' := c259_0) (m := 5) (L0 := [(2, 42), (0, 0), (0, (xs 2)), (9, 0), (9, 0)]) (jcall_v (A := [(0, (xs 2)), (0, 0)]) (S' := []) (r := 42) rfl (hS39.lt (by decide)) (hS39.sh (by decide) rfl).1 (Nat.le_of_ble_eq_true rfl)) (by decide) ml259 pp259 (Nat.le_of_ble_eq_true rfl) rfl (by decide) (by decide) ?_
            refine ev_iconst ?_
            refine ev_istore_n (L' := [(2, 42), (0, 0), (0, (xs 2)), (0, 0), (9, 0)]) (Nat.le_of_ble_eq_true rfl) rfl ?_
            refine ev_iload_n rfl ?_
            refine ev_aload_n rfl ?_
            refine ev_getf (r := 42) (v := 0) (hS39.lt (by decide)) (hS39.fam (by decide) (by decide)) ft12_1 ((jw_ne e39 (Or.inl (by decide))).trans ((jw_ne e38 (Or.inr (by decide))).trans ((jw_ne e37 (Or.inr (by decide))).trans ((jw_ne e36 (Or.inl (by decide))).trans ((jw_ne e35 (Or.inl (by decide))).trans ((jw_ne e34 (Or.inl (by decide))).trans ((hF.v rfl)))))))) ?_
            refine ev_icmpge f259_49 (fun c63 => ?_) (fun c63 => absurd c63 (by omega))
            refine ev_iconst ?_
            refine ev_ret rfl (by decide) (by decide) ?_
            show jEv _ _ _ _ _ _ _ (_, [(2, 42), (0, (xs 1)), (0, (xs 2)), (0, (xs 3)), (1, 0), (9, 0), (1, 0), (9, 0), (0, 0)], [(0, 1)], _, _, _)
            refine ev_ifne f260_71 (fun c64 => ?_) (fun c64 => absurd c64 (by omega))
            refine ev_lload rfl ?_
            refine ev_aload_n rfl ?_
            refine ev_getf (r := 42) (v := 47) (hS39.lt (by decide)) (hS39.fam (by decide) (by decide)) ft12_7 ((jw_ne e39 (Or.inl (by decide))).trans ((jw_ne e38 (Or.inr (by decide))).trans ((jw_ne e37 (Or.inr (by decide))).trans ((jw_ne e36 (Or.inl (by decide))).trans ((jw_ne e35 (Or.inl (by decide))).trans ((jw_ne e34 (Or.inl (by decide))).trans ((hF.v rfl)))))))) ?_
            refine ev_iload rfl ?_
            refine ev_lald (r := 47) (j := 0) (v := 1) (hS39.lt (by decide)) (hS39.sh (by decide) rfl).1 rfl (hS39.inb (by decide) (by decide)) (jw_eq e39) ?_
            refine ev_ladd (r := 1) (by decide) ?_
            refine ev_lstore (L' := [(2, 42), (0, (xs 1)), (0, (xs 2)), (0, (xs 3)), (1, 0), (9, 0), (1, 1), (9, 0), (0, 0)]) (Nat.le_of_ble_eq_true rfl) rfl ?_
            refine ev_aload_n rfl ?_
            refine ev_iload rfl ?_
            refine ev_iload_n rfl ?_
            refine ev_in (d := 6) (a := 0) (b := 0) (cd' := c259_0) (m := 5) (L0 := [(2, 42), (0, 0), (0, (xs 1)), (9, 0), (9, 0)]) (jcall_v (A := [(0, (xs 1)), (0, 0)]) (S' := []) (r := 42) rfl (hS39.lt (by decide)) (hS39.sh (by decide) rfl).1 (Nat.le_of_ble_eq_true rfl)) (by decide) ml259 pp259 (Nat.le_of_ble_eq_true rfl) rfl (by decide) (by decide) ?_
            refine ev_iconst ?_
            refine ev_istore_n (L' := [(2, 42), (0, 0), (0, (xs 1)), (0, 0), (9, 0)]) (Nat.le_of_ble_eq_true rfl) rfl ?_
            refine ev_iload_n rfl ?_
            refine ev_aload_n rfl ?_
            refine ev_getf (r := 42) (v := 0) (hS39.lt (by decide)) (hS39.fam (by decide) (by decide)) ft12_1 ((jw_ne e39 (Or.inl (by decide))).trans ((jw_ne e38 (Or.inr (by decide))).trans ((jw_ne e37 (Or.inr (by decide))).trans ((jw_ne e36 (Or.inl (by decide))).trans ((jw_ne e35 (Or.inl (by decide))).trans ((jw_ne e34 (Or.inl (by decide))).trans ((hF.v rfl)))))))) ?_
            refine ev_icmpge f259_49 (fun c65 => ?_) (fun c65 => absurd c65 (by omega))
            refine ev_iconst ?_
            refine ev_ret rfl (by decide) (by decide) ?_
            show jEv _ _ _ _ _ _ _ (_, [(2, 42), (0, (xs 1)), (0, (xs 2)), (0, (xs 3)), (1, 0), (9, 0), (1, 1), (9, 0), (0, 0)], [(0, 1)], _, _, _)
            refine ev_ifeq f260_105 (fun c66 => absurd c66 (by omega)) (fun c66 => ?_)
            refine ev_lload rfl ?_
            refine ev_aload_n rfl ?_
            refine ev_getf (r := 42) (v := 47) (hS39.lt (by decide)) (hS39.fam (by decide) (by decide)) ft12_7 ((jw_ne e39 (Or.inl (by decide))).trans ((jw_ne e38 (Or.inr (by decide))).trans ((jw_ne e37 (Or.inr (by decide))).trans ((jw_ne e36 (Or.inl (by decide))).trans ((jw_ne e35 (Or.inl (by decide))).trans ((jw_ne e34 (Or.inl (by decide))).trans ((hF.v rfl)))))))) ?_
            refine ev_iload rfl ?_
            refine ev_lald (r := 47) (j := 0) (v := 1) (hS39.lt (by decide)) (hS39.sh (by decide) rfl).1 rfl (hS39.inb (by decide) (by decide)) (jw_eq e39) ?_
            refine ev_ladd (r := 1) (by decide) ?_
            refine ev_lstore (L' := [(2, 42), (0, (xs 1)), (0, (xs 2)), (0, (xs 3)), (1, 1), (9, 0), (1, 1), (9, 0), (0, 0)]) (Nat.le_of_ble_eq_true rfl) rfl ?_
            refine ev_iinc (w := 1) (L' := [(2, 42), (0, (xs 1)), (0, (xs 2)), (0, (xs 3)), (1, 1), (9, 0), (1, 1), (9, 0), (0, 1)]) rfl (by decide) rfl ?_
            refine ev_goto f260_49 ?_
            refine ev_iload rfl ?_
            refine ev_aload_n rfl ?_
            refine ev_getf (r := 42) (v := 1) (hS39.lt (by decide)) (hS39.fam (by decide) (by decide)) ft12_5 ((jw_ne e39 (Or.inl (by decide))).trans (jw_eq e38)) ?_
            refine ev_icmpge f260_111 (fun c67 => ?_) (fun c67 => absurd c67 (by omega))
            refine ev_lload rfl ?_
            refine ev_lload rfl ?_
            refine ev_iload_n rfl ?_
            refine ev_in (d := 6) (a := 0) (b := 0) (cd' := c244_0) (m := 7) (L0 := [(1, 1), (9, 0), (1, 1), (9, 0), (0, (xs 3)), (9, 0), (9, 0)]) (jcall_s (A := [(0, (xs 3)), (1, 1), (1, 1)]) (S' := []) (by decide) rfl (Nat.le_of_ble_eq_true rfl)) (by decide) ml244 pp244 (Nat.le_of_ble_eq_true rfl) rfl (by decide) (by decide) ?_
            refine ev_lload_n rfl ?_
            refine ev_lload_n rfl ?_
            refine ev_in (d := 5) (a := 0) (b := 0) (cd' := c243_0) (m := 10) (L0 := [(1, 1), (9, 0), (1, 1), (9, 0), (9, 0), (9, 0), (9, 0), (9, 0), (9, 0), (9, 0)]) (jcall_s (A := [(1, 1), (1, 1)]) (S' := []) (by decide) rfl (Nat.le_of_ble_eq_true rfl)) (by decide) ml243 pp243 (Nat.le_of_ble_eq_true rfl) rfl (by decide) (by decide) ?_
            refine ev_lload_n rfl ?_
            refine ev_lconst ?_
            refine ev_lcmp ?_
            refine ev_ifge f243_11 (fun c68 => ?_) (fun c68 => absurd (show _ from by unfold jcmpL; (repeat' split) <;> omega) c68)
            refine ev_lload_n rfl ?_
            refine ev_lstore (L' := [(1, 1), (9, 0), (1, 1), (9, 0), (1, 1), (9, 0), (9, 0), (9, 0), (9, 0), (9, 0)]) (Nat.le_of_ble_eq_true rfl) rfl ?_
            refine ev_lload_n rfl ?_
            refine ev_lstore (L' := [(1, 1), (9, 0), (1, 1), (9, 0), (1, 1), (9, 0), (1, 1), (9, 0), (9, 0), (9, 0)]) (Nat.le_of_ble_eq_true rfl) rfl ?_
            refine ev_lload rfl ?_
            refine ev_lconst ?_
            refine ev_lcmp ?_
            refine ev_ifeq f243_42 (fun c69 => absurd c69 (by unfold jcmpL; (repeat' split) <;> omega)) (fun c69 => ?_)
            refine ev_lload rfl ?_
            refine ev_lload rfl ?_
            refine ev_lrem (r := 0) (by decide) (by decide) ?_
            refine ev_lstore (L' := [(1, 1), (9, 0), (1, 1), (9, 0), (1, 1), (9, 0), (1, 1), (9, 0), (1, 0), (9, 0)]) (Nat.le_of_ble_eq_true rfl) rfl ?_
            refine ev_lload rfl ?_
            refine ev_lstore (L' := [(1, 1), (9, 0), (1, 1), (9, 0), (1, 1), (9, 0), (1, 1), (9, 0), (1, 0), (9, 0)]) (Nat.le_of_ble_eq_true rfl) rfl ?_
            refine ev_lload rfl ?_
            refine ev_lstore (L' := [(1, 1), (9, 0), (1, 1), (9, 0), (1, 1), (9, 0), (1, 0), (9, 0), (1, 0), (9, 0)]) (Nat.le_of_ble_eq_true rfl) rfl ?_
            refine ev_goto f243_17 ?_
            refine ev_lload rfl ?_
            refine ev_lconst ?_
            refine ev_lcmp ?_
            refine ev_ifeq f243_42 (fun c70 => ?_) (fun c70 => absurd (show _ from by unfold jcmpL; (repeat' split) <;> omega) c70)
            refine ev_lload rfl ?_
            refine ev_lconst ?_
            refine ev_lcmp ?_
            refine ev_ifne f243_53 (fun c71 => ?_) (fun c71 => absurd (show _ from by unfold jcmpL; (repeat' split) <;> omega) c71)
            refine ev_lload rfl ?_
            refine ev_ret rfl (by decide) (by decide) ?_
            show jEv _ _ _ _ _ _ _ (_, [(1, 1), (9, 0), (1, 1), (9, 0), (0, (xs 3)), (9, 0), (9, 0)], [(1, 1)], _, _, _)
            refine ev_lstore (L' := [(1, 1), (9, 0), (1, 1), (9, 0), (0, (xs 3)), (1, 1), (9, 0)]) (Nat.le_of_ble_eq_true rfl) rfl ?_
            refine ev_iload rfl ?_
            refine ev_ifne f244_19 (fun c72 => absurd c72 (by omega)) (fun c72 => ?_)
            refine ev_lload_n rfl ?_
            refine ev_lload rfl ?_
            refine ev_ldiv (r := 1) (by decide) (by decide) ?_
            refine ev_goto f244_23 ?_
            refine ev_ret rfl (by decide) (by decide) ?_
            show jEv _ _ _ _ _ _ _ (_, [(2, 42), (0, (xs 1)), (0, (xs 2)), (0, (xs 3)), (1, 1), (9, 0), (1, 1), (9, 0), (0, 1)], [(1, 1)], _, _, _)
            refine ev_ret rfl (by decide) (by decide) ?_
            show jEv _ _ _ _ _ _ _ (_, [(2, (-2)), (2, 0), (2, 42), (0, 0)], [(1, 1), (1, 1)], _, _, _)
            refine ev_lcmp ?_
            refine ev_ifeq f384_2190 (fun c73 => ?_) (fun c73 => absurd (show _ from by unfold jcmpL; (repeat' split) <;> omega) c73)
            exact law_tail _
          · refine ev_iload_n rfl ?_
            refine ev_iconst ?_
            refine ev_icmpne f221_13 (fun c74 => ?_) (fun c74 => ?_)
            · refine ev_iconst ?_
              refine ev_ret rfl (by decide) (by decide) ?_
              show jEv _ _ _ _ _ _ _ (_, [(2, 0), (0, (xs 1)), (0, (xs 2)), (0, (xs 3))], [(0, 0)], _, _, _)
              refine ev_ifne f171_33 (fun c75 => absurd c75 (by omega)) (fun c75 => ?_)
              refine ev_ldc2_w ?_
              refine ev_ret rfl (by decide) (by decide) ?_
              show jEv _ _ _ _ _ _ _ (_, [(2, (-2)), (2, 0), (2, 42), (0, 0)], [(1, (-1))], _, _, _)
              refine ev_aload_n rfl ?_
              refine ev_aload_n rfl ?_
              refine ev_iload_n rfl ?_
              refine ev_iconst ?_
              refine ev_iadd (r := 1) (by decide) ?_
              refine ev_sald (j := 1) (v := (xs 1)) rfl rfl rfl ?_
              refine ev_aload_n rfl ?_
              refine ev_iload_n rfl ?_
              refine ev_iconst ?_
              refine ev_iadd (r := 2) (by decide) ?_
              refine ev_sald (j := 2) (v := (xs 2)) rfl rfl rfl ?_
              refine ev_aload_n rfl ?_
              refine ev_iload_n rfl ?_
              refine ev_iconst ?_
              refine ev_iadd (r := 3) (by decide) ?_
              refine ev_sald (j := 3) (v := (xs 3)) rfl rfl rfl ?_
              refine ev_in (d := 7) (a := 0) (b := 0) (cd' := c260_0) (m := 9) (L0 := [(2, 42), (0, (xs 1)), (0, (xs 2)), (0, (xs 3)), (9, 0), (9, 0), (9, 0), (9, 0), (9, 0)]) (jcall_v (A := [(0, (xs 3)), (0, (xs 2)), (0, (xs 1))]) (S' := [(1, (-1))]) (r := 42) rfl (hF.1.lt (by decide)) (hF.1.sh (by decide) rfl).1 (Nat.le_of_ble_eq_true rfl)) (by decide) ml260 pp260 (Nat.le_of_ble_eq_true rfl) rfl (by decide) (by decide) ?_
              refine ev_aload_n rfl ?_
              refine ev_iload_n rfl ?_
              refine ev_in (d := 6) (a := 0) (b := 0) (cd' := c258_0) (m := 3) (L0 := [(2, 42), (0, (xs 1)), (9, 0)]) (jcall_v (A := [(0, (xs 1))]) (S' := []) (r := 42) rfl (hF.1.lt (by decide)) (hF.1.sh (by decide) rfl).1 (Nat.le_of_ble_eq_true rfl)) (by decide) ml258 pp258 (Nat.le_of_ble_eq_true rfl) rfl (by decide) (by decide) ?_
              refine ev_iload_n rfl ?_
              refine ev_iflt f258_15 (fun c76 => absurd c76 (by omega)) (fun c76 => ?_)
              refine ev_iload_n rfl ?_
              refine ev_iconst ?_
              refine ev_aload_n rfl ?_
              refine ev_getf (r := 42) (v := 0) (hF.1.lt (by decide)) (hF.1.fam (by decide) (by decide)) ft12_1 ((hF.v rfl)) ?_
              refine ev_imul (r := 0) (by decide) ?_
              refine ev_ishr (r := 0) (by rw [show (xs 1) = 0 by omega]; decide) ?_
              refine ev_ifeq f258_17 (fun c77 => ?_) (fun c77 => absurd c77 (by omega))
              refine ev_iconst ?_
              refine ev_istore_n (L' := [(2, 42), (0, (xs 1)), (0, 0)]) (Nat.le_of_ble_eq_true rfl) rfl ?_
              refine ev_iload_n rfl ?_
              refine ev_aload_n rfl ?_
              refine ev_getf (r := 42) (v := 0) (hF.1.lt (by decide)) (hF.1.fam (by decide) (by decide)) ft12_1 ((hF.v rfl)) ?_
              refine ev_icmpge f258_51 (fun c78 => ?_) (fun c78 => absurd c78 (by omega))
              refine ev_iconst ?_
              refine ev_ret rfl (by decide) (by decide) ?_
              show jEv _ _ _ _ _ _ _ (_, [(2, 42), (0, (xs 1)), (0, (xs 2)), (0, (xs 3)), (9, 0), (9, 0), (9, 0), (9, 0), (9, 0)], [(0, 1)], _, _, _)
              refine ev_ifeq f260_25 (fun c79 => absurd c79 (by omega)) (fun c79 => ?_)
              refine ev_aload_n rfl ?_
              refine ev_iload_n rfl ?_
              refine ev_in (d := 6) (a := 0) (b := 0) (cd' := c258_0) (m := 3) (L0 := [(2, 42), (0, (xs 2)), (9, 0)]) (jcall_v (A := [(0, (xs 2))]) (S' := []) (r := 42) rfl (hF.1.lt (by decide)) (hF.1.sh (by decide) rfl).1 (Nat.le_of_ble_eq_true rfl)) (by decide) ml258 pp258 (Nat.le_of_ble_eq_true rfl) rfl (by decide) (by decide) ?_
              refine ev_iload_n rfl ?_
              refine ev_iflt f258_15 (fun c80 => absurd c80 (by omega)) (fun c80 => ?_)
              refine ev_iload_n rfl ?_
              refine ev_iconst ?_
              refine ev_aload_n rfl ?_
              refine ev_getf (r := 42) (v := 0) (hF.1.lt (by decide)) (hF.1.fam (by decide) (by decide)) ft12_1 ((hF.v rfl)) ?_
              refine ev_imul (r := 0) (by decide) ?_
              refine ev_ishr (r := 0) (by rw [show (xs 2) = 0 by omega]; decide) ?_
              refine ev_ifeq f258_17 (fun c81 => ?_) (fun c81 => absurd c81 (by omega))
              refine ev_iconst ?_
              refine ev_istore_n (L' := [(2, 42), (0, (xs 2)), (0, 0)]) (Nat.le_of_ble_eq_true rfl) rfl ?_
              refine ev_iload_n rfl ?_
              refine ev_aload_n rfl ?_
              refine ev_getf (r := 42) (v := 0) (hF.1.lt (by decide)) (hF.1.fam (by decide) (by decide)) ft12_1 ((hF.v rfl)) ?_
              refine ev_icmpge f258_51 (fun c82 => ?_) (fun c82 => absurd c82 (by omega))
              refine ev_iconst ?_
              refine ev_ret rfl (by decide) (by decide) ?_
              show jEv _ _ _ _ _ _ _ (_, [(2, 42), (0, (xs 1)), (0, (xs 2)), (0, (xs 3)), (9, 0), (9, 0), (9, 0), (9, 0), (9, 0)], [(0, 1)], _, _, _)
              refine ev_ifeq f260_25 (fun c83 => absurd c83 (by omega)) (fun c83 => ?_)
              refine ev_iload_n rfl ?_
              refine ev_iconst ?_
              refine ev_iconst ?_
              refine ev_in (d := 6) (a := 0) (b := 0) (cd' := c242_0) (m := 3) (L0 := [(0, (xs 3)), (0, 0), (0, 1)]) (jcall_s (A := [(0, 1), (0, 0), (0, (xs 3))]) (S' := []) (by decide) rfl (Nat.le_of_ble_eq_true rfl)) (by decide) ml242 pp242 (Nat.le_of_ble_eq_true rfl) rfl (by decide) (by decide) ?_
              refine ev_iload_n rfl ?_
              refine ev_iload_n rfl ?_
              refine ev_icmplt f242_14 (fun c84 => ?_) (fun c84 => ?_)
              · refine ev_iconst ?_
                refine ev_ret rfl (by decide) (by decide) ?_
                show jEv _ _ _ _ _ _ _ (_, [(2, 42), (0, (xs 1)), (0, (xs 2)), (0, (xs 3)), (9, 0), (9, 0), (9, 0), (9, 0), (9, 0)], [(0, 0)], _, _, _)
                refine ev_ifne f260_29 (fun c85 => absurd c85 (by omega)) (fun c85 => ?_)
                refine ev_ldc2_w ?_
                refine ev_ret rfl (by decide) (by decide) ?_
                show jEv _ _ _ _ _ _ _ (_, [(2, (-2)), (2, 0), (2, 42), (0, 0)], [(1, (-1)), (1, (-1))], _, _, _)
                refine ev_lcmp ?_
                refine ev_ifeq f384_2190 (fun c86 => ?_) (fun c86 => absurd (show _ from by unfold jcmpL; (repeat' split) <;> omega) c86)
                exact law_tail _
              · refine ev_iload_n rfl ?_
                refine ev_iload_n rfl ?_
                refine ev_icmpgt f242_14 (fun c87 => ?_) (fun c87 => absurd c87 (by omega))
                refine ev_iconst ?_
                refine ev_ret rfl (by decide) (by decide) ?_
                show jEv _ _ _ _ _ _ _ (_, [(2, 42), (0, (xs 1)), (0, (xs 2)), (0, (xs 3)), (9, 0), (9, 0), (9, 0), (9, 0), (9, 0)], [(0, 0)], _, _, _)
                refine ev_ifne f260_29 (fun c88 => absurd c88 (by omega)) (fun c88 => ?_)
                refine ev_ldc2_w ?_
                refine ev_ret rfl (by decide) (by decide) ?_
                show jEv _ _ _ _ _ _ _ (_, [(2, (-2)), (2, 0), (2, 42), (0, 0)], [(1, (-1)), (1, (-1))], _, _, _)
                refine ev_lcmp ?_
                refine ev_ifeq f384_2190 (fun c89 => ?_) (fun c89 => absurd (show _ from by unfold jcmpL; (repeat' split) <;> omega) c89)
                exact law_tail _
            · refine ev_iconst ?_
              refine ev_goto f221_14 ?_
              refine ev_ret rfl (by decide) (by decide) ?_
              show jEv _ _ _ _ _ _ _ (_, [(2, 0), (0, (xs 1)), (0, (xs 2)), (0, (xs 3))], [(0, 1)], _, _, _)
              refine ev_ifne f171_33 (fun c90 => ?_) (fun c90 => absurd c90 (by omega))
              refine ev_aload_n rfl ?_
              refine ev_getf (r := 0) (v := 1) (hF.1.lt (by decide)) (hF.1.fam (by decide) (by decide)) ft11_0 ((hF.v rfl)) ?_
              refine ev_in (d := 6) (a := 0) (b := 0) (cd' := c153_0) (m := 1) (L0 := [(2, 1)]) (jcall_v (A := []) (S' := []) (r := 1) rfl (hF.1.lt (by decide)) (hF.1.sh (by decide) rfl).1 (Nat.le_of_ble_eq_true rfl)) (by decide) ml153 pp153 (Nat.le_of_ble_eq_true rfl) rfl (by decide) (by decide) ?_
              refine ev_aload_n rfl ?_
              refine ev_getf (r := 1) (v := 0) (hF.1.lt (by decide)) (hF.1.fam (by decide) (by decide)) ft10_2 ((hF.v rfl)) ?_
              refine ev_ifne f153_33 (fun c91 => absurd c91 (by omega)) (fun c91 => ?_)
              refine ev_aload_n rfl ?_
              refine ev_iconst ?_
              refine ev_putfG (r := 1) (hF.1.lt (by decide)) (hF.1.fam (by decide) (by decide)) ft10_2 (fun _ => by decide) (fun e => absurd e (by decide)) (fun h40 e40 => ?_)
              have hS40 := hF.1.wr e40
              refine ev_aload_n rfl ?_
              refine ev_aload_n rfl ?_
              refine ev_in (d := 5) (a := 0) (b := 0) (cd' := c152_0) (m := 6) (L0 := [(2, 1), (9, 0), (9, 0), (9, 0), (9, 0), (9, 0)]) (jcall_v (A := []) (S' := [(2, 1)]) (r := 1) rfl (hS40.lt (by decide)) (hS40.sh (by decide) rfl).1 (Nat.le_of_ble_eq_true rfl)) (by decide) ml152 pp152 (Nat.le_of_ble_eq_true rfl) rfl (by decide) (by decide) ?_
              refine ev_lconst ?_
              refine ev_lstore_n (L' := [(2, 1), (1, 1), (9, 0), (9, 0), (9, 0), (9, 0)]) (Nat.le_of_ble_eq_true rfl) rfl ?_
              refine ev_iconst ?_
              refine ev_istore_n (L' := [(2, 1), (1, 1), (9, 0), (0, 0), (9, 0), (9, 0)]) (Nat.le_of_ble_eq_true rfl) rfl ?_
              refine ev_iload_n rfl ?_
              refine ev_aload_n rfl ?_
              refine ev_getf (r := 1) (v := 0) (hS40.lt (by decide)) (hS40.fam (by decide) (by decide)) ft10_0 ((jw_ne e40 (Or.inr (by decide))).trans ((hF.v rfl))) ?_
              refine ev_icmpge f152_50 (fun c92 => ?_) (fun c92 => absurd c92 (by omega))
              refine ev_lload_n rfl ?_
              refine ev_ret rfl (by decide) (by decide) ?_
              show jEv _ _ _ _ _ _ _ (_, [(2, 1)], [(1, 1), (2, 1)], _, _, _)
              refine ev_putfG (r := 1) (hS40.lt (by decide)) (hS40.fam (by decide) (by decide)) ft10_1 (fun e => absurd e nz10_1) (fun e => absurd e (by decide)) (fun h41 e41 => ?_)
              have hS41 := hS40.wr e41
              refine ev_aload_n rfl ?_
              refine ev_getf (r := 1) (v := 1) (hS41.lt (by decide)) (hS41.fam (by decide) (by decide)) ft10_1 (jw_eq e41) ?_
              refine ev_lconst ?_
              refine ev_lcmp ?_
              refine ev_ifle f153_33 (fun c93 => absurd c93 (by unfold jcmpL; (repeat' split) <;> omega)) (fun c93 => ?_)
              refine ev_aload_n rfl ?_
              refine ev_in (d := 5) (a := 0) (b := 0) (cd' := c154_0) (m := 6) (L0 := [(2, 1), (9, 0), (9, 0), (9, 0), (9, 0), (9, 0)]) (jcall_v (A := []) (S' := []) (r := 1) rfl (hS41.lt (by decide)) (hS41.sh (by decide) rfl).1 (Nat.le_of_ble_eq_true rfl)) (by decide) ml154 pp154 (Nat.le_of_ble_eq_true rfl) rfl (by decide) (by decide) ?_
              refine ev_iconst ?_
              refine ev_istore_n (L' := [(2, 1), (0, 0), (9, 0), (9, 0), (9, 0), (9, 0)]) (Nat.le_of_ble_eq_true rfl) rfl ?_
              refine ev_iload_n rfl ?_
              refine ev_aload_n rfl ?_
              refine ev_getf (r := 1) (v := 0) (hS41.lt (by decide)) (hS41.fam (by decide) (by decide)) ft10_0 ((jw_ne e41 (Or.inr (by decide))).trans ((jw_ne e40 (Or.inr (by decide))).trans ((hF.v rfl)))) ?_
              refine ev_icmpge f154_76 (fun c94 => ?_) (fun c94 => absurd c94 (by omega))
              refine ev_aload_n rfl ?_
              refine ev_getf (r := 1) (v := 6) (hS41.lt (by decide)) (hS41.fam (by decide) (by decide)) ft10_7 ((jw_ne e41 (Or.inr (by decide))).trans ((jw_ne e40 (Or.inr (by decide))).trans ((hF.v rfl)))) ?_
              refine ev_iconst ?_
              refine ev_lconst ?_
              refine ev_lastG (r := 6) (j := 0) (hS41.lt (by decide)) (hS41.sh (by decide) rfl).1 rfl (hS41.inb (by decide) (by decide)) (fun h42 e42 => ?_)
              have hS42 := hS41.wr e42
              refine ev_iconst ?_
              refine ev_istore_n (L' := [(2, 1), (0, 0), (9, 0), (9, 0), (9, 0), (9, 0)]) (Nat.le_of_ble_eq_true rfl) rfl ?_
              refine ev_iload_n rfl ?_
              refine ev_aload_n rfl ?_
              refine ev_getf (r := 1) (v := 0) (hS42.lt (by decide)) (hS42.fam (by decide) (by decide)) ft10_0 ((jw_ne e42 (Or.inl (by decide))).trans ((jw_ne e41 (Or.inr (by decide))).trans ((jw_ne e40 (Or.inr (by decide))).trans ((hF.v rfl))))) ?_
              refine ev_icmpge f154_104 (fun c95 => ?_) (fun c95 => absurd c95 (by omega))
              refine ev_iconst ?_
              refine ev_istore_n (L' := [(2, 1), (0, 0), (9, 0), (9, 0), (9, 0), (9, 0)]) (Nat.le_of_ble_eq_true rfl) rfl ?_
              refine ev_iload_n rfl ?_
              refine ev_aload_n rfl ?_
              refine ev_getf (r := 1) (v := 0) (hS42.lt (by decide)) (hS42.fam (by decide) (by decide)) ft10_0 ((jw_ne e42 (Or.inl (by decide))).trans ((jw_ne e41 (Or.inr (by decide))).trans ((jw_ne e40 (Or.inr (by decide))).trans ((hF.v rfl))))) ?_
              refine ev_icmpge f154_125 (fun c96 => ?_) (fun c96 => absurd c96 (by omega))
              refine ev_ret rfl (by decide) (by decide) ?_
              show jEv _ _ _ _ _ _ _ (_, [(2, 1)], [], _, _, _)
              refine ev_aload_n rfl ?_
              refine ev_getf (r := 1) (v := 1) (hS42.lt (by decide)) (hS42.fam (by decide) (by decide)) ft10_1 ((jw_ne e42 (Or.inl (by decide))).trans (jw_eq e41)) ?_
              refine ev_lconst ?_
              refine ev_lcmp ?_
              refine ev_ifle f153_46 (fun c97 => absurd c97 (by unfold jcmpL; (repeat' split) <;> omega)) (fun c97 => ?_)
              refine ev_iconst ?_
              refine ev_goto f153_47 ?_
              refine ev_ret rfl (by decide) (by decide) ?_
              show jEv _ _ _ _ _ _ _ (_, [(2, 0), (0, (xs 1)), (0, (xs 2)), (0, (xs 3))], [(0, 1)], _, _, _)
              refine ev_ifne f171_47 (fun c98 => ?_) (fun c98 => absurd c98 (by omega))
              refine ev_aload_n rfl ?_
              refine ev_getf (r := 0) (v := 1) (hS42.lt (by decide)) (hS42.fam (by decide) (by decide)) ft11_0 ((jw_ne e42 (Or.inl (by decide))).trans ((jw_ne e41 (Or.inl (by decide))).trans ((jw_ne e40 (Or.inl (by decide))).trans ((hF.v rfl))))) ?_
              refine ev_iload_n rfl ?_
              refine ev_iload_n rfl ?_
              refine ev_in (d := 6) (a := 0) (b := 0) (cd' := c163_0) (m := 3) (L0 := [(2, 1), (0, (xs 1)), (0, (xs 2))]) (jcall_v (A := [(0, (xs 2)), (0, (xs 1))]) (S' := []) (r := 1) rfl (hS42.lt (by decide)) (hS42.sh (by decide) rfl).1 (Nat.le_of_ble_eq_true rfl)) (by decide) ml163 pp163 (Nat.le_of_ble_eq_true rfl) rfl (by decide) (by decide) ?_
              refine ev_iload_n rfl ?_
              refine ev_iload_n rfl ?_
              refine ev_ixor (r := 0) (by rw [show (xs 1) = 0 by omega, show (xs 2) = 0 by omega]; decide) ?_
              refine ev_iload_n rfl ?_
              refine ev_in (d := 5) (a := 0) (b := 0) (cd' := c162_0) (m := 1) (L0 := [(0, (xs 1))]) (jcall_s (A := [(0, (xs 1))]) (S' := [(0, 0)]) (by decide) rfl (Nat.le_of_ble_eq_true rfl)) (by decide) ml162 pp162 (Nat.le_of_ble_eq_true rfl) rfl (by decide) (by decide) ?_
              refine ev_iload_n rfl ?_
              refine ev_iload_n rfl ?_
              refine ev_iconst ?_
              refine ev_ishr (r := 0) (by rw [show (xs 1) = 0 by omega]; decide) ?_
              refine ev_ior (r := 0) (by rw [show (xs 1) = 0 by omega]; decide) ?_
              refine ev_bipush ?_
              refine ev_iand (r := 0) (by decide) ?_
              refine ev_iconst ?_
              refine ev_imul (r := 0) (by decide) ?_
              refine ev_ret rfl (by decide) (by decide) ?_
              show jEv _ _ _ _ _ _ _ (_, [(2, 1), (0, (xs 1)), (0, (xs 2))], [(0, 0), (0, 0)], _, _, _)
              refine ev_iand (r := 0) (by decide) ?_
              refine ev_iload_n rfl ?_
              refine ev_in (d := 5) (a := 0) (b := 0) (cd' := c162_0) (m := 1) (L0 := [(0, (xs 2))]) (jcall_s (A := [(0, (xs 2))]) (S' := [(0, 0)]) (by decide) rfl (Nat.le_of_ble_eq_true rfl)) (by decide) ml162 pp162 (Nat.le_of_ble_eq_true rfl) rfl (by decide) (by decide) ?_
              refine ev_iload_n rfl ?_
              refine ev_iload_n rfl ?_
              refine ev_iconst ?_
              refine ev_ishr (r := 0) (by rw [show (xs 2) = 0 by omega]; decide) ?_
              refine ev_ior (r := 0) (by rw [show (xs 2) = 0 by omega]; decide) ?_
              refine ev_bipush ?_
              refine ev_iand (r := 0) (by decide) ?_
              refine ev_iconst ?_
              refine ev_imul (r := 0) (by decide) ?_
              refine ev_ret rfl (by decide) (by decide) ?_
              show jEv _ _ _ _ _ _ _ (_, [(2, 1), (0, (xs 1)), (0, (xs 2))], [(0, 0), (0, 0)], _, _, _)
              refine ev_iand (r := 0) (by decide) ?_
              refine ev_ifeq f163_20 (fun c99 => ?_) (fun c99 => absurd c99 (by omega))
              refine ev_aload_n rfl ?_
              refine ev_iload_n rfl ?_
              refine ev_iload_n rfl ?_
              refine ev_ior (r := 0) (by rw [show (xs 1) = 0 by omega, show (xs 2) = 0 by omega]; decide) ?_
              refine ev_in (d := 5) (a := 0) (b := 0) (cd' := c161_0) (m := 2) (L0 := [(2, 1), (0, 0)]) (jcall_v (A := [(0, 0)]) (S' := []) (r := 1) rfl (hS42.lt (by decide)) (hS42.sh (by decide) rfl).1 (Nat.le_of_ble_eq_true rfl)) (by decide) ml161 pp161 (Nat.le_of_ble_eq_true rfl) rfl (by decide) (by decide) ?_
              refine ev_iload_n rfl ?_
              refine ev_iflt f161_12 (fun c100 => absurd c100 (by omega)) (fun c100 => ?_)
              refine ev_iload_n rfl ?_
              refine ev_aload_n rfl ?_
              refine ev_in (d := 4) (a := 0) (b := 0) (cd' := c157_0) (m := 1) (L0 := [(2, 1)]) (jcall_v (A := []) (S' := [(0, 0)]) (r := 1) rfl (hS42.lt (by decide)) (hS42.sh (by decide) rfl).1 (Nat.le_of_ble_eq_true rfl)) (by decide) ml157 pp157 (Nat.le_of_ble_eq_true rfl) rfl (by decide) (by decide) ?_
              refine ev_iconst ?_
              refine ev_iconst ?_
              refine ev_aload_n rfl ?_
              refine ev_getf (r := 1) (v := 0) (hS42.lt (by decide)) (hS42.fam (by decide) (by decide)) ft10_0 ((jw_ne e42 (Or.inl (by decide))).trans ((jw_ne e41 (Or.inr (by decide))).trans ((jw_ne e40 (Or.inr (by decide))).trans ((hF.v rfl))))) ?_
              refine ev_imul (r := 0) (by decide) ?_
              refine ev_ishl (r := 1) (by decide) ?_
              refine ev_ret rfl (by decide) (by decide) ?_
              show jEv _ _ _ _ _ _ _ (_, [(2, 1), (0, 0)], [(0, 1), (0, 0)], _, _, _)
              refine ev_icmplt f161_16 (fun c101 => ?_) (fun c101 => absurd c101 (by omega))
              refine ev_aload_n rfl ?_
              refine ev_getf (r := 1) (v := 6) (hS42.lt (by decide)) (hS42.fam (by decide) (by decide)) ft10_7 ((jw_ne e42 (Or.inl (by decide))).trans ((jw_ne e41 (Or.inr (by decide))).trans ((jw_ne e40 (Or.inr (by decide))).trans ((hF.v rfl))))) ?_
              refine ev_iload_n rfl ?_
              refine ev_lald (r := 6) (j := 0) (v := 1) (hS42.lt (by decide)) (hS42.sh (by decide) rfl).1 rfl (hS42.inb (by decide) (by decide)) (jw_eq e42) ?_
              refine ev_ret rfl (by decide) (by decide) ?_
              show jEv _ _ _ _ _ _ _ (_, [(2, 1), (0, (xs 1)), (0, (xs 2))], [(1, 1)], _, _, _)
              refine ev_ret rfl (by decide) (by decide) ?_
              show jEv _ _ _ _ _ _ _ (_, [(2, 0), (0, (xs 1)), (0, (xs 2)), (0, (xs 3))], [(1, 1)], _, _, _)
              refine ev_aload_n rfl ?_
              refine ev_getf (r := 0) (v := 1) (hS42.lt (by decide)) (hS42.fam (by decide) (by decide)) ft11_0 ((jw_ne e42 (Or.inl (by decide))).trans ((jw_ne e41 (Or.inl (by decide))).trans ((jw_ne e40 (Or.inl (by decide))).trans ((hF.v rfl))))) ?_
              refine ev_iload_n rfl ?_
              refine ev_in (d := 6) (a := 0) (b := 0) (cd' := c161_0) (m := 2) (L0 := [(2, 1), (0, (xs 2))]) (jcall_v (A := [(0, (xs 2))]) (S' := [(1, 1)]) (r := 1) rfl (hS42.lt (by decide)) (hS42.sh (by decide) rfl).1 (Nat.le_of_ble_eq_true rfl)) (by decide) ml161 pp161 (Nat.le_of_ble_eq_true rfl) rfl (by decide) (by decide) ?_
              refine ev_iload_n rfl ?_
              refine ev_iflt f161_12 (fun c102 => absurd c102 (by omega)) (fun c102 => ?_)
              refine ev_iload_n rfl ?_
              refine ev_aload_n rfl ?_
              refine ev_in (d := 5) (a := 0) (b := 0) (cd' := c157_0) (m := 1) (L0 := [(2, 1)]) (jcall_v (A := []) (S' := [(0, (xs 2))]) (r := 1) rfl (hS42.lt (by decide)) (hS42.sh (by decide) rfl).1 (Nat.le_of_ble_eq_true rfl)) (by decide) ml157 pp157 (Nat.le_of_ble_eq_true rfl) rfl (by decide) (by decide) ?_
              refine ev_iconst ?_
              refine ev_iconst ?_
              refine ev_aload_n rfl ?_
              refine ev_getf (r := 1) (v := 0) (hS42.lt (by decide)) (hS42.fam (by decide) (by decide)) ft10_0 ((jw_ne e42 (Or.inl (by decide))).trans ((jw_ne e41 (Or.inr (by decide))).trans ((jw_ne e40 (Or.inr (by decide))).trans ((hF.v rfl))))) ?_
              refine ev_imul (r := 0) (by decide) ?_
              refine ev_ishl (r := 1) (by decide) ?_
              refine ev_ret rfl (by decide) (by decide) ?_
              show jEv _ _ _ _ _ _ _ (_, [(2, 1), (0, (xs 2))], [(0, 1), (0, (xs 2))], _, _, _)
              refine ev_icmplt f161_16 (fun c103 => ?_) (fun c103 => absurd c103 (by omega))
              refine ev_aload_n rfl ?_
              refine ev_getf (r := 1) (v := 6) (hS42.lt (by decide)) (hS42.fam (by decide) (by decide)) ft10_7 ((jw_ne e42 (Or.inl (by decide))).trans ((jw_ne e41 (Or.inr (by decide))).trans ((jw_ne e40 (Or.inr (by decide))).trans ((hF.v rfl))))) ?_
              refine ev_iload_n rfl ?_
              refine ev_lald (r := 6) (j := 0) (v := 1) (hS42.lt (by decide)) (hS42.sh (by decide) rfl).1 (by omega) (hS42.inb (by decide) (by decide)) (jw_eq e42) ?_
              refine ev_ret rfl (by decide) (by decide) ?_
              show jEv _ _ _ _ _ _ _ (_, [(2, 0), (0, (xs 1)), (0, (xs 2)), (0, (xs 3))], [(1, 1), (1, 1)], _, _, _)
              refine ev_iload_n rfl ?_
              refine ev_in (d := 6) (a := 0) (b := 0) (cd' := c223_0) (m := 9) (L0 := [(1, 1), (9, 0), (1, 1), (9, 0), (0, (xs 3)), (9, 0), (9, 0), (9, 0), (9, 0)]) (jcall_s (A := [(0, (xs 3)), (1, 1), (1, 1)]) (S' := []) (by decide) rfl (Nat.le_of_ble_eq_true rfl)) (by decide) ml223 pp223 (Nat.le_of_ble_eq_true rfl) rfl (by decide) (by decide) ?_
              refine ev_lload_n rfl ?_
              refine ev_lconst ?_
              refine ev_lcmp ?_
              refine ev_ifge f223_11 (fun c104 => ?_) (fun c104 => absurd (show _ from by unfold jcmpL; (repeat' split) <;> omega) c104)
              refine ev_lload_n rfl ?_
              refine ev_lload_n rfl ?_
              refine ev_in (d := 5) (a := 0) (b := 0) (cd' := c224_0) (m := 11) (L0 := [(1, 1), (9, 0), (1, 1), (9, 0), (9, 0), (9, 0), (9, 0), (9, 0), (9, 0), (9, 0), (9, 0)]) (jcall_s (A := [(1, 1), (1, 1)]) (S' := []) (by decide) rfl (Nat.le_of_ble_eq_true rfl)) (by decide) ml224 pp224 (Nat.le_of_ble_eq_true rfl) rfl (by decide) (by decide) ?_
              refine ev_lload_n rfl ?_
              refine ev_lstore (L' := [(1, 1), (9, 0), (1, 1), (9, 0), (1, 1), (9, 0), (9, 0), (9, 0), (9, 0), (9, 0), (9, 0)]) (Nat.le_of_ble_eq_true rfl) rfl ?_
              refine ev_lload_n rfl ?_
              refine ev_lstore (L' := [(1, 1), (9, 0), (1, 1), (9, 0), (1, 1), (9, 0), (1, 1), (9, 0), (9, 0), (9, 0), (9, 0)]) (Nat.le_of_ble_eq_true rfl) rfl ?_
              refine ev_iconst ?_
              refine ev_istore (L' := [(1, 1), (9, 0), (1, 1), (9, 0), (1, 1), (9, 0), (1, 1), (9, 0), (0, 0), (9, 0), (9, 0)]) (Nat.le_of_ble_eq_true rfl) rfl ?_
              refine ev_iload rfl ?_
              refine ev_sipush ?_
              refine ev_icmpge f224_45 (fun c105 => absurd c105 (by omega)) (fun c105 => ?_)
              refine ev_lload rfl ?_
              refine ev_lconst ?_
              refine ev_lcmp ?_
              refine ev_ifeq f224_45 (fun c106 => absurd c106 (by unfold jcmpL; (repeat' split) <;> omega)) (fun c106 => ?_)
              refine ev_lload rfl ?_
              refine ev_lload rfl ?_
              refine ev_lrem (r := 0) (by decide) (by decide) ?_
              refine ev_lstore (L' := [(1, 1), (9, 0), (1, 1), (9, 0), (1, 1), (9, 0), (1, 1), (9, 0), (0, 0), (1, 0), (9, 0)]) (Nat.le_of_ble_eq_true rfl) rfl ?_
              refine ev_lload rfl ?_
              refine ev_lstore (L' := [(1, 1), (9, 0), (1, 1), (9, 0), (1, 1), (9, 0), (1, 1), (9, 0), (0, 0), (1, 0), (9, 0)]) (Nat.le_of_ble_eq_true rfl) rfl ?_
              refine ev_lload rfl ?_
              refine ev_lstore (L' := [(1, 1), (9, 0), (1, 1), (9, 0), (1, 1), (9, 0), (1, 0), (9, 0), (0, 0), (1, 0), (9, 0)]) (Nat.le_of_ble_eq_true rfl) rfl ?_
              refine ev_iinc (w := 1) (L' := [(1, 1), (9, 0), (1, 1), (9, 0), (1, 1), (9, 0), (1, 0), (9, 0), (0, 1), (1, 0), (9, 0)]) rfl (by decide) rfl ?_
              refine ev_goto f224_9 ?_
              refine ev_iload rfl ?_
              refine ev_sipush ?_
              refine ev_icmpge f224_45 (fun c107 => absurd c107 (by omega)) (fun c107 => ?_)
              refine ev_lload rfl ?_
              refine ev_lconst ?_
              refine ev_lcmp ?_
              refine ev_ifeq f224_45 (fun c108 => ?_) (fun c108 => absurd (show _ from by unfold jcmpL; (repeat' split) <;> omega) c108)
              refine ev_lload rfl ?_
              refine ev_ret rfl (by decide) (by decide) ?_
              show jEv _ _ _ _ _ _ _ (_, [(1, 1), (9, 0), (1, 1), (9, 0), (0, (xs 3)), (9, 0), (9, 0), (9, 0), (9, 0)], [(1, 1)], _, _, _)
              refine ev_lstore (L' := [(1, 1), (9, 0), (1, 1), (9, 0), (0, (xs 3)), (1, 1), (9, 0), (9, 0), (9, 0)]) (Nat.le_of_ble_eq_true rfl) rfl ?_
              refine ev_iload rfl ?_
              refine ev_ifne f223_27 (fun c109 => ?_) (fun c109 => absurd c109 (by omega))
              refine ev_lload_n rfl ?_
              refine ev_lstore (L' := [(1, 1), (9, 0), (1, 1), (9, 0), (0, (xs 3)), (1, 1), (9, 0), (1, 1), (9, 0)]) (Nat.le_of_ble_eq_true rfl) rfl ?_
              refine ev_lload rfl ?_
              refine ev_lconst ?_
              refine ev_lcmp ?_
              refine ev_ifgt f223_42 (fun c110 => absurd c110 (by unfold jcmpL; (repeat' split) <;> omega)) (fun c110 => ?_)
              refine ev_lload rfl ?_
              refine ev_goto f223_47 ?_
              refine ev_ret rfl (by decide) (by decide) ?_
              show jEv _ _ _ _ _ _ _ (_, [(2, 0), (0, (xs 1)), (0, (xs 2)), (0, (xs 3))], [(1, 1)], _, _, _)
              refine ev_ret rfl (by decide) (by decide) ?_
              show jEv _ _ _ _ _ _ _ (_, [(2, (-2)), (2, 0), (2, 42), (0, 0)], [(1, 1)], _, _, _)
              refine ev_aload_n rfl ?_
              refine ev_aload_n rfl ?_
              refine ev_iload_n rfl ?_
              refine ev_iconst ?_
              refine ev_iadd (r := 1) (by decide) ?_
              refine ev_sald (j := 1) (v := (xs 1)) rfl rfl rfl ?_
              refine ev_aload_n rfl ?_
              refine ev_iload_n rfl ?_
              refine ev_iconst ?_
              refine ev_iadd (r := 2) (by decide) ?_
              refine ev_sald (j := 2) (v := (xs 2)) rfl rfl rfl ?_
              refine ev_aload_n rfl ?_
              refine ev_iload_n rfl ?_
              refine ev_iconst ?_
              refine ev_iadd (r := 3) (by decide) ?_
              refine ev_sald (j := 3) (v := (xs 3)) rfl rfl rfl ?_
              refine ev_in (d := 7) (a := 0) (b := 0) (cd' := c260_0) (m := 9) (L0 := [(2, 42), (0, (xs 1)), (0, (xs 2)), (0, (xs 3)), (9, 0), (9, 0), (9, 0), (9, 0), (9, 0)]) (jcall_v (A := [(0, (xs 3)), (0, (xs 2)), (0, (xs 1))]) (S' := [(1, 1)]) (r := 42) rfl (hS42.lt (by decide)) (hS42.sh (by decide) rfl).1 (Nat.le_of_ble_eq_true rfl)) (by decide) ml260 pp260 (Nat.le_of_ble_eq_true rfl) rfl (by decide) (by decide) ?_
              refine ev_aload_n rfl ?_
              refine ev_iload_n rfl ?_
              refine ev_in (d := 6) (a := 0) (b := 0) (cd' := c258_0) (m := 3) (L0 := [(2, 42), (0, (xs 1)), (9, 0)]) (jcall_v (A := [(0, (xs 1))]) (S' := []) (r := 42) rfl (hS42.lt (by decide)) (hS42.sh (by decide) rfl).1 (Nat.le_of_ble_eq_true rfl)) (by decide) ml258 pp258 (Nat.le_of_ble_eq_true rfl) rfl (by decide) (by decide) ?_
              refine ev_iload_n rfl ?_
              refine ev_iflt f258_15 (fun c111 => absurd c111 (by omega)) (fun c111 => ?_)
              refine ev_iload_n rfl ?_
              refine ev_iconst ?_
              refine ev_aload_n rfl ?_
              refine ev_getf (r := 42) (v := 0) (hS42.lt (by decide)) (hS42.fam (by decide) (by decide)) ft12_1 ((jw_ne e42 (Or.inl (by decide))).trans ((jw_ne e41 (Or.inl (by decide))).trans ((jw_ne e40 (Or.inl (by decide))).trans ((hF.v rfl))))) ?_
              refine ev_imul (r := 0) (by decide) ?_
              refine ev_ishr (r := 0) (by rw [show (xs 1) = 0 by omega]; decide) ?_
              refine ev_ifeq f258_17 (fun c112 => ?_) (fun c112 => absurd c112 (by omega))
              refine ev_iconst ?_
              refine ev_istore_n (L' := [(2, 42), (0, (xs 1)), (0, 0)]) (Nat.le_of_ble_eq_true rfl) rfl ?_
              refine ev_iload_n rfl ?_
              refine ev_aload_n rfl ?_
              refine ev_getf (r := 42) (v := 0) (hS42.lt (by decide)) (hS42.fam (by decide) (by decide)) ft12_1 ((jw_ne e42 (Or.inl (by decide))).trans ((jw_ne e41 (Or.inl (by decide))).trans ((jw_ne e40 (Or.inl (by decide))).trans ((hF.v rfl))))) ?_
              refine ev_icmpge f258_51 (fun c113 => ?_) (fun c113 => absurd c113 (by omega))
              refine ev_iconst ?_
              refine ev_ret rfl (by decide) (by decide) ?_
              show jEv _ _ _ _ _ _ _ (_, [(2, 42), (0, (xs 1)), (0, (xs 2)), (0, (xs 3)), (9, 0), (9, 0), (9, 0), (9, 0), (9, 0)], [(0, 1)], _, _, _)
              refine ev_ifeq f260_25 (fun c114 => absurd c114 (by omega)) (fun c114 => ?_)
              refine ev_aload_n rfl ?_
              refine ev_iload_n rfl ?_
              refine ev_in (d := 6) (a := 0) (b := 0) (cd' := c258_0) (m := 3) (L0 := [(2, 42), (0, (xs 2)), (9, 0)]) (jcall_v (A := [(0, (xs 2))]) (S' := []) (r := 42) rfl (hS42.lt (by decide)) (hS42.sh (by decide) rfl).1 (Nat.le_of_ble_eq_true rfl)) (by decide) ml258 pp258 (Nat.le_of_ble_eq_true rfl) rfl (by decide) (by decide) ?_
              refine ev_iload_n rfl ?_
              refine ev_iflt f258_15 (fun c115 => absurd c115 (by omega)) (fun c115 => ?_)
              refine ev_iload_n rfl ?_
              refine ev_iconst ?_
              refine ev_aload_n rfl ?_
              refine ev_getf (r := 42) (v := 0) (hS42.lt (by decide)) (hS42.fam (by decide) (by decide)) ft12_1 ((jw_ne e42 (Or.inl (by decide))).trans ((jw_ne e41 (Or.inl (by decide))).trans ((jw_ne e40 (Or.inl (by decide))).trans ((hF.v rfl))))) ?_
              refine ev_imul (r := 0) (by decide) ?_
              refine ev_ishr (r := 0) (by rw [show (xs 2) = 0 by omega]; decide) ?_
              refine ev_ifeq f258_17 (fun c116 => ?_) (fun c116 => absurd c116 (by omega))
              refine ev_iconst ?_
              refine ev_istore_n (L' := [(2, 42), (0, (xs 2)), (0, 0)]) (Nat.le_of_ble_eq_true rfl) rfl ?_
              refine ev_iload_n rfl ?_
              refine ev_aload_n rfl ?_
              refine ev_getf (r := 42) (v := 0) (hS42.lt (by decide)) (hS42.fam (by decide) (by decide)) ft12_1 ((jw_ne e42 (Or.inl (by decide))).trans ((jw_ne e41 (Or.inl (by decide))).trans ((jw_ne e40 (Or.inl (by decide))).trans ((hF.v rfl))))) ?_
              refine ev_icmpge f258_51 (fun c117 => ?_) (fun c117 => absurd c117 (by omega))
              refine ev_iconst ?_
              refine ev_ret rfl (by decide) (by decide) ?_
              show jEv _ _ _ _ _ _ _ (_, [(2, 42), (0, (xs 1)), (0, (xs 2)), (0, (xs 3)), (9, 0), (9, 0), (9, 0), (9, 0), (9, 0)], [(0, 1)], _, _, _)
              refine ev_ifeq f260_25 (fun c118 => absurd c118 (by omega)) (fun c118 => ?_)
              refine ev_iload_n rfl ?_
              refine ev_iconst ?_
              refine ev_iconst ?_
              refine ev_in (d := 6) (a := 0) (b := 0) (cd' := c242_0) (m := 3) (L0 := [(0, (xs 3)), (0, 0), (0, 1)]) (jcall_s (A := [(0, 1), (0, 0), (0, (xs 3))]) (S' := []) (by decide) rfl (Nat.le_of_ble_eq_true rfl)) (by decide) ml242 pp242 (Nat.le_of_ble_eq_true rfl) rfl (by decide) (by decide) ?_
              refine ev_iload_n rfl ?_
              refine ev_iload_n rfl ?_
              refine ev_icmplt f242_14 (fun c119 => absurd c119 (by omega)) (fun c119 => ?_)
              refine ev_iload_n rfl ?_
              refine ev_iload_n rfl ?_
              refine ev_icmpgt f242_14 (fun c120 => absurd c120 (by omega)) (fun c120 => ?_)
              refine ev_iconst ?_
              refine ev_goto f242_15 ?_
              refine ev_ret rfl (by decide) (by decide) ?_
              show jEv _ _ _ _ _ _ _ (_, [(2, 42), (0, (xs 1)), (0, (xs 2)), (0, (xs 3)), (9, 0), (9, 0), (9, 0), (9, 0), (9, 0)], [(0, 1)], _, _, _)
              refine ev_ifne f260_29 (fun c121 => ?_) (fun c121 => absurd c121 (by omega))
              refine ev_aload_n rfl ?_
              refine ev_in (d := 6) (a := 0) (b := 0) (cd' := c256_0) (m := 4) (L0 := [(2, 42), (9, 0), (9, 0), (9, 0)]) (jcall_v (A := []) (S' := []) (r := 42) rfl (hS42.lt (by decide)) (hS42.sh (by decide) rfl).1 (Nat.le_of_ble_eq_true rfl)) (by decide) ml256 pp256 (Nat.le_of_ble_eq_true rfl) rfl (by decide) (by decide) ?_
              refine ev_aload_n rfl ?_
              refine ev_aload_n rfl ?_
              refine ev_in (d := 5) (a := 0) (b := 0) (cd' := c253_0) (m := 6) (L0 := [(2, 42), (9, 0), (9, 0), (9, 0), (9, 0), (9, 0)]) (jcall_v (A := []) (S' := [(2, 42)]) (r := 42) rfl (hS42.lt (by decide)) (hS42.sh (by decide) rfl).1 (Nat.le_of_ble_eq_true rfl)) (by decide) ml253 pp253 (Nat.le_of_ble_eq_true rfl) rfl (by decide) (by decide) ?_
              refine ev_lconst ?_
              refine ev_lstore_n (L' := [(2, 42), (1, 1), (9, 0), (9, 0), (9, 0), (9, 0)]) (Nat.le_of_ble_eq_true rfl) rfl ?_
              refine ev_iconst ?_
              refine ev_istore_n (L' := [(2, 42), (1, 1), (9, 0), (0, 0), (9, 0), (9, 0)]) (Nat.le_of_ble_eq_true rfl) rfl ?_
              refine ev_iload_n rfl ?_
              refine ev_aload_n rfl ?_
              refine ev_getf (r := 42) (v := 0) (hS42.lt (by decide)) (hS42.fam (by decide) (by decide)) ft12_1 ((jw_ne e42 (Or.inl (by decide))).trans ((jw_ne e41 (Or.inl (by decide))).trans ((jw_ne e40 (Or.inl (by decide))).trans ((hF.v rfl))))) ?_
              refine ev_icmpge f253_45 (fun c122 => ?_) (fun c122 => absurd c122 (by omega))
              refine ev_lload_n rfl ?_
              refine ev_ret rfl (by decide) (by decide) ?_
              show jEv _ _ _ _ _ _ _ (_, [(2, 42), (9, 0), (9, 0), (9, 0)], [(1, 1), (2, 42)], _, _, _)
              refine ev_putfG (r := 42) (hS42.lt (by decide)) (hS42.fam (by decide) (by decide)) ft12_8 (fun e => absurd e nz12_8) (fun e => absurd e (by decide)) (fun h43 e43 => ?_)
              have hS43 := hS42.wr e43
              refine ev_aload_n rfl ?_
              refine ev_getf (r := 42) (v := 1) (hS43.lt (by decide)) (hS43.fam (by decide) (by decide)) ft12_8 (jw_eq e43) ?_
              refine ev_lconst ?_
              refine ev_lcmp ?_
              refine ev_ifge f256_19 (fun c123 => ?_) (fun c123 => absurd (show _ from by unfold jcmpL; (repeat' split) <;> omega) c123)
              refine ev_aload_n rfl ?_
              refine ev_iconst ?_
              refine ev_putfG (r := 42) (hS43.lt (by decide)) (hS43.fam (by decide) (by decide)) ft12_5 (fun e => absurd e nz12_5) (fun e => absurd e (by decide)) (fun h44 e44 => ?_)
              have hS44 := hS43.wr e44
              refine ev_iconst ?_
              refine ev_istore_n (L' := [(2, 42), (0, 0), (9, 0), (9, 0)]) (Nat.le_of_ble_eq_true rfl) rfl ?_
              refine ev_iload_n rfl ?_
              refine ev_aload_n rfl ?_
              refine ev_getf (r := 42) (v := 0) (hS44.lt (by decide)) (hS44.fam (by decide) (by decide)) ft12_1 ((jw_ne e44 (Or.inr (by decide))).trans ((jw_ne e43 (Or.inr (by decide))).trans ((jw_ne e42 (Or.inl (by decide))).trans ((jw_ne e41 (Or.inl (by decide))).trans ((jw_ne e40 (Or.inl (by decide))).trans ((hF.v rfl))))))) ?_
              refine ev_icmpge f256_55 (fun c124 => ?_) (fun c124 => absurd c124 (by omega))
              refine ev_iconst ?_
              refine ev_istore_n (L' := [(2, 42), (0, 0), (9, 0), (9, 0)]) (Nat.le_of_ble_eq_true rfl) rfl ?_
              refine ev_iload_n rfl ?_
              refine ev_aload_n rfl ?_
              refine ev_getf (r := 42) (v := 1) (hS44.lt (by decide)) (hS44.fam (by decide) (by decide)) ft12_5 (jw_eq e44) ?_
              refine ev_icmpge f256_127 (fun c125 => absurd c125 (by omega)) (fun c125 => ?_)
              refine ev_iload_n rfl ?_
              refine ev_istore_n (L' := [(2, 42), (0, 0), (0, 0), (9, 0)]) (Nat.le_of_ble_eq_true rfl) rfl ?_
              refine ev_iconst ?_
              refine ev_istore_n (L' := [(2, 42), (0, 0), (0, 0), (0, 0)]) (Nat.le_of_ble_eq_true rfl) rfl ?_
              refine ev_iload_n rfl ?_
              refine ev_aload_n rfl ?_
              refine ev_getf (r := 42) (v := 0) (hS44.lt (by decide)) (hS44.fam (by decide) (by decide)) ft12_1 ((jw_ne e44 (Or.inr (by decide))).trans ((jw_ne e43 (Or.inr (by decide))).trans ((jw_ne e42 (Or.inl (by decide))).trans ((jw_ne e41 (Or.inl (by decide))).trans ((jw_ne e40 (Or.inl (by decide))).trans ((hF.v rfl))))))) ?_
              refine ev_icmpge f256_110 (fun c126 => ?_) (fun c126 => absurd c126 (by omega))
              refine ev_aload_n rfl ?_
              refine ev_getf (r := 42) (v := 47) (hS44.lt (by decide)) (hS44.fam (by decide) (by decide)) ft12_7 ((jw_ne e44 (Or.inr (by decide))).trans ((jw_ne e43 (Or.inr (by decide))).trans ((jw_ne e42 (Or.inl (by decide))).trans ((jw_ne e41 (Or.inl (by decide))).trans ((jw_ne e40 (Or.inl (by decide))).trans ((hF.v rfl))))))) ?_
              refine ev_iload_n rfl ?_
              refine ev_aload_n rfl ?_
              refine ev_iload_n rfl ?_
              refine ev_in (d := 5) (a := 0) (b := 0) (cd' := c255_0) (m := 6) (L0 := [(2, 42), (0, 0), (9, 0), (9, 0), (9, 0), (9, 0)]) (jcall_v (A := [(0, 0)]) (S' := [(0, 0), (2, 47)]) (r := 42) rfl (hS44.lt (by decide)) (hS44.sh (by decide) rfl).1 (Nat.le_of_ble_eq_true rfl)) (by decide) ml255 pp255 (Nat.le_of_ble_eq_true rfl) rfl (by decide) (by decide) ?_
              refine ev_lconst ?_
              refine ev_lstore_n (L' := [(2, 42), (0, 0), (1, 1), (9, 0), (9, 0), (9, 0)]) (Nat.le_of_ble_eq_true rfl) rfl ?_
              refine ev_iconst ?_
              refine ev_istore (L' := [(2, 42), (0, 0), (1, 1), (9, 0), (0, 0), (9, 0)]) (Nat.le_of_ble_eq_true rfl) rfl ?_
              refine ev_iload rfl ?_
              refine ev_aload_n rfl ?_
              refine ev_getf (r := 42) (v := 0) (hS44.lt (by decide)) (hS44.fam (by decide) (by decide)) ft12_1 ((jw_ne e44 (Or.inr (by decide))).trans ((jw_ne e43 (Or.inr (by decide))).trans ((jw_ne e42 (Or.inl (by decide))).trans ((jw_ne e41 (Or.inl (by decide))).trans ((jw_ne e40 (Or.inl (by decide))).trans ((hF.v rfl))))))) ?_
              refine ev_icmpge f255_100 (fun c127 => ?_) (fun c127 => absurd c127 (by omega))
              refine ev_lload_n rfl ?_
              refine ev_ret rfl (by decide) (by decide) ?_
              show jEv _ _ _ _ _ _ _ (_, [(2, 42), (0, 0), (0, 0), (0, 0)], [(1, 1), (0, 0), (2, 47)], _, _, _)
              refine ev_lastG (r := 47) (j := 0) (hS44.lt (by decide)) (hS44.sh (by decide) rfl).1 rfl (hS44.inb (by decide) (by decide)) (fun h45 e45 => ?_)
              have hS45 := hS44.wr e45
              refine ev_iinc (w := 1) (L' := [(2, 42), (0, 1), (0, 0), (0, 0)]) rfl (by decide) rfl ?_
              refine ev_goto f256_57 ?_
              refine ev_iload_n rfl ?_
              refine ev_aload_n rfl ?_
              refine ev_getf (r := 42) (v := 1) (hS45.lt (by decide)) (hS45.fam (by decide) (by decide)) ft12_5 ((jw_ne e45 (Or.inl (by decide))).trans (jw_eq e44)) ?_
              refine ev_icmpge f256_127 (fun c128 => ?_) (fun c128 => absurd c128 (by omega))
              refine ev_iconst ?_
              refine ev_ret rfl (by decide) (by decide) ?_
              show jEv _ _ _ _ _ _ _ (_, [(2, 42), (0, (xs 1)), (0, (xs 2)), (0, (xs 3)), (9, 0), (9, 0), (9, 0), (9, 0), (9, 0)], [(0, 1)], _, _, _)
              refine ev_ifne f260_40 (fun c129 => ?_) (fun c129 => absurd c129 (by omega))
              refine ev_lconst ?_
              refine ev_lstore (L' := [(2, 42), (0, (xs 1)), (0, (xs 2)), (0, (xs 3)), (1, 0), (9, 0), (9, 0), (9, 0), (9, 0)]) (Nat.le_of_ble_eq_true rfl) rfl ?_
              refine ev_lconst ?_
              refine ev_lstore (L' := [(2, 42), (0, (xs 1)), (0, (xs 2)), (0, (xs 3)), (1, 0), (9, 0), (1, 0), (9, 0), (9, 0)]) (Nat.le_of_ble_eq_true rfl) rfl ?_
              refine ev_iconst ?_
              refine ev_istore (L' := [(2, 42), (0, (xs 1)), (0, (xs 2)), (0, (xs 3)), (1, 0), (9, 0), (1, 0), (9, 0), (0, 0)]) (Nat.le_of_ble_eq_true rfl) rfl ?_
              refine ev_iload rfl ?_
              refine ev_aload_n rfl ?_
              refine ev_getf (r := 42) (v := 1) (hS45.lt (by decide)) (hS45.fam (by decide) (by decide)) ft12_5 ((jw_ne e45 (Or.inl (by decide))).trans (jw_eq e44)) ?_
              refine ev_icmpge f260_111 (fun c130 => absurd c130 (by omega)) (fun c130 => ?_)
              refine ev_aload_n rfl ?_
              refine ev_iload rfl ?_
              refine ev_iload_n rfl ?_
              refine ev_in (d := 6) (a := 0) (b := 0) (cd' := c259_0) (m := 5) (L0 := [(2, 42), (0, 0), (0, (xs 2)), (9, 0), (9, 0)]) (jcall_v (A := [(0, (xs 2)), (0, 0)]) (S' := []) (r := 42) rfl (hS45.lt (by decide)) (hS45.sh (by decide) rfl).1 (Nat.le_of_ble_eq_true rfl)) (by decide) ml259 pp259 (Nat.le_of_ble_eq_true rfl) rfl (by decide) (by decide) ?_
              refine ev_iconst ?_
              refine ev_istore_n (L' := [(2, 42), (0, 0), (0, (xs 2)), (0, 0), (9, 0)]) (Nat.le_of_ble_eq_true rfl) rfl ?_
              refine ev_iload_n rfl ?_
              refine ev_aload_n rfl ?_
              refine ev_getf (r := 42) (v := 0) (hS45.lt (by decide)) (hS45.fam (by decide) (by decide)) ft12_1 ((jw_ne e45 (Or.inl (by decide))).trans ((jw_ne e44 (Or.inr (by decide))).trans ((jw_ne e43 (Or.inr (by decide))).trans ((jw_ne e42 (Or.inl (by decide))).trans ((jw_ne e41 (Or.inl (by decide))).trans ((jw_ne e40 (Or.inl (by decide))).trans ((hF.v rfl)))))))) ?_
              refine ev_icmpge f259_49 (fun c131 => ?_) (fun c131 => absurd c131 (by omega))
              refine ev_iconst ?_
              refine ev_ret rfl (by decide) (by decide) ?_
              show jEv _ _ _ _ _ _ _ (_, [(2, 42), (0, (xs 1)), (0, (xs 2)), (0, (xs 3)), (1, 0), (9, 0), (1, 0), (9, 0), (0, 0)], [(0, 1)], _, _, _)
              refine ev_ifne f260_71 (fun c132 => ?_) (fun c132 => absurd c132 (by omega))
              refine ev_lload rfl ?_
              refine ev_aload_n rfl ?_
              refine ev_getf (r := 42) (v := 47) (hS45.lt (by decide)) (hS45.fam (by decide) (by decide)) ft12_7 ((jw_ne e45 (Or.inl (by decide))).trans ((jw_ne e44 (Or.inr (by decide))).trans ((jw_ne e43 (Or.inr (by decide))).trans ((jw_ne e42 (Or.inl (by decide))).trans ((jw_ne e41 (Or.inl (by decide))).trans ((jw_ne e40 (Or.inl (by decide))).trans ((hF.v rfl)))))))) ?_
              refine ev_iload rfl ?_
              refine ev_lald (r := 47) (j := 0) (v := 1) (hS45.lt (by decide)) (hS45.sh (by decide) rfl).1 rfl (hS45.inb (by decide) (by decide)) (jw_eq e45) ?_
              refine ev_ladd (r := 1) (by decide) ?_
              refine ev_lstore (L' := [(2, 42), (0, (xs 1)), (0, (xs 2)), (0, (xs 3)), (1, 0), (9, 0), (1, 1), (9, 0), (0, 0)]) (Nat.le_of_ble_eq_true rfl) rfl ?_
              refine ev_aload_n rfl ?_
              refine ev_iload rfl ?_
              refine ev_iload_n rfl ?_
              refine ev_in (d := 6) (a := 0) (b := 0) (cd' := c259_0) (m := 5) (L0 := [(2, 42), (0, 0), (0, (xs 1)), (9, 0), (9, 0)]) (jcall_v (A := [(0, (xs 1)), (0, 0)]) (S' := []) (r := 42) rfl (hS45.lt (by decide)) (hS45.sh (by decide) rfl).1 (Nat.le_of_ble_eq_true rfl)) (by decide) ml259 pp259 (Nat.le_of_ble_eq_true rfl) rfl (by decide) (by decide) ?_
              refine ev_iconst ?_
              refine ev_istore_n (L' := [(2, 42), (0, 0), (0, (xs 1)), (0, 0), (9, 0)]) (Nat.le_of_ble_eq_true rfl) rfl ?_
              refine ev_iload_n rfl ?_
              refine ev_aload_n rfl ?_
              refine ev_getf (r := 42) (v := 0) (hS45.lt (by decide)) (hS45.fam (by decide) (by decide)) ft12_1 ((jw_ne e45 (Or.inl (by decide))).trans ((jw_ne e44 (Or.inr (by decide))).trans ((jw_ne e43 (Or.inr (by decide))).trans ((jw_ne e42 (Or.inl (by decide))).trans ((jw_ne e41 (Or.inl (by decide))).trans ((jw_ne e40 (Or.inl (by decide))).trans ((hF.v rfl)))))))) ?_
              refine ev_icmpge f259_49 (fun c133 => ?_) (fun c133 => absurd c133 (by omega))
              refine ev_iconst ?_
              refine ev_ret rfl (by decide) (by decide) ?_
              show jEv _ _ _ _ _ _ _ (_, [(2, 42), (0, (xs 1)), (0, (xs 2)), (0, (xs 3)), (1, 0), (9, 0), (1, 1), (9, 0), (0, 0)], [(0, 1)], _, _, _)
              refine ev_ifeq f260_105 (fun c134 => absurd c134 (by omega)) (fun c134 => ?_)
              refine ev_lload rfl ?_
              refine ev_aload_n rfl ?_
              refine ev_getf (r := 42) (v := 47) (hS45.lt (by decide)) (hS45.fam (by decide) (by decide)) ft12_7 ((jw_ne e45 (Or.inl (by decide))).trans ((jw_ne e44 (Or.inr (by decide))).trans ((jw_ne e43 (Or.inr (by decide))).trans ((jw_ne e42 (Or.inl (by decide))).trans ((jw_ne e41 (Or.inl (by decide))).trans ((jw_ne e40 (Or.inl (by decide))).trans ((hF.v rfl)))))))) ?_
              refine ev_iload rfl ?_
              refine ev_lald (r := 47) (j := 0) (v := 1) (hS45.lt (by decide)) (hS45.sh (by decide) rfl).1 rfl (hS45.inb (by decide) (by decide)) (jw_eq e45) ?_
              refine ev_ladd (r := 1) (by decide) ?_
              refine ev_lstore (L' := [(2, 42), (0, (xs 1)), (0, (xs 2)), (0, (xs 3)), (1, 1), (9, 0), (1, 1), (9, 0), (0, 0)]) (Nat.le_of_ble_eq_true rfl) rfl ?_
              refine ev_iinc (w := 1) (L' := [(2, 42), (0, (xs 1)), (0, (xs 2)), (0, (xs 3)), (1, 1), (9, 0), (1, 1), (9, 0), (0, 1)]) rfl (by decide) rfl ?_
              refine ev_goto f260_49 ?_
              refine ev_iload rfl ?_
              refine ev_aload_n rfl ?_
              refine ev_getf (r := 42) (v := 1) (hS45.lt (by decide)) (hS45.fam (by decide) (by decide)) ft12_5 ((jw_ne e45 (Or.inl (by decide))).trans (jw_eq e44)) ?_
              refine ev_icmpge f260_111 (fun c135 => ?_) (fun c135 => absurd c135 (by omega))
              refine ev_lload rfl ?_
              refine ev_lload rfl ?_
              refine ev_iload_n rfl ?_
              refine ev_in (d := 6) (a := 0) (b := 0) (cd' := c244_0) (m := 7) (L0 := [(1, 1), (9, 0), (1, 1), (9, 0), (0, (xs 3)), (9, 0), (9, 0)]) (jcall_s (A := [(0, (xs 3)), (1, 1), (1, 1)]) (S' := []) (by decide) rfl (Nat.le_of_ble_eq_true rfl)) (by decide) ml244 pp244 (Nat.le_of_ble_eq_true rfl) rfl (by decide) (by decide) ?_
              refine ev_lload_n rfl ?_
              refine ev_lload_n rfl ?_
              refine ev_in (d := 5) (a := 0) (b := 0) (cd' := c243_0) (m := 10) (L0 := [(1, 1), (9, 0), (1, 1), (9, 0), (9, 0), (9, 0), (9, 0), (9, 0), (9, 0), (9, 0)]) (jcall_s (A := [(1, 1), (1, 1)]) (S' := []) (by decide) rfl (Nat.le_of_ble_eq_true rfl)) (by decide) ml243 pp243 (Nat.le_of_ble_eq_true rfl) rfl (by decide) (by decide) ?_
              refine ev_lload_n rfl ?_
              refine ev_lconst ?_
              refine ev_lcmp ?_
              refine ev_ifge f243_11 (fun c136 => ?_) (fun c136 => absurd (show _ from by unfold jcmpL; (repeat' split) <;> omega) c136)
              refine ev_lload_n rfl ?_
              refine ev_lstore (L' := [(1, 1), (9, 0), (1, 1), (9, 0), (1, 1), (9, 0), (9, 0), (9, 0), (9, 0), (9, 0)]) (Nat.le_of_ble_eq_true rfl) rfl ?_
              refine ev_lload_n rfl ?_
              refine ev_lstore (L' := [(1, 1), (9, 0), (1, 1), (9, 0), (1, 1), (9, 0), (1, 1), (9, 0), (9, 0), (9, 0)]) (Nat.le_of_ble_eq_true rfl) rfl ?_
              refine ev_lload rfl ?_
              refine ev_lconst ?_
              refine ev_lcmp ?_
              refine ev_ifeq f243_42 (fun c137 => absurd c137 (by unfold jcmpL; (repeat' split) <;> omega)) (fun c137 => ?_)
              refine ev_lload rfl ?_
              refine ev_lload rfl ?_
              refine ev_lrem (r := 0) (by decide) (by decide) ?_
              refine ev_lstore (L' := [(1, 1), (9, 0), (1, 1), (9, 0), (1, 1), (9, 0), (1, 1), (9, 0), (1, 0), (9, 0)]) (Nat.le_of_ble_eq_true rfl) rfl ?_
              refine ev_lload rfl ?_
              refine ev_lstore (L' := [(1, 1), (9, 0), (1, 1), (9, 0), (1, 1), (9, 0), (1, 1), (9, 0), (1, 0), (9, 0)]) (Nat.le_of_ble_eq_true rfl) rfl ?_
              refine ev_lload rfl ?_
              refine ev_lstore (L' := [(1, 1), (9, 0), (1, 1), (9, 0), (1, 1), (9, 0), (1, 0), (9, 0), (1, 0), (9, 0)]) (Nat.le_of_ble_eq_true rfl) rfl ?_
              refine ev_goto f243_17 ?_
              refine ev_lload rfl ?_
              refine ev_lconst ?_
              refine ev_lcmp ?_
              refine ev_ifeq f243_42 (fun c138 => ?_) (fun c138 => absurd (show _ from by unfold jcmpL; (repeat' split) <;> omega) c138)
              refine ev_lload rfl ?_
              refine ev_lconst ?_
              refine ev_lcmp ?_
              refine ev_ifne f243_53 (fun c139 => ?_) (fun c139 => absurd (show _ from by unfold jcmpL; (repeat' split) <;> omega) c139)
              refine ev_lload rfl ?_
              refine ev_ret rfl (by decide) (by decide) ?_
              show jEv _ _ _ _ _ _ _ (_, [(1, 1), (9, 0), (1, 1), (9, 0), (0, (xs 3)), (9, 0), (9, 0)], [(1, 1)], _, _, _)
              refine ev_lstore (L' := [(1, 1), (9, 0), (1, 1), (9, 0), (0, (xs 3)), (1, 1), (9, 0)]) (Nat.le_of_ble_eq_true rfl) rfl ?_
              refine ev_iload rfl ?_
              refine ev_ifne f244_19 (fun c140 => ?_) (fun c140 => absurd c140 (by omega))
              refine ev_lload_n rfl ?_
              refine ev_lload rfl ?_
              refine ev_ldiv (r := 1) (by decide) (by decide) ?_
              refine ev_ret rfl (by decide) (by decide) ?_
              show jEv _ _ _ _ _ _ _ (_, [(2, 42), (0, (xs 1)), (0, (xs 2)), (0, (xs 3)), (1, 1), (9, 0), (1, 1), (9, 0), (0, 1)], [(1, 1)], _, _, _)
              refine ev_ret rfl (by decide) (by decide) ?_
              show jEv _ _ _ _ _ _ _ (_, [(2, (-2)), (2, 0), (2, 42), (0, 0)], [(1, 1), (1, 1)], _, _, _)
              refine ev_lcmp ?_
              refine ev_ifeq f384_2190 (fun c141 => ?_) (fun c141 => absurd (show _ from by unfold jcmpL; (repeat' split) <;> omega) c141)
              exact law_tail _
        · refine ev_iconst ?_
          refine ev_ret rfl (by decide) (by decide) ?_
          show jEv _ _ _ _ _ _ _ (_, [(2, 0), (0, (xs 1)), (0, (xs 2)), (0, (xs 3))], [(0, 0)], _, _, _)
          refine ev_ifeq f171_29 (fun c142 => ?_) (fun c142 => absurd c142 (by omega))
          refine ev_ldc2_w ?_
          refine ev_ret rfl (by decide) (by decide) ?_
          show jEv _ _ _ _ _ _ _ (_, [(2, (-2)), (2, 0), (2, 42), (0, 0)], [(1, (-1))], _, _, _)
          refine ev_aload_n rfl ?_
          refine ev_aload_n rfl ?_
          refine ev_iload_n rfl ?_
          refine ev_iconst ?_
          refine ev_iadd (r := 1) (by decide) ?_
          refine ev_sald (j := 1) (v := (xs 1)) rfl rfl rfl ?_
          refine ev_aload_n rfl ?_
          refine ev_iload_n rfl ?_
          refine ev_iconst ?_
          refine ev_iadd (r := 2) (by decide) ?_
          refine ev_sald (j := 2) (v := (xs 2)) rfl rfl rfl ?_
          refine ev_aload_n rfl ?_
          refine ev_iload_n rfl ?_
          refine ev_iconst ?_
          refine ev_iadd (r := 3) (by decide) ?_
          refine ev_sald (j := 3) (v := (xs 3)) rfl rfl rfl ?_
          refine ev_in (d := 7) (a := 0) (b := 0) (cd' := c260_0) (m := 9) (L0 := [(2, 42), (0, (xs 1)), (0, (xs 2)), (0, (xs 3)), (9, 0), (9, 0), (9, 0), (9, 0), (9, 0)]) (jcall_v (A := [(0, (xs 3)), (0, (xs 2)), (0, (xs 1))]) (S' := [(1, (-1))]) (r := 42) rfl (hF.1.lt (by decide)) (hF.1.sh (by decide) rfl).1 (Nat.le_of_ble_eq_true rfl)) (by decide) ml260 pp260 (Nat.le_of_ble_eq_true rfl) rfl (by decide) (by decide) ?_
          refine ev_aload_n rfl ?_
          refine ev_iload_n rfl ?_
          refine ev_in (d := 6) (a := 0) (b := 0) (cd' := c258_0) (m := 3) (L0 := [(2, 42), (0, (xs 1)), (9, 0)]) (jcall_v (A := [(0, (xs 1))]) (S' := []) (r := 42) rfl (hF.1.lt (by decide)) (hF.1.sh (by decide) rfl).1 (Nat.le_of_ble_eq_true rfl)) (by decide) ml258 pp258 (Nat.le_of_ble_eq_true rfl) rfl (by decide) (by decide) ?_
          refine ev_iload_n rfl ?_
          refine ev_iflt f258_15 (fun c143 => absurd c143 (by omega)) (fun c143 => ?_)
          refine ev_iload_n rfl ?_
          refine ev_iconst ?_
          refine ev_aload_n rfl ?_
          refine ev_getf (r := 42) (v := 0) (hF.1.lt (by decide)) (hF.1.fam (by decide) (by decide)) ft12_1 ((hF.v rfl)) ?_
          refine ev_imul (r := 0) (by decide) ?_
          refine ev_ishr (r := 0) (by rw [show (xs 1) = 0 by omega]; decide) ?_
          refine ev_ifeq f258_17 (fun c144 => ?_) (fun c144 => absurd c144 (by omega))
          refine ev_iconst ?_
          refine ev_istore_n (L' := [(2, 42), (0, (xs 1)), (0, 0)]) (Nat.le_of_ble_eq_true rfl) rfl ?_
          refine ev_iload_n rfl ?_
          refine ev_aload_n rfl ?_
          refine ev_getf (r := 42) (v := 0) (hF.1.lt (by decide)) (hF.1.fam (by decide) (by decide)) ft12_1 ((hF.v rfl)) ?_
          refine ev_icmpge f258_51 (fun c145 => ?_) (fun c145 => absurd c145 (by omega))
          refine ev_iconst ?_
          refine ev_ret rfl (by decide) (by decide) ?_
          show jEv _ _ _ _ _ _ _ (_, [(2, 42), (0, (xs 1)), (0, (xs 2)), (0, (xs 3)), (9, 0), (9, 0), (9, 0), (9, 0), (9, 0)], [(0, 1)], _, _, _)
          refine ev_ifeq f260_25 (fun c146 => absurd c146 (by omega)) (fun c146 => ?_)
          refine ev_aload_n rfl ?_
          refine ev_iload_n rfl ?_
          refine ev_in (d := 6) (a := 0) (b := 0) (cd' := c258_0) (m := 3) (L0 := [(2, 42), (0, (xs 2)), (9, 0)]) (jcall_v (A := [(0, (xs 2))]) (S' := []) (r := 42) rfl (hF.1.lt (by decide)) (hF.1.sh (by decide) rfl).1 (Nat.le_of_ble_eq_true rfl)) (by decide) ml258 pp258 (Nat.le_of_ble_eq_true rfl) rfl (by decide) (by decide) ?_
          refine ev_iload_n rfl ?_
          refine ev_iflt f258_15 (fun c147 => absurd c147 (by omega)) (fun c147 => ?_)
          refine ev_iload_n rfl ?_
          refine ev_iconst ?_
          refine ev_aload_n rfl ?_
          refine ev_getf (r := 42) (v := 0) (hF.1.lt (by decide)) (hF.1.fam (by decide) (by decide)) ft12_1 ((hF.v rfl)) ?_
          refine ev_imul (r := 0) (by decide) ?_
          refine ev_ishr (r := (xs 2)) (jshr_0 (by omega) (by omega)) ?_
          refine ev_ifeq f258_17 (fun c148 => absurd c148 (by omega)) (fun c148 => ?_)
          refine ev_iconst ?_
          refine ev_ret rfl (by decide) (by decide) ?_
          show jEv _ _ _ _ _ _ _ (_, [(2, 42), (0, (xs 1)), (0, (xs 2)), (0, (xs 3)), (9, 0), (9, 0), (9, 0), (9, 0), (9, 0)], [(0, 0)], _, _, _)
          refine ev_ifeq f260_25 (fun c149 => ?_) (fun c149 => absurd c149 (by omega))
          refine ev_ldc2_w ?_
          refine ev_ret rfl (by decide) (by decide) ?_
          show jEv _ _ _ _ _ _ _ (_, [(2, (-2)), (2, 0), (2, 42), (0, 0)], [(1, (-1)), (1, (-1))], _, _, _)
          refine ev_lcmp ?_
          refine ev_ifeq f384_2190 (fun c150 => ?_) (fun c150 => absurd (show _ from by unfold jcmpL; (repeat' split) <;> omega) c150)
          exact law_tail _
    · refine ev_iconst ?_
      refine ev_ret rfl (by decide) (by decide) ?_
      show jEv _ _ _ _ _ _ _ (_, [(2, 0), (0, (xs 1)), (0, (xs 2)), (0, (xs 3))], [(0, 0)], _, _, _)
      refine ev_ifeq f171_29 (fun c151 => ?_) (fun c151 => absurd c151 (by omega))
      refine ev_ldc2_w ?_
      refine ev_ret rfl (by decide) (by decide) ?_
      show jEv _ _ _ _ _ _ _ (_, [(2, (-2)), (2, 0), (2, 42), (0, 0)], [(1, (-1))], _, _, _)
      refine ev_aload_n rfl ?_
      refine ev_aload_n rfl ?_
      refine ev_iload_n rfl ?_
      refine ev_iconst ?_
      refine ev_iadd (r := 1) (by decide) ?_
      refine ev_sald (j := 1) (v := (xs 1)) rfl rfl rfl ?_
      refine ev_aload_n rfl ?_
      refine ev_iload_n rfl ?_
      refine ev_iconst ?_
      refine ev_iadd (r := 2) (by decide) ?_
      refine ev_sald (j := 2) (v := (xs 2)) rfl rfl rfl ?_
      refine ev_aload_n rfl ?_
      refine ev_iload_n rfl ?_
      refine ev_iconst ?_
      refine ev_iadd (r := 3) (by decide) ?_
      refine ev_sald (j := 3) (v := (xs 3)) rfl rfl rfl ?_
      refine ev_in (d := 7) (a := 0) (b := 0) (cd' := c260_0) (m := 9) (L0 := [(2, 42), (0, (xs 1)), (0, (xs 2)), (0, (xs 3)), (9, 0), (9, 0), (9, 0), (9, 0), (9, 0)]) (jcall_v (A := [(0, (xs 3)), (0, (xs 2)), (0, (xs 1))]) (S' := [(1, (-1))]) (r := 42) rfl (hF.1.lt (by decide)) (hF.1.sh (by decide) rfl).1 (Nat.le_of_ble_eq_true rfl)) (by decide) ml260 pp260 (Nat.le_of_ble_eq_true rfl) rfl (by decide) (by decide) ?_
      refine ev_aload_n rfl ?_
      refine ev_iload_n rfl ?_
      refine ev_in (d := 6) (a := 0) (b := 0) (cd' := c258_0) (m := 3) (L0 := [(2, 42), (0, (xs 1)), (9, 0)]) (jcall_v (A := [(0, (xs 1))]) (S' := []) (r := 42) rfl (hF.1.lt (by decide)) (hF.1.sh (by decide) rfl).1 (Nat.le_of_ble_eq_true rfl)) (by decide) ml258 pp258 (Nat.le_of_ble_eq_true rfl) rfl (by decide) (by decide) ?_
      refine ev_iload_n rfl ?_
      refine ev_iflt f258_15 (fun c152 => absurd c152 (by omega)) (fun c152 => ?_)
      refine ev_iload_n rfl ?_
      refine ev_iconst ?_
      refine ev_aload_n rfl ?_
      refine ev_getf (r := 42) (v := 0) (hF.1.lt (by decide)) (hF.1.fam (by decide) (by decide)) ft12_1 ((hF.v rfl)) ?_
      refine ev_imul (r := 0) (by decide) ?_
      refine ev_ishr (r := (xs 1)) (jshr_0 (by omega) (by omega)) ?_
      refine ev_ifeq f258_17 (fun c153 => absurd c153 (by omega)) (fun c153 => ?_)
      refine ev_iconst ?_
      refine ev_ret rfl (by decide) (by decide) ?_
      show jEv _ _ _ _ _ _ _ (_, [(2, 42), (0, (xs 1)), (0, (xs 2)), (0, (xs 3)), (9, 0), (9, 0), (9, 0), (9, 0), (9, 0)], [(0, 0)], _, _, _)
      refine ev_ifeq f260_25 (fun c154 => ?_) (fun c154 => absurd c154 (by omega))
      refine ev_ldc2_w ?_
      refine ev_ret rfl (by decide) (by decide) ?_
      show jEv _ _ _ _ _ _ _ (_, [(2, (-2)), (2, 0), (2, 42), (0, 0)], [(1, (-1)), (1, (-1))], _, _, _)
      refine ev_lcmp ?_
      refine ev_ifeq f384_2190 (fun c155 => ?_) (fun c155 => absurd (show _ from by unfold jcmpL; (repeat' split) <;> omega) c155)
      exact law_tail _
