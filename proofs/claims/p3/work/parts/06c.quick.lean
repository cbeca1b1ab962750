/-! a quick look at an instruction's bytes: what it is read off its opcode -/
def jf0 : Instr → Nat
  | .aconst_null => 1
  | .iconst i => if -1 ≤ i ∧ i ≤ 5 then (i + 3).toNat else 0
  | .lconst l => 9 + l.val
  | .iload_n n => 26 + n.val
  | .lload_n n => 30 + n.val
  | .aload_n n => 42 + n.val
  | .istore_n n => 59 + n.val
  | .lstore_n n => 63 + n.val
  | .astore_n n => 75 + n.val
  | .iaload => 46
  | .laload => 47
  | .aaload => 50
  | .baload => 51
  | .iastore => 79
  | .lastore => 80
  | .aastore => 83
  | .bastore => 84
  | .pop => 87
  | .pop2 => 88
  | .dup => 89
  | .dup2 => 92
  | .iadd => 96
  | .ladd => 97
  | .isub => 100
  | .lsub => 101
  | .imul => 104
  | .lmul => 105
  | .idiv => 108
  | .ldiv => 109
  | .irem => 112
  | .lrem => 113
  | .ineg => 116
  | .lneg => 117
  | .ishl => 120
  | .lshl => 121
  | .ishr => 122
  | .iand => 126
  | .ior => 128
  | .ixor => 130
  | .i2l => 133
  | .l2i => 136
  | .i2b => 145
  | .lcmp => 148
  | .ireturn => 172
  | .lreturn => 173
  | .areturn => 176
  | .return_ => 177
  | _ => 0
def jL0 : List (Nat × Instr) := [(1, .aconst_null), (2, .iconst (-1)), (3, .iconst 0), (4, .iconst 1), (5, .iconst 2), (6, .iconst 3), (7, .iconst 4), (8, .iconst 5), (9, .lconst 0), (10, .lconst 1), (26, .iload_n 0), (27, .iload_n 1), (28, .iload_n 2), (29, .iload_n 3), (30, .lload_n 0), (31, .lload_n 1), (32, .lload_n 2), (33, .lload_n 3), (42, .aload_n 0), (43, .aload_n 1), (44, .aload_n 2), (45, .aload_n 3), (59, .istore_n 0), (60, .istore_n 1), (61, .istore_n 2), (62, .istore_n 3), (63, .lstore_n 0), (64, .lstore_n 1), (65, .lstore_n 2), (66, .lstore_n 3), (75, .astore_n 0), (76, .astore_n 1), (77, .astore_n 2), (78, .astore_n 3), (46, .iaload), (47, .laload), (50, .aaload), (51, .baload), (79, .iastore), (80, .lastore), (83, .aastore), (84, .bastore), (87, .pop), (88, .pop2), (89, .dup), (92, .dup2), (96, .iadd), (97, .ladd), (100, .isub), (101, .lsub), (104, .imul), (105, .lmul), (108, .idiv), (109, .ldiv), (112, .irem), (113, .lrem), (116, .ineg), (117, .lneg), (120, .ishl), (121, .lshl), (122, .ishr), (126, .iand), (128, .ior), (130, .ixor), (133, .i2l), (136, .l2i), (145, .i2b), (148, .lcmp), (172, .ireturn), (173, .lreturn), (176, .areturn), (177, .return_)]
set_option maxRecDepth 100000 in
theorem jL0_ok : jL0.all (fun q => jchkD ⟨#[UInt8.ofNat q.1]⟩ 0 (0, q.2, 1, [], 0) && jplain q.1) = true := by decide +kernel
set_option maxRecDepth 100000 in
set_option maxHeartbeats 8000000 in
theorem jf0_mem : ∀ i : Instr, jf0 i ≠ 0 → jL0.any (fun q => decide (q.1 = jf0 i) && decide (q.2 = i)) = true := by
  intro i h
  cases i
  case iconst v =>
    have c : -1 ≤ v ∧ v ≤ 5 := Decidable.byContradiction (fun z => h (if_neg z))
    rcases (show v = -1 ∨ v = 0 ∨ v = 1 ∨ v = 2 ∨ v = 3 ∨ v = 4 ∨ v = 5 by omega) with z | z | z | z | z | z | z <;> subst z <;> decide +kernel
  case lconst n => revert n; decide +kernel
  case iload_n n => revert n; decide +kernel
  case lload_n n => revert n; decide +kernel
  case aload_n n => revert n; decide +kernel
  case istore_n n => revert n; decide +kernel
  case lstore_n n => revert n; decide +kernel
  case astore_n n => revert n; decide +kernel
  all_goals first
    | exact (h rfl).elim
    | (clear h; decide +kernel)
def jf1 : Instr → Nat × Nat
  | .ldc x => (18, x)
  | .iload x => (21, x)
  | .lload x => (22, x)
  | .aload x => (25, x)
  | .istore x => (54, x)
  | .lstore x => (55, x)
  | .astore x => (58, x)
  | _ => (0, 0)
def jf2 : Instr → Nat × Nat
  | .ldc_w x => (19, x)
  | .ldc2_w x => (20, x)
  | .getfield x => (180, x)
  | .putfield x => (181, x)
  | .invokevirtual x => (182, x)
  | .invokespecial x => (183, x)
  | .invokestatic x => (184, x)
  | .new x => (187, x)
  | .anewarray x => (189, x)
  | _ => (0, 0)
def jfs : Instr → Nat × Int
  | .sipush o => (17, o)
  | .ifCond .eq o => (153, o)
  | .ifCond .ne o => (154, o)
  | .ifCond .lt o => (155, o)
  | .ifCond .ge o => (156, o)
  | .ifCond .gt o => (157, o)
  | .ifCond .le o => (158, o)
  | .if_icmp .eq o => (159, o)
  | .if_icmp .ne o => (160, o)
  | .if_icmp .lt o => (161, o)
  | .if_icmp .ge o => (162, o)
  | .if_icmp .gt o => (163, o)
  | .if_icmp .le o => (164, o)
  | .goto o => (167, o)
  | _ => (0, 0)
theorem jby {x : UInt8} {n : Nat} (h : x.toNat = n) : x = UInt8.ofNat n := by rw [← h]; exact UInt8.ofNat_toNat.symm
set_option maxRecDepth 100000 in
set_option maxHeartbeats 8000000 in
theorem jf1_ok : ∀ (i : Instr) (x a : UInt8), (jf1 i).1 ≠ 0 → x.toNat = (jf1 i).1 → a.toNat = (jf1 i).2 → decode ⟨#[x, a]⟩ 0 = .ok (i, 2) ∧ jplain x.toNat = true := by
  intro i x a h0 hx ha
  have e := jby hx
  subst e
  cases i
  all_goals first
    | exact (h0 rfl).elim
    | (rename_i v; have hb : a.toNat = v := ha; subst hb; exact ⟨rfl, rfl⟩)
set_option maxRecDepth 100000 in
set_option maxHeartbeats 8000000 in
theorem jf2_ok : ∀ (i : Instr) (x a b : UInt8), (jf2 i).1 ≠ 0 → x.toNat = (jf2 i).1 → a.toNat * 256 + b.toNat = (jf2 i).2 → decode ⟨#[x, a, b]⟩ 0 = .ok (i, 3) ∧ jplain x.toNat = true := by
  intro i x a b h0 hx ha
  have e := jby hx
  subst e
  cases i
  all_goals first
    | exact (h0 rfl).elim
    | (rename_i v; have hb : a.toNat * 256 + b.toNat = v := ha; subst hb; exact ⟨rfl, rfl⟩)
set_option maxRecDepth 100000 in
set_option maxHeartbeats 8000000 in
theorem jfs_ok : ∀ (i : Instr) (x a b : UInt8), (jfs i).1 ≠ 0 → x.toNat = (jfs i).1 → Reader.signed 16 (a.toNat * 256 + b.toNat) = (jfs i).2 → decode ⟨#[x, a, b]⟩ 0 = .ok (i, 3) ∧ jplain x.toNat = true := by
  intro i x a b h0 hx ha
  have e := jby hx
  subst e
  cases i
  case ifCond c v => cases c <;> (have hb : Reader.signed 16 (a.toNat * 256 + b.toNat) = v := ha; subst hb; exact ⟨rfl, rfl⟩)
  case if_icmp c v => cases c <;> (have hb : Reader.signed 16 (a.toNat * 256 + b.toNat) = v := ha; subst hb; exact ⟨rfl, rfl⟩)
  all_goals first
    | exact (h0 rfl).elim
    | (rename_i v; have hb : Reader.signed 16 (a.toNat * 256 + b.toNat) = v := ha; subst hb; exact ⟨rfl, rfl⟩)
def jfd (i : Instr) (n : Nat) (l : List UInt8) : Bool := match n, l with
  | 1, x :: _ => jf0 i != 0 && x.toNat == jf0 i
  | 2, x :: a :: _ => (jf1 i).1 != 0 && x.toNat == (jf1 i).1 && a.toNat == (jf1 i).2
  | 3, x :: a :: b :: _ => ((jf2 i).1 != 0 && x.toNat == (jf2 i).1 && a.toNat * 256 + b.toNat == (jf2 i).2) || ((jfs i).1 != 0 && x.toNat == (jfs i).1 && decide (Reader.signed 16 (a.toNat * 256 + b.toNat) = (jfs i).2))
  | _, _ => false
theorem jfd_ok {i : Instr} {n : Nat} {l : List UInt8} (h : jfd i n l = true) : decode (jslice l n) 0 = .ok (i, n) ∧ jfst l = true ∧ n ≠ 0 := by
  unfold jfd at h
  split at h
  · simp only [Bool.and_eq_true, bne_iff_ne, beq_iff_eq] at h
    obtain ⟨q, qm, qe⟩ := List.any_eq_true.mp (jf0_mem i h.1)
    have m := List.all_eq_true.mp jL0_ok q qm
    simp only [Bool.and_eq_true, decide_eq_true_eq] at m qe
    obtain ⟨q1, q2⟩ := q
    obtain ⟨e1, e2⟩ := qe
    simp only at e1 e2 m
    subst e1
    subst e2
    rename_i x r
    have e := jby h.2
    refine ⟨?_, ?_, by decide⟩
    · have := jchkD_ok m.1
      rw [← e] at this
      exact this
    · show jplain x.toNat = true
      rw [h.2]
      exact m.2
  · simp only [Bool.and_eq_true, bne_iff_ne, beq_iff_eq] at h
    rename_i x a r
    have q := jf1_ok i x a h.1.1 h.1.2 h.2
    exact ⟨q.1, q.2, by decide⟩
  · simp only [Bool.or_eq_true, Bool.and_eq_true, bne_iff_ne, beq_iff_eq, decide_eq_true_eq] at h
    rename_i x a b r
    rcases h with h | h
    · have q := jf2_ok i x a b h.1.1 h.1.2 h.2
      exact ⟨q.1, q.2, by decide⟩
    · have q := jfs_ok i x a b h.1.1 h.1.2 h.2
      exact ⟨q.1, q.2, by decide⟩
  · cases h
theorem jchkD_of {b : ByteArray} {pc : Nat} {e : JE} (h : decode b pc = .ok (e.2.1, e.2.2.1)) : jchkD b pc e = true := by
  unfold jchkD
  rw [h]
  simp
def jwalkF (bytes : ByteArray) : List JE → List UInt8 → Bool
  | [], _ => true
  | e :: r, l => (if jisw e.2.1 = true then jchkD bytes e.1 e else (jfd e.2.1 e.2.2.1 l || (jchkD (jslice l e.2.2.1) 0 e && jfst l && e.2.2.1 != 0))) && jwalkF bytes r (l.drop e.2.2.1)
theorem jwalkF_ok {bytes : ByteArray} : ∀ (cd : List JE) (l : List UInt8), jwalkF bytes cd l = true → jwalk bytes cd l = true := by
  intro cd
  induction cd with
  | nil => intro l _; rfl
  | cons x r ih =>
    intro l h
    simp only [jwalkF, Bool.and_eq_true] at h
    simp only [jwalk, Bool.and_eq_true]
    refine ⟨?_, ih _ h.2⟩
    have h1 := h.1
    split at h1
    · rename_i c
      rw [if_pos c]
      exact h1
    · rename_i c
      rw [if_neg c]
      rw [Bool.or_eq_true] at h1
      rcases h1 with h1 | h1
      · have q := jfd_ok h1
        simp only [Bool.and_eq_true, bne_iff_ne]
        exact ⟨⟨jchkD_of q.1, q.2.1⟩, q.2.2⟩
      · exact h1
