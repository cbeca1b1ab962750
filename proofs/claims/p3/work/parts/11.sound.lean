/-! every step of the simple machine is one of the real machine -/
def jCx (p : Program) (R : Room) (s : State) (m : MethodId) (args : Array Value) (meth : Method) (c : Code) (D : va_G) (cA : Nat → ClassId) (B b : Nat) (xl : Option Nat) (xs : Nat → Int) (k : Nat) : Prop :=
  p.tables.exec = Jvm.exec ∧ c.code = jBy k ∧ c.maxLocals = jML k ∧ s.vm.findClass (jY k).cls = some m.cls ∧ (∀ w ∈ jTB, w.before args s = true) ∧ jKp D cA B b xl xs s s.heap ∧ B ≤ s.heap.size ∧ ((jY k).name = "<init>" → meth.name = "<init>") ∧ 1 ≤ R.frames ∧ 60 ≤ R.locals
/-- a piece of a method's code that goes to its end -/
def jSuf (k : Nat) (K : List JE) : Prop := ∃ pre, jP k = pre ++ K
/-- the simple machine's state, as the real one has it -/
def jX (p : Program) (l : Launch) (e : Env) (R : Room) (s : State) (m : MethodId) (args : Array Value) (below : List Frame) (meth : Method) (c : Code) (Q : State → Prop) (D : va_G) (cA : Nat → ClassId) (B b : Nat) (k : Nat) (st : JS) : Prop := st.1 ≠ [] ∧ (jSuf k st.1 → st.2.1.length = jML k → jXW p l e R s m args below meth c Q D cA B b (jpc st.1) st.2.1 st.2.2.1 st.2.2.2.1 st.2.2.2.2.1 st.2.2.2.2.2)
theorem jadj_at {cd pre K : List JE} {a : JE} (h : jadj cd = true) (hc : cd = pre ++ a :: K) (hK : K ≠ []) : jpc K = a.1 + a.2.2.1 := by
  subst hc
  induction pre with
  | nil =>
    match K, hK with
    | x :: r, _ =>
      simp only [List.nil_append, jadj, Bool.and_eq_true, beq_iff_eq] at h
      exact h.1
  | cons x r ih =>
    refine ih ?_
    simp only [List.cons_append, jadj, Bool.and_eq_true] at h
    exact h.2
theorem jchkM_at {k : Nat} {K : List JE} {a : JE} (h : jchkN k = true) (hs : jSuf k (a :: K)) : decode (jBy k) a.1 = .ok (a.2.1, a.2.2.1) ∧ jchkL k a = true ∧ jSuf k K ∧ (K ≠ [] → jpc K = a.1 + a.2.2.1) := by
  obtain ⟨pre, hp⟩ := hs
  simp only [jchkN, Bool.and_eq_true, beq_iff_eq] at h
  obtain ⟨⟨⟨h1, h0⟩, h2⟩, h4⟩ := h
  have hm : a ∈ jP k := by rw [hp]; simp
  have ha := List.all_eq_true.mp h1 a hm
  exact ⟨jwalk_ok _ _ h0 (by rw [h4]; rfl) h2 a hm, ha, ⟨pre ++ [a], by rw [hp]; simp⟩, fun hK => jadj_at h2 hp hK⟩
section JSound
variable {p : Program} {l : Launch} {e : Env} {R : Room} {s : State} {m : MethodId} {args : Array Value} {below : List Frame} {meth : Method} {c : Code} {Q : State → Prop} {D : va_G} {cA : Nat → ClassId} {B b : Nat} {xl : Option Nat} {xs : Nat → Int}
/-- the field that an instruction names, of a body of any kind that may stand there -/
theorem jfield {own : String} {x t : Nat} {ps : List Nat} {fin init : Bool} (hts : ∀ w ∈ jTB, w.before args s = true) (h : jchkF own x ps fin init = true) (ht : jfam (ps.getD 0 0) t = true) : ∃ (q : vw_C) (ref : String), vwCl[t]? = some q ∧ ps.getD 1 0 < q.2.2 ∧ (Cond.fieldLink own x ref (q.2.1 (ps.getD 1 0)).2.1 (q.2.1 (ps.getD 1 0)).2.2.1).before args s = true ∧ (ref = (q.2.1 (ps.getD 1 0)).1 ∨ (Cond.sameField ref (q.2.1 (ps.getD 1 0)).1 (q.2.1 (ps.getD 1 0)).2.1 (q.2.1 (ps.getD 1 0)).2.2.1).before args s = true) ∧ jfty t (ps.getD 1 0) = jfty (ps.getD 0 0) (ps.getD 1 0) ∧ (fin = true → (q.2.1 (ps.getD 1 0)).2.2.2 = false ∨ (init = true ∧ (q.2.1 (ps.getD 1 0)).1 = own)) := by
  have h1 := List.all_eq_true.mp h t (jfam_in ht)
  unfold jchkT at h1
  cases hq : vwCl[t]? with
  | none => rw [hq] at h1; cases h1
  | some q =>
    cases hw : jword (ps.getD 2 0) with
    | none => rw [hq, hw] at h1; cases h1
    | some w =>
      rw [hq, hw] at h1
      simp only at h1
      split at h1
      · rename_i o y ref nm d
        simp only [Bool.and_eq_true, decide_eq_true_eq, Bool.or_eq_true] at h1
        obtain ⟨⟨⟨⟨⟨⟨⟨⟨e1, e2⟩, e3⟩, e4⟩, e5⟩, e6⟩, e7⟩, e8⟩, e9⟩ := h1
        subst e1
        subst e2
        subst e3
        subst e4
        refine ⟨q, ref, rfl, e6, hts _ (List.mem_filter.mpr ⟨jword_mem hw, e5⟩), ?_, e8, fun hf => ?_⟩
        · rcases e7 with e7 | e7
          · exact Or.inl e7
          · exact Or.inr (hts _ (jin_mem e7))
        · subst hf
          simp only [Bool.not_true, Bool.false_eq_true, false_or, beq_iff_eq] at e9
          exact e9
      · cases h1
theorem jkd {t k : Nat} (h : t < 13) : jfkd t k = jsk (jfty t k) := by
  unfold jfkd
  rw [if_pos (by omega)]

set_option maxHeartbeats 4000000 in
theorem jstep_ok {k : Nat} (C : jCx p R s m args meth c D cA B b xl xs k) (hM : jchkN k = true) {st st' : JS} (hst : jstep xl xs (jP k) st = some st') (hlim : jlim R.cells R.slots st st') (hX : jX p l e R s m args below meth c Q D cA B b k st') : jX p l e R s m args below meth c Q D cA B b k st := by
  obtain ⟨hx, hb, hml, ho, hts, hKp, hB, hnm, hfr, hlo⟩ := C
  have hK := hKp.1
  obtain ⟨K0, L, S, h, cu, su⟩ := st
  match K0, hst with
  | [], hst => cases hst
  | (pc, i, n, ps, z) :: K, hst =>
    refine ⟨by simp, fun hsf hlen => ?_⟩
    obtain ⟨hd, hc, hsK, hpK⟩ := jchkM_at hM hsf
    have hlen' : L.length = jML k := hlen
    simp only at hd hpK
    have nx : ∀ {L' S' : List AV} {h' : JH} {cu' su' : Nat}, jX p l e R s m args below meth c Q D cA B b k (K, L', S', h', cu', su') → L'.length = jML k → jXW p l e R s m args below meth c Q D cA B b (pc + n) L' S' h' cu' su' := by
      intro L' S' h' cu' su' hX' hl
      have := hX'.2 hsK hl
      simp only at this
      rw [hpK hX'.1] at this
      exact this
    have go : ∀ {t : Nat} {S' : List AV}, jgo L h cu su (jP k) t S' = some st' → jXW p l e R s m args below meth c Q D cA B b t L S' h cu su := by
      intro t S' hg
      obtain ⟨K', hf, rfl⟩ := jgo_inv hg
      obtain ⟨h1, h2, h3⟩ := jfind_suf hf
      have := hX.2 h1 hlen'
      simp only at this
      rw [h3] at this
      exact this
    show jXW p l e R s m args below meth c Q D cA B b pc L S h cu su
    simp only [jstep] at hst
    simp only [jchkL] at hc
    cases i
    case iconst v =>
      simp only [Bool.and_eq_true, decide_eq_true_eq, beq_iff_eq] at hc
      obtain ⟨hv, hn⟩ := hc
      subst hn
      cases hst
      exact jx_iconst hx hb hv hd (nx hX hlen')
    case bipush v =>
      simp only [Bool.and_eq_true, decide_eq_true_eq, beq_iff_eq] at hc
      obtain ⟨hv, hn⟩ := hc
      subst hn
      cases hst
      exact jx_bipush hx hb hv hd (nx hX hlen')
    case sipush v =>
      simp only [Bool.and_eq_true, decide_eq_true_eq, beq_iff_eq] at hc
      obtain ⟨hv, hn⟩ := hc
      subst hn
      cases hst
      exact jx_sipush hx hb hv hd (nx hX hlen')
    case ldc x =>
      simp only [Bool.and_eq_true, decide_eq_true_eq, beq_iff_eq] at hc
      obtain ⟨⟨hw, hv⟩, hn⟩ := hc
      subst hn
      cases hst
      exact jx_ldc hx hb ho (hts _ (jin_mem hw)) hv hd (nx hX hlen')
    case ldc_w x =>
      simp only [Bool.and_eq_true, decide_eq_true_eq, beq_iff_eq] at hc
      obtain ⟨⟨hw, hv⟩, hn⟩ := hc
      subst hn
      cases hst
      exact jx_ldcw hx hb ho (hts _ (jin_mem hw)) hv hd (nx hX hlen')
    case ldc2_w x =>
      simp only [Bool.and_eq_true, decide_eq_true_eq, beq_iff_eq] at hc
      obtain ⟨⟨hw, hv⟩, hn⟩ := hc
      subst hn
      cases hst
      exact jx_ldc2 hx hb ho (hts _ (jin_mem hw)) hv hd (nx hX hlen')
    case lconst v =>
      have hn : n = 1 := by simpa using hc
      subst hn
      cases hst
      exact jx_lconst hx hb hd (nx hX hlen')
    case aconst_null =>
      have hn : n = 1 := by simpa using hc
      subst hn
      cases hst
      exact jx_null hx hb hd (nx hX hlen')
    case iload j =>
      have hn : n = 2 := by simpa using hc
      subst hn
      obtain ⟨v, hv, rfl⟩ := jld_inv hst
      exact jx_iload hx hb hv hd (nx hX hlen')
    case iload_n j =>
      have hn : n = 1 := by simpa using hc
      subst hn
      obtain ⟨v, hv, rfl⟩ := jld_inv hst
      exact jx_iload_n hx hb hv hd (nx hX hlen')
    case lload j =>
      have hn : n = 2 := by simpa using hc
      subst hn
      obtain ⟨v, hv, rfl⟩ := jld_inv hst
      exact jx_lload hx hb hv hd (nx hX hlen')
    case lload_n j =>
      have hn : n = 1 := by simpa using hc
      subst hn
      obtain ⟨v, hv, rfl⟩ := jld_inv hst
      exact jx_lload_n hx hb hv hd (nx hX hlen')
    case aload j =>
      have hn : n = 2 := by simpa using hc
      subst hn
      obtain ⟨v, hv, rfl⟩ := jld_inv hst
      exact jx_aload hx hb hv hd (nx hX hlen')
    case aload_n j =>
      have hn : n = 1 := by simpa using hc
      subst hn
      obtain ⟨v, hv, rfl⟩ := jld_inv hst
      exact jx_aload_n hx hb hv hd (nx hX hlen')
    case istore j =>
      have hn : n = 2 := by simpa using hc
      subst hn
      obtain ⟨v, S', rfl, hj, rfl⟩ := jst_inv hst
      exact jx_istore hx hb hj hd (nx hX (by rw [jput_len]; exact hlen'))
    case istore_n j =>
      have hn : n = 1 := by simpa using hc
      subst hn
      obtain ⟨v, S', rfl, hj, rfl⟩ := jst_inv hst
      exact jx_istore_n hx hb hj hd (nx hX (by rw [jput_len]; exact hlen'))
    case astore j =>
      have hn : n = 2 := by simpa using hc
      subst hn
      obtain ⟨v, S', rfl, hj, rfl⟩ := jst_inv hst
      exact jx_astore hx hb hj hd (nx hX (by rw [jput_len]; exact hlen'))
    case astore_n j =>
      have hn : n = 1 := by simpa using hc
      subst hn
      obtain ⟨v, S', rfl, hj, rfl⟩ := jst_inv hst
      exact jx_astore_n hx hb hj hd (nx hX (by rw [jput_len]; exact hlen'))
    case lstore j =>
      have hn : n = 2 := by simpa using hc
      subst hn
      obtain ⟨v, S', rfl, hj, rfl⟩ := jst2_inv hst
      exact jx_lstore hx hb hj hd (nx hX (by rw [jput2_len]; exact hlen'))
    case lstore_n j =>
      have hn : n = 1 := by simpa using hc
      subst hn
      obtain ⟨v, S', rfl, hj, rfl⟩ := jst2_inv hst
      exact jx_lstore_n hx hb hj hd (nx hX (by rw [jput2_len]; exact hlen'))
    case iinc j v =>
      have hn : n = 3 := by simpa using hc
      subst hn
      obtain ⟨w, hw, rfl⟩ := jinc_inv hst
      exact jx_iinc hx hb hw hd (nx hX (by rw [jput_len]; exact hlen'))
    case pop =>
      have hn : n = 1 := by simpa using hc
      subst hn
      obtain ⟨v, S', rfl, hv, rfl⟩ := jpop_inv hst
      exact jx_pop hx hb (fun q => by rw [q] at hv; simp [jsk] at hv) hd (nx hX hlen')
    case pop2 =>
      have hn : n = 1 := by simpa using hc
      subst hn
      obtain ⟨v, S', rfl, hv, rfl⟩ := jpop_inv hst
      exact jx_pop2 hx hb (by unfold jsk at hv; split at hv <;> omega) hd (nx hX hlen')
    case dup =>
      have hn : n = 1 := by simpa using hc
      subst hn
      obtain ⟨v, S', rfl, hv, rfl⟩ := jdup_inv hst
      exact jx_dup hx hb hv hd (nx hX hlen')
    case dup2 =>
      have hn : n = 1 := by simpa using hc
      subst hn
      rcases jdup2_inv hst with ⟨w, S', rfl, hw, rfl⟩ | ⟨w, v, S', rfl, hv, hw, rfl⟩
      · exact jx_dup2l hx hb hw hd (nx hX hlen')
      · exact jx_dup2 hx hb hv hw hd (nx hX hlen')
    case iadd =>
      have hn : n = 1 := by simpa using hc
      subst hn
      obtain ⟨x, y, S', rfl, rfl⟩ := jbin_inv hst
      exact jx_iadd hx hb hd (nx hX hlen')
    case isub =>
      have hn : n = 1 := by simpa using hc
      subst hn
      obtain ⟨x, y, S', rfl, rfl⟩ := jbin_inv hst
      exact jx_isub hx hb hd (nx hX hlen')
    case imul =>
      have hn : n = 1 := by simpa using hc
      subst hn
      obtain ⟨x, y, S', rfl, rfl⟩ := jbin_inv hst
      exact jx_imul hx hb hd (nx hX hlen')
    case iand =>
      have hn : n = 1 := by simpa using hc
      subst hn
      obtain ⟨x, y, S', rfl, rfl⟩ := jbin_inv hst
      exact jx_iand hx hb hd (nx hX hlen')
    case ior =>
      have hn : n = 1 := by simpa using hc
      subst hn
      obtain ⟨x, y, S', rfl, rfl⟩ := jbin_inv hst
      exact jx_ior hx hb hd (nx hX hlen')
    case ixor =>
      have hn : n = 1 := by simpa using hc
      subst hn
      obtain ⟨x, y, S', rfl, rfl⟩ := jbin_inv hst
      exact jx_ixor hx hb hd (nx hX hlen')
    case ishl =>
      have hn : n = 1 := by simpa using hc
      subst hn
      obtain ⟨x, y, S', rfl, rfl⟩ := jbin_inv hst
      exact jx_ishl hx hb hd (nx hX hlen')
    case ishr =>
      have hn : n = 1 := by simpa using hc
      subst hn
      obtain ⟨x, y, S', rfl, rfl⟩ := jbin_inv hst
      exact jx_ishr hx hb hd (nx hX hlen')
    case iushr =>
      have hn : n = 1 := by simpa using hc
      subst hn
      obtain ⟨x, y, S', rfl, rfl⟩ := jbin_inv hst
      exact jx_iushr hx hb hd (nx hX hlen')
    case ladd =>
      have hn : n = 1 := by simpa using hc
      subst hn
      obtain ⟨x, y, S', rfl, rfl⟩ := jbin_inv hst
      exact jx_ladd hx hb hd (nx hX hlen')
    case lsub =>
      have hn : n = 1 := by simpa using hc
      subst hn
      obtain ⟨x, y, S', rfl, rfl⟩ := jbin_inv hst
      exact jx_lsub hx hb hd (nx hX hlen')
    case lmul =>
      have hn : n = 1 := by simpa using hc
      subst hn
      obtain ⟨x, y, S', rfl, rfl⟩ := jbin_inv hst
      exact jx_lmul hx hb hd (nx hX hlen')
    case land =>
      have hn : n = 1 := by simpa using hc
      subst hn
      obtain ⟨x, y, S', rfl, rfl⟩ := jbin_inv hst
      exact jx_land hx hb hd (nx hX hlen')
    case lor =>
      have hn : n = 1 := by simpa using hc
      subst hn
      obtain ⟨x, y, S', rfl, rfl⟩ := jbin_inv hst
      exact jx_lor hx hb hd (nx hX hlen')
    case lxor =>
      have hn : n = 1 := by simpa using hc
      subst hn
      obtain ⟨x, y, S', rfl, rfl⟩ := jbin_inv hst
      exact jx_lxor hx hb hd (nx hX hlen')
    case lshl =>
      have hn : n = 1 := by simpa using hc
      subst hn
      obtain ⟨x, y, S', rfl, rfl⟩ := jbin_inv hst
      exact jx_lshl hx hb hd (nx hX hlen')
    case lushr =>
      have hn : n = 1 := by simpa using hc
      subst hn
      obtain ⟨x, y, S', rfl, rfl⟩ := jbin_inv hst
      exact jx_lushr hx hb hd (nx hX hlen')
    case lcmp =>
      have hn : n = 1 := by simpa using hc
      subst hn
      obtain ⟨x, y, S', rfl, rfl⟩ := jbin_inv hst
      exact jx_lcmp hx hb hd (nx hX hlen')
    case idiv =>
      have hn : n = 1 := by simpa using hc
      subst hn
      obtain ⟨x, y, S', rfl, hy, rfl⟩ := jdiv_inv hst
      exact jx_idiv hx hb hy hd (nx hX hlen')
    case irem =>
      have hn : n = 1 := by simpa using hc
      subst hn
      obtain ⟨x, y, S', rfl, hy, rfl⟩ := jdiv_inv hst
      exact jx_irem hx hb hy hd (nx hX hlen')
    case ldiv =>
      have hn : n = 1 := by simpa using hc
      subst hn
      obtain ⟨x, y, S', rfl, hy, rfl⟩ := jdiv_inv hst
      exact jx_ldiv hx hb hy hd (nx hX hlen')
    case lrem =>
      have hn : n = 1 := by simpa using hc
      subst hn
      obtain ⟨x, y, S', rfl, hy, rfl⟩ := jdiv_inv hst
      exact jx_lrem hx hb hy hd (nx hX hlen')
    case ineg =>
      have hn : n = 1 := by simpa using hc
      subst hn
      obtain ⟨x, S', rfl, rfl⟩ := jun_inv hst
      exact jx_ineg hx hb hd (nx hX hlen')
    case lneg =>
      have hn : n = 1 := by simpa using hc
      subst hn
      obtain ⟨x, S', rfl, rfl⟩ := jun_inv hst
      exact jx_lneg hx hb hd (nx hX hlen')
    case i2l =>
      have hn : n = 1 := by simpa using hc
      subst hn
      obtain ⟨x, S', rfl, rfl⟩ := jun_inv hst
      exact jx_i2l hx hb hd (nx hX hlen')
    case l2i =>
      have hn : n = 1 := by simpa using hc
      subst hn
      obtain ⟨x, S', rfl, rfl⟩ := jun_inv hst
      exact jx_l2i hx hb hd (nx hX hlen')
    case i2b =>
      have hn : n = 1 := by simpa using hc
      subst hn
      obtain ⟨x, S', rfl, rfl⟩ := jun_inv hst
      exact jx_i2b hx hb hd (nx hX hlen')
    case i2s =>
      have hn : n = 1 := by simpa using hc
      subst hn
      obtain ⟨x, S', rfl, rfl⟩ := jun_inv hst
      exact jx_i2s hx hb hd (nx hX hlen')
    case ifCond q off =>
      simp only [Bool.and_eq_true, decide_eq_true_eq, beq_iff_eq] at hc
      obtain ⟨ht, hn⟩ := hc
      subst hn
      obtain ⟨x, S', rfl, g1, g2⟩ := jif_inv hst
      cases q
      · exact jx_if_eq hx hb hd ht (fun z => go (g1 (by simpa [jcnd] using z))) (fun z => by have := g2 (by simpa [jcnd] using z); subst this; exact nx hX hlen')
      · exact jx_if_ne hx hb hd ht (fun z => go (g1 (by simpa [jcnd] using z))) (fun z => by have := g2 (by simpa [jcnd] using z); subst this; exact nx hX hlen')
      · exact jx_if_lt hx hb hd ht (fun z => go (g1 (by simpa [jcnd] using z))) (fun z => by have := g2 (by simpa [jcnd] using z); subst this; exact nx hX hlen')
      · exact jx_if_ge hx hb hd ht (fun z => go (g1 (by simpa [jcnd] using z))) (fun z => by have := g2 (by simpa [jcnd] using z); subst this; exact nx hX hlen')
      · exact jx_if_gt hx hb hd ht (fun z => go (g1 (by simpa [jcnd] using z))) (fun z => by have := g2 (by simpa [jcnd] using z); subst this; exact nx hX hlen')
      · exact jx_if_le hx hb hd ht (fun z => go (g1 (by simpa [jcnd] using z))) (fun z => by have := g2 (by simpa [jcnd] using z); subst this; exact nx hX hlen')
    case if_icmp q off =>
      simp only [Bool.and_eq_true, decide_eq_true_eq, beq_iff_eq] at hc
      obtain ⟨ht, hn⟩ := hc
      subst hn
      obtain ⟨x, y, S', rfl, g1, g2⟩ := jicmp_inv hst
      cases q
      · exact jx_icmp_eq hx hb hd ht (fun z => go (g1 (by simpa [jcnd] using z))) (fun z => by have := g2 (by simpa [jcnd] using z); subst this; exact nx hX hlen')
      · exact jx_icmp_ne hx hb hd ht (fun z => go (g1 (by simpa [jcnd] using z))) (fun z => by have := g2 (by simpa [jcnd] using z); subst this; exact nx hX hlen')
      · exact jx_icmp_lt hx hb hd ht (fun z => go (g1 (by simpa [jcnd] using z))) (fun z => by have := g2 (by simpa [jcnd] using z); subst this; exact nx hX hlen')
      · exact jx_icmp_ge hx hb hd ht (fun z => go (g1 (by simpa [jcnd] using z))) (fun z => by have := g2 (by simpa [jcnd] using z); subst this; exact nx hX hlen')
      · exact jx_icmp_gt hx hb hd ht (fun z => go (g1 (by simpa [jcnd] using z))) (fun z => by have := g2 (by simpa [jcnd] using z); subst this; exact nx hX hlen')
      · exact jx_icmp_le hx hb hd ht (fun z => go (g1 (by simpa [jcnd] using z))) (fun z => by have := g2 (by simpa [jcnd] using z); subst this; exact nx hX hlen')
    case ifnull off =>
      simp only [Bool.and_eq_true, decide_eq_true_eq, beq_iff_eq] at hc
      obtain ⟨ht, hn⟩ := hc
      subst hn
      obtain ⟨x, S', rfl, g1, g2⟩ := jnul_inv hst
      exact jx_ifnull hx hb hd ht (fun z => go (g1 (by simpa using z))) (fun z => by have := g2 (by simpa using z); subst this; exact nx hX hlen')
    case ifnonnull off =>
      simp only [Bool.and_eq_true, decide_eq_true_eq, beq_iff_eq] at hc
      obtain ⟨ht, hn⟩ := hc
      subst hn
      obtain ⟨x, S', rfl, g1, g2⟩ := jnul_inv hst
      exact jx_ifnonnull hx hb hd ht (fun z => go (g1 (by simpa using z))) (fun z => by have := g2 (by simpa using z); subst this; exact nx hX hlen')
    case goto off =>
      simp only [Bool.and_eq_true, decide_eq_true_eq, beq_iff_eq] at hc
      obtain ⟨ht, hn⟩ := hc
      exact jx_goto hx hb (by rw [hn] at hd; exact hd) ht (go hst)
    case tableswitch dflt lo hi offs =>
      simp only [decide_eq_true_eq] at hc
      obtain ⟨x, S', t, rfl, ht, hg⟩ := jsw_inv hst
      by_cases hin : x < lo ∨ hi < x
      · rw [if_pos hin] at ht
        have h2 : (ps.map (fun (t : Nat) => (t : Int)))[0]? = some (t : Int) := by rw [List.getElem?_map, ht]; rfl
        rw [hc] at h2
        simp only [List.getElem?_cons_zero, Option.some.injEq] at h2
        exact jx_tabOut hx hb hd hin h2 (go hg)
      · rw [if_neg hin] at ht
        have h2 : (ps.map (fun (t : Nat) => (t : Int)))[(x - lo).toNat + 1]? = some (t : Int) := by rw [List.getElem?_map, ht]; rfl
        rw [hc] at h2
        rw [List.getElem?_cons_succ, List.getElem?_map, Array.getElem?_toList] at h2
        cases ho2 : offs[(x - lo).toNat]? with
        | none => rw [ho2] at h2; cases h2
        | some off =>
          rw [ho2] at h2
          simp only [Option.map_some, Option.some.injEq] at h2
          exact jx_tabIn hx hb hd (fun q => hin (Or.inl q)) (fun q => hin (Or.inr q)) ho2 h2 (go hg)
    case getfield x =>
      simp only [Bool.and_eq_true, beq_iff_eq] at hc
      obtain ⟨hf, hn⟩ := hc
      subst hn
      obtain ⟨r, S', rfl, h0, hlt, hfa, rfl⟩ := jgetf_inv hst
      obtain ⟨q, ref, hq, hk, hl, hsm, hty, -⟩ := jfield hts hf hfa
      have hk' := nx hX hlen'
      rw [← hty, ← jkd (jcl_lt hq)] at hk'
      exact jx_getf hx hb ho hts hK h0 hlt hq hk hl hsm hd hk'
    case putfield x =>
      simp only [Bool.and_eq_true, beq_iff_eq] at hc
      obtain ⟨hf, hn⟩ := hc
      subst hn
      obtain ⟨v, r, S', rfl, h0, hlt, hfa, hz, hv2, rfl⟩ := jputf_inv hst
      obtain ⟨q, ref, hq, hk, hl, hsm, hty, hfi⟩ := jfield hts hf hfa
      have hk' := nx hX hlen'
      rw [← hty] at hz hv2 ⊢
      rw [← jkd (jcl_lt hq)] at hv2 ⊢
      refine jx_putf hx hb ho hts hK h0 hlt hq hk hl hsm ?_ hz hv2 hd hk'
      rcases hfi rfl with g | g
      · exact Or.inl g
      · exact Or.inr ⟨hnm (by simpa using g.1), g.2⟩
    case iaload =>
      have hn : n = 1 := by simpa using hc
      subst hn
      obtain ⟨j, r, S', rfl, hh⟩ := jald_inv hst
      rcases hh with ⟨e1, -, h1, h2, rfl⟩ | ⟨h1, h2, h3, h4, h5, rfl⟩
      · subst e1
        exact jx_sald hx hb hKp hB h1 h2 hd (nx hX hlen')
      · exact jx_iald hx hb hK h1 h2 h3 h4 h5 hd (nx hX hlen')
    case laload =>
      have hn : n = 1 := by simpa using hc
      subst hn
      obtain ⟨j, r, S', rfl, hh⟩ := jald_inv hst
      rcases hh with ⟨e1, e2, h1, h2, rfl⟩ | ⟨h1, h2, h3, h4, h5, rfl⟩
      · cases e2
      · exact jx_lald hx hb hK h1 h2 h3 h4 h5 hd (nx hX hlen')
    case baload =>
      simp only [Bool.and_eq_true, Bool.or_eq_true, beq_iff_eq] at hc
      obtain ⟨ht, hn⟩ := hc
      subst hn
      obtain ⟨j, r, S', rfl, hh⟩ := jald_inv hst
      rcases ht with ht | ht
      · rw [ht] at hh
        rcases hh with ⟨e1, e2, h1, h2, rfl⟩ | ⟨h1, h2, h3, h4, h5, rfl⟩
        · cases e2
        · exact jx_bald hx hb hK h1 h2 h3 h4 h5 hd (nx hX hlen')
      · rw [ht] at hh
        rcases hh with ⟨e1, e2, h1, h2, rfl⟩ | ⟨h1, h2, h3, h4, h5, rfl⟩
        · cases e2
        · exact jx_zald hx hb hK h1 h2 h3 h4 h5 hd (nx hX hlen')
    case aaload =>
      simp only [Bool.and_eq_true, Bool.or_eq_true, beq_iff_eq] at hc
      obtain ⟨ht, hn⟩ := hc
      subst hn
      obtain ⟨j, r, S', rfl, hh⟩ := jald_inv hst
      rcases ht with ht | ht
      · rw [ht] at hh
        rcases hh with ⟨e1, e2, h1, h2, rfl⟩ | ⟨h1, h2, h3, h4, h5, rfl⟩
        · cases e2
        · exact jx_aald hx hb hK h1 h2 h3 (by omega) h4 h5 hd (nx hX hlen')
      · rw [ht] at hh
        rcases hh with ⟨e1, e2, h1, h2, rfl⟩ | ⟨h1, h2, h3, h4, h5, rfl⟩
        · cases e2
        · exact jx_aald hx hb hK h1 h2 h3 (by omega) h4 h5 hd (nx hX hlen')
    case iastore =>
      have hn : n = 1 := by simpa using hc
      subst hn
      obtain ⟨v, j, r, S', rfl, h1, h2, h3, h4, h5, rfl⟩ := jast_inv hst
      exact jx_iast hx hb hK h1 h2 h3 h4 h5 hd (nx hX hlen')
    case lastore =>
      have hn : n = 1 := by simpa using hc
      subst hn
      obtain ⟨v, j, r, S', rfl, h1, h2, h3, h4, h5, rfl⟩ := jast_inv hst
      exact jx_last hx hb hK h1 h2 h3 h4 h5 hd (nx hX hlen')
    case bastore =>
      dsimp only at hst hc
      have hn : n = 1 := by simpa using hc
      subst hn
      split at hst
      · obtain ⟨v, j, r, S', rfl, h1, h2, h3, h4, h5, rfl⟩ := jast_inv hst
        exact jx_bast hx hb hK h1 h2 h3 h4 h5 hd (nx hX hlen')
      · split at hst
        · obtain ⟨v, j, r, S', rfl, h1, h2, h3, h4, h5, rfl⟩ := jast_inv hst
          exact jx_zast hx hb hK h1 h2 h3 h4 h5 hd (nx hX hlen')
        · cases hst
    case aastore =>
      simp only [Bool.and_eq_true, Bool.or_eq_true, decide_eq_true_eq, beq_iff_eq] at hc
      obtain ⟨ht, hn⟩ := hc
      subst hn
      obtain ⟨v, j, r, S', rfl, h1, h2, h3, h4, h5, h6, h7, h8, rfl⟩ := jasto_inv hst
      rcases ht with ht | ht
      · subst ht
        exact jx_asto hx hb hK (Or.inl ⟨rfl, rfl⟩) h1 h2 h3 h4 h5 h6 h7 h8 hd (nx hX hlen')
      · subst ht
        exact jx_asto hx hb hK (Or.inr ⟨rfl, rfl⟩) h1 h2 h3 h4 h5 h6 h7 h8 hd (nx hX hlen')
    case arraylength =>
      have hn : n = 1 := by simpa using hc
      subst hn
      obtain ⟨r, S', rfl, hh⟩ := jaln_inv hst
      rcases hh with ⟨m', e1, e2, rfl⟩ | ⟨h1, h2, h3, h4, rfl⟩
      · subst e1
        exact jx_saln hx hb hKp hB e2 hd (nx hX hlen')
      · exact jx_aln hx hb hK h1 h2 h3 h4 hd (nx hX hlen')
    case new x =>
      dsimp only at hst hc
      split at hc
      · rename_i q hq
        simp only [Bool.and_eq_true, beq_iff_eq] at hc
        obtain ⟨⟨⟨c1, c2⟩, c3⟩, hn⟩ := hc
        subst hn
        cases hst
        have hlim2 : cu + 1 ≤ R.cells ∧ su + jN (jhd ps) ≤ R.slots := by
          rcases hlim with hlim | hlim
          · have := hlim.1; simp only at this; omega
          · exact hlim
        obtain ⟨hcu, hsu⟩ := hlim2
        exact jx_newo hx hb ho hts hK hq (hts _ (jin_mem c1)) (hts _ (jin_mem c2)) (hts _ (jin_mem c3)) hcu hsu hd (nx hX hlen')
      · cases hc
    case newarray a =>
      simp only [Bool.and_eq_true, decide_eq_true_eq, beq_iff_eq] at hc
      obtain ⟨ha, hn⟩ := hc
      subst hn
      obtain ⟨v, S', rfl, h1, h2, rfl⟩ := jnewa_inv hst
      have hlim2 : cu + 1 ≤ R.cells ∧ su + v.toNat ≤ R.slots := by
        rcases hlim with hlim | hlim
        · have := hlim.1; simp only at this; omega
        · exact hlim
      obtain ⟨hcu, hsu⟩ := hlim2
      exact jx_newa hx hb hts hK ha h1 h2 hcu hsu hd (nx hX hlen')
    case anewarray x =>
      simp only [Bool.and_eq_true, Bool.or_eq_true, beq_iff_eq] at hc
      obtain ⟨ht, hn⟩ := hc
      subst hn
      obtain ⟨v, S', rfl, h1, h2, rfl⟩ := jnewa_inv hst
      have hlim2 : cu + 1 ≤ R.cells ∧ su + v.toNat ≤ R.slots := by
        rcases hlim with hlim | hlim
        · have := hlim.1; simp only at this; omega
        · exact hlim
      obtain ⟨hcu, hsu⟩ := hlim2
      rcases ht with ⟨t1, t2⟩ | ⟨t1, t2⟩
      · rw [t1] at hX
        exact jx_anew hx hb ho hK (Or.inl rfl) rfl (hts _ (jin_mem t2)) hK.2.2.2.1.1 h1 h2 hcu hsu hd (nx hX hlen')
      · rw [t1] at hX
        exact jx_anew hx hb ho hK (Or.inr rfl) rfl (hts _ (jin_mem t2)) hK.2.2.2.1.2 h1 h2 hcu hsu hd (nx hX hlen')
    case invokespecial x =>
      dsimp only at hst hc
      split at hst
      · rename_i h6
        simp only [Bool.and_eq_true, beq_iff_eq] at hc
        obtain ⟨hn, hc⟩ := hc
        subst hn
        rw [if_neg (by omega), if_neg (by omega), if_pos h6] at hc
        simp only [Bool.and_eq_true] at hc
        obtain ⟨⟨c1, c2⟩, c3⟩ := hc
        obtain ⟨r, S', rfl, h0, hw, rfl⟩ := jobji_inv hst
        exact jx_obji hx hb ho (hml.trans hlen'.symm) (hts _ (jin_mem c1)) (hts _ (jin_mem c2)) (hts _ (jin_mem c3)) hfr hlo h0 hw hd (nx hX hlen')
      · cases hst
    case instanceof x =>
      dsimp only at hst hc
      split at hc
      · rename_i q hq
        simp only [Bool.and_eq_true, decide_eq_true_eq, beq_iff_eq] at hc
        obtain ⟨⟨c1, c2⟩, hn⟩ := hc
        subst hn
        obtain ⟨r, S', rfl, h0, hlt, hf, rfl⟩ := jinst_inv hst
        exact jx_inst hx hb ho hK c2 hq (hts _ (jin_mem c1)) h0 hlt hf hd (nx hX hlen')
      · cases hc
    case invokestatic x =>
      dsimp only at hst hc
      split at hst
      · rename_i h7
        simp only [Bool.and_eq_true, beq_iff_eq] at hc
        obtain ⟨hn, hc⟩ := hc
        subst hn
        rw [if_neg (by omega), if_neg (by omega), if_pos h7] at hc
        simp only [Bool.and_eq_true] at hc
        obtain ⟨⟨⟨c1, c2⟩, c3⟩, c4⟩ := hc
        obtain ⟨n, dp, d, sp, a, S', rfl, n0, dp0, sp0, a0, ha, d0, hd2, ht, ht2, s1, s2, hw, rfl⟩ := jcopy_inv hst
        rcases ht2 with ht2 | ht2
        · exact jx_copy20 hx hb ho hK (hml.trans hlen'.symm) (hts _ (jin_mem c1)) (hts _ (jin_mem c2)) (hts _ (jin_mem c3)) (hts _ (jin_mem c4)) hfr hlo n0 dp0 sp0 a0 ha d0 hd2 ht2 (ht.symm.trans ht2) s1 s2 hw hd (nx hX hlen')
        · exact jx_copy21 hx hb ho hK (hml.trans hlen'.symm) (hts _ (jin_mem c1)) (hts _ (jin_mem c2)) (hts _ (jin_mem c3)) (hts _ (jin_mem c4)) hfr hlo n0 dp0 sp0 a0 ha d0 hd2 ht2 (ht.symm.trans ht2) s1 s2 hw hd (nx hX hlen')
      · cases hst
    all_goals (cases hst)
end JSound
