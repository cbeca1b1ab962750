/-! what a closed run writes -/
def jwof : JS → List Nat
  | ([], _) => []
  | ((_, i, _, _, _) :: _, _, S, _, _, _) => match i with
    | .putfield _ => (match S with
      | _ :: v :: _ => [v.2.toNat]
      | _ => [])
    | .iastore | .lastore | .bastore | .aastore => (match S with
      | _ :: _ :: v :: _ => [v.2.toNat]
      | _ => [])
    | .invokestatic _ => (match S with
      | _ :: _ :: v :: _ => [v.2.toNat]
      | _ => [])
    | _ => []
def xrunW : Nat → Nat → List JE → JS → List Nat
  | 0, _, _, _ => []
  | f + 1, d, cd, st => match jret st.1 st.2.2.1 with
    | some _ => []
    | none => (match jcall st.1 st.2.2.1 st.2.2.2.1 with
      | some q => (match d with
        | 0 => []
        | d' + 1 => (match xrun f d' (jP q.1) (jP q.1, jentry q.2.1 (jML q.1), [], st.2.2.2.1, 0, 0) with
          | some r => xrunW f d' (jP q.1) (jP q.1, jentry q.2.1 (jML q.1), [], st.2.2.2.1, 0, 0) ++ xrunW f (d' + 1) cd (st.1.tail, st.2.1, r.1.toList ++ q.2.2, r.2.1, st.2.2.2.2.1 + r.2.2.1, st.2.2.2.2.2 + r.2.2.2)
          | none => []))
      | none => (match jstep none (fun _ => 0) cd st with
        | some st' => jwof st ++ xrunW f d cd st'
        | none => []))
/-- outside of what was written the heap is what it was, or as it was made -/
def jsame (W : List Nat) (h h' : JH) : Prop := h.1 ≤ h'.1 ∧ (∀ a, a < h.1 → h'.2.1 a = h.2.1 a) ∧ ∀ a i, a ∉ W → h'.2.2 a i = h.2.2 a i ∨ (h.1 ≤ a ∧ a < h'.1 ∧ h'.2.2 a i = jdef (h'.2.1 a).1 i)
theorem jsame_rf (W : List Nat) (h : JH) : jsame W h h := ⟨Nat.le_refl _, fun _ _ => rfl, fun _ _ _ => Or.inl rfl⟩
theorem jsame_tr {W W' : List Nat} {h h1 h2 : JH} (k : jsame W h h1) (k' : jsame W' h1 h2) : jsame (W ++ W') h h2 := by
  refine ⟨Nat.le_trans k.1 k'.1, fun a ha => (k'.2.1 a (Nat.lt_of_lt_of_le ha k.1)).trans (k.2.1 a ha), fun a i hn => ?_⟩
  simp only [List.mem_append, not_or] at hn
  rcases k'.2.2 a i hn.2 with e | e
  · rcases k.2.2 a i hn.1 with e' | e'
    · exact Or.inl (e.trans e')
    · refine Or.inr ⟨e'.1, Nat.lt_of_lt_of_le e'.2.1 k'.1, ?_⟩
      rw [e, e'.2.2, k'.2.1 a e'.2.1]
  · exact Or.inr ⟨Nat.le_trans k.1 e.1, e.2.1, e.2.2⟩
theorem jsame_wr (h : JH) (a i : Nat) (v : Int) : jsame [a] h (jwr h a i v) := by
  refine ⟨Nat.le_refl _, fun _ _ => rfl, fun b j hn => Or.inl ?_⟩
  show (if b = a ∧ j = i then v else h.2.2 b j) = h.2.2 b j
  rw [if_neg]
  rintro ⟨rfl, rfl⟩
  exact hn (List.mem_singleton.mpr rfl)
theorem jsame_cpy (h : JH) (a sp d dp n : Nat) : jsame [d] h (jcpy h a sp d dp n) := by
  refine ⟨Nat.le_refl _, fun _ _ => rfl, fun b j hn => Or.inl ?_⟩
  unfold jcpy
  dsimp only
  rw [if_neg]
  rintro ⟨rfl, _⟩
  exact hn (List.mem_singleton.mpr rfl)
theorem jsame_new (h : JH) (t n : Nat) : jsame [] h (jnew h t n) := by
  refine ⟨Nat.le_succ _, fun a ha => ?_, fun b j _ => ?_⟩
  · show (if a = h.1 then (t, n) else h.2.1 a) = h.2.1 a
    rw [if_neg (by omega)]
  · by_cases e : b = h.1
    · refine Or.inr ⟨by omega, by show b < h.1 + 1; omega, ?_⟩
      show (if b = h.1 then jdef t j else h.2.2 b j) = jdef (if b = h.1 then (t, n) else h.2.1 b).1 j
      rw [if_pos e, if_pos e]
    · refine Or.inl ?_
      show (if b = h.1 then jdef t j else h.2.2 b j) = h.2.2 b j
      rw [if_neg e]
theorem jstep_same {xl : Option Nat} {xs : Nat → Int} {cd : List JE} {st st' : JS} (e : jstep xl xs cd st = some st') : jsame (jwof st) st.2.2.2.1 st'.2.2.2.1 := by
  obtain ⟨K0, L, S, h, cu, su⟩ := st
  match K0, e with
  | [], e => cases e
  | (pc, i, n, ps, z) :: K, e =>
    simp only [jstep] at e
    have go : ∀ {t : Nat} {S' : List AV} (W : List Nat), jgo L h cu su cd t S' = some st' → jsame W h st'.2.2.2.1 := by
      intro t S' W hg
      obtain ⟨K', -, rfl⟩ := jgo_inv hg
      exact jsame_rf _ _
    cases i
    case bastore =>
      dsimp only at e ⊢
      split at e
      · obtain ⟨v, i, r, S', rfl, _, _, _, _, _, rfl⟩ := jast_inv e
        exact jsame_wr _ _ _ _
      · split at e
        · obtain ⟨v, i, r, S', rfl, _, _, _, _, _, rfl⟩ := jast_inv e
          exact jsame_wr _ _ _ _
        · cases e
    case invokespecial x =>
      dsimp only at e ⊢
      split at e
      · obtain ⟨_, _, _, _, _, rfl⟩ := jobji_inv e
        exact jsame_rf _ _
      · cases e
    case invokestatic x =>
      dsimp only at e ⊢
      split at e
      · obtain ⟨n, dp, d, sp, a, S', rfl, _, _, _, _, _, _, _, _, _, _, _, _, rfl⟩ := jcopy_inv e
        exact jsame_cpy _ _ _ _ _ _
      · cases e
    case instanceof x =>
      dsimp only at e ⊢
      obtain ⟨r, S', rfl, h1, h2, h3, rfl⟩ := jinst_inv e
      exact jsame_rf _ _
    case ifnull off =>
      dsimp only at e ⊢
      obtain ⟨w, _, _, g1, g2⟩ := jnul_inv e
      by_cases hq : decide (w = -1) = true
      · exact go _ (g1 hq)
      · cases g2 hq
        exact jsame_rf _ _
    case ifnonnull off =>
      dsimp only at e ⊢
      obtain ⟨w, _, _, g1, g2⟩ := jnul_inv e
      by_cases hq : decide (w = -1) = false
      · exact go _ (g1 hq)
      · cases g2 hq
        exact jsame_rf _ _
    case getfield x =>
      dsimp only at e ⊢
      obtain ⟨_, _, _, _, _, _, rfl⟩ := jgetf_inv e
      exact jsame_rf _ _
    case putfield x =>
      dsimp only at e ⊢
      unfold jputf at e
      split at e
      · split at e
        · cases e
          exact jsame_wr _ _ _ _
        · cases e
      · cases e
    case iastore =>
      dsimp only at e ⊢
      obtain ⟨v, i, r, S', rfl, _, _, _, _, _, rfl⟩ := jast_inv e
      exact jsame_wr _ _ _ _
    case lastore =>
      dsimp only at e ⊢
      obtain ⟨v, i, r, S', rfl, _, _, _, _, _, rfl⟩ := jast_inv e
      exact jsame_wr _ _ _ _
    case aastore =>
      dsimp only at e ⊢
      obtain ⟨v, i, r, S', rfl, _, _, _, _, _, _, _, _, rfl⟩ := jasto_inv e
      exact jsame_wr _ _ _ _
    all_goals dsimp only at e ⊢
    all_goals first
      | (cases e; done)
      | (cases e; exact jsame_rf _ _)
      | (cases e; exact jsame_new _ _ _)
      | (obtain ⟨_, _, rfl⟩ := jld_inv e; exact jsame_rf _ _)
      | (obtain ⟨_, _, _, _, rfl⟩ := jst_inv e; exact jsame_rf _ _)
      | (obtain ⟨_, _, _, _, rfl⟩ := jst2_inv e; exact jsame_rf _ _)
      | (obtain ⟨_, _, rfl⟩ := jinc_inv e; exact jsame_rf _ _)
      | (obtain ⟨_, _, _, rfl⟩ := jun_inv e; exact jsame_rf _ _)
      | (obtain ⟨_, _, _, _, rfl⟩ := jbin_inv e; exact jsame_rf _ _)
      | (obtain ⟨_, _, _, _, _, rfl⟩ := jdiv_inv e; exact jsame_rf _ _)
      | exact go _ e
      | (obtain ⟨_, _, _, _, hh⟩ := jald_inv e
         rcases hh with ⟨_, _, _, _, rfl⟩ | ⟨_, _, _, _, _, rfl⟩ <;> exact jsame_rf _ _)
      | (obtain ⟨_, _, _, hh⟩ := jaln_inv e
         rcases hh with ⟨_, _, _, rfl⟩ | ⟨_, _, _, _, rfl⟩ <;> exact jsame_rf _ _)
      | (obtain ⟨_, _, _, _, _, rfl⟩ := jnewa_inv e; exact jsame_new _ _ _)
      | (obtain ⟨_, _, _, _, rfl⟩ := jpop_inv e; exact jsame_rf _ _)
      | (obtain ⟨_, _, _, _, rfl⟩ := jdup_inv e; exact jsame_rf _ _)
      | (rcases jdup2_inv e with ⟨_, _, _, _, rfl⟩ | ⟨_, _, _, _, _, _, rfl⟩ <;> exact jsame_rf _ _)
      | (obtain ⟨_, _, _, g1, g2⟩ := jif_inv e
         cases hq : jcnd _ _ _ with
         | true => exact go _ (g1 hq)
         | false => cases g2 hq; exact jsame_rf _ _)
      | (obtain ⟨_, _, _, _, g1, g2⟩ := jicmp_inv e
         cases hq : jcnd _ _ _ with
         | true => exact go _ (g1 hq)
         | false => cases g2 hq; exact jsame_rf _ _)
      | (obtain ⟨_, _, _, _, _, hg⟩ := jsw_inv e; exact go _ hg)
theorem xrun_same : ∀ (f d : Nat) (cd : List JE) (st : JS) (r : Option AV × JH × Nat × Nat), xrun f d cd st = some r → jsame (xrunW f d cd st) st.2.2.2.1 r.2.1 := by
  intro f
  induction f with
  | zero => intro d cd st r e; cases e
  | succ f ih =>
    intro d cd st r e
    unfold xrun at e
    unfold xrunW
    split at e
    · rename_i v hv
      cases e
      rw [hv]
      exact jsame_rf _ _
    · rename_i hv
      rw [hv]
      split at e
      · rename_i q hq
        rw [hq]
        split at e
        · cases e
        · split at e
          · split at e
            · rename_i r' hr
              simp only [hr]
              exact jsame_tr (ih _ _ _ _ hr) (ih _ _ _ _ e)
            · cases e
          · cases e
      · rename_i hq
        rw [hq]
        split at e
        · rename_i st' hs
          rw [hs]
          exact jsame_tr (jstep_same hs) (ih _ _ _ _ e)
        · cases e
/-! THE START: the constructors' heap is a general state -/
def frBg : List Nat := [4, 6, 8, 10, 11, 12, 13, 14, 15, 16, 17, 25, 27, 39, 40, 41, 45, 46, 47, 49, 50, 51, 52, 53, 54, 56, 57, 58, 59, 65, 66, 67, 81, 82]
def jW1 : List Nat := xrunW 1500 4 (jP 165) (jP 165, jentry [(2, 0)] (jML 165), [], jA1, 0, 0)
def jW2 (h : JH) : List Nat := xrunW 1500 4 (jP 241) (jP 241, jentry [(2, 42)] (jML 241), [], jnew h 12 66, 0, 0)
def jX2z : Bool := match jX1 with
  | some r => (jW1 ++ jW2 r.2.1).all (fun a => !frBg.contains a)
  | none => false
set_option maxRecDepth 1000000 in
theorem jX2z_ok : jX2z = true := by decide +kernel
theorem bg_all : frBg.all (fun a => decide (1 ≤ a) && decide (a < 83) && decide (20 ≤ (frT.getD a (0, 0)).1) && decide ((frT.getD a (0, 0)).1 ≤ 23)) = true := by decide +kernel
theorem bg_zero {h h1 : JH} (s : jsame (jW1 ++ ([] ++ jW2 h1)) jA1 h) (f : FS h) {a : Nat} (ha : a ∈ frBg) (hw : a ∉ jW1 ++ ([] ++ jW2 h1)) (i : Nat) : h.2.2 a i = 0 := by
  have hb := List.all_eq_true.mp bg_all a ha
  simp only [Bool.and_eq_true, decide_eq_true_eq] at hb
  obtain ⟨⟨⟨b1, b2⟩, b3⟩, b4⟩ := hb
  rcases s.2.2 a i hw with e | ⟨_, _, e⟩
  · rw [e]
    show (if a = 0 then jdef 11 i else 0) = 0
    rw [if_neg (by omega)]
  · rw [e, f.2 a b2]
    unfold jdef
    rw [if_neg (by omega), if_neg (by omega)]
theorem ctors2 : ∃ h1 h2 : JH, jOk 5 41 4527 165 [(2, 0)] jA1 (fun v h => v = none ∧ h = h1) ∧ h1.1 = 42 ∧ jOk 5 40 19151 241 [(2, 42)] (jnew h1 12 66) (fun v h => v = none ∧ h = h2) ∧ Fresh h2 ∧ h2.1 = 83 ∧ ∀ a i, a ∈ frBg → h2.2.2 a i = 0 := by
  have e1 := jX1_ok
  have e2 := jX2_ok
  have e3 := jX2z_ok
  unfold jX1ok at e1
  unfold jX2ok at e2
  unfold jX2z at e3
  cases hx1 : jX1 with
  | none => rw [hx1] at e1; cases e1
  | some r1 =>
    rw [hx1] at e1 e3
    simp only [Bool.and_eq_true, beq_iff_eq, decide_eq_true_eq] at e1
    cases hx2 : jX2 with
    | none => rw [hx2] at e2; cases e2
    | some r2 =>
      rw [hx2] at e2
      simp only [Bool.and_eq_true, beq_iff_eq, decide_eq_true_eq] at e2
      have e4 : frOk r2.2.1 = true := e2.1.1.2
      have e5 := e4
      unfold frOk at e5
      simp only [Bool.and_eq_true, beq_iff_eq] at e5
      have hx2' := hx2
      unfold jX2 at hx2
      rw [hx1] at hx2
      have s1 : jsame jW1 jA1 r1.2.1 := xrun_same _ _ _ _ r1 hx1
      have s2 : jsame (jW2 r1.2.1) (jnew r1.2.1 12 66) r2.2.1 := xrun_same _ _ _ _ r2 hx2
      have s3 := jsame_tr s1 (jsame_tr (jsame_new r1.2.1 12 66) s2)
      refine ⟨r1.2.1, r2.2.1, ⟨by decide, by decide +kernel, ?_⟩, e1.1.1.2, ⟨by decide, by decide +kernel, ?_⟩, fresh_of e4, e5.1, fun a i ha => ?_⟩
      · have := xrun_ok _ _ _ _ 41 4527 r1 hx1 e1.1.2 e1.2
        rw [e1.1.1.1] at this
        exact this
      · have := xrun_ok _ _ _ _ 40 19151 r2 hx2 e2.1.2 e2.2
        rw [e2.1.1.1] at this
        exact this
      · refine bg_zero s3 (fresh_of e4).1 ha (fun hm => ?_) i
        have h6 := List.all_eq_true.mp e3 a hm
        simp only [Bool.not_eq_true', List.contains_eq_mem, decide_eq_false_iff_not] at h6
        exact h6 ha
def lsOk (a : Nat) : Nat → List Int → Bool
  | _, [] => true
  | i, x :: r => decide ((rT a i).1 ≤ x) && decide (x ≤ (rT a i).2) && lsOk a (i + 1) r
theorem lsOk_at {a : Nat} : ∀ (l : List Int) (o : Nat), lsOk a o l = true → ∀ i x, l[i]? = some x → (rT a (o + i)).1 ≤ x ∧ x ≤ (rT a (o + i)).2 := by
  intro l
  induction l with
  | nil => intro o _ i x hx; simp at hx
  | cons y r ih =>
    intro o hk i x hx
    simp only [lsOk, Bool.and_eq_true, decide_eq_true_eq] at hk
    match i, hx with
    | 0, hx =>
      simp only [List.getElem?_cons_zero, Option.some.injEq] at hx
      subst hx
      exact hk.1
    | i + 1, hx =>
      simp only [List.getElem?_cons_succ] at hx
      have := ih (o + 1) hk.2 i x hx
      rw [show o + (i + 1) = o + 1 + i by omega]
      exact this
set_option maxRecDepth 100000 in
theorem ls_all : (List.range 83).all (fun a => lsOk a 0 (frV.getD a [])) = true := by decide +kernel
def lnOk (a : Nat) : Bool := (frV.getD a []).length == (frT.getD a (0, 0)).2 || (frBg.contains a && (rTab.getD a []).length == 1 && decide ((rT a 0).1 ≤ 0) && decide (0 ≤ (rT a 0).2))
set_option maxRecDepth 100000 in
theorem ln_all : (List.range 83).all lnOk = true := by decide +kernel
theorem rT_one {a i : Nat} (h : (rTab.getD a []).length = 1) : rT a i = rT a 0 := by
  unfold rT
  match hl : rTab.getD a [], h with
  | [x], _ => rfl
theorem Fresh.rg {h : JH} (e : Fresh h) (z : ∀ a i, a ∈ frBg → h.2.2 a i = 0) : Rg h := by
  intro a i ha hi
  have h1 := List.all_eq_true.mp ls_all a (List.mem_range.mpr ha)
  have h2 := List.all_eq_true.mp ln_all a (List.mem_range.mpr ha)
  unfold lnOk at h2
  rw [Bool.or_eq_true] at h2
  rcases h2 with h2 | h2
  · have hl : (frV.getD a []).length = (frT.getD a (0, 0)).2 := eq_of_beq h2
    obtain ⟨x, hx⟩ : ∃ x, (frV.getD a [])[i]? = some x := ⟨_, List.getElem?_eq_getElem (by rw [hl]; exact hi)⟩
    have h3 := lsOk_at _ 0 h1 i x hx
    rw [Nat.zero_add] at h3
    rw [e.2 a i x hx]
    exact h3
  · simp only [Bool.and_eq_true, beq_iff_eq, decide_eq_true_eq, List.contains_iff_mem] at h2
    obtain ⟨⟨⟨q1, q3⟩, q4⟩, q5⟩ := h2
    rw [rT_one q3, z a i q1]
    exact ⟨q4, q5⟩
theorem Fresh.gd {h : JH} (e : Fresh h) (z : ∀ a i, a ∈ frBg → h.2.2 a i = 0) (h83 : h.1 = 83) : Gd (83, fun _ => (0, 0, 0)) h := by
  have v : ∀ {a i : Nat} {x : Int}, (frV.getD a [])[i]? = some x → h.2.2 a i = x := fun hx => e.2 _ _ _ hx
  have z46 : ∀ i, i < 324 → h.2.2 46 i = 0 := fun i _ => z 46 i (by decide)
  have v03 : h.2.2 0 3 = 0 := v rfl
  have v07 : h.2.2 0 7 = 0 := v rfl
  have v10 : h.2.2 1 0 = 0 := v rfl
  have v193 : h.2.2 19 3 = 0 := v rfl
  have v194 : h.2.2 19 4 = 0 := v rfl
  have v421 : h.2.2 42 1 = 0 := v rfl
  have v429 : h.2.2 42 9 = 0 := v rfl
  have v4222 : h.2.2 42 22 = 0 := v rfl
  have v4223 : h.2.2 42 23 = 0 := v rfl
  refine ⟨h83, e.1, e.rg z, fun a a1 a2 => ?_, fun j hj => ?_, fun j hj => ?_, by rw [v193, v194]; exact Int.le_refl _, ⟨fun t ht => ?_, fun s t hs ht => ⟨fun q => ?_, fun _ => z46 _ (by omega)⟩⟩, fun t ht => ?_, fun i hi => ?_, fun q hq => ?_, by rw [v4222, v4223]; decide, fun j hj => ?_⟩
  · exact absurd (Nat.lt_of_le_of_lt a1 a2) (Nat.lt_irrefl 83)
  · rw [v03] at hj; omega
  · rw [v07] at hj; omega
  · rw [v10] at ht; omega
  · rw [v421] at q; omega
  · rw [v421] at ht; omega
  · rw [v421] at hi; omega
  · rw [v429] at hq; omega
  · rw [v4222, v4223] at hj; omega
