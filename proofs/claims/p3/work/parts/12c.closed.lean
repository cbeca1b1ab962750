/-! closed runs, by evaluation -/
/-- the simple machine, run: d calls deep at most, f steps at most -/
def xrun : Nat → Nat → List JE → JS → Option (Option AV × JH × Nat × Nat)
  | 0, _, _, _ => none
  | f + 1, d, cd, st => match jret st.1 st.2.2.1 with
    | some v => some (v, st.2.2.2.1, st.2.2.2.2.1, st.2.2.2.2.2)
    | none => (match jcall st.1 st.2.2.1 st.2.2.2.1 with
      | some q => (match d with
        | 0 => none
        | d' + 1 => if q.1 < jnM ∧ (jexp q.2.1).length ≤ jML q.1 then (match xrun f d' (jP q.1) (jP q.1, jentry q.2.1 (jML q.1), [], st.2.2.2.1, 0, 0) with
          | some r => xrun f (d' + 1) cd (st.1.tail, st.2.1, r.1.toList ++ q.2.2, r.2.1, st.2.2.2.2.1 + r.2.2.1, st.2.2.2.2.2 + r.2.2.2)
          | none => none) else none)
      | none => (match jstep none (fun _ => 0) cd st with
        | some st' => xrun f d cd st'
        | none => none))
theorem jstep_up {xl : Option Nat} {xs : Nat → Int} {cd : List JE} {st st' : JS} (e : jstep xl xs cd st = some st') : st.2.2.2.2.1 ≤ st'.2.2.2.2.1 ∧ st.2.2.2.2.2 ≤ st'.2.2.2.2.2 := by
  obtain ⟨K0, L, S, h, cu, su⟩ := st
  match K0, e with
  | [], e => cases e
  | (pc, i, n, ps, z) :: K, e =>
    simp only [jstep] at e
    have go : ∀ {t : Nat} {S' : List AV}, jgo L h cu su cd t S' = some st' → cu ≤ st'.2.2.2.2.1 ∧ su ≤ st'.2.2.2.2.2 := by
      intro t S' hg
      obtain ⟨K', -, rfl⟩ := jgo_inv hg
      exact ⟨Nat.le_refl _, Nat.le_refl _⟩
    cases i
    case bastore =>
      dsimp only at e ⊢
      split at e
      · obtain ⟨_, _, _, _, _, _, _, _, _, _, rfl⟩ := jast_inv e
        exact ⟨Nat.le_refl _, Nat.le_refl _⟩
      · split at e
        · obtain ⟨_, _, _, _, _, _, _, _, _, _, rfl⟩ := jast_inv e
          exact ⟨Nat.le_refl _, Nat.le_refl _⟩
        · cases e
    case invokespecial x =>
      dsimp only at e ⊢
      split at e
      · obtain ⟨_, _, _, _, _, rfl⟩ := jobji_inv e
        exact ⟨Nat.le_refl _, Nat.le_refl _⟩
      · cases e
    case ifnull off =>
      dsimp only at e ⊢
      obtain ⟨w, _, _, g1, g2⟩ := jnul_inv e
      by_cases hq : decide (w = -1) = true
      · exact go (g1 hq)
      · cases g2 hq
        exact ⟨Nat.le_refl _, Nat.le_refl _⟩
    case ifnonnull off =>
      dsimp only at e ⊢
      obtain ⟨w, _, _, g1, g2⟩ := jnul_inv e
      by_cases hq : decide (w = -1) = false
      · exact go (g1 hq)
      · cases g2 hq
        exact ⟨Nat.le_refl _, Nat.le_refl _⟩
    case getfield x =>
      dsimp only at e ⊢
      obtain ⟨_, _, _, _, _, _, rfl⟩ := jgetf_inv e
      exact ⟨Nat.le_refl _, Nat.le_refl _⟩
    case instanceof x =>
      dsimp only at e ⊢
      obtain ⟨_, _, _, _, _, _, rfl⟩ := jinst_inv e
      exact ⟨Nat.le_refl _, Nat.le_refl _⟩
    case invokestatic x =>
      dsimp only at e ⊢
      split at e
      · obtain ⟨_, _, _, _, _, _, _, _, _, _, _, _, _, _, _, _, _, _, _, rfl⟩ := jcopy_inv e
        exact ⟨Nat.le_refl _, Nat.le_refl _⟩
      · cases e
    all_goals dsimp only at e ⊢
    all_goals first
      | (cases e; done)
      | (cases e; exact ⟨Nat.le_refl _, Nat.le_refl _⟩)
      | (cases e; exact ⟨Nat.le_add_right _ _, Nat.le_add_right _ _⟩)
      | (obtain ⟨_, _, rfl⟩ := jld_inv e; exact ⟨Nat.le_refl _, Nat.le_refl _⟩)
      | (obtain ⟨_, _, _, _, rfl⟩ := jst_inv e; exact ⟨Nat.le_refl _, Nat.le_refl _⟩)
      | (obtain ⟨_, _, _, _, rfl⟩ := jst2_inv e; exact ⟨Nat.le_refl _, Nat.le_refl _⟩)
      | (obtain ⟨_, _, rfl⟩ := jinc_inv e; exact ⟨Nat.le_refl _, Nat.le_refl _⟩)
      | (obtain ⟨_, _, _, rfl⟩ := jun_inv e; exact ⟨Nat.le_refl _, Nat.le_refl _⟩)
      | (obtain ⟨_, _, _, _, rfl⟩ := jbin_inv e; exact ⟨Nat.le_refl _, Nat.le_refl _⟩)
      | (obtain ⟨_, _, _, _, _, rfl⟩ := jdiv_inv e; exact ⟨Nat.le_refl _, Nat.le_refl _⟩)
      | exact go e
      | (obtain ⟨_, _, _, _, _, rfl⟩ := jgetf_inv e; exact ⟨Nat.le_refl _, Nat.le_refl _⟩)
      | (obtain ⟨_, _, _, _, _, _, _, _, _, rfl⟩ := jputf_inv e; exact ⟨Nat.le_refl _, Nat.le_refl _⟩)
      | (obtain ⟨_, _, _, _, hh⟩ := jald_inv e
         rcases hh with ⟨_, _, _, _, rfl⟩ | ⟨_, _, _, _, _, rfl⟩ <;> exact ⟨Nat.le_refl _, Nat.le_refl _⟩)
      | (obtain ⟨_, _, _, _, _, _, _, _, _, _, rfl⟩ := jast_inv e; exact ⟨Nat.le_refl _, Nat.le_refl _⟩)
      | (obtain ⟨_, _, _, _, _, _, _, _, _, _, _, _, _, rfl⟩ := jasto_inv e; exact ⟨Nat.le_refl _, Nat.le_refl _⟩)
      | (obtain ⟨_, _, _, hh⟩ := jaln_inv e
         rcases hh with ⟨_, _, _, rfl⟩ | ⟨_, _, _, _, rfl⟩ <;> exact ⟨Nat.le_refl _, Nat.le_refl _⟩)
      | (obtain ⟨_, _, _, _, _, rfl⟩ := jnewa_inv e; exact ⟨Nat.le_add_right _ _, Nat.le_add_right _ _⟩)
      | (obtain ⟨_, _, _, _, rfl⟩ := jpop_inv e; exact ⟨Nat.le_refl _, Nat.le_refl _⟩)
      | (obtain ⟨_, _, _, _, rfl⟩ := jdup_inv e; exact ⟨Nat.le_refl _, Nat.le_refl _⟩)
      | (rcases jdup2_inv e with ⟨_, _, _, _, rfl⟩ | ⟨_, _, _, _, _, _, rfl⟩ <;> exact ⟨Nat.le_refl _, Nat.le_refl _⟩)
      | (obtain ⟨_, _, _, g1, g2⟩ := jif_inv e
         cases hq : jcnd _ _ _ with
         | true => exact go (g1 hq)
         | false => cases g2 hq; exact ⟨Nat.le_refl _, Nat.le_refl _⟩)
      | (obtain ⟨_, _, _, _, g1, g2⟩ := jicmp_inv e
         cases hq : jcnd _ _ _ with
         | true => exact go (g1 hq)
         | false => cases g2 hq; exact ⟨Nat.le_refl _, Nat.le_refl _⟩)
      | (obtain ⟨_, _, _, _, _, hg⟩ := jsw_inv e; exact go hg)
theorem xrun_up : ∀ (f d : Nat) (cd : List JE) (st : JS) (r : Option AV × JH × Nat × Nat), xrun f d cd st = some r → st.2.2.2.2.1 ≤ r.2.2.1 ∧ st.2.2.2.2.2 ≤ r.2.2.2 := by
  intro f
  induction f with
  | zero => intro d cd st r e; cases e
  | succ f ih =>
    intro d cd st r e
    unfold xrun at e
    split at e
    · cases e
      exact ⟨Nat.le_refl _, Nat.le_refl _⟩
    · split at e
      · split at e
        · cases e
        · split at e
          · split at e
            · have := ih _ _ _ _ e
              simp only at this
              omega
            · cases e
          · cases e
      · split at e
        · rename_i st' hs
          have h1 := jstep_up hs
          have h2 := ih _ _ _ _ e
          omega
        · cases e
theorem xrun_ok : ∀ (f d : Nat) (cd : List JE) (st : JS) (mc ms : Nat) (r : Option AV × JH × Nat × Nat), xrun f d cd st = some r → r.2.2.1 ≤ mc → r.2.2.2 ≤ ms → jEv (jOk d) none (fun _ => 0) cd mc ms (fun v h => v = r.1 ∧ h = r.2.1) st := by
  intro f
  induction f with
  | zero => intro d cd st mc ms r e; cases e
  | succ f ih =>
    intro d cd st mc ms r e h1 h2
    obtain ⟨K, L, S, h, cu, su⟩ := st
    unfold xrun at e
    simp only at e
    split at e
    · rename_i v hv
      cases e
      exact ev_ret hv h1 h2 ⟨rfl, rfl⟩
    · split at e
      · rename_i q hq
        split at e
        · cases e
        · rename_i d'
          split at e
          · rename_i hc
            split at e
            · rename_i r' hr
              have hup := xrun_up _ _ _ _ _ e
              simp only at hup
              refine ev_call (a := r'.2.2.1) (b := r'.2.2.2) hq ⟨hc.1, hc.2, ih d' _ _ _ _ r' hr (Nat.le_refl _) (Nat.le_refl _)⟩ (by omega) (by omega) ?_
              rintro v h' ⟨rfl, rfl⟩
              exact ih (d' + 1) cd _ mc ms r e h1 h2
            · cases e
          · cases e
      · split at e
        · rename_i st' hs
          have hup := xrun_up _ _ _ _ _ e
          exact ev_s hs (Or.inr ⟨by omega, by omega⟩) (ih d cd st' mc ms r e h1 h2)
        · cases e
