/-! what each of the simple machine's steps was -/
section Inv
variable {K : List JE} {L S : List AV} {h : JH} {cu su : Nat} {st : JS}
theorem jld_inv {t k : Nat} (e : jld K L S h cu su t k = some st) : ∃ v, L[k]? = some (t, v) ∧ st = (K, L, (t, v) :: S, h, cu, su) := by
  unfold jld at e
  cases hl : L[k]? with
  | none => rw [hl] at e; cases e
  | some v =>
    rw [hl] at e
    simp only at e
    split at e
    · rename_i hc
      obtain ⟨vt, vv⟩ := v
      simp only at hc
      subst hc
      cases e
      exact ⟨vv, rfl, rfl⟩
    · cases e
theorem jst_inv {t k : Nat} (e : jst K L S h cu su t k = some st) : ∃ v S', S = (t, v) :: S' ∧ k < L.length ∧ st = (K, jput L k (t, v), S', h, cu, su) := by
  unfold jst at e
  revert e
  match S with
  | [] => intro e; cases e
  | v :: S' =>
    intro e
    simp only at e
    split at e
    · rename_i hc
      obtain ⟨vt, vv⟩ := v
      obtain ⟨h1, h2⟩ := hc
      simp only at h1
      subst h1
      cases e
      exact ⟨vv, S', rfl, h2, rfl⟩
    · cases e
theorem jst2_inv {k : Nat} (e : jst2 K L S h cu su k = some st) : ∃ v S', S = (1, v) :: S' ∧ k + 1 < L.length ∧ st = (K, jput2 L k (1, v), S', h, cu, su) := by
  unfold jst2 at e
  revert e
  match S with
  | [] => intro e; cases e
  | v :: S' =>
    intro e
    simp only at e
    split at e
    · rename_i hc
      obtain ⟨vt, vv⟩ := v
      obtain ⟨h1, h2⟩ := hc
      simp only at h1
      subst h1
      cases e
      exact ⟨vv, S', rfl, h2, rfl⟩
    · cases e
theorem jinc_inv {k : Nat} {n : Int} (e : jinc K L S h cu su k n = some st) : ∃ v, L[k]? = some (0, v) ∧ st = (K, jput L k (0, w32 (v + n)), S, h, cu, su) := by
  unfold jinc at e
  cases hl : L[k]? with
  | none => rw [hl] at e; cases e
  | some v =>
    rw [hl] at e
    simp only at e
    split at e
    · rename_i hc
      obtain ⟨vt, vv⟩ := v
      simp only at hc
      subst hc
      cases e
      exact ⟨vv, rfl, rfl⟩
    · cases e
theorem jun_inv {t u : Nat} {f : Int → Int} (e : jun K L S h cu su t u f = some st) : ∃ x S', S = (t, x) :: S' ∧ st = (K, L, (u, f x) :: S', h, cu, su) := by
  unfold jun at e
  revert e
  match S with
  | [] => intro e; cases e
  | v :: S' =>
    intro e
    simp only at e
    split at e
    · rename_i hc
      obtain ⟨vt, vv⟩ := v
      simp only at hc
      subst hc
      cases e
      exact ⟨vv, S', rfl, rfl⟩
    · cases e
theorem jbin_inv {t t' u : Nat} {f : Int → Int → Int} (e : jbin K L S h cu su t t' u f = some st) : ∃ x y S', S = (t', y) :: (t, x) :: S' ∧ st = (K, L, (u, f x y) :: S', h, cu, su) := by
  unfold jbin at e
  revert e
  match S with
  | [] => intro e; cases e
  | [_] => intro e; cases e
  | w :: v :: S' =>
    intro e
    simp only at e
    split at e
    · rename_i hc
      obtain ⟨vt, vv⟩ := v
      obtain ⟨wt, wv⟩ := w
      obtain ⟨h1, h2⟩ := hc
      simp only at h1 h2
      subst h1
      subst h2
      cases e
      exact ⟨vv, wv, S', rfl, rfl⟩
    · cases e
theorem jdiv_inv {t : Nat} {f : Int → Int → Int} (e : jdiv K L S h cu su t f = some st) : ∃ x y S', S = (t, y) :: (t, x) :: S' ∧ y ≠ 0 ∧ st = (K, L, (t, f x y) :: S', h, cu, su) := by
  unfold jdiv at e
  revert e
  match S with
  | [] => intro e; cases e
  | [_] => intro e; cases e
  | w :: v :: S' =>
    intro e
    simp only at e
    split at e
    · rename_i hc
      obtain ⟨vt, vv⟩ := v
      obtain ⟨wt, wv⟩ := w
      obtain ⟨h1, h2, h3⟩ := hc
      simp only at h1 h2 h3
      subst h1
      subst h2
      cases e
      exact ⟨vv, wv, S', rfl, h3, rfl⟩
    · cases e
theorem jgo_inv {cd : List JE} {t : Nat} {S' : List AV} (e : jgo L h cu su cd t S' = some st) : ∃ K', jfind cd t = some K' ∧ st = (K', L, S', h, cu, su) := by
  unfold jgo at e
  cases hf : jfind cd t with
  | none => rw [hf] at e; cases e
  | some K' => rw [hf] at e; cases e; exact ⟨K', rfl, rfl⟩
theorem jif_inv {cd : List JE} {q : ClassFile.Cond} {t : Nat} (e : jif K L S h cu su cd q t = some st) : ∃ x S', S = (0, x) :: S' ∧ (jcnd q x 0 = true → jgo L h cu su cd t S' = some st) ∧ (jcnd q x 0 = false → st = (K, L, S', h, cu, su)) := by
  unfold jif at e
  revert e
  match S with
  | [] => intro e; cases e
  | v :: S' =>
    intro e
    simp only at e
    split at e
    · rename_i hc
      obtain ⟨vt, vv⟩ := v
      simp only at hc e
      subst hc
      refine ⟨vv, S', rfl, fun g => ?_, fun g => ?_⟩
      · rw [if_pos g] at e
        exact e
      · rw [if_neg (by rw [g]; decide)] at e
        cases e
        rfl
    · cases e
theorem jicmp_inv {cd : List JE} {q : ClassFile.Cond} {t : Nat} (e : jicmp K L S h cu su cd q t = some st) : ∃ x y S', S = (0, y) :: (0, x) :: S' ∧ (jcnd q x y = true → jgo L h cu su cd t S' = some st) ∧ (jcnd q x y = false → st = (K, L, S', h, cu, su)) := by
  unfold jicmp at e
  revert e
  match S with
  | [] => intro e; cases e
  | [_] => intro e; cases e
  | w :: v :: S' =>
    intro e
    simp only at e
    split at e
    · rename_i hc
      obtain ⟨vt, vv⟩ := v
      obtain ⟨wt, wv⟩ := w
      obtain ⟨h1, h2⟩ := hc
      simp only at h1 h2 e
      subst h1
      subst h2
      refine ⟨vv, wv, S', rfl, fun g => ?_, fun g => ?_⟩
      · rw [if_pos g] at e
        exact e
      · rw [if_neg (by rw [g]; decide)] at e
        cases e
        rfl
    · cases e
theorem jnul_inv {cd : List JE} {isn : Bool} {t : Nat} (e : jnul K L S h cu su cd isn t = some st) : ∃ x S', S = (2, x) :: S' ∧ (decide (x = -1) = isn → jgo L h cu su cd t S' = some st) ∧ (¬ decide (x = -1) = isn → st = (K, L, S', h, cu, su)) := by
  unfold jnul at e
  revert e
  match S with
  | [] => intro e; cases e
  | v :: S' =>
    intro e
    simp only at e
    split at e
    · rename_i hc
      obtain ⟨vt, vv⟩ := v
      simp only at hc e
      subst hc
      refine ⟨vv, S', rfl, fun g => ?_, fun g => ?_⟩
      · rw [if_pos g] at e
        exact e
      · rw [if_neg g] at e
        cases e
        rfl
    · cases e
theorem jsw_inv {cd : List JE} {lo hi : Int} {ts : List Nat} (e : jsw L S h cu su cd lo hi ts = some st) : ∃ x S' t, S = (0, x) :: S' ∧ ts[if x < lo ∨ hi < x then 0 else (x - lo).toNat + 1]? = some t ∧ jgo L h cu su cd t S' = some st := by
  unfold jsw at e
  revert e
  match S with
  | [] => intro e; cases e
  | v :: S' =>
    intro e
    simp only at e
    split at e
    · rename_i hc
      obtain ⟨vt, vv⟩ := v
      simp only at hc e
      subst hc
      split at e
      · rename_i t ht
        exact ⟨vv, S', t, rfl, ht, e⟩
      · cases e
    · cases e
theorem jgetf_inv {f k : Nat} (e : jgetf K L S h cu su f k = some st) : ∃ r S', S = (2, r) :: S' ∧ 0 ≤ r ∧ r.toNat < h.1 ∧ jfam f (h.2.1 r.toNat).1 = true ∧ st = (K, L, (jsk (jfty f k), h.2.2 r.toNat k) :: S', h, cu, su) := by
  unfold jgetf at e
  revert e
  match S with
  | [] => intro e; cases e
  | v :: S' =>
    intro e
    simp only at e
    split at e
    · rename_i hc
      obtain ⟨vt, vv⟩ := v
      obtain ⟨h1, h2, h3, h4⟩ := hc
      simp only at h1 h2 h3 h4 e
      subst h1
      cases e
      exact ⟨vv, S', rfl, h2, h3, h4, rfl⟩
    · cases e
theorem jputf_inv {f k : Nat} (e : jputf K L S h cu su f k = some st) : ∃ v r S', S = (jsk (jfty f k), v) :: (2, r) :: S' ∧ 0 ≤ r ∧ r.toNat < h.1 ∧ jfam f (h.2.1 r.toNat).1 = true ∧ (jfty f k = 3 → v = 0 ∨ v = 1) ∧ (jsk (jfty f k) = 2 → v ≠ -2) ∧ st = (K, L, S', jwr h r.toNat k v, cu, su) := by
  unfold jputf at e
  revert e
  match S with
  | [] => intro e; cases e
  | [_] => intro e; cases e
  | w :: v :: S' =>
    intro e
    simp only at e
    split at e
    · rename_i hc
      obtain ⟨vt, vv⟩ := v
      obtain ⟨wt, wv⟩ := w
      obtain ⟨h1, h2, h3, h4, h5, h6, h7⟩ := hc
      simp only at h1 h2 h3 h4 h5 h6 h7 e
      subst h1
      subst h5
      cases e
      exact ⟨wv, vv, S', rfl, h2, h3, h4, h6, h7, rfl⟩
    · cases e
theorem jald_inv {xl : Option Nat} {xs : Nat → Int} {t : Nat} (e : jald K L S h cu su xl xs t = some st) : ∃ i r S', S = (0, i) :: (2, r) :: S' ∧ ((r = -2 ∧ t = 20 ∧ 0 ≤ i ∧ jxin xl i.toNat = true ∧ st = (K, L, (0, xs i.toNat) :: S', h, cu, su)) ∨ (0 ≤ r ∧ r.toNat < h.1 ∧ (h.2.1 r.toNat).1 = t ∧ 0 ≤ i ∧ i.toNat < (h.2.1 r.toNat).2 ∧ st = (K, L, (jak t, h.2.2 r.toNat i.toNat) :: S', h, cu, su))) := by
  unfold jald at e
  revert e
  match S with
  | [] => intro e; cases e
  | [_] => intro e; cases e
  | w :: v :: S' =>
    intro e
    simp only at e
    split at e
    · rename_i hc
      obtain ⟨vt, vv⟩ := v
      obtain ⟨wt, wv⟩ := w
      obtain ⟨h1, h2⟩ := hc
      simp only at h1 h2 e
      subst h1
      subst h2
      refine ⟨wv, vv, S', rfl, ?_⟩
      split at e
      · rename_i h3
        split at e
        · rename_i h4
          cases e
          exact Or.inl ⟨h3, h4.1, h4.2.1, h4.2.2, rfl⟩
        · cases e
      · split at e
        · rename_i h4
          cases e
          exact Or.inr ⟨h4.1, h4.2.1, h4.2.2.1, h4.2.2.2.1, h4.2.2.2.2, rfl⟩
        · cases e
    · cases e
theorem jast_inv {t : Nat} {f : Int → Int} (e : jast K L S h cu su t f = some st) : ∃ v i r S', S = (jak t, v) :: (0, i) :: (2, r) :: S' ∧ 0 ≤ r ∧ r.toNat < h.1 ∧ (h.2.1 r.toNat).1 = t ∧ 0 ≤ i ∧ i.toNat < (h.2.1 r.toNat).2 ∧ st = (K, L, S', jwr h r.toNat i.toNat (f v), cu, su) := by
  unfold jast at e
  revert e
  match S with
  | [] => intro e; cases e
  | [_] => intro e; cases e
  | [_, _] => intro e; cases e
  | u :: w :: v :: S' =>
    intro e
    simp only at e
    split at e
    · rename_i hc
      obtain ⟨vt, vv⟩ := v
      obtain ⟨wt, wv⟩ := w
      obtain ⟨ut, uv⟩ := u
      obtain ⟨h1, h2, h3, h4, h5, h6, h7, h8⟩ := hc
      simp only at h1 h2 h3 h4 h5 h6 h7 h8 e
      subst h1
      subst h2
      subst h3
      cases e
      exact ⟨uv, wv, vv, S', rfl, h4, h5, h6, h7, h8, rfl⟩
    · cases e
theorem jasto_inv {t f : Nat} (e : jasto K L S h cu su t f = some st) : ∃ v i r S', S = (2, v) :: (0, i) :: (2, r) :: S' ∧ 0 ≤ r ∧ r.toNat < h.1 ∧ (h.2.1 r.toNat).1 = t ∧ 0 ≤ i ∧ i.toNat < (h.2.1 r.toNat).2 ∧ 0 ≤ v ∧ v.toNat < h.1 ∧ jfam f (h.2.1 v.toNat).1 = true ∧ st = (K, L, S', jwr h r.toNat i.toNat v, cu, su) := by
  unfold jasto at e
  revert e
  match S with
  | [] => intro e; cases e
  | [_] => intro e; cases e
  | [_, _] => intro e; cases e
  | u :: w :: v :: S' =>
    intro e
    simp only at e
    split at e
    · rename_i hc
      obtain ⟨vt, vv⟩ := v
      obtain ⟨wt, wv⟩ := w
      obtain ⟨ut, uv⟩ := u
      obtain ⟨h1, h2, h3, h4, h5, h6, h7, h8, h9, h10, h11⟩ := hc
      simp only at h1 h2 h3 h4 h5 h6 h7 h8 h9 h10 h11 e
      subst h1
      subst h2
      subst h3
      cases e
      exact ⟨uv, wv, vv, S', rfl, h4, h5, h6, h7, h8, h9, h10, h11, rfl⟩
    · cases e
theorem jaln_inv {xl : Option Nat} (e : jaln K L S h cu su xl = some st) : ∃ r S', S = (2, r) :: S' ∧ ((∃ m, r = -2 ∧ xl = some m ∧ st = (K, L, (0, (m : Int)) :: S', h, cu, su)) ∨ (0 ≤ r ∧ r.toNat < h.1 ∧ 20 ≤ (h.2.1 r.toNat).1 ∧ (h.2.1 r.toNat).2 < 2147483648 ∧ st = (K, L, (0, ((h.2.1 r.toNat).2 : Int)) :: S', h, cu, su))) := by
  unfold jaln at e
  revert e
  match S with
  | [] => intro e; cases e
  | v :: S' =>
    intro e
    simp only at e
    split at e
    · rename_i hc
      obtain ⟨vt, vv⟩ := v
      simp only at hc e
      subst hc
      refine ⟨vv, S', rfl, ?_⟩
      split at e
      · rename_i h3
        cases hxl : xl with
        | none => rw [hxl] at e; cases e
        | some m =>
          rw [hxl] at e
          cases e
          exact Or.inl ⟨m, h3, rfl, rfl⟩
      · split at e
        · rename_i h4
          cases e
          exact Or.inr ⟨h4.1, h4.2.1, h4.2.2.1, h4.2.2.2.2, rfl⟩
        · cases e
    · cases e
theorem jnewa_inv {t : Nat} (e : jnewa K L S h cu su t = some st) : ∃ n S', S = (0, n) :: S' ∧ 0 ≤ n ∧ n < 60000 ∧ st = (K, L, (2, (h.1 : Int)) :: S', jnew h t n.toNat, cu + 1, su + n.toNat) := by
  unfold jnewa at e
  revert e
  match S with
  | [] => intro e; cases e
  | v :: S' =>
    intro e
    simp only at e
    split at e
    · rename_i hc
      obtain ⟨vt, vv⟩ := v
      obtain ⟨h1, h2, h3⟩ := hc
      simp only at h1 h2 h3 e
      subst h1
      cases e
      exact ⟨vv, S', rfl, h2, h3, rfl⟩
    · cases e
theorem jinst_inv {u : Nat} (e : jinst K L S h cu su u = some st) : ∃ r S', S = (2, r) :: S' ∧ 0 ≤ r ∧ r.toNat < h.1 ∧ jfam 0 (h.2.1 r.toNat).1 = true ∧ st = (K, L, (0, if jund (h.2.1 r.toNat).1 u = true then 1 else 0) :: S', h, cu, su) := by
  unfold jinst at e
  revert e
  match S with
  | [] => intro e; cases e
  | v :: S' =>
    intro e
    simp only at e
    split at e
    · rename_i hc
      obtain ⟨vt, vv⟩ := v
      obtain ⟨h1, h2, h3, h4⟩ := hc
      simp only at h1 h2 h3 h4 e
      subst h1
      cases e
      exact ⟨vv, S', rfl, h2, h3, h4, rfl⟩
    · cases e
theorem jpop_inv {t : Nat} (e : jpop K L S h cu su t = some st) : ∃ v S', S = v :: S' ∧ jsk v.1 = t ∧ st = (K, L, S', h, cu, su) := by
  unfold jpop at e
  revert e
  match S with
  | [] => intro e; cases e
  | v :: S' =>
    intro e
    simp only at e
    split at e
    · rename_i hc
      cases e
      exact ⟨v, S', rfl, hc, rfl⟩
    · cases e
theorem jdup_inv (e : jdup K L S h cu su = some st) : ∃ v S', S = v :: S' ∧ ¬ v.1 = 1 ∧ st = (K, L, v :: v :: S', h, cu, su) := by
  unfold jdup at e
  revert e
  match S with
  | [] => intro e; cases e
  | v :: S' =>
    intro e
    simp only at e
    split at e
    · rename_i hc
      cases e
      exact ⟨v, S', rfl, by omega, rfl⟩
    · cases e
theorem jdup2_inv (e : jdup2 K L S h cu su = some st) : (∃ w S', S = w :: S' ∧ w.1 = 1 ∧ st = (K, L, w :: w :: S', h, cu, su)) ∨ ∃ w v S', S = w :: v :: S' ∧ ¬ v.1 = 1 ∧ ¬ w.1 = 1 ∧ st = (K, L, w :: v :: w :: v :: S', h, cu, su) := by
  unfold jdup2 at e
  revert e
  match S with
  | [] => intro e; cases e
  | w :: S' =>
    intro e
    simp only at e
    split at e
    · rename_i hc
      cases e
      exact Or.inl ⟨w, S', rfl, hc, rfl⟩
    · revert e
      match S' with
      | [] => intro e; cases e
      | v :: S'' =>
        intro e
        simp only at e
        split at e
        · rename_i hc
          cases e
          exact Or.inr ⟨w, v, S'', rfl, by omega, by omega, rfl⟩
        · cases e
theorem jobji_inv (e : jobji K L S h cu su = some st) : ∃ r S', S = (2, r) :: S' ∧ 0 ≤ r ∧ jwid S' ≤ 8 ∧ st = (K, L, S', h, cu, su) := by
  unfold jobji at e
  revert e
  match S with
  | [] => intro e; cases e
  | v :: S' =>
    intro e
    simp only at e
    split at e
    · rename_i hc
      obtain ⟨vt, vv⟩ := v
      obtain ⟨h1, h2, h3⟩ := hc
      simp only at h1 h2 e
      subst h1
      cases e
      exact ⟨vv, S', rfl, h2, h3, rfl⟩
    · cases e
theorem jcopy_inv (e : jcopy K L S h cu su = some st) : ∃ n dp d sp a S', S = (0, n) :: (0, dp) :: (2, d) :: (0, sp) :: (2, a) :: S' ∧ 0 ≤ n ∧ 0 ≤ dp ∧ 0 ≤ sp ∧ 0 ≤ a ∧ a.toNat < h.1 ∧ 0 ≤ d ∧ d.toNat < h.1 ∧ (h.2.1 a.toNat).1 = (h.2.1 d.toNat).1 ∧ ((h.2.1 a.toNat).1 = 20 ∨ (h.2.1 a.toNat).1 = 21) ∧
    sp.toNat + n.toNat ≤ (h.2.1 a.toNat).2 ∧ dp.toNat + n.toNat ≤ (h.2.1 d.toNat).2 ∧ jwid S' ≤ 8 ∧ st = (K, L, S', jcpy h a.toNat sp.toNat d.toNat dp.toNat n.toNat, cu, su) := by
  unfold jcopy at e
  revert e
  match S with
  | [] => intro e; cases e
  | [_] => intro e; cases e
  | [_, _] => intro e; cases e
  | [_, _, _] => intro e; cases e
  | [_, _, _, _] => intro e; cases e
  | n :: dp :: d :: sp :: a :: S' =>
    intro e
    simp only at e
    split at e
    · rename_i hc
      obtain ⟨nt, nv⟩ := n
      obtain ⟨dpt, dpv⟩ := dp
      obtain ⟨dt, dv⟩ := d
      obtain ⟨spt, spv⟩ := sp
      obtain ⟨at', av⟩ := a
      obtain ⟨h1, h2, h3, h4, h5, h6, h7, h8, h9, h10, h11, h12, h13, h14, h15, h16, h17⟩ := hc
      simp only at h1 h2 h3 h4 h5 h6 h7 h8 h9 h10 h11 h12 h13 h14 h15 h16 e
      subst h1
      subst h2
      subst h3
      subst h4
      subst h5
      cases e
      exact ⟨nv, dpv, dv, spv, av, S', rfl, h6, h7, h8, h9, h10, h11, h12, h13, h14, h15, h16, h17, rfl⟩
    · cases e
theorem jfind_suf {cd K' : List JE} {t : Nat} (e : jfind cd t = some K') : (∃ pre, cd = pre ++ K') ∧ K' ≠ [] ∧ jpc K' = t := by
  induction cd with
  | nil => cases e
  | cons x r ih =>
    unfold jfind at e
    split at e
    · rename_i hc
      cases e
      exact ⟨⟨[], rfl⟩, by simp, hc⟩
    · obtain ⟨⟨pre, hp⟩, h2, h3⟩ := ih e
      exact ⟨⟨x :: pre, by rw [hp]; rfl⟩, h2, h3⟩
end Inv
