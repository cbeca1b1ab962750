/-! quarrels and feelings: rows -/
theorem inW_hi {W : List (Nat × Nat)} (hw : W.all (fun q => decide (q.1 < 83)) = true) {a i : Nat} (ha : 83 ≤ a) : inW W a i = false := by
  unfold inW
  rw [List.any_eq_false]
  intro q hq hc
  have h1 := List.all_eq_true.mp hw q hq
  simp only [decide_eq_true_eq] at h1
  simp only [Bool.or_eq_true, Bool.and_eq_true, beq_iff_eq, decide_eq_true_eq] at hc
  omega
section QRows
variable {G : GH} {h h' : JH} {r c i : Nat} {m lo hi v : Int}
theorem Gd.rd {a t n : Nat} (g : Gd G h) (ha : AD a t n) (hi' : i < n) (ht : rT a i = (lo, hi)) : ∃ v, h.2.2 a i = v ∧ lo ≤ v ∧ v ≤ hi := ⟨_, rfl, g.rg ha hi' ht⟩
theorem Gd.qd (g : Gd G h) (q : IsQ G r m) : dQu G h r := by
  rcases g.2.2.2.1 r q.1 q.2.1 with d | d | d
  · have := d.1
    have := q.2.2.1
    omega
  · exact d
  · have := d.1
    have := q.2.2.1
    omega
theorem Gd.qlt (g : Gd G h) (q : IsQ G r m) : r < h.1 := by rw [g.1]; exact q.2.1
theorem Gd.qtg (g : Gd G h) (q : IsQ G r m) : (h.2.1 r).1 = 4 := by rw [(g.qd q).2.1]
theorem Gd.qb (g : Gd G h) (q : IsQ G r m) : 1 ≤ m ∧ m ≤ 100 := by
  have d := g.qd q
  have e := q.2.2.2
  rw [← e]
  exact ⟨d.2.2.1, d.2.2.2.1⟩
theorem Gd.q0 (g : Gd G h) (q : IsQ G r m) : ∃ v, h.2.2 r 0 = v ∧ 0 ≤ v ∧ v ≤ m := by
  obtain ⟨-, -, -, -, -, d1, d2, -⟩ := g.qd q
  rw [q.2.2.2] at d2
  exact ⟨_, rfl, d1, d2⟩
theorem Gd.q1 (g : Gd G h) (q : IsQ G r m) : ∃ v, h.2.2 r 1 = v ∧ -1 ≤ v ∧ v ≤ m - 1 := by
  obtain ⟨-, -, -, -, -, -, -, d1, d2, -⟩ := g.qd q
  rw [q.2.2.2] at d2
  exact ⟨_, rfl, d1, d2⟩
theorem Gd.qp (g : Gd G h) (q : IsQ G r m) (h1 : 2 ≤ c) (h2 : c ≤ 13) : h.2.2 r c = ((r + (c - 1) : Nat) : Int) := ((g.qd q).2.2.2.2.2.2.2.2.2 c h1 h2).1
theorem Gd.qa (g : Gd G h) (q : IsQ G r m) (h1 : 2 ≤ c) (h2 : c ≤ 13) : r + (c - 1) < h.1 ∧ h.2.1 (r + (c - 1)) = (dty c, (dln c m).toNat) ∧ ∀ i : Nat, (i : Int) < dln c m → (dR c m).1 ≤ h.2.2 (r + (c - 1)) i ∧ h.2.2 (r + (c - 1)) i ≤ (dR c m).2 := by
  have d := g.qd q
  have hb : r + 12 < G.1 := d.2.2.2.2.1
  have e := (d.2.2.2.2.2.2.2.2.2 c h1 h2).2
  rw [q.2.2.2] at e
  have hr := q.1
  have hl : r + (c - 1) < G.1 := by omega
  rcases g.2.2.2.1 (r + (c - 1)) (by omega) hl with d' | d' | d'
  · have := d'.1
    rw [e] at this
    simp only at this
    omega
  · have := d'.1
    rw [e] at this
    simp only at this
    omega
  · obtain ⟨-, -, -, -, d5, d6⟩ := d'
    rw [e] at d5 d6
    exact ⟨by rw [g.1]; exact hl, d5, d6⟩
theorem Gd.flt (g : Gd G h) (q : IsF G r) : r < h.1 := by
  rcases q with q | q
  · subst q
    exact g.lt ad23
  · rw [g.1]
    exact q.2.1
theorem Gd.fd (g : Gd G h) (q : IsF G r) : jfam 0 (h.2.1 r).1 = true ∧ h.2.2 r 0 = 19 ∧ (0 ≤ h.2.2 r 1 ∧ h.2.2 r 1 ≤ 19) ∧ (0 ≤ h.2.2 r 2 ∧ h.2.2 r 2 ≤ 100) := by
  rcases q with q | q
  · subst q
    have h1 := g.rg ad23 (i := 1) (by decide) rf23_1
    have h2 := g.rg ad23 (i := 2) (by decide) rf23_2
    exact ⟨g.fam ad23 (by decide), g.pt ad23 (i := 0) (by decide) rf23_0, by omega, by omega⟩
  · rcases g.2.2.2.1 r q.1 q.2.1 with d | d | d
    · obtain ⟨-, d1, -, d2, d3, d4, d5, d6, d7, d8⟩ := d
      rw [d3, d4]
      exact ⟨d1, d2, ⟨d5, d6⟩, d7, d8⟩
    · have := d.1
      have := q.2.2
      omega
    · have := d.1
      have := q.2.2
      omega
theorem Gd.ffam (g : Gd G h) (q : IsF G r) : jfam 0 (h.2.1 r).1 = true := (g.fd q).1
/-- a cell of a quarrel's row is written -/
theorem Gd.wrA (g : Gd G h) (q : IsQ G r m) (h1 : 2 ≤ c) (h2 : c ≤ 13) (hi' : (i : Int) < dln c m) (b1 : (dR c m).1 ≤ v) (b2 : v ≤ (dR c m).2) (e : h' = jwr h (r + (c - 1)) i v) : Gd G h' := by
  have hr := q.1
  have d0 := g.qd q
  have ee := (d0.2.2.2.2.2.2.2.2.2 c h1 h2).2
  rw [q.2.2.2] at ee
  obtain ⟨g1, g2, g3, g4, g5, g6, g7, g8⟩ := g
  have e1 := jwr_ty e
  refine ⟨e1.1.trans g1, ⟨by rw [e1.1]; exact g2.1, by rw [e1.2]; exact g2.2⟩, fun b j hb hj => ?_, fun b hb hb2 => ?_, fun j hj => ?_, fun j hj => ?_, ?_, g8.wr e (exF_hi (by omega))⟩
  · rw [jw_ne e (by omega)]
    exact g3 b j hb hj
  · by_cases hbe : b = r + (c - 1)
    · rcases g4 b hb hb2 with d | d | d
      · have := d.1
        rw [hbe, ee] at this
        simp only at this
        omega
      · have := d.1
        rw [hbe, ee] at this
        simp only at this
        omega
      · refine Or.inr (Or.inr ?_)
        obtain ⟨d1, d2, d3, d4, d5, d6⟩ := d
        refine ⟨d1, d2, d3, d4, by rw [e1.2]; exact d5, fun k hk => ?_⟩
        rw [jwr_v e]
        split
        · rw [hbe, ee]
          exact ⟨b1, b2⟩
        · exact d6 k hk
    · exact dOk_ne e hbe (g4 b hb hb2)
  · rw [jw_ne e (by omega)] at hj
    rw [jw_ne e (by omega)]
    exact g5 j hj
  · rw [jw_ne e (by omega)] at hj
    rw [jw_ne e (by omega)]
    exact g6 j hj
  · rw [jw_ne e (by omega), jw_ne e (by omega)]
    exact g7
/-- a quarrel's own number is written -/
theorem Gd.wrF (g : Gd G h) (q : IsQ G r m) (hi' : (i = 0 ∧ 0 ≤ v ∧ v ≤ m) ∨ (i = 1 ∧ -1 ≤ v ∧ v ≤ m - 1)) (e : h' = jwr h r i v) : Gd G h' := by
  have hr := q.1
  have d0 := g.qd q
  obtain ⟨g1, g2, g3, g4, g5, g6, g7, g8⟩ := g
  have e1 := jwr_ty e
  refine ⟨e1.1.trans g1, ⟨by rw [e1.1]; exact g2.1, by rw [e1.2]; exact g2.2⟩, fun b j hb hj => ?_, fun b hb hb2 => ?_, fun j hj => ?_, fun j hj => ?_, ?_, g8.wr e (exF_hi (by omega))⟩
  · rw [jw_ne e (by omega)]
    exact g3 b j hb hj
  · by_cases hbe : b = r
    · subst hbe
      obtain ⟨d1, d2, d3, d4, d5, d6, d7, d8, d9, d10⟩ := d0
      have em := q.2.2.2
      refine Or.inr (Or.inl ⟨d1, by rw [e1.2]; exact d2, d3, d4, d5, ?_, ?_, ?_, ?_, fun k h1 h2 => ?_⟩)
      · rw [jwr_v e]
        split <;> omega
      · rw [jwr_v e]
        split <;> omega
      · rw [jwr_v e]
        split <;> omega
      · rw [jwr_v e]
        split <;> omega
      · rw [jw_ne e (by omega)]
        exact d10 k h1 h2
    · exact dOk_ne e hbe (g4 b hb hb2)
  · rw [jw_ne e (by omega)] at hj
    rw [jw_ne e (by omega)]
    exact g5 j hj
  · rw [jw_ne e (by omega)] at hj
    rw [jw_ne e (by omega)]
    exact g6 j hj
  · rw [jw_ne e (by omega), jw_ne e (by omega)]
    exact g7
end QRows
/-- an answer below a quarrel's size -/
def PM (G : GH) (W : List (Nat × Nat)) (h : JH) (m : Int) (t : Nat) (lo c : Int) (v : Option AV) (h' : JH) : Prop := ∃ r : Int, v = some (t, r) ∧ lo ≤ r ∧ r ≤ m + c ∧ Gd G h' ∧ Kp W h h'
theorem jcall_u {pc x n na k r : Nat} {z : Int} {ps : List Nat} {K : List JE} {A S' : List AV} {h : JH} (hA : A.length = na) (h1 : r < h.1) (h2 : jfam 0 (h.2.1 r).1 = true) (hw : jwid S' ≤ 8) : jcall ((pc, .invokespecial x, n, 4 :: na :: k :: ps, z) :: K) (A ++ (2, (r : Int)) :: S') h = some (k, (2, (r : Int)) :: A.reverse, S') := by
  subst hA
  simp [jcall, jhd, hw, h1, h2]
theorem jpos_le (t : Nat) : jpos t ≤ 5 := by
  unfold jpos
  repeat' split
  all_goals decide
theorem jks {k0 k1 k2 k3 k4 k5 j : Nat} {ps : List Nat} (hj : j ≤ 5) (a b : Nat) : (a :: b :: k0 :: k1 :: k2 :: k3 :: k4 :: k5 :: ps).getD (2 + j) 0 = [k0, k1, k2, k3, k4, k5].getD j 0 := by
  match j, hj with
  | 0, _ => rfl
  | 1, _ => rfl
  | 2, _ => rfl
  | 3, _ => rfl
  | 4, _ => rfl
  | 5, _ => rfl
section EvQ
variable {ok : Nat → Nat → Nat → List AV → JH → (Option AV → JH → Prop) → Prop} {xl : Option Nat} {xs : Nat → Int} {cd : List JE} {mc ms : Nat} {Q : Option AV → JH → Prop} {K K' : List JE} {L L' S S' : List AV} {h h' : JH} {cu su pc n' : Nat} {ps : List Nat} {z : Int} {G : GH} {r n k t c : Nat} {i lo hi v m : Int}
theorem ev_callF {x na k0 k1 k2 k3 k4 k5 a b : Nat} {A : List AV} {Q' : Option AV → JH → Prop} (hA : A.length = na) (h1 : r < h.1) (h2 : jfam 0 (h.2.1 r).1 = true) (hw : jwid S' ≤ 8) (hk : ∃ k, [k0, k1, k2, k3, k4, k5].getD (jpos (h.2.1 r).1) 0 = k ∧ k ≠ 9999 ∧ ok a b k ((2, (r : Int)) :: A.reverse) h Q') (h3 : cu + a ≤ mc) (h4 : su + b ≤ ms) (kk : ∀ (v : Option AV) (h' : JH), Q' v h' → jEv ok xl xs cd mc ms Q (K, L, v.toList ++ S', h', cu + a, su + b)) : jEv ok xl xs cd mc ms Q ((pc, .invokevirtual x, n', 9 :: na :: k0 :: k1 :: k2 :: k3 :: k4 :: k5 :: ps, z) :: K, L, A ++ (2, (r : Int)) :: S', h, cu, su) := by
  obtain ⟨k, e1, e2, hok⟩ := hk
  refine ev_call (k := k) (as := (2, (r : Int)) :: A.reverse) (S' := S') ?_ hok h3 h4 kk
  subst hA
  have e3 := jks (k0 := k0) (k1 := k1) (k2 := k2) (k3 := k3) (k4 := k4) (k5 := k5) (ps := ps) (jpos_le (h.2.1 r).1) 9 A.length
  rw [e1] at e3
  simp only [jcall]
  rw [show (9 :: A.length :: k0 :: k1 :: k2 :: k3 :: k4 :: k5 :: ps).getD 1 0 = A.length from rfl]
  rw [show (A ++ (2, (r : Int)) :: S')[A.length]? = some (2, (r : Int)) by simp]
  simp only [jhd, Int.toNat_natCast]
  rw [if_neg (by simp), e3]
  rw [show (A ++ (2, (r : Int)) :: S').drop (A.length + 1) = S' by simp, show (A ++ (2, (r : Int)) :: S').take A.length = A by simp]
  rw [if_pos ⟨by trivial, by trivial, by omega, h1, h2, e2, hw⟩]
theorem g_ialdv (g : Gd G h) (ha : AD r 20 n) (h0 : 0 ≤ i) (h1 : i < (n : Int)) (hv : h.2.2 r i.toNat = v) (kk : jEv ok xl xs cd mc ms Q (K, L, (0, v) :: S, h, cu, su)) : jEv ok xl xs cd mc ms Q ((pc, .iaload, n', ps, z) :: K, L, (0, i) :: (2, (r : Int)) :: S, h, cu, su) :=
  ev_iald (g.lt ha) (g.tg ha) (by omega) (by rw [g.ln ha]; omega) hv kk
theorem g_laldv (g : Gd G h) (ha : AD r 21 n) (h0 : 0 ≤ i) (h1 : i < (n : Int)) (hv : h.2.2 r i.toNat = v) (kk : jEv ok xl xs cd mc ms Q (K, L, (1, v) :: S, h, cu, su)) : jEv ok xl xs cd mc ms Q ((pc, .laload, n', ps, z) :: K, L, (0, i) :: (2, (r : Int)) :: S, h, cu, su) :=
  ev_lald (g.lt ha) (g.tg ha) (by omega) (by rw [g.ln ha]; omega) hv kk
theorem g_baldv (g : Gd G h) (ha : AD r 22 n) (h0 : 0 ≤ i) (h1 : i < (n : Int)) (hv : h.2.2 r i.toNat = v) (kk : jEv ok xl xs cd mc ms Q (K, L, (0, v) :: S, h, cu, su)) : jEv ok xl xs cd mc ms Q ((pc, .baload, n', [22], z) :: K, L, (0, i) :: (2, (r : Int)) :: S, h, cu, su) :=
  ev_bald (g.lt ha) (g.tg ha) (Or.inl rfl) (by omega) (by rw [g.ln ha]; omega) hv kk
theorem g_qgetv {x j1 j2 : Nat} {u : Nat} (g : Gd G h) (q : IsQ G r m) (hs : jsk (jfty 4 k) = u) (hv : h.2.2 r k = v) (kk : jEv ok xl xs cd mc ms Q (K, L, (u, v) :: S, h, cu, su)) : jEv ok xl xs cd mc ms Q ((pc, .getfield x, n', [4, k, j1, j2], z) :: K, L, (2, (r : Int)) :: S, h, cu, su) :=
  ev_getf (g.qlt q) (by rw [g.qtg q]; decide) hs hv kk
theorem g_qgetp {x j1 j2 : Nat} (g : Gd G h) (q : IsQ G r m) (h1 : 2 ≤ c) (h2 : c ≤ 13) (hs : jsk (jfty 4 c) = 2) (kk : jEv ok xl xs cd mc ms Q (K, L, (2, ((r + (c - 1) : Nat) : Int)) :: S, h, cu, su)) : jEv ok xl xs cd mc ms Q ((pc, .getfield x, n', [4, c, j1, j2], z) :: K, L, (2, (r : Int)) :: S, h, cu, su) :=
  ev_getf (g.qlt q) (by rw [g.qtg q]; decide) hs (g.qp q h1 h2) kk
theorem g_qiald (g : Gd G h) (q : IsQ G r m) (h1 : 2 ≤ c) (h2 : c ≤ 13) (hc : dty c = 20) (h0 : 0 ≤ i) (hi' : i < dln c m) (he : dR c m = (lo, hi)) (kk : ∀ v, h.2.2 (r + (c - 1)) i.toNat = v → lo ≤ v → v ≤ hi → jEv ok xl xs cd mc ms Q (K, L, (0, v) :: S, h, cu, su)) : jEv ok xl xs cd mc ms Q ((pc, .iaload, n', ps, z) :: K, L, (0, i) :: (2, ((r + (c - 1) : Nat) : Int)) :: S, h, cu, su) := by
  obtain ⟨a1, a2, a3⟩ := g.qa q h1 h2
  have b := a3 i.toNat (by omega)
  rw [he] at b
  exact ev_iald a1 (by rw [a2]; exact hc) (by omega) (by rw [a2]; show i.toNat < (dln c m).toNat; omega) rfl (kk _ rfl b.1 b.2)
theorem g_qlald (g : Gd G h) (q : IsQ G r m) (h1 : 2 ≤ c) (h2 : c ≤ 13) (hc : dty c = 21) (h0 : 0 ≤ i) (hi' : i < dln c m) (he : dR c m = (lo, hi)) (kk : ∀ v, h.2.2 (r + (c - 1)) i.toNat = v → lo ≤ v → v ≤ hi → jEv ok xl xs cd mc ms Q (K, L, (1, v) :: S, h, cu, su)) : jEv ok xl xs cd mc ms Q ((pc, .laload, n', ps, z) :: K, L, (0, i) :: (2, ((r + (c - 1) : Nat) : Int)) :: S, h, cu, su) := by
  obtain ⟨a1, a2, a3⟩ := g.qa q h1 h2
  have b := a3 i.toNat (by omega)
  rw [he] at b
  exact ev_lald a1 (by rw [a2]; exact hc) (by omega) (by rw [a2]; show i.toNat < (dln c m).toNat; omega) rfl (kk _ rfl b.1 b.2)
theorem g_qzald (g : Gd G h) (q : IsQ G r m) (h1 : 2 ≤ c) (h2 : c ≤ 13) (hc : dty c = 23) (h0 : 0 ≤ i) (hi' : i < dln c m) (he : dR c m = (lo, hi)) (kk : ∀ v, h.2.2 (r + (c - 1)) i.toNat = v → lo ≤ v → v ≤ hi → jEv ok xl xs cd mc ms Q (K, L, (0, v) :: S, h, cu, su)) : jEv ok xl xs cd mc ms Q ((pc, .baload, n', [23], z) :: K, L, (0, i) :: (2, ((r + (c - 1) : Nat) : Int)) :: S, h, cu, su) := by
  obtain ⟨a1, a2, a3⟩ := g.qa q h1 h2
  have b := a3 i.toNat (by omega)
  rw [he] at b
  exact ev_bald a1 (by rw [a2]; exact hc) (Or.inr rfl) (by omega) (by rw [a2]; show i.toNat < (dln c m).toNat; omega) rfl (kk _ rfl b.1 b.2)
theorem g_qialdv (g : Gd G h) (q : IsQ G r m) (h1 : 2 ≤ c) (h2 : c ≤ 13) (hc : dty c = 20) (h0 : 0 ≤ i) (hi' : i < dln c m) (hv : h.2.2 (r + (c - 1)) i.toNat = v) (kk : jEv ok xl xs cd mc ms Q (K, L, (0, v) :: S, h, cu, su)) : jEv ok xl xs cd mc ms Q ((pc, .iaload, n', ps, z) :: K, L, (0, i) :: (2, ((r + (c - 1) : Nat) : Int)) :: S, h, cu, su) := by
  obtain ⟨a1, a2, a3⟩ := g.qa q h1 h2
  exact ev_iald a1 (by rw [a2]; exact hc) (by omega) (by rw [a2]; show i.toNat < (dln c m).toNat; omega) hv kk
theorem g_qlaldv (g : Gd G h) (q : IsQ G r m) (h1 : 2 ≤ c) (h2 : c ≤ 13) (hc : dty c = 21) (h0 : 0 ≤ i) (hi' : i < dln c m) (hv : h.2.2 (r + (c - 1)) i.toNat = v) (kk : jEv ok xl xs cd mc ms Q (K, L, (1, v) :: S, h, cu, su)) : jEv ok xl xs cd mc ms Q ((pc, .laload, n', ps, z) :: K, L, (0, i) :: (2, ((r + (c - 1) : Nat) : Int)) :: S, h, cu, su) := by
  obtain ⟨a1, a2, a3⟩ := g.qa q h1 h2
  exact ev_lald a1 (by rw [a2]; exact hc) (by omega) (by rw [a2]; show i.toNat < (dln c m).toNat; omega) hv kk
theorem g_qzaldv (g : Gd G h) (q : IsQ G r m) (h1 : 2 ≤ c) (h2 : c ≤ 13) (hc : dty c = 23) (h0 : 0 ≤ i) (hi' : i < dln c m) (hv : h.2.2 (r + (c - 1)) i.toNat = v) (kk : jEv ok xl xs cd mc ms Q (K, L, (0, v) :: S, h, cu, su)) : jEv ok xl xs cd mc ms Q ((pc, .baload, n', [23], z) :: K, L, (0, i) :: (2, ((r + (c - 1) : Nat) : Int)) :: S, h, cu, su) := by
  obtain ⟨a1, a2, a3⟩ := g.qa q h1 h2
  exact ev_bald a1 (by rw [a2]; exact hc) (Or.inr rfl) (by omega) (by rw [a2]; show i.toNat < (dln c m).toNat; omega) hv kk
theorem g_qiast (g : Gd G h) (q : IsQ G r m) (h1 : 2 ≤ c) (h2 : c ≤ 13) (hc : dty c = 20) (h0 : 0 ≤ i) (hi' : i < dln c m) (he : dR c m = (lo, hi)) (b1 : lo ≤ v) (b2 : v ≤ hi) (kk : ∀ h', h' = jwr h (r + (c - 1)) i.toNat v → Gd G h' → jEv ok xl xs cd mc ms Q (K, L, S, h', cu, su)) : jEv ok xl xs cd mc ms Q ((pc, .iastore, n', ps, z) :: K, L, (0, v) :: (0, i) :: (2, ((r + (c - 1) : Nat) : Int)) :: S, h, cu, su) := by
  obtain ⟨a1, a2, a3⟩ := g.qa q h1 h2
  exact ev_iast a1 (by rw [a2]; exact hc) (by omega) (by rw [a2]; show i.toNat < (dln c m).toNat; omega) (kk _ rfl (g.wrA q h1 h2 (by omega) (by rw [he]; exact b1) (by rw [he]; exact b2) rfl))
theorem g_qlast (g : Gd G h) (q : IsQ G r m) (h1 : 2 ≤ c) (h2 : c ≤ 13) (hc : dty c = 21) (h0 : 0 ≤ i) (hi' : i < dln c m) (he : dR c m = (lo, hi)) (b1 : lo ≤ v) (b2 : v ≤ hi) (kk : ∀ h', h' = jwr h (r + (c - 1)) i.toNat v → Gd G h' → jEv ok xl xs cd mc ms Q (K, L, S, h', cu, su)) : jEv ok xl xs cd mc ms Q ((pc, .lastore, n', ps, z) :: K, L, (1, v) :: (0, i) :: (2, ((r + (c - 1) : Nat) : Int)) :: S, h, cu, su) := by
  obtain ⟨a1, a2, a3⟩ := g.qa q h1 h2
  exact ev_last a1 (by rw [a2]; exact hc) (by omega) (by rw [a2]; show i.toNat < (dln c m).toNat; omega) (kk _ rfl (g.wrA q h1 h2 (by omega) (by rw [he]; exact b1) (by rw [he]; exact b2) rfl))
theorem g_qzast (g : Gd G h) (q : IsQ G r m) (h1 : 2 ≤ c) (h2 : c ≤ 13) (hc : dty c = 23) (h0 : 0 ≤ i) (hi' : i < dln c m) (he : dR c m = (0, 1)) (b1 : 0 ≤ v) (b2 : v ≤ 1) (kk : ∀ h', h' = jwr h (r + (c - 1)) i.toNat v → Gd G h' → jEv ok xl xs cd mc ms Q (K, L, S, h', cu, su)) : jEv ok xl xs cd mc ms Q ((pc, .bastore, n', [23], z) :: K, L, (0, v) :: (0, i) :: (2, ((r + (c - 1) : Nat) : Int)) :: S, h, cu, su) := by
  obtain ⟨a1, a2, a3⟩ := g.qa q h1 h2
  have e : v % 2 = v := by omega
  refine ev_zast a1 (by rw [a2]; exact hc) (j := i.toNat) (by omega) (by rw [a2]; show i.toNat < (dln c m).toNat; omega) ?_
  rw [e]
  exact kk _ rfl (g.wrA q h1 h2 (by omega) (by rw [he]; exact b1) (by rw [he]; exact b2) rfl)
theorem g_qputf0 {x j1 j2 : Nat} (g : Gd G h) (q : IsQ G r m) (hs : jsk (jfty 4 0) = 0) (hz : ¬ jfty 4 0 = 3) (b1 : 0 ≤ v) (b2 : v ≤ m) (kk : ∀ h', h' = jwr h r 0 v → Gd G h' → jEv ok xl xs cd mc ms Q (K, L, S, h', cu, su)) : jEv ok xl xs cd mc ms Q ((pc, .putfield x, n', [4, 0, j1, j2], z) :: K, L, (0, v) :: (2, (r : Int)) :: S, h, cu, su) :=
  ev_putf (g.qlt q) (by rw [g.qtg q]; decide) hs (fun e => absurd e hz) (fun e => absurd e (by decide)) (kk _ rfl (g.wrF q (Or.inl ⟨rfl, b1, b2⟩) rfl))
theorem g_qputf1 {x j1 j2 : Nat} (g : Gd G h) (q : IsQ G r m) (hs : jsk (jfty 4 1) = 0) (hz : ¬ jfty 4 1 = 3) (b1 : -1 ≤ v) (b2 : v ≤ m - 1) (kk : ∀ h', h' = jwr h r 1 v → Gd G h' → jEv ok xl xs cd mc ms Q (K, L, S, h', cu, su)) : jEv ok xl xs cd mc ms Q ((pc, .putfield x, n', [4, 1, j1, j2], z) :: K, L, (0, v) :: (2, (r : Int)) :: S, h, cu, su) :=
  ev_putf (g.qlt q) (by rw [g.qtg q]; decide) hs (fun e => absurd e hz) (fun e => absurd e (by decide)) (kk _ rfl (g.wrF q (Or.inr ⟨rfl, b1, b2⟩) rfl))
theorem g_qaln (g : Gd G h) (q : IsQ G r m) (h1 : 2 ≤ c) (h2 : c ≤ 13) (kk : jEv ok xl xs cd mc ms Q (K, L, (0, dln c m) :: S, h, cu, su)) : jEv ok xl xs cd mc ms Q ((pc, .arraylength, n', ps, z) :: K, L, (2, ((r + (c - 1) : Nat) : Int)) :: S, h, cu, su) := by
  obtain ⟨a1, a2, a3⟩ := g.qa q h1 h2
  have b := g.qb q
  have e : 20 ≤ dty c ∧ dty c ≤ 25 := by unfold dty; split <;> (try split) <;> decide
  have hl : 0 ≤ dln c m ∧ dln c m ≤ 400 := by unfold dln; split <;> omega
  refine ev_aln a1 (by rw [a2]; exact e.1) (by rw [a2]; exact e.2) (m := (dln c m).toNat) (by rw [a2]) (by omega) ?_
  rw [show (((dln c m).toNat : Nat) : Int) = dln c m by omega]
  exact kk
theorem g_qaald (g : Gd G h) {cn : Int} (hc : h.2.2 0 3 = cn) (h0 : 0 ≤ i) (h1 : i < cn) (kk : ∀ (r : Nat) (m : Int), IsQ G r m → jEv ok xl xs cd mc ms Q (K, L, (2, (r : Int)) :: S, h, cu, su)) : jEv ok xl xs cd mc ms Q ((pc, .aaload, n', [24], z) :: K, L, (0, i) :: (2, 18) :: S, h, cu, su) := by
  have b := g.rg ad0 (i := 3) (by decide) rf0_3
  obtain ⟨r, e1, e2, e3, e4⟩ := g.2.2.2.2.1 i.toNat (by omega)
  exact ev_aald (r := 18) (g.lt ad18) (g.tg ad18) (Or.inl rfl) (j := i.toNat) (by omega) (by rw [g.ln ad18]; omega) e1 (kk r _ ⟨e2, e3, e4, rfl⟩)
theorem g_faald (g : Gd G h) {cn : Int} (hc : h.2.2 0 7 = cn) (h0 : 0 ≤ i) (h1 : i < cn) (kk : ∀ (r : Nat), IsF G r → jEv ok xl xs cd mc ms Q (K, L, (2, (r : Int)) :: S, h, cu, su)) : jEv ok xl xs cd mc ms Q ((pc, .aaload, n', [25], z) :: K, L, (0, i) :: (2, 24) :: S, h, cu, su) := by
  have b := g.rg ad0 (i := 7) (by decide) rf0_7
  obtain ⟨r, e1, e2, e3, e4, -⟩ := g.2.2.2.2.2.1 i.toNat (by omega)
  exact ev_aald (r := 24) (g.lt ad24) (g.tg ad24) (Or.inr rfl) (j := i.toNat) (by omega) (by rw [g.ln ad24]; omega) e1 (kk r (Or.inr ⟨e2, e3, e4⟩))
theorem g_fget0 {x j1 j2 : Nat} (g : Gd G h) (q : IsF G r) (hs : jsk (jfty 0 0) = 2) (kk : jEv ok xl xs cd mc ms Q (K, L, (2, 19) :: S, h, cu, su)) : jEv ok xl xs cd mc ms Q ((pc, .getfield x, n', [0, 0, j1, j2], z) :: K, L, (2, (r : Int)) :: S, h, cu, su) :=
  ev_getf (g.flt q) (g.ffam q) hs (g.fd q).2.1 kk
theorem g_fget1 {x j1 j2 : Nat} (g : Gd G h) (q : IsF G r) (hs : jsk (jfty 0 1) = 0) (kk : ∀ v, h.2.2 r 1 = v → 0 ≤ v → v ≤ 19 → jEv ok xl xs cd mc ms Q (K, L, (0, v) :: S, h, cu, su)) : jEv ok xl xs cd mc ms Q ((pc, .getfield x, n', [0, 1, j1, j2], z) :: K, L, (2, (r : Int)) :: S, h, cu, su) :=
  ev_getf (g.flt q) (g.ffam q) hs rfl (kk _ rfl (g.fd q).2.2.1.1 (g.fd q).2.2.1.2)
theorem g_fget2 {x j1 j2 : Nat} (g : Gd G h) (q : IsF G r) (hs : jsk (jfty 0 2) = 0) (kk : ∀ v, h.2.2 r 2 = v → 0 ≤ v → v ≤ 100 → jEv ok xl xs cd mc ms Q (K, L, (0, v) :: S, h, cu, su)) : jEv ok xl xs cd mc ms Q ((pc, .getfield x, n', [0, 2, j1, j2], z) :: K, L, (2, (r : Int)) :: S, h, cu, su) :=
  ev_getf (g.flt q) (g.ffam q) hs rfl (kk _ rfl (g.fd q).2.2.2.1 (g.fd q).2.2.2.2)
theorem g_inst {x u : Nat} {ps : List Nat} (g : Gd G h) (q : IsF G r) (kk : ∀ v, (if jund (h.2.1 r).1 u = true then 1 else 0) = v → 0 ≤ v → v ≤ 1 → jEv ok xl xs cd mc ms Q (K, L, (0, v) :: S, h, cu, su)) : jEv ok xl xs cd mc ms Q ((pc, .instanceof x, n', u :: ps, z) :: K, L, (2, (r : Int)) :: S, h, cu, su) :=
  ev_k (kk _ rfl (by split <;> decide) (by split <;> decide)) (by
    have e1 := g.flt q
    have e2 := g.ffam q
    simp [jstep, jinst, jhd, e1, e2]) (Or.inl ⟨rfl, rfl⟩)
end EvQ
/-! rows that are copied -/
section Cp
variable {G : GH} {h h' : JH} {a t n : Nat} {lo hi : Int}
theorem Gd.upd (g : Gd G h) (ha : AD a t n) (hx : ∀ j, spx a j = false) (ht : ∀ j, rT a j = (lo, hi)) (e1 : h'.1 = h.1) (e2 : h'.2.1 = h.2.1) (e3 : ∀ k j, k ≠ a → h'.2.2 k j = h.2.2 k j) (e4 : ∀ j, j < n → lo ≤ h'.2.2 a j ∧ h'.2.2 a j ≤ hi) : Gd G h' := by
  obtain ⟨g1, g2, g3, g4, g5, g6, g7, g8⟩ := g
  have hx0 := hx 0
  have hx3 := hx 3
  have hx7 := hx 7
  have hx4 := hx 4
  unfold spx at hx0 hx3 hx7 hx4
  rw [Bool.or_eq_false_iff] at hx0 hx3 hx7 hx4
  have hx0 := hx0.1
  have hx3 := hx3.1
  have hx7 := hx7.1
  have hx4 := hx4.1
  simp only [Bool.or_eq_false_iff, Bool.and_eq_false_iff, beq_eq_false_iff_ne] at hx0 hx3 hx7 hx4
  have a83 := ha.1
  refine ⟨e1.trans g1, ⟨by rw [e1]; exact g2.1, by rw [e2]; exact g2.2⟩, fun b j hb hj => ?_, fun b hb hb2 => ?_, fun j hj => ?_, fun j hj => ?_, ?_, g8.fr (fun b j hb => e3 b j (fun q => by subst q; have q2 := hx j; unfold spx at q2; rw [Bool.or_eq_false_iff] at q2; rw [q2.2] at hb; cases hb))⟩
  · by_cases hba : b = a
    · subst hba
      rw [ha.2] at hj
      rw [ht]
      exact e4 j hj
    · rw [e3 b j hba]
      exact g3 b j hb hj
  · have h2 : ∀ k, h'.2.2 b k = h.2.2 b k := fun k => e3 b k (by omega)
    have d := g4 b hb hb2
    unfold dOk dFe dQu dAr at d ⊢
    rw [e2]
    simp only [h2]
    exact d
  · rw [e3 0 3 (by omega)] at hj
    rw [e3 18 j (by omega)]
    exact g5 j hj
  · rw [e3 0 7 (by omega)] at hj
    rw [e3 24 j (by omega)]
    exact g6 j hj
  · rw [e3 19 4 (by omega), e3 19 3 (by omega)]
    exact g7
theorem Gd.updA {r c : Nat} {m : Int} (g : Gd G h) (q : IsQ G r m) (h1 : 2 ≤ c) (h2 : c ≤ 13) (e1 : h'.1 = h.1) (e2 : h'.2.1 = h.2.1) (e3 : ∀ k j, k ≠ r + (c - 1) → h'.2.2 k j = h.2.2 k j) (e4 : ∀ j : Nat, (j : Int) < dln c m → (dR c m).1 ≤ h'.2.2 (r + (c - 1)) j ∧ h'.2.2 (r + (c - 1)) j ≤ (dR c m).2) : Gd G h' := by
  have hr := q.1
  have d0 := g.qd q
  have ee := (d0.2.2.2.2.2.2.2.2.2 c h1 h2).2
  rw [q.2.2.2] at ee
  obtain ⟨g1, g2, g3, g4, g5, g6, g7, g8⟩ := g
  refine ⟨e1.trans g1, ⟨by rw [e1]; exact g2.1, by rw [e2]; exact g2.2⟩, fun b j hb hj => ?_, fun b hb hb2 => ?_, fun j hj => ?_, fun j hj => ?_, ?_, g8.fr (fun b j hb => e3 b j (fun q => by rw [exF_hi (by omega)] at hb; cases hb))⟩
  · rw [e3 b j (by omega)]
    exact g3 b j hb hj
  · by_cases hbe : b = r + (c - 1)
    · rcases g4 b hb hb2 with d | d | d
      · have := d.1
        rw [hbe, ee] at this
        simp only at this
        omega
      · have := d.1
        rw [hbe, ee] at this
        simp only at this
        omega
      · refine Or.inr (Or.inr ?_)
        obtain ⟨d1, d2, d3, d4, d5, d6⟩ := d
        refine ⟨d1, d2, d3, d4, by rw [e2]; exact d5, fun k hk => ?_⟩
        rw [hbe, ee] at hk ⊢
        exact e4 k hk
    · have h2 : ∀ k, h'.2.2 b k = h.2.2 b k := fun k => e3 b k hbe
      have d := g4 b hb hb2
      unfold dOk dFe dQu dAr at d ⊢
      rw [e2]
      simp only [h2]
      exact d
  · rw [e3 0 3 (by omega)] at hj
    rw [e3 18 j (by omega)]
    exact g5 j hj
  · rw [e3 0 7 (by omega)] at hj
    rw [e3 24 j (by omega)]
    exact g6 j hj
  · rw [e3 19 4 (by omega), e3 19 3 (by omega)]
    exact g7
theorem jcpy_ne {a sp d dp n k j : Nat} (hk : k ≠ d) : (jcpy h a sp d dp n).2.2 k j = h.2.2 k j := by
  show (if k = d ∧ dp ≤ j ∧ j < dp + n then h.2.2 a (sp + (j - dp)) else h.2.2 k j) = _
  rw [if_neg (fun q => hk q.1)]
theorem jcpy_at {a sp d dp n j : Nat} : (jcpy h a sp d dp n).2.2 d j = if dp ≤ j ∧ j < dp + n then h.2.2 a (sp + (j - dp)) else h.2.2 d j := by
  show (if d = d ∧ dp ≤ j ∧ j < dp + n then h.2.2 a (sp + (j - dp)) else h.2.2 d j) = _
  by_cases e : dp ≤ j ∧ j < dp + n
  · rw [if_pos ⟨rfl, e⟩, if_pos e]
  · rw [if_neg (fun q => e q.2), if_neg e]
end Cp
section EvC
variable {ok : Nat → Nat → Nat → List AV → JH → (Option AV → JH → Prop) → Prop} {xl : Option Nat} {xs : Nat → Int} {cd : List JE} {mc ms : Nat} {Q : Option AV → JH → Prop} {K K' : List JE} {L L' S S' : List AV} {h h' : JH} {cu su pc n' : Nat} {ps : List Nat} {z : Int} {G : GH} {r : Nat} {lo hi m : Int}
theorem ev_copy {x d a : Nat} {n dp sp : Int} (n0 : 0 ≤ n) (dp0 : 0 ≤ dp) (sp0 : 0 ≤ sp) (ha : a < h.1) (hd : d < h.1) (t1 : (h.2.1 a).1 = (h.2.1 d).1) (t2 : (h.2.1 a).1 = 20 ∨ (h.2.1 a).1 = 21) (s1 : sp.toNat + n.toNat ≤ (h.2.1 a).2) (s2 : dp.toNat + n.toNat ≤ (h.2.1 d).2) (hw : jwid S ≤ 8) (kk : jEv ok xl xs cd mc ms Q (K, L, S, jcpy h a sp.toNat d dp.toNat n.toNat, cu, su)) : jEv ok xl xs cd mc ms Q ((pc, .invokestatic x, n', 7 :: ps, z) :: K, L, (0, n) :: (0, dp) :: (2, (d : Int)) :: (0, sp) :: (2, (a : Int)) :: S, h, cu, su) := ev_k kk (by
  unfold jwid at hw
  rw [t1] at t2
  simp only [jstep, jhd, if_true, jcopy, Int.toNat_natCast]
  refine (if_pos rfl).trans (if_pos ?_)
  exact ⟨trivial, trivial, trivial, trivial, trivial, n0, dp0, sp0, by omega, ha, by omega, hd, t1, by rw [t1]; exact t2, s1, s2, hw⟩) (Or.inl ⟨rfl, rfl⟩)
theorem g_copyS {x a t N : Nat} {n dp sp : Int} (g : Gd G h) (ha : AD a t N) (ht : t = 20 ∨ t = 21) (hr : ∀ j, rT a j = (lo, hi)) (hx : ∀ j, spx a j = false) (n0 : 0 ≤ n) (dp0 : 0 ≤ dp) (sp0 : 0 ≤ sp) (s1 : sp + n ≤ (N : Int)) (s2 : dp + n ≤ (N : Int)) (hw : jwid S ≤ 8) (kk : ∀ h', Gd G h' → Kp [(a, 0)] h h' → jEv ok xl xs cd mc ms Q (K, L, S, h', cu, su)) : jEv ok xl xs cd mc ms Q ((pc, .invokestatic x, n', 7 :: ps, z) :: K, L, (0, n) :: (0, dp) :: (2, (a : Int)) :: (0, sp) :: (2, (a : Int)) :: S, h, cu, su) := by
  refine ev_copy n0 dp0 sp0 (g.lt ha) (g.lt ha) rfl (by rw [g.tg ha]; exact ht) (by rw [g.ln ha]; omega) (by rw [g.ln ha]; omega) hw (kk _ (g.upd ha hx hr rfl rfl (fun k j hk => jcpy_ne hk) (fun j hj => ?_)) ⟨rfl, rfl, fun b i hb => ?_⟩)
  · rw [jcpy_at]
    split
    · exact g.rg ha (by omega) (hr _)
    · exact g.rg ha hj (hr _)
  · by_cases e : b = a
    · subst e
      simp [inW] at hb
    · exact jcpy_ne e
theorem g_copyQ {x c c' : Nat} {n dp sp : Int} (g : Gd G h) (q : IsQ G r m) (h1 : 2 ≤ c) (h2 : c ≤ 13) (h3 : 2 ≤ c') (h4 : c' ≤ 13) (t1 : dty c = 20) (t2 : dty c' = 20) (hr : dR c m = dR c' m) (n0 : 0 ≤ n) (dp0 : 0 ≤ dp) (sp0 : 0 ≤ sp) (s1 : sp + n ≤ dln c m) (s2 : dp + n ≤ dln c' m) (hw : jwid S ≤ 8) (kk : ∀ h', Gd G h' → Kp [(1000000, 0)] h h' → jEv ok xl xs cd mc ms Q (K, L, S, h', cu, su)) : jEv ok xl xs cd mc ms Q ((pc, .invokestatic x, n', 7 :: ps, z) :: K, L, (0, n) :: (0, dp) :: (2, ((r + (c' - 1) : Nat) : Int)) :: (0, sp) :: (2, ((r + (c - 1) : Nat) : Int)) :: S, h, cu, su) := by
  obtain ⟨a1, a2, a3⟩ := g.qa q h1 h2
  obtain ⟨b1, b2, b3⟩ := g.qa q h3 h4
  have hr0 := q.1
  refine ev_copy n0 dp0 sp0 a1 b1 (by rw [a2, b2]; show dty c = dty c'; rw [t1, t2]) (by rw [a2]; exact Or.inl t1) (by rw [a2]; show _ ≤ (dln c m).toNat; omega) (by rw [b2]; show _ ≤ (dln c' m).toNat; omega) hw (kk _ (g.updA q h3 h4 rfl rfl (fun k j hk => jcpy_ne hk) (fun j hj => ?_)) ⟨rfl, rfl, fun b i hb => ?_⟩)
  · rw [jcpy_at]
    split
    · rw [← hr]
      exact a3 _ (by omega)
    · exact b3 _ hj
  · have e : b ≠ r + (c' - 1) := by
      intro e
      have : inW [(1000000, 0)] b i = true := inW_dyn rfl (by omega)
      rw [this] at hb
      cases hb
    exact jcpy_ne e
end EvC

theorem jandL_b (x : Int) {b : Nat} (h1 : b < 9223372036854775808) : 0 ≤ jandL x (b : Int) ∧ jandL x (b : Int) ≤ (b : Int) := by
  unfold jandL
  have hy : (Int64.ofInt (b : Int)).toBitVec.toNat = b := by
    have e : (Int64.ofInt (b : Int)).toInt = (b : Int) := j64 (by omega) (by omega)
    have e2 : (Int64.ofInt (b : Int)).toBitVec.toInt = (b : Int) := e
    rw [BitVec.toInt_eq_toNat_cond] at e2
    have := (Int64.ofInt (b : Int)).toBitVec.isLt
    split at e2 <;> omega
  have e : (Int64.ofInt x &&& Int64.ofInt (b : Int)).toBitVec.toNat ≤ b := by
    rw [Int64.toBitVec_and, BitVec.toNat_and, hy]
    exact Nat.and_le_right
  have e3 : (Int64.ofInt x &&& Int64.ofInt (b : Int)).toInt = ((Int64.ofInt x &&& Int64.ofInt (b : Int)).toBitVec.toNat : Int) := by
    show (Int64.ofInt x &&& Int64.ofInt (b : Int)).toBitVec.toInt = _
    rw [BitVec.toInt_eq_toNat_cond, if_pos (by omega)]
  rw [e3]
  omega
theorem g_landB {ok : Nat → Nat → Nat → List AV → JH → (Option AV → JH → Prop) → Prop} {xl : Option Nat} {xs : Nat → Int} {cd : List JE} {mc ms : Nat} {Q : Option AV → JH → Prop} {K : List JE} {L S : List AV} {h : JH} {cu su pc n' b : Nat} {ps : List Nat} {x y z : Int} (hy : y = (b : Int)) (h1 : b < 9223372036854775808) (kk : ∀ r, jandL x y = r → 0 ≤ r → r ≤ (b : Int) → jEv ok xl xs cd mc ms Q (K, L, (1, r) :: S, h, cu, su)) : jEv ok xl xs cd mc ms Q ((pc, .land, n', ps, z) :: K, L, (1, y) :: (1, x) :: S, h, cu, su) := by
  subst hy
  have hb := jandL_b x h1
  exact ev_land rfl (kk _ rfl hb.1 hb.2)

/-- the steps by which sums are felt: their numbers are written -/
theorem Gd.told {G : GH} {h h' : JH} {v : Int} (g : Gd G h) (e : h' = jwr h 19 3 v) (h1 : h.2.2 19 3 ≤ v) (h2 : 0 ≤ v) (h3 : v ≤ 6) : Gd G h' := by
  obtain ⟨g1, g2, g3, g4, g5, g6, g7, g8⟩ := g
  have e1 := jwr_ty e
  refine ⟨e1.1.trans g1, ⟨by rw [e1.1]; exact g2.1, by rw [e1.2]; exact g2.2⟩, fun b j hb hj => ?_, fun b hb hb2 => dOk_ne e (by omega) (g4 b hb hb2), fun j hj => ?_, fun j hj => ?_, ?_, g8.wr e rfl⟩
  · rw [jwr_v e]
    split
    · rename_i hc
      rw [hc.1, hc.2, rf19_3]
      exact ⟨h2, h3⟩
    · exact g3 b j hb hj
  · rw [jw_ne e (by omega)] at hj
    rw [jw_ne e (by omega)]
    exact g5 j hj
  · rw [jw_ne e (by omega)] at hj
    rw [jw_ne e (by omega)]
    exact g6 j hj
  · rw [jw_ne e (Or.inr (by decide)), jw_eq e]
    omega
theorem Gd.steps {G : GH} {h h1 h2 h3 : JH} {u t v : Int} {i : Nat} (g : Gd G h) (e1 : h1 = jwr h 19 4 u) (e2 : h2 = jwr h1 21 i v) (e3 : h3 = jwr h2 19 3 t) (b1 : 0 ≤ u) (b2 : u ≤ t) (b3 : t ≤ 6) (b4 : -2147483648 ≤ v) (b5 : v ≤ 2147483647) : Gd G h3 := by
  obtain ⟨g1, g2, g3, g4, g5, g6, g7, g8⟩ := g
  have t1 := jwr_ty e1
  have t2 := jwr_ty e2
  have t3 := jwr_ty e3
  have ty : h3.2.1 = h.2.1 := t3.2.trans (t2.2.trans t1.2)
  have sz : h3.1 = h.1 := t3.1.trans (t2.1.trans t1.1)
  have ne : ∀ a j, a ≠ 19 → a ≠ 21 → h3.2.2 a j = h.2.2 a j := fun a j n1 n2 => (jw_ne e3 (Or.inl n1)).trans ((jw_ne e2 (Or.inl n2)).trans (jw_ne e1 (Or.inl n1)))
  refine ⟨sz.trans g1, ⟨by rw [sz]; exact g2.1, by rw [ty]; exact g2.2⟩, fun b j hb hj => ?_, fun b hb hb2 => dOk_ne e3 (by omega) (dOk_ne e2 (by omega) (dOk_ne e1 (by omega) (g4 b hb hb2))), fun j hj => ?_, fun j hj => ?_, ?_, ((g8.wr e1 rfl).wr e2 rfl).wr e3 rfl⟩
  · by_cases h19 : b = 19
    · subst h19
      by_cases j3 : j = 3
      · subst j3
        rw [jw_eq e3, rf19_3]
        exact ⟨by omega, b3⟩
      · rw [jw_ne e3 (Or.inr j3), jw_ne e2 (Or.inl (by decide))]
        by_cases j4 : j = 4
        · subst j4
          rw [jw_eq e1, rf19_4]
          exact ⟨b1, by omega⟩
        · rw [jw_ne e1 (Or.inr j4)]
          exact g3 19 j hb hj
    · by_cases h21 : b = 21
      · subst h21
        rw [jw_ne e3 (Or.inl (by decide)), rt21]
        by_cases ji : j = i
        · subst ji
          rw [jw_eq e2]
          exact ⟨b4, b5⟩
        · rw [jw_ne e2 (Or.inr ji), jw_ne e1 (Or.inl (by decide))]
          have := g3 21 j hb hj
          rw [rt21] at this
          exact this
      · rw [ne b j h19 h21]
        exact g3 b j hb hj
  · rw [ne 0 3 (by decide) (by decide)] at hj
    rw [ne 18 j (by decide) (by decide)]
    exact g5 j hj
  · rw [ne 0 7 (by decide) (by decide)] at hj
    rw [ne 24 j (by decide) (by decide)]
    exact g6 j hj
  · rw [jw_ne e3 (Or.inr (by decide)), jw_ne e2 (Or.inl (by decide)), jw_eq e1, jw_eq e3]
    exact b2

theorem famL {d d' a b X : Nat} {as : List AV} {h : JH} {Q : Option AV → JH → Prop} (hd : d ≤ d') (e : ∃ k, X = k ∧ k ≠ 9999 ∧ jOk d a b k as h Q) : ∃ k, X = k ∧ k ≠ 9999 ∧ jOk d' a b k as h Q := by
  obtain ⟨k, e1, e2, e3⟩ := e
  exact ⟨k, e1, e2, jOk_le hd e3⟩
