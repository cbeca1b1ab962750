set_option maxHeartbeats 4000000 in
theorem t90_l {G : GH} {h : JH} {a1 : Int} (la1 : (-9999) ≤ a1) (ua1 : a1 ≤ 9999) {a2 : Int} (la2 : 0 ≤ a2) (ua2 : a2 ≤ 90) {w0 : Int} (ew0 : h.2.2 19 3 = w0) (lw0 : 0 ≤ w0) (uw0 : w0 ≤ 5) {w1 : Int} (ew1 : h.2.2 19 4 = w1) (lw1 : 0 ≤ w1) (uw1 : w1 ≤ 5) (F0 : ((-w0) + w1) ≤ 0) : ∀ N : Nat, (∀ (h1 : JH) (x3 y0 y1 : Int) (j4 : AV), Gd G h1 → Kp [(19, 4), (19, 5), (20, 0), (21, 0)] h h1 → (-9999) ≤ a1 → a1 ≤ 9999 → 0 ≤ a2 → a2 ≤ 90 → 0 ≤ x3 → x3 ≤ 5 → ((-y0) + y1) ≤ 0 → ((-w0) + y0) ≤ 0 → (w0 + (-y0)) ≤ 0 → h1.2.2 19 3 = y0 → 0 ≤ y0 → y0 ≤ 5 → h1.2.2 19 4 = y1 → 0 ≤ y1 → y1 ≤ 5 → ((-x3) + 11) < N → jEv (jOk 0) none (fun _ => 0) c90_0 0 0 (fun v h' => ∃ r : Int, v = some (0, r) ∧ Gd G h' ∧ Kp [(19, 4), (19, 5), (20, 0), (21, 0)] h h' ∧ r = w0 + 1 ∧ h'.2.2 19 3 = w0 + 1) (c90_2, [(2, 19), (0, a1), (0, a2), (0, x3), j4], [], h1, 0, 0)) ∧ (∀ (h1 : JH) (x3 x4 y0 y1 : Int), Gd G h1 → Kp [(19, 4), (19, 5), (20, 0), (21, 0)] h h1 → (-9999) ≤ a1 → a1 ≤ 9999 → 0 ≤ a2 → a2 ≤ 90 → 0 ≤ x3 → x3 ≤ 5 → 0 ≤ x4 → x4 ≤ 5 → ((-y0) + y1) ≤ 0 → ((-w0) + y0) ≤ 0 → (w0 + (-y0)) ≤ 0 → h1.2.2 19 3 = y0 → 0 ≤ y0 → y0 ≤ 5 → h1.2.2 19 4 = y1 → 0 ≤ y1 → y1 ≤ 5 → x4 < N → jEv (jOk 0) none (fun _ => 0) c90_0 0 0 (fun v h' => ∃ r : Int, v = some (0, r) ∧ Gd G h' ∧ Kp [(19, 4), (19, 5), (20, 0), (21, 0)] h h' ∧ r = w0 + 1 ∧ h'.2.2 19 3 = w0 + 1) (c90_50, [(2, 19), (0, a1), (0, a2), (0, x3), (0, x4)], [], h1, 0, 0)) := by
  intro N
  induction N with
  | zero => exact ⟨fun h1 x3 y0 y1 j4 g1 k1 b0 b1 b2 b3 b4 b5 b6 b7 b8 b9 b10 b11 b12 b13 b14 hm => absurd hm (by omega), fun h1 x3 x4 y0 y1 g1 k1 b0 b1 b2 b3 b4 b5 b6 b7 b8 b9 b10 b11 b12 b13 b14 b15 b16 hm => absurd hm (by omega)⟩
  | succ N ih =>
    refine ⟨?_, ?_⟩
    · intro h1 x3 y0 y1 j4 g1 k1 b0 b1 b2 b3 b4 b5 b6 b7 b8 ey0 ly0 uy0 ey1 ly1 uy1 hm
      refine ev_iload_n rfl ?_
      refine ev_aload_n rfl ?_
      refine g_getv (r := 19) (v := y1) g1 ad19 (by decide) ft7_4 (ey1) ?_
      refine ev_icmpge f90_26 (fun c75196 => ?_) (fun c75196 => ?_)
      · refine ev_iload_n rfl ?_
        refine ev_aload_n rfl ?_
        refine g_getv (r := 19) (v := y1) g1 ad19 (by decide) ft7_4 (ey1) ?_
        refine ev_icmpeq f90_44 (fun c75197 => ?_) (fun c75197 => ?_)
        · refine ev_aload_n rfl ?_
          refine g_getv (r := 19) (v := y1) g1 ad19 (by decide) ft7_4 (ey1) ?_
          refine ev_istore (L' := [(2, 19), (0, a1), (0, a2), (0, x3), (0, y1)]) (Nat.le_of_ble_eq_true rfl) rfl ?_
          exact ih.2 _ _ _ _ _ g1 k1 (by omega) (by omega) (by omega) (by omega) (by omega) (by omega) (by omega) (by omega) (by omega) (by omega) (by omega) (ey0) (by omega) (by omega) (ey1) (by omega) (by omega) (by omega)
        · refine ev_aload_n rfl ?_
          refine g_getp (r := 19) (c := 20) g1 ad19 (by decide) (by decide) rf19_0 ft7_0 ?_
          refine ev_iload_n rfl ?_
          refine g_iald g1 ad20 rt20 (by omega) (by omega) (fun v75198 ev75198 lv75198 uv75198 => ?_)
          refine ev_iload_n rfl ?_
          refine ev_icmpeq f90_111 (fun c75199 => ?_) (fun c75199 => ?_)
          · refine ev_aload_n rfl ?_
            refine g_getp (r := 19) (c := 21) g1 ad19 (by decide) (by decide) rf19_1 ft7_1 ?_
            refine ev_iload_n rfl ?_
            refine ev_iload_n rfl ?_
            refine g_iast g1 ad21 rt21 (fun _ => rfl) (by omega) (by omega) (by omega) (by omega) (fun h75200 e75200 g75200 => ?_)
            have k75200 := k1.wr e75200 rfl
            refine ev_aload_n rfl ?_
            refine ev_dup (by decide) ?_
            refine g_getv (r := 19) (v := y0) g75200 ad19 (by decide) ft7_3 (((jw_ne e75200 (Or.inl (by decide))).trans ey0)) ?_
            refine ev_iconst ?_
            refine ev_iadd (r := (y0 + 1)) (by unfold w32; omega) ?_
            refine ev_putfG (r := 19) (g75200.lt ad19) (g75200.fam ad19 (by decide)) ft7_3 (fun e => absurd e nz7_3) (fun e => absurd e (by decide)) (fun h75201 e75201 => ?_)
            have g75201 := g75200.told e75201 (by rw [(((jw_ne e75200 (Or.inl (by decide))).trans ey0))]; omega) (by omega) (by omega)
            have k75201 := k75200.wr e75201 rfl
            refine ev_aload_n rfl ?_
            refine g_getv (r := 19) (v := (y0 + 1)) g75201 ad19 (by decide) ft7_3 ((jw_eq e75201)) ?_
            exact ev_ret rfl (by decide) (by decide) ⟨_, rfl, g75201, k75201, by (repeat' split) <;> omega, (((jw_eq e75201))).trans (by (repeat' split) <;> omega)⟩
          · refine ev_aload_n rfl ?_
            refine g_getv (r := 19) (v := y1) g1 ad19 (by decide) ft7_4 (ey1) ?_
            refine ev_istore (L' := [(2, 19), (0, a1), (0, a2), (0, x3), (0, y1)]) (Nat.le_of_ble_eq_true rfl) rfl ?_
            exact ih.2 _ _ _ _ _ g1 k1 (by omega) (by omega) (by omega) (by omega) (by omega) (by omega) (by omega) (by omega) (by omega) (by omega) (by omega) (ey0) (by omega) (by omega) (ey1) (by omega) (by omega) (by omega)
      · refine ev_aload_n rfl ?_
        refine g_getp (r := 19) (c := 20) g1 ad19 (by decide) (by decide) rf19_0 ft7_0 ?_
        refine ev_iload_n rfl ?_
        refine g_iald g1 ad20 rt20 (by omega) (by omega) (fun v75202 ev75202 lv75202 uv75202 => ?_)
        refine ev_iload_n rfl ?_
        refine ev_icmpge f90_26 (fun c75203 => ?_) (fun c75203 => ?_)
        · refine ev_iload_n rfl ?_
          refine ev_aload_n rfl ?_
          refine g_getv (r := 19) (v := y1) g1 ad19 (by decide) ft7_4 (ey1) ?_
          refine ev_icmpeq f90_44 (fun c75204 => absurd c75204 (by omega)) (fun c75204 => ?_)
          refine ev_aload_n rfl ?_
          refine g_getp (r := 19) (c := 20) g1 ad19 (by decide) (by decide) rf19_0 ft7_0 ?_
          refine ev_iload_n rfl ?_
          refine g_ialdv (v := v75202) g1 ad20 (by omega) (by omega) (ev75202) ?_
          refine ev_iload_n rfl ?_
          refine ev_icmpeq f90_111 (fun c75205 => ?_) (fun c75205 => ?_)
          · refine ev_aload_n rfl ?_
            refine g_getp (r := 19) (c := 21) g1 ad19 (by decide) (by decide) rf19_1 ft7_1 ?_
            refine ev_iload_n rfl ?_
            refine ev_iload_n rfl ?_
            refine g_iast g1 ad21 rt21 (fun _ => rfl) (by omega) (by omega) (by omega) (by omega) (fun h75206 e75206 g75206 => ?_)
            have k75206 := k1.wr e75206 rfl
            refine ev_aload_n rfl ?_
            refine ev_dup (by decide) ?_
            refine g_getv (r := 19) (v := y0) g75206 ad19 (by decide) ft7_3 (((jw_ne e75206 (Or.inl (by decide))).trans ey0)) ?_
            refine ev_iconst ?_
            refine ev_iadd (r := (y0 + 1)) (by unfold w32; omega) ?_
            refine ev_putfG (r := 19) (g75206.lt ad19) (g75206.fam ad19 (by decide)) ft7_3 (fun e => absurd e nz7_3) (fun e => absurd e (by decide)) (fun h75207 e75207 => ?_)
            have g75207 := g75206.told e75207 (by rw [(((jw_ne e75206 (Or.inl (by decide))).trans ey0))]; omega) (by omega) (by omega)
            have k75207 := k75206.wr e75207 rfl
            refine ev_aload_n rfl ?_
            refine g_getv (r := 19) (v := (y0 + 1)) g75207 ad19 (by decide) ft7_3 ((jw_eq e75207)) ?_
            exact ev_ret rfl (by decide) (by decide) ⟨_, rfl, g75207, k75207, by (repeat' split) <;> omega, (((jw_eq e75207))).trans (by (repeat' split) <;> omega)⟩
          · refine ev_aload_n rfl ?_
            refine g_getv (r := 19) (v := y1) g1 ad19 (by decide) ft7_4 (ey1) ?_
            refine ev_istore (L' := [(2, 19), (0, a1), (0, a2), (0, x3), (0, y1)]) (Nat.le_of_ble_eq_true rfl) rfl ?_
            exact ih.2 _ _ _ _ _ g1 k1 (by omega) (by omega) (by omega) (by omega) (by omega) (by omega) (by omega) (by omega) (by omega) (by omega) (by omega) (ey0) (by omega) (by omega) (ey1) (by omega) (by omega) (by omega)
        · refine ev_iinc (w := (x3 + 1)) (L' := [(2, 19), (0, a1), (0, a2), (0, (x3 + 1)), j4]) rfl (by unfold w32; omega) rfl ?_
          refine ev_goto f90_2 ?_
          exact ih.1 _ _ _ _ _ g1 k1 (by omega) (by omega) (by omega) (by omega) (by omega) (by omega) (by omega) (by omega) (by omega) (ey0) (by omega) (by omega) (ey1) (by omega) (by omega) (by omega)
    · intro h1 x3 x4 y0 y1 g1 k1 b0 b1 b2 b3 b4 b5 b6 b7 b8 b9 b10 ey0 ly0 uy0 ey1 ly1 uy1 hm
      refine ev_iload rfl ?_
      refine ev_iload_n rfl ?_
      refine ev_icmple f90_94 (fun c75208 => ?_) (fun c75208 => ?_)
      · refine ev_aload_n rfl ?_
        refine g_getp (r := 19) (c := 20) g1 ad19 (by decide) (by decide) rf19_0 ft7_0 ?_
        refine ev_iload_n rfl ?_
        refine ev_iload_n rfl ?_
        refine g_iast g1 ad20 rt20 (fun _ => rfl) (by omega) (by omega) (by omega) (by omega) (fun h75209 e75209 g75209 => ?_)
        have k75209 := k1.wr e75209 rfl
        refine ev_aload_n rfl ?_
        refine ev_dup (by decide) ?_
        refine g_getv (r := 19) (v := y1) g75209 ad19 (by decide) ft7_4 (((jw_ne e75209 (Or.inl (by decide))).trans ey1)) ?_
        refine ev_iconst ?_
        refine ev_iadd (r := (y1 + 1)) (by unfold w32; omega) ?_
        refine ev_putfG (r := 19) (g75209.lt ad19) (g75209.fam ad19 (by decide)) ft7_4 (fun e => absurd e nz7_4) (fun e => absurd e (by decide)) (fun h75210a e75210a => ?_)
        refine ev_aload_n rfl ?_
        refine ev_getf (r := 19) (v := 21) (by rw [(jwr_ty e75210a).1]; exact g75209.lt ad19) (by rw [(jwr_ty e75210a).2]; exact g75209.fam ad19 (by decide)) ft7_1 ((jw_ne e75210a (Or.inr (by decide))).trans (g75209.pt ad19 (i := 1) (by decide) rf19_1)) ?_
        refine ev_iload_n rfl ?_
        refine ev_iload_n rfl ?_
        refine ev_iastG (r := 21) (j := (x3).toNat) (by rw [(jwr_ty e75210a).1]; exact g75209.lt ad21) (by rw [(jwr_ty e75210a).2]; exact g75209.tg ad21) (by omega) (by rw [(jwr_ty e75210a).2, g75209.ln ad21]; omega) (fun h75210b e75210b => ?_)
        refine ev_aload_n rfl ?_
        refine ev_dup (by decide) ?_
        refine ev_getf (r := 19) (v := y0) (by rw [(jwr_ty e75210b).1, (jwr_ty e75210a).1]; exact g75209.lt ad19) (by rw [(jwr_ty e75210b).2, (jwr_ty e75210a).2]; exact g75209.fam ad19 (by decide)) ft7_3 ((jw_ne e75210b (Or.inl (by decide))).trans ((jw_ne e75210a (Or.inr (by decide))).trans (((jw_ne e75209 (Or.inl (by decide))).trans ey0)))) ?_
        refine ev_iconst ?_
        refine ev_iadd (r := (y0 + 1)) (by unfold w32; omega) ?_
        refine ev_putfG (r := 19) (by rw [(jwr_ty e75210b).1, (jwr_ty e75210a).1]; exact g75209.lt ad19) (by rw [(jwr_ty e75210b).2, (jwr_ty e75210a).2]; exact g75209.fam ad19 (by decide)) ft7_3 (fun e => absurd e nz7_3) (fun e => absurd e (by decide)) (fun h75210c e75210c => ?_)
        have g75210c := g75209.steps e75210a e75210b e75210c (by omega) (by omega) (by omega) (by omega) (by omega)
        have k75210c := ((k75209.wr e75210a rfl).wr e75210b rfl).wr e75210c rfl
        refine ev_aload_n rfl ?_
        refine g_getv (r := 19) (v := (y0 + 1)) g75210c ad19 (by decide) ft7_3 ((jw_eq e75210c)) ?_
        exact ev_ret rfl (by decide) (by decide) ⟨_, rfl, g75210c, k75210c, by (repeat' split) <;> omega, (((jw_eq e75210c))).trans (by (repeat' split) <;> omega)⟩
      · refine ev_aload_n rfl ?_
        refine g_getp (r := 19) (c := 20) g1 ad19 (by decide) (by decide) rf19_0 ft7_0 ?_
        refine ev_iload rfl ?_
        refine ev_aload_n rfl ?_
        refine g_getp (r := 19) (c := 20) g1 ad19 (by decide) (by decide) rf19_0 ft7_0 ?_
        refine ev_iload rfl ?_
        refine ev_iconst ?_
        refine ev_isub (r := (x4 - 1)) (by unfold w32; omega) ?_
        refine g_iald g1 ad20 rt20 (by omega) (by omega) (fun v75211 ev75211 lv75211 uv75211 => ?_)
        refine g_iast g1 ad20 rt20 (fun _ => rfl) (by omega) (by omega) (by omega) (by omega) (fun h75212 e75212 g75212 => ?_)
        have k75212 := k1.wr e75212 rfl
        refine ev_aload_n rfl ?_
        refine g_getp (r := 19) (c := 21) g75212 ad19 (by decide) (by decide) rf19_1 ft7_1 ?_
        refine ev_iload rfl ?_
        refine ev_aload_n rfl ?_
        refine g_getp (r := 19) (c := 21) g75212 ad19 (by decide) (by decide) rf19_1 ft7_1 ?_
        refine ev_iload rfl ?_
        refine ev_iconst ?_
        refine ev_isub (r := (x4 - 1)) (by unfold w32; omega) ?_
        refine g_iald g75212 ad21 rt21 (by omega) (by omega) (fun v75213 ev75213 lv75213 uv75213 => ?_)
        refine g_iast g75212 ad21 rt21 (fun _ => rfl) (by omega) (by omega) (by omega) (by omega) (fun h75214 e75214 g75214 => ?_)
        have k75214 := k75212.wr e75214 rfl
        refine ev_iinc (w := (x4 - 1)) (L' := [(2, 19), (0, a1), (0, a2), (0, x3), (0, (x4 - 1))]) rfl (by unfold w32; omega) rfl ?_
        refine ev_goto f90_50 ?_
        exact ih.2 _ _ _ _ _ g75214 k75214 (by omega) (by omega) (by omega) (by omega) (by omega) (by omega) (by omega) (by omega) (by omega) (by omega) (by omega) (((jw_ne e75214 (Or.inl (by decide))).trans ((jw_ne e75212 (Or.inl (by decide))).trans ey0))) (by omega) (by omega) (((jw_ne e75214 (Or.inl (by decide))).trans ((jw_ne e75212 (Or.inl (by decide))).trans ey1))) (by omega) (by omega) (by omega)
set_option maxHeartbeats 4000000 in
theorem t90 {G : GH} {h : JH} (g : Gd G h) {a1 : Int} (la1 : (-9999) ≤ a1) (ua1 : a1 ≤ 9999) {a2 : Int} (la2 : 0 ≤ a2) (ua2 : a2 ≤ 90) {w0 : Int} (ew0 : h.2.2 19 3 = w0) (lw0 : 0 ≤ w0) (uw0 : w0 ≤ 5) {w1 : Int} (ew1 : h.2.2 19 4 = w1) (lw1 : 0 ≤ w1) (uw1 : w1 ≤ 5) (F0 : ((-w0) + w1) ≤ 0) : jOk 1 0 0 90 [(2, 19), (0, a1), (0, a2)] h (fun v h' => ∃ r : Int, v = some (0, r) ∧ Gd G h' ∧ Kp [(19, 4), (19, 5), (20, 0), (21, 0)] h h' ∧ r = w0 + 1 ∧ h'.2.2 19 3 = w0 + 1) := by
  refine ⟨by decide, by rw [ml90]; exact Nat.le_of_ble_eq_true rfl, ?_⟩
  rw [ml90, pp90]
  show jEv _ none _ c90_0 0 0 _ (c90_0, [(2, 19), (0, a1), (0, a2), (9, 0), (9, 0)], [], h, 0, 0)
  have k0 := Kp.rf [(19, 4), (19, 5), (20, 0), (21, 0)] h
  refine ev_iconst ?_
  refine ev_istore_n (L' := [(2, 19), (0, a1), (0, a2), (0, 0), (9, 0)]) (Nat.le_of_ble_eq_true rfl) rfl ?_
  exact (t90_l la1 ua1 la2 ua2 ew0 lw0 uw0 ew1 lw1 uw1 F0 18).1 _ _ _ _ _ g k0 (by omega) (by omega) (by omega) (by omega) (by omega) (by omega) (by omega) (by omega) (by omega) (ew0) (by omega) (by omega) (ew1) (by omega) (by omega) (by omega)
def stF (f e n : Int) : Int := if -9999 ≤ f ∧ f ≤ 9999 ∧ 0 ≤ e ∧ e ≤ 9 then (if n = 6 then -3 else n + 1) else -1
def stG (f e n : Int) : Int := if -9999 ≤ f ∧ f ≤ 9999 ∧ 0 ≤ e ∧ e ≤ 9 ∧ n ≠ 6 then n + 1 else n
def Cc : List (Nat × Nat) := [(19, 4), (42, 32)]
def Rl (h : JH) : Prop := h.2.2 19 3 = h.2.2 42 31 ∧ True
theorem Rl.fr {h h' : JH} (x : Rl h) (e : ∀ a i, inW Cc a i = true → h'.2.2 a i = h.2.2 a i) : Rl h' := by
  unfold Rl at x ⊢
  rw [e 19 3 rfl, e 42 31 rfl]
  exact x
def dsj (C W : List (Nat × Nat)) : Bool := C.all (fun c => decide (c.1 < 83) && W.all (fun w => w.1 != c.1 || (w.2 != 0 && c.2 != 0 && w.2 != c.2)))
theorem dsj_at {C W : List (Nat × Nat)} (h : dsj C W = true) {a i : Nat} (hc : inW C a i = true) : a < 83 ∧ inW W a i = false := by
  unfold inW at hc
  obtain ⟨c, hm, hq⟩ := List.any_eq_true.mp hc
  have h1 := List.all_eq_true.mp h c hm
  rw [Bool.and_eq_true, decide_eq_true_eq] at h1
  simp only [Bool.or_eq_true, Bool.and_eq_true, beq_iff_eq, decide_eq_true_eq] at hq
  have ha : a < 83 := by omega
  refine ⟨ha, ?_⟩
  unfold inW
  rw [List.any_eq_false]
  intro w hw hx
  have h2 := List.all_eq_true.mp h1.2 w hw
  simp only [Bool.or_eq_true, Bool.and_eq_true, bne_iff_ne] at h2
  simp only [Bool.or_eq_true, Bool.and_eq_true, beq_iff_eq, decide_eq_true_eq] at hx
  omega
theorem Rl.kp {W : List (Nat × Nat)} {h h' : JH} (x : Rl h) (k : Kp W h h') (hd : dsj Cc W = true) : Rl h' := x.fr (fun a i hc => k.v (dsj_at hd hc).2)
theorem Rl.kx {W : List (Nat × Nat)} {h h' : JH} (x : Rl h) (k : Kx W h h') (hd : dsj Cc W = true) (h83 : 83 ≤ h.1) : Rl h' := x.fr (fun a i hc => k.2.2 a i (Nat.lt_of_lt_of_le (dsj_at hd hc).1 h83) (dsj_at hd hc).2)
set_option maxHeartbeats 4000000 in
theorem t179 {G : GH} {h : JH} (g : Gd G h) {a1 : Int} (la1 : (-2147483648) ≤ a1) (ua1 : a1 ≤ 2147483647) {a2 : Int} (la2 : (-2147483648) ≤ a2) (ua2 : a2 ≤ 2147483647) {w0 : Int} (ew0 : h.2.2 19 3 = w0) (lw0 : 0 ≤ w0) (uw0 : w0 ≤ 6) : jOk 2 0 0 179 [(2, 0), (0, a1), (0, a2)] h (fun v h' => ∃ r : Int, v = some (0, r) ∧ Gd G h' ∧ Kp [(19, 4), (19, 5), (20, 0), (21, 0)] h h' ∧ r = stF a1 a2 w0 ∧ h'.2.2 19 3 = stG a1 a2 w0) := by
  refine ⟨by decide, by rw [ml179]; exact Nat.le_of_ble_eq_true rfl, ?_⟩
  rw [ml179, pp179]
  show jEv _ none _ c179_0 0 0 _ (c179_0, [(2, 0), (0, a1), (0, a2)], [], h, 0, 0)
  have k0 := Kp.rf [(19, 4), (19, 5), (20, 0), (21, 0)] h
  refine ev_iload_n rfl ?_
  refine ev_sipush ?_
  refine ev_icmplt f179_24 (fun c75235 => ?_) (fun c75235 => ?_)
  · refine ev_iconst ?_
    exact ev_ret rfl (by decide) (by decide) ⟨_, rfl, g, k0, by (try unfold stF); (try unfold stG); (repeat' split) <;> omega, ((ew0)).trans (by (try unfold stF); (try unfold stG); (repeat' split) <;> omega)⟩
  · refine ev_iload_n rfl ?_
    refine ev_sipush ?_
    refine ev_icmpgt f179_24 (fun c75236 => ?_) (fun c75236 => ?_)
    · refine ev_iconst ?_
      exact ev_ret rfl (by decide) (by decide) ⟨_, rfl, g, k0, by (try unfold stF); (try unfold stG); (repeat' split) <;> omega, ((ew0)).trans (by (try unfold stF); (try unfold stG); (repeat' split) <;> omega)⟩
    · refine ev_iload_n rfl ?_
      refine ev_iflt f179_24 (fun c75237 => ?_) (fun c75237 => ?_)
      · refine ev_iconst ?_
        exact ev_ret rfl (by decide) (by decide) ⟨_, rfl, g, k0, by (try unfold stF); (try unfold stG); (repeat' split) <;> omega, ((ew0)).trans (by (try unfold stF); (try unfold stG); (repeat' split) <;> omega)⟩
      · refine ev_iload_n rfl ?_
        refine ev_bipush ?_
        refine ev_icmple f179_26 (fun c75238 => ?_) (fun c75238 => ?_)
        · refine ev_aload_n rfl ?_
          refine g_getp (r := 0) (c := 19) g ad0 (by decide) (by decide) rf0_4 ft11_4 ?_
          refine ev_in (d := 0) (a := 0) (b := 0) (cd' := c89_0) (m := 1) (L0 := [(2, 19)]) (jcall_v (A := []) (S' := []) (r := 19) rfl (g.lt ad19) (g.tg ad19) (Nat.le_of_ble_eq_true rfl)) (by decide) ml89 pp89 (Nat.le_of_ble_eq_true rfl) rfl (by decide) (by decide) ?_
          refine ev_aload_n rfl ?_
          refine g_getv (r := 19) (v := w0) g ad19 (by decide) ft7_3 (ew0) ?_
          refine ev_bipush ?_
          refine ev_icmpge f89_13 (fun c75239 => ?_) (fun c75239 => ?_)
          · refine ev_iconst ?_
            refine ev_ret rfl (by decide) (by decide) ?_
            show jEv _ _ _ _ _ _ _ (_, [(2, 0), (0, a1), (0, a2)], [(0, 0)], _, _, _)
            refine ev_ifeq f179_51 (fun c75240 => ?_) (fun c75240 => absurd c75240 (by omega))
            refine ev_bipush ?_
            exact ev_ret rfl (by decide) (by decide) ⟨_, rfl, g, k0, by (try unfold stF); (try unfold stG); (repeat' split) <;> omega, ((ew0)).trans (by (try unfold stF); (try unfold stG); (repeat' split) <;> omega)⟩
          · refine ev_iconst ?_
            refine ev_goto f89_14 ?_
            refine ev_ret rfl (by decide) (by decide) ?_
            show jEv _ _ _ _ _ _ _ (_, [(2, 0), (0, a1), (0, a2)], [(0, 1)], _, _, _)
            refine ev_ifeq f179_51 (fun c75241 => absurd c75241 (by omega)) (fun c75241 => ?_)
            refine ev_aload_n rfl ?_
            refine g_getp (r := 0) (c := 19) g ad0 (by decide) (by decide) rf0_4 ft11_4 ?_
            refine ev_iload_n rfl ?_
            refine ev_bipush ?_
            refine ev_iload_n rfl ?_
            refine ev_imul (r := (10 * a2)) (by unfold w32; omega) ?_
            obtain ⟨v75242, ev75242, lv75242, uv75242⟩ := g.rd ad19 (show 4 < 6 by decide) rf19_4
            have tv75242 := g.2.2.2.2.2.2.1
            rw [ev75242, (ew0)] at tv75242
            refine ev_call (jcall_v (A := [(0, (10 * a2)), (0, a1)]) (S' := []) (r := 19) rfl (g.lt ad19) (g.tg ad19) (Nat.le_of_ble_eq_true rfl)) (jOk_le (by decide) (t90 g (by omega) (by omega) (by omega) (by omega) (ew0) (by omega) (by omega) ev75242 (by omega) (by omega) (by omega))) (by decide) (by decide) (fun w75243 h75243 q75243 => ?_)
            obtain ⟨v75244, rfl, g75243, kk75243, f75243, s75243_0⟩ := q75243
            have k75243 := k0.tr kk75243 (by decide)
            show jEv _ _ _ _ _ _ _ (_, [(2, 0), (0, a1), (0, a2)], [(0, v75244)], _, _, _)
            refine ev_goto f179_53 ?_
            exact ev_ret rfl (by decide) (by decide) ⟨_, rfl, g75243, k75243, by (try unfold stF); (try unfold stG); (repeat' split) <;> omega, ((s75243_0)).trans (by (try unfold stF); (try unfold stG); (repeat' split) <;> omega)⟩
        · refine ev_iconst ?_
          exact ev_ret rfl (by decide) (by decide) ⟨_, rfl, g, k0, by (try unfold stF); (try unfold stG); (repeat' split) <;> omega, ((ew0)).trans (by (try unfold stF); (try unfold stG); (repeat' split) <;> omega)⟩
set_option maxHeartbeats 4000000 in
theorem t286 {G : GH} {h : JH} (g : Gd G h) {a1 : Int} (la1 : (-2147483648) ≤ a1) (ua1 : a1 ≤ 2147483647) {a2 : Int} (la2 : (-2147483648) ≤ a2) (ua2 : a2 ≤ 2147483647) {w0 : Int} (ew0 : h.2.2 42 31 = w0) (lw0 : 0 ≤ w0) (uw0 : w0 ≤ 6) : jOk 2 0 0 286 [(2, 42), (0, a1), (0, a2)] h (fun v h' => ∃ r : Int, v = some (0, r) ∧ Gd G h' ∧ Kp [(42, 32), (62, 0), (63, 0)] h h' ∧ r = stF a1 a2 w0 ∧ h'.2.2 42 31 = stG a1 a2 w0) := by
  refine ⟨by decide, by rw [ml286]; exact Nat.le_of_ble_eq_true rfl, ?_⟩
  rw [ml286, pp286]
  show jEv _ none _ c286_0 0 0 _ (c286_0, [(2, 42), (0, a1), (0, a2)], [], h, 0, 0)
  have k0 := Kp.rf [(42, 32), (62, 0), (63, 0)] h
  refine ev_iload_n rfl ?_
  refine ev_sipush ?_
  refine ev_sipush ?_
  refine ev_in (d := 0) (a := 0) (b := 0) (cd' := c242_0) (m := 3) (L0 := [(0, a1), (0, (-9999)), (0, 9999)]) (jcall_s (A := [(0, 9999), (0, (-9999)), (0, a1)]) (S' := []) (by decide) rfl (Nat.le_of_ble_eq_true rfl)) (by decide) ml242 pp242 (Nat.le_of_ble_eq_true rfl) rfl (by decide) (by decide) ?_
  refine ev_iload_n rfl ?_
  refine ev_iload_n rfl ?_
  refine ev_icmplt f242_14 (fun c75273 => ?_) (fun c75273 => ?_)
  · refine ev_iconst ?_
    refine ev_ret rfl (by decide) (by decide) ?_
    show jEv _ _ _ _ _ _ _ (_, [(2, 42), (0, a1), (0, a2)], [(0, 0)], _, _, _)
    refine ev_ifeq f286_23 (fun c75274 => ?_) (fun c75274 => absurd c75274 (by omega))
    refine ev_iconst ?_
    exact ev_ret rfl (by decide) (by decide) ⟨_, rfl, g, k0, by (try unfold stF); (try unfold stG); (repeat' split) <;> omega, ((ew0)).trans (by (try unfold stF); (try unfold stG); (repeat' split) <;> omega)⟩
  · refine ev_iload_n rfl ?_
    refine ev_iload_n rfl ?_
    refine ev_icmpgt f242_14 (fun c75275 => ?_) (fun c75275 => ?_)
    · refine ev_iconst ?_
      refine ev_ret rfl (by decide) (by decide) ?_
      show jEv _ _ _ _ _ _ _ (_, [(2, 42), (0, a1), (0, a2)], [(0, 0)], _, _, _)
      refine ev_ifeq f286_23 (fun c75276 => ?_) (fun c75276 => absurd c75276 (by omega))
      refine ev_iconst ?_
      exact ev_ret rfl (by decide) (by decide) ⟨_, rfl, g, k0, by (try unfold stF); (try unfold stG); (repeat' split) <;> omega, ((ew0)).trans (by (try unfold stF); (try unfold stG); (repeat' split) <;> omega)⟩
    · refine ev_iconst ?_
      refine ev_goto f242_15 ?_
      refine ev_ret rfl (by decide) (by decide) ?_
      show jEv _ _ _ _ _ _ _ (_, [(2, 42), (0, a1), (0, a2)], [(0, 1)], _, _, _)
      refine ev_ifeq f286_23 (fun c75277 => absurd c75277 (by omega)) (fun c75277 => ?_)
      refine ev_iload_n rfl ?_
      refine ev_iconst ?_
      refine ev_bipush ?_
      refine ev_in (d := 0) (a := 0) (b := 0) (cd' := c242_0) (m := 3) (L0 := [(0, a2), (0, 0), (0, 9)]) (jcall_s (A := [(0, 9), (0, 0), (0, a2)]) (S' := []) (by decide) rfl (Nat.le_of_ble_eq_true rfl)) (by decide) ml242 pp242 (Nat.le_of_ble_eq_true rfl) rfl (by decide) (by decide) ?_
      refine ev_iload_n rfl ?_
      refine ev_iload_n rfl ?_
      refine ev_icmplt f242_14 (fun c75278 => ?_) (fun c75278 => ?_)
      · refine ev_iconst ?_
        refine ev_ret rfl (by decide) (by decide) ?_
        show jEv _ _ _ _ _ _ _ (_, [(2, 42), (0, a1), (0, a2)], [(0, 0)], _, _, _)
        refine ev_ifne f286_25 (fun c75279 => absurd c75279 (by omega)) (fun c75279 => ?_)
        refine ev_iconst ?_
        exact ev_ret rfl (by decide) (by decide) ⟨_, rfl, g, k0, by (try unfold stF); (try unfold stG); (repeat' split) <;> omega, ((ew0)).trans (by (try unfold stF); (try unfold stG); (repeat' split) <;> omega)⟩
      · refine ev_iload_n rfl ?_
        refine ev_iload_n rfl ?_
        refine ev_icmpgt f242_14 (fun c75280 => ?_) (fun c75280 => ?_)
        · refine ev_iconst ?_
          refine ev_ret rfl (by decide) (by decide) ?_
          show jEv _ _ _ _ _ _ _ (_, [(2, 42), (0, a1), (0, a2)], [(0, 0)], _, _, _)
          refine ev_ifne f286_25 (fun c75281 => absurd c75281 (by omega)) (fun c75281 => ?_)
          refine ev_iconst ?_
          exact ev_ret rfl (by decide) (by decide) ⟨_, rfl, g, k0, by (try unfold stF); (try unfold stG); (repeat' split) <;> omega, ((ew0)).trans (by (try unfold stF); (try unfold stG); (repeat' split) <;> omega)⟩
        · refine ev_iconst ?_
          refine ev_goto f242_15 ?_
          refine ev_ret rfl (by decide) (by decide) ?_
          show jEv _ _ _ _ _ _ _ (_, [(2, 42), (0, a1), (0, a2)], [(0, 1)], _, _, _)
          refine ev_ifne f286_25 (fun c75282 => ?_) (fun c75282 => absurd c75282 (by omega))
          refine ev_aload_n rfl ?_
          refine g_getv (r := 42) (v := w0) g ad42 (by decide) ft12_31 (ew0) ?_
          refine ev_bipush ?_
          refine ev_icmpne f286_37 (fun c75283 => ?_) (fun c75283 => ?_)
          · refine ev_aload_n rfl ?_
            refine g_getp (r := 42) (c := 62) g ad42 (by decide) (by decide) rf42_32 ft12_32 ?_
            refine ev_aload_n rfl ?_
            refine g_getv (r := 42) (v := w0) g ad42 (by decide) ft12_31 (ew0) ?_
            refine ev_iload_n rfl ?_
            refine g_iast g ad62 rt62 (fun _ => rfl) (by omega) (by omega) (by omega) (by omega) (fun h75284 e75284 g75284 => ?_)
            have k75284 := k0.wr e75284 rfl
            refine ev_aload_n rfl ?_
            refine g_getp (r := 42) (c := 63) g75284 ad42 (by decide) (by decide) rf42_33 ft12_33 ?_
            refine ev_aload_n rfl ?_
            refine g_getv (r := 42) (v := w0) g75284 ad42 (by decide) ft12_31 (((jw_ne e75284 (Or.inl (by decide))).trans ew0)) ?_
            refine ev_iload_n rfl ?_
            refine g_iast g75284 ad63 rt63 (fun _ => rfl) (by omega) (by omega) (by omega) (by omega) (fun h75285 e75285 g75285 => ?_)
            have k75285 := k75284.wr e75285 rfl
            refine ev_aload_n rfl ?_
            refine ev_dup (by decide) ?_
            refine g_getv (r := 42) (v := w0) g75285 ad42 (by decide) ft12_31 (((jw_ne e75285 (Or.inl (by decide))).trans ((jw_ne e75284 (Or.inl (by decide))).trans ew0))) ?_
            refine ev_iconst ?_
            refine ev_iadd (r := (w0 + 1)) (by unfold w32; omega) ?_
            refine g_putf (r := 42) g75285 ad42 (by decide) ft12_31 (by decide) (fun e => absurd e nz12_31) rf42_31 (by decide) (by omega) (by omega) (fun h75286 e75286 g75286 => ?_)
            have k75286 := k75285.wr e75286 rfl
            refine ev_aload_n rfl ?_
            refine g_getv (r := 42) (v := (w0 + 1)) g75286 ad42 (by decide) ft12_31 ((jw_eq e75286)) ?_
            exact ev_ret rfl (by decide) (by decide) ⟨_, rfl, g75286, k75286, by (try unfold stF); (try unfold stG); (repeat' split) <;> omega, (((jw_eq e75286))).trans (by (try unfold stF); (try unfold stG); (repeat' split) <;> omega)⟩
          · refine ev_bipush ?_
            exact ev_ret rfl (by decide) (by decide) ⟨_, rfl, g, k0, by (try unfold stF); (try unfold stG); (repeat' split) <;> omega, ((ew0)).trans (by (try unfold stF); (try unfold stG); (repeat' split) <;> omega)⟩
theorem jn11 : jN 11 = 17 := by decide +kernel
theorem jn12 : jN 12 = 66 := by decide +kernel
theorem ml384 : jML jnM = 4 := by decide +kernel
theorem pp384 : jP jnM = c384_0 := rfl
set_option maxRecDepth 100000 in
theorem jlawN : jchkN jnM = true := by decide +kernel
set_option maxRecDepth 100000 in
theorem f384_18 : jfind c384_0 18 = some c384_18 := rfl
set_option maxRecDepth 100000 in
theorem f384_260 : jfind c384_0 260 = some c384_260 := rfl
set_option maxRecDepth 100000 in
theorem f384_283 : jfind c384_0 283 = some c384_283 := rfl
set_option maxRecDepth 100000 in
theorem f384_316 : jfind c384_0 316 = some c384_316 := rfl
set_option maxRecDepth 100000 in
theorem f384_369 : jfind c384_0 369 = some c384_369 := rfl
set_option maxRecDepth 100000 in
theorem f384_382 : jfind c384_0 382 = some c384_382 := rfl
set_option maxRecDepth 100000 in
theorem f384_405 : jfind c384_0 405 = some c384_405 := rfl
set_option maxRecDepth 100000 in
theorem f384_448 : jfind c384_0 448 = some c384_448 := rfl
set_option maxRecDepth 100000 in
theorem f384_481 : jfind c384_0 481 = some c384_481 := rfl
set_option maxRecDepth 100000 in
theorem f384_494 : jfind c384_0 494 = some c384_494 := rfl
set_option maxRecDepth 100000 in
theorem f384_537 : jfind c384_0 537 = some c384_537 := rfl
set_option maxRecDepth 100000 in
theorem f384_590 : jfind c384_0 590 = some c384_590 := rfl
set_option maxRecDepth 100000 in
theorem f384_603 : jfind c384_0 603 = some c384_603 := rfl
set_option maxRecDepth 100000 in
theorem f384_616 : jfind c384_0 616 = some c384_616 := rfl
set_option maxRecDepth 100000 in
theorem f384_649 : jfind c384_0 649 = some c384_649 := rfl
set_option maxRecDepth 100000 in
theorem f384_682 : jfind c384_0 682 = some c384_682 := rfl
set_option maxRecDepth 100000 in
theorem f384_715 : jfind c384_0 715 = some c384_715 := rfl
set_option maxRecDepth 100000 in
theorem f384_758 : jfind c384_0 758 = some c384_758 := rfl
set_option maxRecDepth 100000 in
theorem f384_801 : jfind c384_0 801 = some c384_801 := rfl
set_option maxRecDepth 100000 in
theorem f384_844 : jfind c384_0 844 = some c384_844 := rfl
set_option maxRecDepth 100000 in
theorem f384_877 : jfind c384_0 877 = some c384_877 := rfl
set_option maxRecDepth 100000 in
theorem f384_930 : jfind c384_0 930 = some c384_930 := rfl
set_option maxRecDepth 100000 in
theorem f384_963 : jfind c384_0 963 = some c384_963 := rfl
set_option maxRecDepth 100000 in
theorem f384_1006 : jfind c384_0 1006 = some c384_1006 := rfl
set_option maxRecDepth 100000 in
theorem f384_1059 : jfind c384_0 1059 = some c384_1059 := rfl
set_option maxRecDepth 100000 in
theorem f384_1082 : jfind c384_0 1082 = some c384_1082 := rfl
set_option maxRecDepth 100000 in
theorem f384_1125 : jfind c384_0 1125 = some c384_1125 := rfl
set_option maxRecDepth 100000 in
theorem f384_1178 : jfind c384_0 1178 = some c384_1178 := rfl
set_option maxRecDepth 100000 in
theorem f384_1201 : jfind c384_0 1201 = some c384_1201 := rfl
set_option maxRecDepth 100000 in
theorem f384_1254 : jfind c384_0 1254 = some c384_1254 := rfl
set_option maxRecDepth 100000 in
theorem f384_1307 : jfind c384_0 1307 = some c384_1307 := rfl
set_option maxRecDepth 100000 in
theorem f384_1340 : jfind c384_0 1340 = some c384_1340 := rfl
set_option maxRecDepth 100000 in
theorem f384_1383 : jfind c384_0 1383 = some c384_1383 := rfl
set_option maxRecDepth 100000 in
theorem f384_1406 : jfind c384_0 1406 = some c384_1406 := rfl
set_option maxRecDepth 100000 in
theorem f384_1429 : jfind c384_0 1429 = some c384_1429 := rfl
set_option maxRecDepth 100000 in
theorem f384_1452 : jfind c384_0 1452 = some c384_1452 := rfl
set_option maxRecDepth 100000 in
theorem f384_1495 : jfind c384_0 1495 = some c384_1495 := rfl
set_option maxRecDepth 100000 in
theorem f384_1518 : jfind c384_0 1518 = some c384_1518 := rfl
set_option maxRecDepth 100000 in
theorem f384_1551 : jfind c384_0 1551 = some c384_1551 := rfl
set_option maxRecDepth 100000 in
theorem f384_1564 : jfind c384_0 1564 = some c384_1564 := rfl
set_option maxRecDepth 100000 in
theorem f384_1597 : jfind c384_0 1597 = some c384_1597 := rfl
set_option maxRecDepth 100000 in
theorem f384_1630 : jfind c384_0 1630 = some c384_1630 := rfl
set_option maxRecDepth 100000 in
theorem f384_1683 : jfind c384_0 1683 = some c384_1683 := rfl
set_option maxRecDepth 100000 in
theorem f384_1726 : jfind c384_0 1726 = some c384_1726 := rfl
set_option maxRecDepth 100000 in
theorem f384_1769 : jfind c384_0 1769 = some c384_1769 := rfl
set_option maxRecDepth 100000 in
theorem f384_1812 : jfind c384_0 1812 = some c384_1812 := rfl
set_option maxRecDepth 100000 in
theorem f384_1855 : jfind c384_0 1855 = some c384_1855 := rfl
set_option maxRecDepth 100000 in
theorem f384_1878 : jfind c384_0 1878 = some c384_1878 := rfl
set_option maxRecDepth 100000 in
theorem f384_1911 : jfind c384_0 1911 = some c384_1911 := rfl
set_option maxRecDepth 100000 in
theorem f384_1954 : jfind c384_0 1954 = some c384_1954 := rfl
set_option maxRecDepth 100000 in
theorem f384_2027 : jfind c384_0 2027 = some c384_2027 := rfl
set_option maxRecDepth 100000 in
theorem f384_2060 : jfind c384_0 2060 = some c384_2060 := rfl
set_option maxRecDepth 100000 in
theorem f384_2123 : jfind c384_0 2123 = some c384_2123 := rfl
set_option maxRecDepth 100000 in
theorem f384_2156 : jfind c384_0 2156 = some c384_2156 := rfl
set_option maxRecDepth 100000 in
theorem f384_2179 : jfind c384_0 2179 = some c384_2179 := rfl
set_option maxRecDepth 100000 in
theorem f384_2185 : jfind c384_0 2185 = some c384_2185 := rfl
