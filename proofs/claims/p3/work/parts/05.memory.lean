def jCh (i : Nat) : List Cond := match i with
  | 0 => k2_sels lw_privs
  | 1 => tables_1_1
  | 2 => tables_1_2
  | 3 => tables_1_3
  | 4 => tables_1_4
  | 5 => tables_1_5
  | 6 => tables_1_6
  | 7 => tables_1_7
  | 8 => tables_1_8
  | 9 => tables_1_9
  | _ => []
def jword (n : Nat) : Option Cond := (jCh (n / 1000))[n % 1000]?
theorem jword_mem {n : Nat} {w : Cond} (h : jword n = some w) : w ∈ lw_tbl := by
  have h1 := List.mem_of_getElem? h
  unfold lw_tbl
  unfold jCh at h1
  split at h1
  · exact List.mem_append_left _ h1
  · exact List.mem_append_right _ (List.mem_append_left _ h1)
  · exact List.mem_append_right _ (List.mem_append_right _ (List.mem_append_left _ h1))
  · exact List.mem_append_right _ (List.mem_append_right _ (List.mem_append_right _ (List.mem_append_left _ h1)))
  · exact List.mem_append_right _ (List.mem_append_right _ (List.mem_append_right _ (List.mem_append_right _ (List.mem_append_left _ h1))))
  · exact List.mem_append_right _ (List.mem_append_right _ (List.mem_append_right _ (List.mem_append_right _ (List.mem_append_right _ (List.mem_append_left _ h1)))))
  · exact List.mem_append_right _ (List.mem_append_right _ (List.mem_append_right _ (List.mem_append_right _ (List.mem_append_right _ (List.mem_append_right _ (List.mem_append_left _ h1))))))
  · exact List.mem_append_right _ (List.mem_append_right _ (List.mem_append_right _ (List.mem_append_right _ (List.mem_append_right _ (List.mem_append_right _ (List.mem_append_right _ (List.mem_append_left _ h1)))))))
  · exact List.mem_append_right _ (List.mem_append_right _ (List.mem_append_right _ (List.mem_append_right _ (List.mem_append_right _ (List.mem_append_right _ (List.mem_append_right _ (List.mem_append_right _ (List.mem_append_left _ h1))))))))
  · exact List.mem_append_right _ (List.mem_append_right _ (List.mem_append_right _ (List.mem_append_right _ (List.mem_append_right _ (List.mem_append_right _ (List.mem_append_right _ (List.mem_append_right _ (List.mem_append_right _ h1))))))))
  · cases h1
def jin (j : Nat) (w : Cond) : Bool := decide (jword j = some w) && goodWord w
theorem jin_mem {j : Nat} {w : Cond} (h : jin j w = true) : w ∈ jTB := by
  simp only [jin, Bool.and_eq_true, decide_eq_true_eq] at h
  exact List.mem_filter.mpr ⟨jword_mem h.1, h.2⟩
def jinN (j : Nat) (w : Cond) : Bool := decide (jword j = some w) && jisN w
theorem jinN_mem {j : Nat} {w : Cond} (h : jinN j w = true) : w ∈ jNW := by
  simp only [jinN, Bool.and_eq_true, decide_eq_true_eq] at h
  exact List.mem_filter.mpr ⟨jword_mem h.1, h.2⟩
theorem jlay_of (ws : List Cond) (ps : List Nat) (hp : ws = ps.filterMap (fun i => jword i)) (h : ws.all goodWord = true) : ∀ w ∈ ws, w ∈ jTB := by
  intro w hw
  have h1 := List.all_eq_true.mp h w hw
  rw [hp] at hw
  obtain ⟨i, -, hi⟩ := List.mem_filterMap.mp hw
  exact List.mem_filter.mpr ⟨jword_mem hi, h1⟩
set_option maxRecDepth 20000 in
theorem jlay0 : ∀ w ∈ u_ws RX0 TX0 3, w ∈ jTB := jlay_of _ [1166, 1168, 1170] (by decide +kernel) (by decide +kernel)
set_option maxRecDepth 20000 in
theorem jlay1 : ∀ w ∈ u_ws RX1 TX1 3, w ∈ jTB := jlay_of _ [3198, 3199, 3200] (by decide +kernel) (by decide +kernel)
set_option maxRecDepth 20000 in
theorem jlay2 : ∀ w ∈ u_ws RX2 TX2 3, w ∈ jTB := jlay_of _ [3208, 3209, 3210] (by decide +kernel) (by decide +kernel)
set_option maxRecDepth 20000 in
theorem jlay3 : ∀ w ∈ u_ws RX3 TX3 3, w ∈ jTB := jlay_of _ [3228, 3229, 3230] (by decide +kernel) (by decide +kernel)
set_option maxRecDepth 20000 in
theorem jlay4 : ∀ w ∈ u_ws RX4 TX4 14, w ∈ jTB := jlay_of _ [3058, 3060, 3062, 3064, 3066, 3068, 3070, 3072, 3074, 3076, 3078, 3080, 3082, 3084] (by decide +kernel) (by decide +kernel)
set_option maxRecDepth 20000 in
theorem jlay5 : ∀ w ∈ u_ws RX5 TX5 15, w ∈ jTB := jlay_of _ [1083, 1085, 1087, 1089, 1091, 1093, 1095, 1097, 1099, 1101, 1103, 1105, 1107, 1109, 1111] (by decide +kernel) (by decide +kernel)
set_option maxRecDepth 20000 in
theorem jlay6 : ∀ w ∈ u_ws RX6 TX6 3, w ∈ jTB := jlay_of _ [3218, 3219, 3220] (by decide +kernel) (by decide +kernel)
set_option maxRecDepth 20000 in
theorem jlay7 : ∀ w ∈ u_ws RX7 TX7 6, w ∈ jTB := jlay_of _ [1130, 1132, 1134, 1136, 1138, 1140] (by decide +kernel) (by decide +kernel)
set_option maxRecDepth 20000 in
theorem jlay8 : ∀ w ∈ u_ws RX8 TX8 3, w ∈ jTB := jlay_of _ [3238, 3239, 4000] (by decide +kernel) (by decide +kernel)
set_option maxRecDepth 20000 in
theorem jlay9 : ∀ w ∈ u_ws RX9 TX9 15, w ∈ jTB := jlay_of _ [1196, 1198, 1200, 1202, 1204, 1206, 1208, 1210, 1212, 1214, 1216, 1218, 1220, 1222, 1224] (by decide +kernel) (by decide +kernel)
set_option maxRecDepth 20000 in
theorem jlay10 : ∀ w ∈ u_ws RX10 TX10 8, w ∈ jTB := jlay_of _ [1041, 1043, 1045, 1047, 1049, 1051, 1053, 1055] (by decide +kernel) (by decide +kernel)
set_option maxRecDepth 20000 in
theorem jlay11 : ∀ w ∈ u_ws RX11 TX11 17, w ∈ jTB := jlay_of _ [2007, 2009, 2011, 2013, 2015, 2017, 2019, 2021, 2023, 2025, 2027, 2029, 2031, 2033, 2035, 2037, 2039] (by decide +kernel) (by decide +kernel)
set_option maxRecDepth 20000 in
theorem jlay12 : ∀ w ∈ u_ws RX12 TX12 66, w ∈ jTB := jlay_of _ [7021, 7023, 7025, 7027, 7029, 7031, 7033, 7035, 7037, 7039, 7041, 7043, 7045, 7047, 7049, 7051, 7053, 7055, 7057, 7059, 7061, 7063, 7065, 7067, 7069, 7071, 7073, 7075, 7077, 7079, 7081, 7083, 7085, 7087, 7089, 7091, 7093, 7095, 7097, 7099, 7101, 7103, 7105, 7107, 7109, 7111, 7113, 7115, 7117, 7119, 7121, 7123, 7125, 7127, 7129, 7131, 7133, 7135, 7137, 7139, 7141, 7143, 7145, 7147, 7149, 7151] (by decide +kernel) (by decide +kernel)
theorem jlays : ∀ (t : Nat) (q : vw_C), vwCl[t]? = some q → ∀ w ∈ u_ws q.1 q.2.1 q.2.2, w ∈ jTB := by
  intro t q hq
  match t, hq with
  | 0, hq => cases hq; exact jlay0
  | 1, hq => cases hq; exact jlay1
  | 2, hq => cases hq; exact jlay2
  | 3, hq => cases hq; exact jlay3
  | 4, hq => cases hq; exact jlay4
  | 5, hq => cases hq; exact jlay5
  | 6, hq => cases hq; exact jlay6
  | 7, hq => cases hq; exact jlay7
  | 8, hq => cases hq; exact jlay8
  | 9, hq => cases hq; exact jlay9
  | 10, hq => cases hq; exact jlay10
  | 11, hq => cases hq; exact jlay11
  | 12, hq => cases hq; exact jlay12
  | t + 13, hq => simp [vwCl] at hq
theorem jarrW (a : ArrayType) (h : jat a < 24) : Cond.arrayClass (newarray.typeOf a) ∈ jTB := by
  cases a <;> simp [jat] at h
  · exact jin_mem (j := 3087) (by decide +kernel)
  · exact jin_mem (j := 1114) (by decide +kernel)
  · exact jin_mem (j := 1058) (by decide +kernel)
  · exact jin_mem (j := 1059) (by decide +kernel)
theorem jcast (t : Nat) (q : vw_C) (hq : vwCl[t]? = some q) (hf : jfam 0 t = true) (h0 : t ≠ 0) : Cond.castable q.1 RX0 ∈ jNW := by
  match t, hq with
  | 1, hq => cases hq; exact jinN_mem (j := 9233) (by decide +kernel)
  | 2, hq => cases hq; exact jinN_mem (j := 9234) (by decide +kernel)
  | 3, hq => cases hq; exact jinN_mem (j := 9236) (by decide +kernel)
  | 6, hq => cases hq; exact jinN_mem (j := 9235) (by decide +kernel)
  | 8, hq => cases hq; exact jinN_mem (j := 9237) (by decide +kernel)
  | 0, _ => exact absurd rfl h0
  | 4, _ => cases hf
  | 5, _ => cases hf
  | 7, _ => cases hf
  | 9, _ => cases hf
  | 10, _ => cases hf
  | 11, _ => cases hf
  | 12, _ => cases hf
  | t + 13, hq => simp [vwCl] at hq
/-! memory: the simple machine's loads and stores are the real one's -/
def jTy (k : Nat) : Nat → FieldType := match k with
  | 0 => tyX0
  | 1 => tyX1
  | 2 => tyX2
  | 3 => tyX3
  | 4 => tyX4
  | 5 => tyX5
  | 6 => tyX6
  | 7 => tyX7
  | 8 => tyX8
  | 9 => tyX9
  | 10 => tyX10
  | 11 => tyX11
  | _ => tyX12
theorem jcl_lt {t : Nat} {q : vw_C} (h : vwCl[t]? = some q) : t < 13 := (List.getElem?_eq_some_iff.mp h).1
theorem jcl_some {t : Nat} (h : t < 13) : ∃ q, vwCl[t]? = some q := ⟨vwCl[t], List.getElem?_eq_getElem h⟩
theorem jcl_N {t : Nat} {q : vw_C} (h : vwCl[t]? = some q) : jN t = q.2.2 := by simp only [jN, h]
theorem jTy_ok : ∀ (t : Nat) (q : vw_C), vwCl[t]? = some q → ∀ k, k < q.2.2 → parseFieldDescriptor (q.2.1 k).2.2.1 = some (jTy t k) := by
  intro t q hq
  match t, hq with
  | 0, hq => cases hq; exact tyX0_ok
  | 1, hq => cases hq; exact tyX1_ok
  | 2, hq => cases hq; exact tyX2_ok
  | 3, hq => cases hq; exact tyX3_ok
  | 4, hq => cases hq; exact tyX4_ok
  | 5, hq => cases hq; exact tyX5_ok
  | 6, hq => cases hq; exact tyX6_ok
  | 7, hq => cases hq; exact tyX7_ok
  | 8, hq => cases hq; exact tyX8_ok
  | 9, hq => cases hq; exact tyX9_ok
  | 10, hq => cases hq; exact tyX10_ok
  | 11, hq => cases hq; exact tyX11_ok
  | 12, hq => cases hq; exact tyX12_ok
  | t + 13, hq => simp [vwCl] at hq
theorem jNm_ok : ∀ (t : Nat) (q : vw_C), vwCl[t]? = some q → ∀ a, a < q.2.2 → ∀ b, b < q.2.2 → a ≠ b → (q.2.1 a).2.1 ≠ (q.2.1 b).2.1 := by
  intro t q hq
  match t, hq with
  | 0, hq => cases hq; exact nmX0
  | 1, hq => cases hq; exact nmX1
  | 2, hq => cases hq; exact nmX2
  | 3, hq => cases hq; exact nmX3
  | 4, hq => cases hq; exact nmX4
  | 5, hq => cases hq; exact nmX5
  | 6, hq => cases hq; exact nmX6
  | 7, hq => cases hq; exact nmX7
  | 8, hq => cases hq; exact nmX8
  | 9, hq => cases hq; exact nmX9
  | 10, hq => cases hq; exact nmX10
  | 11, hq => cases hq; exact nmX11
  | 12, hq => cases hq; exact nmX12
  | t + 13, hq => simp [vwCl] at hq
/-- a field's type and its kind -/
def jtk (ty : FieldType) (n : Nat) : Bool := match ty with
  | .int => n == 0
  | .long => n == 1
  | .boolean => n == 3
  | .object _ => n == 2
  | .array _ => n == 2
  | _ => false
set_option maxRecDepth 20000 in
theorem jTy_kind : ∀ t, t < 13 → ∀ k, k < jN t → jtk (jTy t k) (jfty t k) = true := by decide +kernel
theorem jfits {B b : Nat} {ty : FieldType} {n : Nat} {v : Int} (h : jtk ty n = true) (hv : jok (jsk n, v)) (hz : n = 3 → v = 0 ∨ v = 1) : narrow ty (jv B b (jsk n, v)) = jv B b (jsk n, v) ∧ fits ty (jv B b (jsk n, v)) = true := by
  cases ty with
  | int =>
    have e : n = 0 := by simpa [jtk] using h
    subst e
    exact ⟨rfl, rfl⟩
  | long =>
    have e : n = 1 := by simpa [jtk] using h
    subst e
    exact ⟨rfl, rfl⟩
  | boolean =>
    have e : n = 3 := by simpa [jtk] using h
    subst e
    rcases hz rfl with e | e <;> subst e
    · exact ⟨(by decide : Value.int (Int32.ofInt 0 &&& 1) = .int (Int32.ofInt 0)), (by decide : fits .boolean (.int (Int32.ofInt 0)) = true)⟩
    · exact ⟨(by decide : Value.int (Int32.ofInt 1 &&& 1) = .int (Int32.ofInt 1)), (by decide : fits .boolean (.int (Int32.ofInt 1)) = true)⟩
  | object C =>
    have e : n = 2 := by simpa [jtk] using h
    subst e
    show narrow (.object C) (jv B b (2, v)) = jv B b (2, v) ∧ fits (.object C) (jv B b (2, v)) = true
    unfold jv
    simp only
    split
    · exact ⟨rfl, rfl⟩
    · split <;> exact ⟨rfl, rfl⟩
  | array C =>
    have e : n = 2 := by simpa [jtk] using h
    subst e
    show narrow (.array C) (jv B b (2, v)) = jv B b (2, v) ∧ fits (.array C) (jv B b (2, v)) = true
    unfold jv
    simp only
    split
    · exact ⟨rfl, rfl⟩
    · split <;> exact ⟨rfl, rfl⟩
  | _ => simp [jtk] at h
theorem jV_upd (B b t k : Nat) (f : Nat → Int) (x : Int) (j : Nat) : updV (jV B b t f) k (jv B b (jfkd t k, x)) j = jV B b t (fun i => if i = k then x else f i) j := by
  unfold updV jV
  by_cases h : j = k
  · subst h
    simp
  · simp [h]
theorem jwr_at (h : JH) (a i : Nat) (v : Int) (k : Nat) : (jwr h a i v).2.2 k = if k = a then (fun j => if j = i then v else h.2.2 k j) else h.2.2 k := by
  funext j
  unfold jwr
  by_cases e : k = a
  · simp [e]
  · simp [e]
section JM
variable {p : Program} {l : Launch} {e : Env} {R : Room} {s : State} {m : MethodId} {args : Array Value} {below : List Frame} {meth : Method} {c : Code} {Q : State → Prop} {D : va_G} {cA : Nat → ClassId} {B b : Nat} {xl : Option Nat} {xs : Nat → Int} {cc : ByteArray} {own : String}
/-- a store into one cell: the other cells are as they were -/
theorem jHp.wr {H H1 : Heap} {h : JH} {a i : Nat} {x : Int} (hH : jHp D cA B b H h) (hz : H1.size = H.size) (ho : ∀ q : Nat, q ≠ B + a → H1[q]? = H[q]?) (hc : jcell D cA B b H1 a (h.2.1 a).1 (h.2.1 a).2 (fun j => if j = i then x else h.2.2 a j)) : jHp D cA B b H1 (jwr h a i x) := by
  refine ⟨hz.trans hH.1, fun k hk => ?_⟩
  show jcell D cA B b H1 k (h.2.1 k).1 (h.2.1 k).2 ((jwr h a i x).2.2 k)
  rw [jwr_at]
  by_cases e : k = a
  · subst e
    rw [if_pos rfl]
    exact hc
  · rw [if_neg e]
    exact (hH.2 k hk).kept (ho _ (by omega))
theorem jcok_set {t n i : Nat} {f : Nat → Int} {x : Int} (h : ∀ j, j < n → jcok t j (f j)) (hx : jcok t i x) : ∀ j, j < n → jcok t j ((fun j => if j = i then x else f j) j) := by
  intro j hj
  by_cases e : j = i
  · subst e
    simpa using hx
  · simpa [e] using h j hj
theorem jS_put {H H1 : Heap} {locs : List Loc} {a k : Nat} (hS : va_S (fun q => B ≤ q) s.heap H locs) (z : H1.size = H.size) (oq : ∀ q : Nat, q ≠ B + a → H1[q]? = H[q]?) : va_S (fun q => B ≤ q) s.heap H1 (locs ++ [⟨B + a, k⟩]) := hS.put z oq (Nat.le_add_right _ _)
theorem jx_getf (hx : p.tables.exec = Jvm.exec) (hb : c.code = cc) (ho : s.vm.findClass own = some m.cls) (hts : ∀ w ∈ jTB, w.before args s = true) (hK : jK D cA s) {pc : Nat} {L S : List AV} {h : JH} {cu su k x : Nat} {r : Int} {ref : String} {q : vw_C} (h0 : 0 ≤ r) (hlt : r.toNat < h.1) (hq : vwCl[(h.2.1 r.toNat).1]? = some q) (hk : k < q.2.2)
    (hl : (Cond.fieldLink own x ref (q.2.1 k).2.1 (q.2.1 k).2.2.1).before args s = true) (hsame : ref = (q.2.1 k).1 ∨ (Cond.sameField ref (q.2.1 k).1 (q.2.1 k).2.1 (q.2.1 k).2.2.1).before args s = true) (hd : decode cc pc = .ok (.getfield x, 3))
    (kk : jXW p l e R s m args below meth c Q D cA B b (pc + 3) L ((jfkd (h.2.1 r.toNat).1 k, h.2.2 r.toNat k) :: S) h cu su) : jXW p l e R s m args below meth c Q D cA B b pc L ((2, r) :: S) h cu su := by
  intro H locs ls hH hS hL hs
  obtain ⟨g1, g3⟩ := jms1 hs
  obtain ⟨hc1, hc2⟩ := hH.2 _ hlt
  have ht := jcl_lt hq
  have hN := jcl_N hq
  rcases hc2 with ⟨-, hn, hob⟩ | ⟨z, -⟩
  · rw [List.map_cons, jv_r B b h0]
    obtain ⟨cell, q1, q2, q3, q4⟩ := hob
    obtain ⟨hSl, hfc, kC, hkC, hkind⟩ := hK.1 _ _ hq
    obtain ⟨cf, kf, fi, f, hi, hsl⟩ := hSl k hk
    have hlay := u_lays hts (jlays _ _ hq) hk
    have hi' : s.fieldFound? ref (q.2.1 k).2.1 (q.2.1 k).2.2.1 = some (cf, kf, fi, f) := by
      rcases hsame with e | e
      · rw [e]; exact hi
      · exact u_same e _ hi
    have hkn : k < (h.2.1 r.toNat).2 := by rw [hn, hN]; exact hk
    refine W.getf hx hb ho hl hi' (u_facts hfc hkC hlay hi).1 q1 (by rw [q3]; exact fun h => by cases h) (v := jV B b (h.2.1 r.toNat).1 (h.2.2 r.toNat) k) (by rw [hsl, q4 k hkn]) rfl rfl hd ?_
    exact kk H locs ls hH hS hL (jmc (hc1 k hkn).1 g3)
  · omega
theorem jx_putf (hx : p.tables.exec = Jvm.exec) (hb : c.code = cc) (ho : s.vm.findClass own = some m.cls) (hts : ∀ w ∈ jTB, w.before args s = true) (hK : jK D cA s) {pc : Nat} {L S : List AV} {h : JH} {cu su k x : Nat} {r v : Int} {ref : String} {q : vw_C} (h0 : 0 ≤ r) (hlt : r.toNat < h.1) (hq : vwCl[(h.2.1 r.toNat).1]? = some q) (hk : k < q.2.2)
    (hl : (Cond.fieldLink own x ref (q.2.1 k).2.1 (q.2.1 k).2.2.1).before args s = true) (hsame : ref = (q.2.1 k).1 ∨ (Cond.sameField ref (q.2.1 k).1 (q.2.1 k).2.1 (q.2.1 k).2.2.1).before args s = true) (hfin : (q.2.1 k).2.2.2 = false ∨ (meth.name = "<init>" ∧ (q.2.1 k).1 = own)) (hz : jfty (h.2.1 r.toNat).1 k = 3 → v = 0 ∨ v = 1) (hv2 : jfkd (h.2.1 r.toNat).1 k = 2 → v ≠ -2) (hd : decode cc pc = .ok (.putfield x, 3))
    (kk : jXW p l e R s m args below meth c Q D cA B b (pc + 3) L S (jwr h r.toNat k v) cu su) : jXW p l e R s m args below meth c Q D cA B b pc L ((jfkd (h.2.1 r.toNat).1 k, v) :: (2, r) :: S) h cu su := by
  intro H locs ls hH hS hL hs
  obtain ⟨g1, g2, g3⟩ := jms2 hs
  obtain ⟨hc1, hc2⟩ := hH.2 _ hlt
  have ht := jcl_lt hq
  have hN := jcl_N hq
  rcases hc2 with ⟨-, hn, hob⟩ | ⟨z, -⟩
  · rw [List.map_cons, List.map_cons, jv_r B b h0]
    obtain ⟨cell, q1, q2, q3, q4⟩ := hob
    obtain ⟨hSl, hfc, kC, hkC, hkind⟩ := hK.1 _ _ hq
    obtain ⟨cf, kf, fi, f, hi, hsl⟩ := hSl k hk
    have hin := jlays _ _ hq
    have hkn : k < (h.2.1 r.toNat).2 := by rw [hn, hN]; exact hk
    have hlay := hts _ (hin _ (u_in_lay hk))
    have hst := (u_facts hfc hkC (u_lays hts hin hk) hi).1
    have hi' : s.fieldFound? ref (q.2.1 k).2.1 (q.2.1 k).2.2.1 = some (cf, kf, fi, f) := by
      rcases hsame with e | e
      · rw [e]; exact hi
      · exact u_same e _ hi
    have t20 : (h.2.1 r.toNat).1 < 20 := by omega
    have hkd : jfkd (h.2.1 r.toNat).1 k = jsk (jfty (h.2.1 r.toNat).1 k) := by unfold jfkd; rw [if_pos t20]
    have hfit := jfits (B := B) (b := b) (v := v) (jTy_kind _ ht k (by rw [hN]; exact hk)) (by rw [← hkd]; exact g1) hz
    rw [← hkd] at hfit
    have hap := va_apart (own := own) hts hin (jTy (h.2.1 r.toNat).1) (jTy_ok _ _ hq) (jNm_ok _ _ hq) (D := D) (cl := vwCl) (tys := []) ⟨hK.1, fun k q h => by simp at h⟩ hq
    have key : ∀ H' : Heap, H'[B + r.toNat]? = some (cell.setSlot f.slot (jv B b (jfkd (h.2.1 r.toNat).1 k, v))) → H'.size = H.size → (∀ q, q ≠ B + r.toNat → H'[q]? = H[q]?) → W p l e R s m args below meth c H' (locs ++ [⟨B + r.toNat, f.slot⟩]) cu su Q (F0 m (pc + 3) ls (S.map (jv B b))) := by
      intro H' e1 e2 e3
      rw [hsl] at e1 ⊢
      refine kk H' _ ls (hH.wr e2 e3 ⟨jcok_set hc1 ⟨g1, fun _ => hz, fun e => by omega, fun e => by omega, hv2⟩, Or.inl ⟨ht, hn, ?_⟩⟩) (jS_put hS e2 e3) hL g3
      refine t_OB.to (V := updV (jV B b (h.2.1 r.toNat).1 (h.2.2 r.toNat)) k (jv B b (jfkd (h.2.1 r.toNat).1 k, v))) ⟨_, e1, q2, q3, ?_⟩ (fun j _ => jV_upd B b _ k _ v j)
      rw [hn, hN] at q4 ⊢
      exact t_set q4 hap hk _
    unfold u_lay at hlay
    by_cases hf : (q.2.1 k).2.2.2 = true
    · rw [if_pos hf] at hlay
      rcases hfin with e | ⟨e4, e5⟩
      · rw [hf] at e; cases e
      · have hcf : m.cls = cf := by
          obtain ⟨_, _, c', _, _, _, -, -, hf', -, -, -, hown2, -⟩ := Cond.laysFinal_spec hlay
          have e1 : c' = cf := by have := hi.symm.trans hf'; simp at this; exact this.1.symm
          rw [e5] at hown2
          rw [← e1]; exact Option.some.inj (ho.symm.trans hown2)
        have h6 := u_fits hfc hkC hkind (Or.inr hlay) hi (jTy_ok _ _ hq k hk) hfit.1 hfit.2
        exact W.putFinK hx hb ho hl hi' hst hcf e4 (by rw [q2]; exact h6) q1 q3 (by rw [hsl]; exact k2_hasslot (q4 k hkn)) rfl rfl hd key
    · rw [if_neg hf] at hlay
      have h6 := u_store hfc hkC hkind hlay hi (jTy_ok _ _ hq k hk) hfit.1 hfit.2
      exact W.putK hx hb (f := f) ⟨ho, hl, ⟨_, _, _, hi'⟩, hst⟩ (by rw [q2]; exact h6) q1 q3 (by rw [hsl]; exact k2_hasslot (q4 k hkn)) rfl rfl hd key
  · omega
/-- an array cell as the heap has it -/
theorem jarr {H : Heap} {h : JH} {a t : Nat} (hH : jHp D cA B b H h) (ha : a < h.1) (ht : (h.2.1 a).1 = t) (h20 : 20 ≤ t) : t ≤ 25 ∧ H[B + a]? = some (arrV (cA t) (h.2.1 a).2 (jV B b t (h.2.2 a))) ∧ ∀ j, j < (h.2.1 a).2 → jcok t j (h.2.2 a j) := by
  obtain ⟨hc1, hc2⟩ := hH.2 _ ha
  rw [ht] at hc1 hc2
  rcases hc2 with ⟨z, -⟩ | ⟨-, h1, h2⟩
  · omega
  · exact ⟨h1, h2, hc1⟩
theorem jx_iald (hx : p.tables.exec = Jvm.exec) (hb : c.code = cc) (hK : jK D cA s) {pc : Nat} {L S : List AV} {h : JH} {cu su : Nat} {r i : Int} (h0 : 0 ≤ r) (hlt : r.toNat < h.1) (ht : (h.2.1 r.toNat).1 = 20) (hi0 : 0 ≤ i) (hi : i.toNat < (h.2.1 r.toNat).2) (hd : decode cc pc = .ok (.iaload, 1)) (kk : jXW p l e R s m args below meth c Q D cA B b (pc + 1) L ((0, h.2.2 r.toNat i.toNat) :: S) h cu su) : jXW p l e R s m args below meth c Q D cA B b pc L ((0, i) :: (2, r) :: S) h cu su := by
  intro H locs ls hH hS hL hs
  obtain ⟨g1, g2, g3⟩ := jms2 hs
  have gi := jok_i.mp g1
  obtain ⟨-, ha, hc⟩ := jarr hH hlt ht (by omega)
  rw [List.map_cons, List.map_cons, jv_r B b h0, jv_i]
  refine W.iald (v := jV B b 20 (h.2.2 r.toNat) i.toNat) hx hb ha ((hK.2.1 20 (by omega) (by omega)).1 _ _) (fun q => by cases q) (by rw [arrV_size]; exact j32_vin hi0 gi.2 hi) (by rw [j32_clamp hi0 gi.2, arrV_read _ _ hi]) rfl rfl hd ?_
  exact kk H locs ls hH hS hL (jmc (hc _ hi).1 g3)
theorem jx_lald (hx : p.tables.exec = Jvm.exec) (hb : c.code = cc) (hK : jK D cA s) {pc : Nat} {L S : List AV} {h : JH} {cu su : Nat} {r i : Int} (h0 : 0 ≤ r) (hlt : r.toNat < h.1) (ht : (h.2.1 r.toNat).1 = 21) (hi0 : 0 ≤ i) (hi : i.toNat < (h.2.1 r.toNat).2) (hd : decode cc pc = .ok (.laload, 1)) (kk : jXW p l e R s m args below meth c Q D cA B b (pc + 1) L ((1, h.2.2 r.toNat i.toNat) :: S) h cu su) : jXW p l e R s m args below meth c Q D cA B b pc L ((0, i) :: (2, r) :: S) h cu su := by
  intro H locs ls hH hS hL hs
  obtain ⟨g1, g2, g3⟩ := jms2 hs
  have gi := jok_i.mp g1
  obtain ⟨-, ha, hc⟩ := jarr hH hlt ht (by omega)
  rw [List.map_cons, List.map_cons, jv_r B b h0, jv_i]
  refine W.lald (v := jV B b 21 (h.2.2 r.toNat) i.toNat) hx hb ha ((hK.2.1 21 (by omega) (by omega)).1 _ _) (fun q => by cases q) (by rw [arrV_size]; exact j32_vin hi0 gi.2 hi) (by rw [j32_clamp hi0 gi.2, arrV_read _ _ hi]) rfl rfl hd ?_
  exact kk H locs ls hH hS hL (jmc (hc _ hi).1 g3)
theorem jx_bald (hx : p.tables.exec = Jvm.exec) (hb : c.code = cc) (hK : jK D cA s) {pc : Nat} {L S : List AV} {h : JH} {cu su : Nat} {r i : Int} (h0 : 0 ≤ r) (hlt : r.toNat < h.1) (ht : (h.2.1 r.toNat).1 = 22) (hi0 : 0 ≤ i) (hi : i.toNat < (h.2.1 r.toNat).2) (hd : decode cc pc = .ok (.baload, 1)) (kk : jXW p l e R s m args below meth c Q D cA B b (pc + 1) L ((0, h.2.2 r.toNat i.toNat) :: S) h cu su) : jXW p l e R s m args below meth c Q D cA B b pc L ((0, i) :: (2, r) :: S) h cu su := by
  intro H locs ls hH hS hL hs
  obtain ⟨g1, g2, g3⟩ := jms2 hs
  have gi := jok_i.mp g1
  obtain ⟨-, ha, hc⟩ := jarr hH hlt ht (by omega)
  rw [List.map_cons, List.map_cons, jv_r B b h0, jv_i]
  refine W.bald (v := jV B b 22 (h.2.2 r.toNat) i.toNat) hx hb ha ((hK.2.1 22 (by omega) (by omega)).1 _ _) (fun q => by cases q) (by rw [arrV_size]; exact j32_vin hi0 gi.2 hi) (by rw [j32_clamp hi0 gi.2, arrV_read _ _ hi]) rfl rfl hd ?_
  exact kk H locs ls hH hS hL (jmc (hc _ hi).1 g3)
theorem jx_zald (hx : p.tables.exec = Jvm.exec) (hb : c.code = cc) (hK : jK D cA s) {pc : Nat} {L S : List AV} {h : JH} {cu su : Nat} {r i : Int} (h0 : 0 ≤ r) (hlt : r.toNat < h.1) (ht : (h.2.1 r.toNat).1 = 23) (hi0 : 0 ≤ i) (hi : i.toNat < (h.2.1 r.toNat).2) (hd : decode cc pc = .ok (.baload, 1)) (kk : jXW p l e R s m args below meth c Q D cA B b (pc + 1) L ((0, h.2.2 r.toNat i.toNat) :: S) h cu su) : jXW p l e R s m args below meth c Q D cA B b pc L ((0, i) :: (2, r) :: S) h cu su := by
  intro H locs ls hH hS hL hs
  obtain ⟨g1, g2, g3⟩ := jms2 hs
  have gi := jok_i.mp g1
  obtain ⟨-, ha, hc⟩ := jarr hH hlt ht (by omega)
  rw [List.map_cons, List.map_cons, jv_r B b h0, jv_i]
  refine W.zald (v := jV B b 23 (h.2.2 r.toNat) i.toNat) hx hb ha ((hK.2.1 23 (by omega) (by omega)).1 _ _) (fun q => by cases q) (by rw [arrV_size]; exact j32_vin hi0 gi.2 hi) (by rw [j32_clamp hi0 gi.2, arrV_read _ _ hi]) rfl rfl hd ?_
  exact kk H locs ls hH hS hL (jmc (hc _ hi).1 g3)
theorem jx_aald (hx : p.tables.exec = Jvm.exec) (hb : c.code = cc) (hK : jK D cA s) {pc t : Nat} {L S : List AV} {h : JH} {cu su : Nat} {r i : Int} (h0 : 0 ≤ r) (hlt : r.toNat < h.1) (ht : (h.2.1 r.toNat).1 = t) (ht2 : t = 24 ∨ t = 25) (hi0 : 0 ≤ i) (hi : i.toNat < (h.2.1 r.toNat).2) (hd : decode cc pc = .ok (.aaload, 1)) (kk : jXW p l e R s m args below meth c Q D cA B b (pc + 1) L ((2, h.2.2 r.toNat i.toNat) :: S) h cu su) : jXW p l e R s m args below meth c Q D cA B b pc L ((0, i) :: (2, r) :: S) h cu su := by
  intro H locs ls hH hS hL hs
  obtain ⟨g1, g2, g3⟩ := jms2 hs
  have gi := jok_i.mp g1
  obtain ⟨-, ha, hc⟩ := jarr hH hlt ht (by omega)
  have hkd : jfkd t i.toNat = 2 := by rcases ht2 with e | e <;> subst e <;> rfl
  have hrt : (jty t).isReference = true := by rcases ht2 with e | e <;> subst e <;> rfl
  rw [List.map_cons, List.map_cons, jv_r B b h0, jv_i]
  refine W.aald (v := jV B b t (h.2.2 r.toNat) i.toNat) hx hb ha ((hK.2.1 t (by omega) (by omega)).1 _ _) hrt (fun q => by cases q) (by rw [arrV_size]; exact j32_vin hi0 gi.2 hi) (by rw [j32_clamp hi0 gi.2, arrV_read _ _ hi]) rfl rfl hd ?_
  have hk := kk H locs ls hH hS hL (jmc (by have := (hc _ hi).1; rw [hkd] at this; exact this) g3)
  unfold jV
  rw [hkd]
  exact hk
theorem jx_sald (hx : p.tables.exec = Jvm.exec) (hb : c.code = cc) (hKp : jKp D cA B b xl xs s s.heap) (hB : B ≤ s.heap.size) {pc : Nat} {L S : List AV} {h : JH} {cu su : Nat} {i : Int} (hi0 : 0 ≤ i) (hi : jxin xl i.toNat = true) (hd : decode cc pc = .ok (.iaload, 1)) (kk : jXW p l e R s m args below meth c Q D cA B b (pc + 1) L ((0, xs i.toNat) :: S) h cu su) : jXW p l e R s m args below meth c Q D cA B b pc L ((0, i) :: (2, -2) :: S) h cu su := by
  intro H locs ls hH hS hL hs
  obtain ⟨g1, g2, g3⟩ := jms2 hs
  have gi := jok_i.mp g1
  have hbl : b < s.heap.size := Nat.lt_of_lt_of_le hKp.2.1 hB
  cases hxl : xl with
  | none => rw [hxl] at hi; cases hi
  | some m' =>
    obtain ⟨hX, hr, -⟩ := hKp.2.2 m' hxl
    rw [hxl] at hi
    have hi' : i.toNat < m' := by simpa [jxin] using hi
    have hk := kk H locs ls hH hS hL (jmc (jok_i.mpr (hr _)) g3)
    refine va_sld hx hb hX hbl (Nat.not_le.mpr hKp.2.1) hS (j32_vin hi0 gi.2 hi') hd ?_
    rw [j32_clamp hi0 gi.2]
    exact hk
theorem jx_saln (hx : p.tables.exec = Jvm.exec) (hb : c.code = cc) (hKp : jKp D cA B b xl xs s s.heap) (hB : B ≤ s.heap.size) {pc m' : Nat} {L S : List AV} {h : JH} {cu su : Nat} (hxl : xl = some m') (hd : decode cc pc = .ok (.arraylength, 1)) (kk : jXW p l e R s m args below meth c Q D cA B b (pc + 1) L ((0, (m' : Int)) :: S) h cu su) : jXW p l e R s m args below meth c Q D cA B b pc L ((2, -2) :: S) h cu su := by
  intro H locs ls hH hS hL hs
  obtain ⟨g2, g3⟩ := jms1 hs
  have hbl : b < s.heap.size := Nat.lt_of_lt_of_le hKp.2.1 hB
  obtain ⟨hX, hr, hn⟩ := hKp.2.2 m' hxl
  have hk := kk H locs ls hH hS hL (jmc (jok_i.mpr (by omega)) g3)
  refine va_slen hx hb hX hbl (Nat.not_le.mpr hKp.2.1) hS hd ?_
  rw [← Int32.ofInt_eq_ofNat]
  exact hk
theorem jx_aln (hx : p.tables.exec = Jvm.exec) (hb : c.code = cc) (hK : jK D cA s) {pc : Nat} {L S : List AV} {h : JH} {cu su : Nat} {r : Int} (h0 : 0 ≤ r) (hlt : r.toNat < h.1) (h20 : 20 ≤ (h.2.1 r.toNat).1) (hn : (h.2.1 r.toNat).2 < 2147483648) (hd : decode cc pc = .ok (.arraylength, 1)) (kk : jXW p l e R s m args below meth c Q D cA B b (pc + 1) L ((0, ((h.2.1 r.toNat).2 : Int)) :: S) h cu su) : jXW p l e R s m args below meth c Q D cA B b pc L ((2, r) :: S) h cu su := by
  intro H locs ls hH hS hL hs
  obtain ⟨g2, g3⟩ := jms1 hs
  obtain ⟨h25, ha, hc⟩ := jarr hH hlt rfl h20
  have hk := kk H locs ls hH hS hL (jmc (jok_i.mpr (by omega)) g3)
  rw [List.map_cons, jv_r B b h0]
  refine W.alen (n := Int32.ofNat (h.2.1 r.toNat).2) hx hb ha ((hK.2.1 _ h20 h25).1 _ _) (by rw [arrV_size] <;> rfl) rfl rfl hd ?_
  rw [← Int32.ofInt_eq_ofNat]
  exact hk
theorem jarr_upd {t n i : Nat} {f : Nat → Int} {x : Int} {v : Value} (hv : v = jv B b (jfkd t i, x)) (cI : ClassId) : (arrV cI n (jV B b t f)).setSlot i v = arrV cI n (jV B b t (fun j => if j = i then x else f j)) := by
  subst hv
  rw [arrV_store]
  congr 1
  funext j
  exact jV_upd B b t i f x j
theorem jx_iast (hx : p.tables.exec = Jvm.exec) (hb : c.code = cc) (hK : jK D cA s) {pc : Nat} {L S : List AV} {h : JH} {cu su : Nat} {r i v : Int} (h0 : 0 ≤ r) (hlt : r.toNat < h.1) (ht : (h.2.1 r.toNat).1 = 20) (hi0 : 0 ≤ i) (hi : i.toNat < (h.2.1 r.toNat).2) (hd : decode cc pc = .ok (.iastore, 1)) (kk : jXW p l e R s m args below meth c Q D cA B b (pc + 1) L S (jwr h r.toNat i.toNat v) cu su) : jXW p l e R s m args below meth c Q D cA B b pc L ((0, v) :: (0, i) :: (2, r) :: S) h cu su := by
  intro H locs ls hH hS hL hs
  obtain ⟨g1, hs⟩ := jms1 hs
  obtain ⟨g4, g2, g3⟩ := jms2 hs
  have gi := jok_i.mp g4
  obtain ⟨-, ha, hc⟩ := jarr hH hlt ht (by omega)
  rw [List.map_cons, List.map_cons, List.map_cons, jv_r B b h0, jv_i, jv_i]
  refine W.iast hx hb ha ((hK.2.1 20 (by omega) (by omega)).1 _ _) (fun q => by cases q) (by rw [arrV_size]; exact j32_vin hi0 gi.2 hi) rfl rfl hd fun H1 e z oq => ?_
  rw [j32_clamp hi0 gi.2] at e ⊢
  refine kk H1 _ ls (hH.wr z oq ?_) (jS_put hS z oq) hL g3
  rw [ht]
  exact ⟨jcok_set hc ⟨g1, fun q => by omega, fun q => by omega, fun q => by omega, fun q => by cases q⟩, Or.inr ⟨by omega, by omega, e.trans (congrArg some (jarr_upd rfl _))⟩⟩
theorem jx_last (hx : p.tables.exec = Jvm.exec) (hb : c.code = cc) (hK : jK D cA s) {pc : Nat} {L S : List AV} {h : JH} {cu su : Nat} {r i v : Int} (h0 : 0 ≤ r) (hlt : r.toNat < h.1) (ht : (h.2.1 r.toNat).1 = 21) (hi0 : 0 ≤ i) (hi : i.toNat < (h.2.1 r.toNat).2) (hd : decode cc pc = .ok (.lastore, 1)) (kk : jXW p l e R s m args below meth c Q D cA B b (pc + 1) L S (jwr h r.toNat i.toNat v) cu su) : jXW p l e R s m args below meth c Q D cA B b pc L ((1, v) :: (0, i) :: (2, r) :: S) h cu su := by
  intro H locs ls hH hS hL hs
  obtain ⟨g1, hs⟩ := jms1 hs
  obtain ⟨g4, g2, g3⟩ := jms2 hs
  have gi := jok_i.mp g4
  obtain ⟨-, ha, hc⟩ := jarr hH hlt ht (by omega)
  rw [List.map_cons, List.map_cons, List.map_cons, jv_r B b h0, jv_i, jv_l]
  refine W.last hx hb ha ((hK.2.1 21 (by omega) (by omega)).1 _ _) (fun q => by cases q) (by rw [arrV_size]; exact j32_vin hi0 gi.2 hi) rfl rfl hd fun H1 e z oq => ?_
  rw [j32_clamp hi0 gi.2] at e ⊢
  refine kk H1 _ ls (hH.wr z oq ?_) (jS_put hS z oq) hL g3
  rw [ht]
  exact ⟨jcok_set hc ⟨g1, fun q => by omega, fun q => by omega, fun q => by omega, fun q => by cases q⟩, Or.inr ⟨by omega, by omega, e.trans (congrArg some (jarr_upd rfl _))⟩⟩
theorem jx_bast (hx : p.tables.exec = Jvm.exec) (hb : c.code = cc) (hK : jK D cA s) {pc : Nat} {L S : List AV} {h : JH} {cu su : Nat} {r i v : Int} (h0 : 0 ≤ r) (hlt : r.toNat < h.1) (ht : (h.2.1 r.toNat).1 = 22) (hi0 : 0 ≤ i) (hi : i.toNat < (h.2.1 r.toNat).2) (hd : decode cc pc = .ok (.bastore, 1)) (kk : jXW p l e R s m args below meth c Q D cA B b (pc + 1) L S (jwr h r.toNat i.toNat (w8 v)) cu su) : jXW p l e R s m args below meth c Q D cA B b pc L ((0, v) :: (0, i) :: (2, r) :: S) h cu su := by
  intro H locs ls hH hS hL hs
  obtain ⟨g1, hs⟩ := jms1 hs
  obtain ⟨g4, g2, g3⟩ := jms2 hs
  have gi := jok_i.mp g4
  have gv := jok_i.mp g1
  have g8 := jw8_in v
  obtain ⟨-, ha, hc⟩ := jarr hH hlt ht (by omega)
  rw [List.map_cons, List.map_cons, List.map_cons, jv_r B b h0, jv_i, jv_i]
  refine W.bast hx hb ha ((hK.2.1 22 (by omega) (by omega)).1 _ _) (fun q => by cases q) (by rw [arrV_size]; exact j32_vin hi0 gi.2 hi) rfl rfl hd fun H1 e z oq => ?_
  rw [j32_clamp hi0 gi.2] at e ⊢
  refine kk H1 _ ls (hH.wr z oq ?_) (jS_put hS z oq) hL g3
  rw [ht]
  refine ⟨jcok_set hc ⟨jok_i.mpr (by omega), fun q => by omega, fun q => by omega, fun q => by omega, fun q => by cases q⟩, Or.inr ⟨by omega, by omega, ?_⟩⟩
  rw [e, jarr_upd (x := w8 v)]
  show Value.int (Int32.ofInt v).toInt8.toInt32 = .int (Int32.ofInt (w8 v))
  rw [j32_8 gv.1 gv.2]
theorem jbool (v : Int) : Int32.ofInt v &&& 1 = Int32.ofInt (v % 2) := by
  apply Int32.toBitVec_inj.mp
  apply BitVec.eq_of_toNat_eq
  rw [Int32.toBitVec_and, Int32.toBitVec_ofInt, Int32.toBitVec_ofInt, BitVec.toNat_and, BitVec.toNat_ofInt, BitVec.toNat_ofInt]
  rw [show (1 : Int32).toBitVec.toNat = 1 from rfl, Nat.and_one_is_mod]
  omega
theorem jx_zast (hx : p.tables.exec = Jvm.exec) (hb : c.code = cc) (hK : jK D cA s) {pc : Nat} {L S : List AV} {h : JH} {cu su : Nat} {r i v : Int} (h0 : 0 ≤ r) (hlt : r.toNat < h.1) (ht : (h.2.1 r.toNat).1 = 23) (hi0 : 0 ≤ i) (hi : i.toNat < (h.2.1 r.toNat).2) (hd : decode cc pc = .ok (.bastore, 1)) (kk : jXW p l e R s m args below meth c Q D cA B b (pc + 1) L S (jwr h r.toNat i.toNat (v % 2)) cu su) : jXW p l e R s m args below meth c Q D cA B b pc L ((0, v) :: (0, i) :: (2, r) :: S) h cu su := by
  intro H locs ls hH hS hL hs
  obtain ⟨g1, hs⟩ := jms1 hs
  obtain ⟨g4, g2, g3⟩ := jms2 hs
  have gi := jok_i.mp g4
  obtain ⟨-, ha, hc⟩ := jarr hH hlt ht (by omega)
  rw [List.map_cons, List.map_cons, List.map_cons, jv_r B b h0, jv_i, jv_i]
  refine W.zast hx hb ha ((hK.2.1 23 (by omega) (by omega)).1 _ _) (fun q => by cases q) (by rw [arrV_size]; exact j32_vin hi0 gi.2 hi) rfl rfl hd fun H1 e z oq => ?_
  rw [j32_clamp hi0 gi.2] at e ⊢
  refine kk H1 _ ls (hH.wr z oq ?_) (jS_put hS z oq) hL g3
  rw [ht]
  refine ⟨jcok_set hc ⟨jok_i.mpr (by omega), fun q => by omega, fun q => by omega, fun q => by omega, fun q => by cases q⟩, Or.inr ⟨by omega, by omega, ?_⟩⟩
  rw [e, jarr_upd (x := v % 2)]
  show Value.int (Int32.ofInt v &&& 1) = .int (Int32.ofInt (v % 2))
  rw [jbool]
end JM
