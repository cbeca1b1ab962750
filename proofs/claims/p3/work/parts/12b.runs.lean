/-! rules for runs of the simple machine -/
section JEv
variable {ok : Nat → Nat → Nat → List AV → JH → (Option AV → JH → Prop) → Prop} {xl : Option Nat} {xs : Nat → Int} {cd : List JE} {mc ms : Nat} {Q : Option AV → JH → Prop} {K K' : List JE} {L L' S S' : List AV} {h h' : JH} {cu su pc n : Nat} {ps : List Nat} {z : Int}
theorem ev_s {st st' : JS} (e : jstep xl xs cd st = some st') (hl : jlim mc ms st st') (k : jEv ok xl xs cd mc ms Q st') : jEv ok xl xs cd mc ms Q st := fun X a b c => a st st' e hl (k X a b c)
theorem ev_k {st st' : JS} (k : jEv ok xl xs cd mc ms Q st') (e : jstep xl xs cd st = some st') (hl : jlim mc ms st st') : jEv ok xl xs cd mc ms Q st := ev_s e hl k
theorem ev_ret {v : Option AV} (e : jret K S = some v) (h1 : cu ≤ mc) (h2 : su ≤ ms) (hQ : Q v h) : jEv ok xl xs cd mc ms Q (K, L, S, h, cu, su) := fun _ _ b _ => b K L S h cu su v e h1 h2 hQ
theorem ev_call {k a b : Nat} {as : List AV} {Q' : Option AV → JH → Prop} (e : jcall K S h = some (k, as, S')) (hok : ok a b k as h Q') (h1 : cu + a ≤ mc) (h2 : su + b ≤ ms) (kk : ∀ (v : Option AV) (h' : JH), Q' v h' → jEv ok xl xs cd mc ms Q (K.tail, L, v.toList ++ S', h', cu + a, su + b)) : jEv ok xl xs cd mc ms Q (K, L, S, h, cu, su) := fun X p q r => r K L S h cu su k as S' a b Q' e hok h1 h2 (fun v h' hq => kk v h' hq X p q r)
theorem jev_mono {ok' : Nat → Nat → Nat → List AV → JH → (Option AV → JH → Prop) → Prop} (hm : ∀ a b k as h Q, ok a b k as h Q → ok' a b k as h Q) {Q' : Option AV → JH → Prop} (hQ : ∀ v h, Q v h → Q' v h) {st : JS} (e : jEv ok xl xs cd mc ms Q st) : jEv ok' xl xs cd mc ms Q' st := fun X a b c => e X a (fun K L S h cu su v h1 h2 h3 h4 => b K L S h cu su v h1 h2 h3 (hQ v h h4)) (fun K L S h cu su k as S' x y Q1 h1 h2 h3 h4 h5 => c K L S h cu su k as S' x y Q1 h1 (hm _ _ _ _ _ _ h2) h3 h4 h5)

theorem ev_iconst {v : Int} (k : jEv ok xl xs cd mc ms Q (K, L, (0, v) :: S, h, cu, su)) : jEv ok xl xs cd mc ms Q ((pc, .iconst v, n, ps, z) :: K, L, S, h, cu, su) := ev_k k rfl (Or.inl ⟨rfl, rfl⟩)
theorem ev_bipush {v : Int} (k : jEv ok xl xs cd mc ms Q (K, L, (0, v) :: S, h, cu, su)) : jEv ok xl xs cd mc ms Q ((pc, .bipush v, n, ps, z) :: K, L, S, h, cu, su) := ev_k k rfl (Or.inl ⟨rfl, rfl⟩)
theorem ev_sipush {v : Int} (k : jEv ok xl xs cd mc ms Q (K, L, (0, v) :: S, h, cu, su)) : jEv ok xl xs cd mc ms Q ((pc, .sipush v, n, ps, z) :: K, L, S, h, cu, su) := ev_k k rfl (Or.inl ⟨rfl, rfl⟩)
theorem ev_lconst {v : Fin 2} (k : jEv ok xl xs cd mc ms Q (K, L, (1, (v.val : Int)) :: S, h, cu, su)) : jEv ok xl xs cd mc ms Q ((pc, .lconst v, n, ps, z) :: K, L, S, h, cu, su) := ev_k k rfl (Or.inl ⟨rfl, rfl⟩)
theorem ev_ldc {x : Nat} (k : jEv ok xl xs cd mc ms Q (K, L, (0, z) :: S, h, cu, su)) : jEv ok xl xs cd mc ms Q ((pc, .ldc x, n, ps, z) :: K, L, S, h, cu, su) := ev_k k rfl (Or.inl ⟨rfl, rfl⟩)
theorem ev_ldc_w {x : Nat} (k : jEv ok xl xs cd mc ms Q (K, L, (0, z) :: S, h, cu, su)) : jEv ok xl xs cd mc ms Q ((pc, .ldc_w x, n, ps, z) :: K, L, S, h, cu, su) := ev_k k rfl (Or.inl ⟨rfl, rfl⟩)
theorem ev_ldc2_w {x : Nat} (k : jEv ok xl xs cd mc ms Q (K, L, (1, z) :: S, h, cu, su)) : jEv ok xl xs cd mc ms Q ((pc, .ldc2_w x, n, ps, z) :: K, L, S, h, cu, su) := ev_k k rfl (Or.inl ⟨rfl, rfl⟩)
theorem ev_aconst_null (k : jEv ok xl xs cd mc ms Q (K, L, (2, -1) :: S, h, cu, su)) : jEv ok xl xs cd mc ms Q ((pc, .aconst_null, n, ps, z) :: K, L, S, h, cu, su) := ev_k k rfl (Or.inl ⟨rfl, rfl⟩)
theorem ev_iload {i : Nat} {v : Int} (hL : L[i]? = some (0, v)) (k : jEv ok xl xs cd mc ms Q (K, L, (0, v) :: S, h, cu, su)) : jEv ok xl xs cd mc ms Q ((pc, .iload i, n, ps, z) :: K, L, S, h, cu, su) := ev_k k (by simp [jstep, jld, hL]) (Or.inl ⟨rfl, rfl⟩)
theorem ev_iload_n {i : Fin 4} {v : Int} (hL : L[i.val]? = some (0, v)) (k : jEv ok xl xs cd mc ms Q (K, L, (0, v) :: S, h, cu, su)) : jEv ok xl xs cd mc ms Q ((pc, .iload_n i, n, ps, z) :: K, L, S, h, cu, su) := ev_k k (by simp [jstep, jld, hL]) (Or.inl ⟨rfl, rfl⟩)
theorem ev_lload {i : Nat} {v : Int} (hL : L[i]? = some (1, v)) (k : jEv ok xl xs cd mc ms Q (K, L, (1, v) :: S, h, cu, su)) : jEv ok xl xs cd mc ms Q ((pc, .lload i, n, ps, z) :: K, L, S, h, cu, su) := ev_k k (by simp [jstep, jld, hL]) (Or.inl ⟨rfl, rfl⟩)
theorem ev_lload_n {i : Fin 4} {v : Int} (hL : L[i.val]? = some (1, v)) (k : jEv ok xl xs cd mc ms Q (K, L, (1, v) :: S, h, cu, su)) : jEv ok xl xs cd mc ms Q ((pc, .lload_n i, n, ps, z) :: K, L, S, h, cu, su) := ev_k k (by simp [jstep, jld, hL]) (Or.inl ⟨rfl, rfl⟩)
theorem ev_aload {i : Nat} {v : Int} (hL : L[i]? = some (2, v)) (k : jEv ok xl xs cd mc ms Q (K, L, (2, v) :: S, h, cu, su)) : jEv ok xl xs cd mc ms Q ((pc, .aload i, n, ps, z) :: K, L, S, h, cu, su) := ev_k k (by simp [jstep, jld, hL]) (Or.inl ⟨rfl, rfl⟩)
theorem ev_aload_n {i : Fin 4} {v : Int} (hL : L[i.val]? = some (2, v)) (k : jEv ok xl xs cd mc ms Q (K, L, (2, v) :: S, h, cu, su)) : jEv ok xl xs cd mc ms Q ((pc, .aload_n i, n, ps, z) :: K, L, S, h, cu, su) := ev_k k (by simp [jstep, jld, hL]) (Or.inl ⟨rfl, rfl⟩)
theorem ev_istore {i : Nat} {v : Int} (hi : i < L.length) (hL : jput L i (0, v) = L') (k : jEv ok xl xs cd mc ms Q (K, L', S, h, cu, su)) : jEv ok xl xs cd mc ms Q ((pc, .istore i, n, ps, z) :: K, L, (0, v) :: S, h, cu, su) := ev_k k (by simp [jstep, jst, hi, ← hL]) (Or.inl ⟨rfl, rfl⟩)
theorem ev_istore_n {i : Fin 4} {v : Int} (hi : i.val < L.length) (hL : jput L i.val (0, v) = L') (k : jEv ok xl xs cd mc ms Q (K, L', S, h, cu, su)) : jEv ok xl xs cd mc ms Q ((pc, .istore_n i, n, ps, z) :: K, L, (0, v) :: S, h, cu, su) := ev_k k (by simp [jstep, jst, hi, ← hL]) (Or.inl ⟨rfl, rfl⟩)
theorem ev_astore {i : Nat} {v : Int} (hi : i < L.length) (hL : jput L i (2, v) = L') (k : jEv ok xl xs cd mc ms Q (K, L', S, h, cu, su)) : jEv ok xl xs cd mc ms Q ((pc, .astore i, n, ps, z) :: K, L, (2, v) :: S, h, cu, su) := ev_k k (by simp [jstep, jst, hi, ← hL]) (Or.inl ⟨rfl, rfl⟩)
theorem ev_astore_n {i : Fin 4} {v : Int} (hi : i.val < L.length) (hL : jput L i.val (2, v) = L') (k : jEv ok xl xs cd mc ms Q (K, L', S, h, cu, su)) : jEv ok xl xs cd mc ms Q ((pc, .astore_n i, n, ps, z) :: K, L, (2, v) :: S, h, cu, su) := ev_k k (by simp [jstep, jst, hi, ← hL]) (Or.inl ⟨rfl, rfl⟩)
theorem ev_lstore {i : Nat} {v : Int} (hi : i + 1 < L.length) (hL : jput2 L i (1, v) = L') (k : jEv ok xl xs cd mc ms Q (K, L', S, h, cu, su)) : jEv ok xl xs cd mc ms Q ((pc, .lstore i, n, ps, z) :: K, L, (1, v) :: S, h, cu, su) := ev_k k (by simp [jstep, jst2, hi, ← hL]) (Or.inl ⟨rfl, rfl⟩)
theorem ev_lstore_n {i : Fin 4} {v : Int} (hi : i.val + 1 < L.length) (hL : jput2 L i.val (1, v) = L') (k : jEv ok xl xs cd mc ms Q (K, L', S, h, cu, su)) : jEv ok xl xs cd mc ms Q ((pc, .lstore_n i, n, ps, z) :: K, L, (1, v) :: S, h, cu, su) := ev_k k (by simp [jstep, jst2, hi, ← hL]) (Or.inl ⟨rfl, rfl⟩)
theorem ev_iinc {i : Nat} {v w c : Int} (hv : L[i]? = some (0, v)) (hw : w32 (v + c) = w) (hL : jput L i (0, w) = L') (k : jEv ok xl xs cd mc ms Q (K, L', S, h, cu, su)) : jEv ok xl xs cd mc ms Q ((pc, .iinc i c, n, ps, z) :: K, L, S, h, cu, su) := ev_k k (by simp [jstep, jinc, hv, hw, ← hL]) (Or.inl ⟨rfl, rfl⟩)
theorem ev_pop {t : Nat} {v : Int} (ht : jsk t = 0) (k : jEv ok xl xs cd mc ms Q (K, L, S, h, cu, su)) : jEv ok xl xs cd mc ms Q ((pc, .pop, n, ps, z) :: K, L, (t, v) :: S, h, cu, su) := ev_k k (by simp [jstep, jpop, ht]) (Or.inl ⟨rfl, rfl⟩)
theorem ev_pop2 {v : Int} (k : jEv ok xl xs cd mc ms Q (K, L, S, h, cu, su)) : jEv ok xl xs cd mc ms Q ((pc, .pop2, n, ps, z) :: K, L, (1, v) :: S, h, cu, su) := ev_k k (by simp [jstep, jpop, jsk]) (Or.inl ⟨rfl, rfl⟩)
theorem ev_dup {t : Nat} {v : Int} (ht : t = 0 ∨ t = 2) (k : jEv ok xl xs cd mc ms Q (K, L, (t, v) :: (t, v) :: S, h, cu, su)) : jEv ok xl xs cd mc ms Q ((pc, .dup, n, ps, z) :: K, L, (t, v) :: S, h, cu, su) := ev_k k (by simp [jstep, jdup, ht]) (Or.inl ⟨rfl, rfl⟩)
theorem ev_dup2 {t u : Nat} {v w : Int} (ht : t = 0 ∨ t = 2) (hu : u = 0 ∨ u = 2) (k : jEv ok xl xs cd mc ms Q (K, L, (t, v) :: (u, w) :: (t, v) :: (u, w) :: S, h, cu, su)) : jEv ok xl xs cd mc ms Q ((pc, .dup2, n, ps, z) :: K, L, (t, v) :: (u, w) :: S, h, cu, su) := ev_k k (by
  have h1 : ¬ t = 1 := by omega
  simp [jstep, jdup2, ht, hu, h1]) (Or.inl ⟨rfl, rfl⟩)
theorem ev_iadd {x y r : Int} (hr : w32 (x + y) = r) (k : jEv ok xl xs cd mc ms Q (K, L, (0, r) :: S, h, cu, su)) : jEv ok xl xs cd mc ms Q ((pc, .iadd, n, ps, z) :: K, L, (0, y) :: (0, x) :: S, h, cu, su) := ev_k k (by simp [jstep, jbin, hr]) (Or.inl ⟨rfl, rfl⟩)
theorem ev_isub {x y r : Int} (hr : w32 (x - y) = r) (k : jEv ok xl xs cd mc ms Q (K, L, (0, r) :: S, h, cu, su)) : jEv ok xl xs cd mc ms Q ((pc, .isub, n, ps, z) :: K, L, (0, y) :: (0, x) :: S, h, cu, su) := ev_k k (by simp [jstep, jbin, hr]) (Or.inl ⟨rfl, rfl⟩)
theorem ev_imul {x y r : Int} (hr : w32 (x * y) = r) (k : jEv ok xl xs cd mc ms Q (K, L, (0, r) :: S, h, cu, su)) : jEv ok xl xs cd mc ms Q ((pc, .imul, n, ps, z) :: K, L, (0, y) :: (0, x) :: S, h, cu, su) := ev_k k (by simp [jstep, jbin, hr]) (Or.inl ⟨rfl, rfl⟩)
theorem ev_iand {x y r : Int} (hr : jand x y = r) (k : jEv ok xl xs cd mc ms Q (K, L, (0, r) :: S, h, cu, su)) : jEv ok xl xs cd mc ms Q ((pc, .iand, n, ps, z) :: K, L, (0, y) :: (0, x) :: S, h, cu, su) := ev_k k (by simp [jstep, jbin, hr]) (Or.inl ⟨rfl, rfl⟩)
theorem ev_ior {x y r : Int} (hr : jor x y = r) (k : jEv ok xl xs cd mc ms Q (K, L, (0, r) :: S, h, cu, su)) : jEv ok xl xs cd mc ms Q ((pc, .ior, n, ps, z) :: K, L, (0, y) :: (0, x) :: S, h, cu, su) := ev_k k (by simp [jstep, jbin, hr]) (Or.inl ⟨rfl, rfl⟩)
theorem ev_ixor {x y r : Int} (hr : jxor x y = r) (k : jEv ok xl xs cd mc ms Q (K, L, (0, r) :: S, h, cu, su)) : jEv ok xl xs cd mc ms Q ((pc, .ixor, n, ps, z) :: K, L, (0, y) :: (0, x) :: S, h, cu, su) := ev_k k (by simp [jstep, jbin, hr]) (Or.inl ⟨rfl, rfl⟩)
theorem ev_ishl {x y r : Int} (hr : jshl x y = r) (k : jEv ok xl xs cd mc ms Q (K, L, (0, r) :: S, h, cu, su)) : jEv ok xl xs cd mc ms Q ((pc, .ishl, n, ps, z) :: K, L, (0, y) :: (0, x) :: S, h, cu, su) := ev_k k (by simp [jstep, jbin, hr]) (Or.inl ⟨rfl, rfl⟩)
theorem ev_ishr {x y r : Int} (hr : jshr x y = r) (k : jEv ok xl xs cd mc ms Q (K, L, (0, r) :: S, h, cu, su)) : jEv ok xl xs cd mc ms Q ((pc, .ishr, n, ps, z) :: K, L, (0, y) :: (0, x) :: S, h, cu, su) := ev_k k (by simp [jstep, jbin, hr]) (Or.inl ⟨rfl, rfl⟩)
theorem ev_iushr {x y r : Int} (hr : jushr x y = r) (k : jEv ok xl xs cd mc ms Q (K, L, (0, r) :: S, h, cu, su)) : jEv ok xl xs cd mc ms Q ((pc, .iushr, n, ps, z) :: K, L, (0, y) :: (0, x) :: S, h, cu, su) := ev_k k (by simp [jstep, jbin, hr]) (Or.inl ⟨rfl, rfl⟩)
theorem ev_ladd {x y r : Int} (hr : w64 (x + y) = r) (k : jEv ok xl xs cd mc ms Q (K, L, (1, r) :: S, h, cu, su)) : jEv ok xl xs cd mc ms Q ((pc, .ladd, n, ps, z) :: K, L, (1, y) :: (1, x) :: S, h, cu, su) := ev_k k (by simp [jstep, jbin, hr]) (Or.inl ⟨rfl, rfl⟩)
theorem ev_lsub {x y r : Int} (hr : w64 (x - y) = r) (k : jEv ok xl xs cd mc ms Q (K, L, (1, r) :: S, h, cu, su)) : jEv ok xl xs cd mc ms Q ((pc, .lsub, n, ps, z) :: K, L, (1, y) :: (1, x) :: S, h, cu, su) := ev_k k (by simp [jstep, jbin, hr]) (Or.inl ⟨rfl, rfl⟩)
theorem ev_lmul {x y r : Int} (hr : w64 (x * y) = r) (k : jEv ok xl xs cd mc ms Q (K, L, (1, r) :: S, h, cu, su)) : jEv ok xl xs cd mc ms Q ((pc, .lmul, n, ps, z) :: K, L, (1, y) :: (1, x) :: S, h, cu, su) := ev_k k (by simp [jstep, jbin, hr]) (Or.inl ⟨rfl, rfl⟩)
theorem ev_land {x y r : Int} (hr : jandL x y = r) (k : jEv ok xl xs cd mc ms Q (K, L, (1, r) :: S, h, cu, su)) : jEv ok xl xs cd mc ms Q ((pc, .land, n, ps, z) :: K, L, (1, y) :: (1, x) :: S, h, cu, su) := ev_k k (by simp [jstep, jbin, hr]) (Or.inl ⟨rfl, rfl⟩)
theorem ev_lor {x y r : Int} (hr : jorL x y = r) (k : jEv ok xl xs cd mc ms Q (K, L, (1, r) :: S, h, cu, su)) : jEv ok xl xs cd mc ms Q ((pc, .lor, n, ps, z) :: K, L, (1, y) :: (1, x) :: S, h, cu, su) := ev_k k (by simp [jstep, jbin, hr]) (Or.inl ⟨rfl, rfl⟩)
theorem ev_lxor {x y r : Int} (hr : jxorL x y = r) (k : jEv ok xl xs cd mc ms Q (K, L, (1, r) :: S, h, cu, su)) : jEv ok xl xs cd mc ms Q ((pc, .lxor, n, ps, z) :: K, L, (1, y) :: (1, x) :: S, h, cu, su) := ev_k k (by simp [jstep, jbin, hr]) (Or.inl ⟨rfl, rfl⟩)
theorem ev_lshl {x y r : Int} (hr : jshlL x y = r) (k : jEv ok xl xs cd mc ms Q (K, L, (1, r) :: S, h, cu, su)) : jEv ok xl xs cd mc ms Q ((pc, .lshl, n, ps, z) :: K, L, (0, y) :: (1, x) :: S, h, cu, su) := ev_k k (by simp [jstep, jbin, hr]) (Or.inl ⟨rfl, rfl⟩)
theorem ev_lushr {x y r : Int} (hr : jushrL x y = r) (k : jEv ok xl xs cd mc ms Q (K, L, (1, r) :: S, h, cu, su)) : jEv ok xl xs cd mc ms Q ((pc, .lushr, n, ps, z) :: K, L, (0, y) :: (1, x) :: S, h, cu, su) := ev_k k (by simp [jstep, jbin, hr]) (Or.inl ⟨rfl, rfl⟩)
theorem ev_lcmp {x y : Int} (k : jEv ok xl xs cd mc ms Q (K, L, (0, jcmpL x y) :: S, h, cu, su)) : jEv ok xl xs cd mc ms Q ((pc, .lcmp, n, ps, z) :: K, L, (1, y) :: (1, x) :: S, h, cu, su) := ev_k k (by simp [jstep, jbin]) (Or.inl ⟨rfl, rfl⟩)
theorem ev_idiv {x y r : Int} (hy : y ≠ 0) (hr : w32 (x.tdiv y) = r) (k : jEv ok xl xs cd mc ms Q (K, L, (0, r) :: S, h, cu, su)) : jEv ok xl xs cd mc ms Q ((pc, .idiv, n, ps, z) :: K, L, (0, y) :: (0, x) :: S, h, cu, su) := ev_k k (by simp [jstep, jdiv, hy, hr]) (Or.inl ⟨rfl, rfl⟩)
theorem ev_irem {x y r : Int} (hy : y ≠ 0) (hr : x.tmod y = r) (k : jEv ok xl xs cd mc ms Q (K, L, (0, r) :: S, h, cu, su)) : jEv ok xl xs cd mc ms Q ((pc, .irem, n, ps, z) :: K, L, (0, y) :: (0, x) :: S, h, cu, su) := ev_k k (by simp [jstep, jdiv, hy, hr]) (Or.inl ⟨rfl, rfl⟩)
theorem ev_ldiv {x y r : Int} (hy : y ≠ 0) (hr : w64 (x.tdiv y) = r) (k : jEv ok xl xs cd mc ms Q (K, L, (1, r) :: S, h, cu, su)) : jEv ok xl xs cd mc ms Q ((pc, .ldiv, n, ps, z) :: K, L, (1, y) :: (1, x) :: S, h, cu, su) := ev_k k (by simp [jstep, jdiv, hy, hr]) (Or.inl ⟨rfl, rfl⟩)
theorem ev_lrem {x y r : Int} (hy : y ≠ 0) (hr : x.tmod y = r) (k : jEv ok xl xs cd mc ms Q (K, L, (1, r) :: S, h, cu, su)) : jEv ok xl xs cd mc ms Q ((pc, .lrem, n, ps, z) :: K, L, (1, y) :: (1, x) :: S, h, cu, su) := ev_k k (by simp [jstep, jdiv, hy, hr]) (Or.inl ⟨rfl, rfl⟩)
theorem ev_ineg {x r : Int} (hr : w32 (-x) = r) (k : jEv ok xl xs cd mc ms Q (K, L, (0, r) :: S, h, cu, su)) : jEv ok xl xs cd mc ms Q ((pc, .ineg, n, ps, z) :: K, L, (0, x) :: S, h, cu, su) := ev_k k (by simp [jstep, jun, hr]) (Or.inl ⟨rfl, rfl⟩)
theorem ev_lneg {x r : Int} (hr : w64 (-x) = r) (k : jEv ok xl xs cd mc ms Q (K, L, (1, r) :: S, h, cu, su)) : jEv ok xl xs cd mc ms Q ((pc, .lneg, n, ps, z) :: K, L, (1, x) :: S, h, cu, su) := ev_k k (by simp [jstep, jun, hr]) (Or.inl ⟨rfl, rfl⟩)
theorem ev_l2i {x r : Int} (hr : w32 x = r) (k : jEv ok xl xs cd mc ms Q (K, L, (0, r) :: S, h, cu, su)) : jEv ok xl xs cd mc ms Q ((pc, .l2i, n, ps, z) :: K, L, (1, x) :: S, h, cu, su) := ev_k k (by simp [jstep, jun, hr]) (Or.inl ⟨rfl, rfl⟩)
theorem ev_i2b {x r : Int} (hr : w8 x = r) (k : jEv ok xl xs cd mc ms Q (K, L, (0, r) :: S, h, cu, su)) : jEv ok xl xs cd mc ms Q ((pc, .i2b, n, ps, z) :: K, L, (0, x) :: S, h, cu, su) := ev_k k (by simp [jstep, jun, hr]) (Or.inl ⟨rfl, rfl⟩)
theorem ev_i2s {x r : Int} (hr : w16 x = r) (k : jEv ok xl xs cd mc ms Q (K, L, (0, r) :: S, h, cu, su)) : jEv ok xl xs cd mc ms Q ((pc, .i2s, n, ps, z) :: K, L, (0, x) :: S, h, cu, su) := ev_k k (by simp [jstep, jun, hr]) (Or.inl ⟨rfl, rfl⟩)
theorem ev_i2l {x : Int} (k : jEv ok xl xs cd mc ms Q (K, L, (1, x) :: S, h, cu, su)) : jEv ok xl xs cd mc ms Q ((pc, .i2l, n, ps, z) :: K, L, (0, x) :: S, h, cu, su) := ev_k k (by simp [jstep, jun]) (Or.inl ⟨rfl, rfl⟩)
theorem ev_goto {off : Int} {t : Nat} {ps : List Nat} (hf : jfind cd t = some K') (k : jEv ok xl xs cd mc ms Q (K', L, S, h, cu, su)) : jEv ok xl xs cd mc ms Q ((pc, .goto off, n, t :: ps, z) :: K, L, S, h, cu, su) := ev_k k (by simp [jstep, jgo, jhd, hf]) (Or.inl ⟨rfl, rfl⟩)
theorem ev_ifeq {off x : Int} {t : Nat} {ps : List Nat} (hf : jfind cd t = some K') (kt : x = 0 → jEv ok xl xs cd mc ms Q (K', L, S, h, cu, su)) (kf : ¬ (x = 0) → jEv ok xl xs cd mc ms Q (K, L, S, h, cu, su)) : jEv ok xl xs cd mc ms Q ((pc, .ifCond .eq off, n, t :: ps, z) :: K, L, (0, x) :: S, h, cu, su) := by
  by_cases e : x = 0
  · exact ev_k (kt e) (by simp [jstep, jif, jcnd, jgo, jhd, hf, e]) (Or.inl ⟨rfl, rfl⟩)
  · exact ev_k (kf e) (by simp [jstep, jif, jcnd, jgo, jhd, hf, e]) (Or.inl ⟨rfl, rfl⟩)
theorem ev_ifne {off x : Int} {t : Nat} {ps : List Nat} (hf : jfind cd t = some K') (kt : x ≠ 0 → jEv ok xl xs cd mc ms Q (K', L, S, h, cu, su)) (kf : ¬ (x ≠ 0) → jEv ok xl xs cd mc ms Q (K, L, S, h, cu, su)) : jEv ok xl xs cd mc ms Q ((pc, .ifCond .ne off, n, t :: ps, z) :: K, L, (0, x) :: S, h, cu, su) := by
  by_cases e : x ≠ 0
  · exact ev_k (kt e) (by simp [jstep, jif, jcnd, jgo, jhd, hf, e]) (Or.inl ⟨rfl, rfl⟩)
  · exact ev_k (kf e) (by simp [jstep, jif, jcnd, jgo, jhd, hf, e]) (Or.inl ⟨rfl, rfl⟩)
theorem ev_iflt {off x : Int} {t : Nat} {ps : List Nat} (hf : jfind cd t = some K') (kt : x < 0 → jEv ok xl xs cd mc ms Q (K', L, S, h, cu, su)) (kf : ¬ (x < 0) → jEv ok xl xs cd mc ms Q (K, L, S, h, cu, su)) : jEv ok xl xs cd mc ms Q ((pc, .ifCond .lt off, n, t :: ps, z) :: K, L, (0, x) :: S, h, cu, su) := by
  by_cases e : x < 0
  · exact ev_k (kt e) (by simp [jstep, jif, jcnd, jgo, jhd, hf, e]) (Or.inl ⟨rfl, rfl⟩)
  · exact ev_k (kf e) (by simp [jstep, jif, jcnd, jgo, jhd, hf, e]) (Or.inl ⟨rfl, rfl⟩)
theorem ev_ifge {off x : Int} {t : Nat} {ps : List Nat} (hf : jfind cd t = some K') (kt : 0 ≤ x → jEv ok xl xs cd mc ms Q (K', L, S, h, cu, su)) (kf : ¬ (0 ≤ x) → jEv ok xl xs cd mc ms Q (K, L, S, h, cu, su)) : jEv ok xl xs cd mc ms Q ((pc, .ifCond .ge off, n, t :: ps, z) :: K, L, (0, x) :: S, h, cu, su) := by
  by_cases e : 0 ≤ x
  · exact ev_k (kt e) (by simp [jstep, jif, jcnd, jgo, jhd, hf, e]) (Or.inl ⟨rfl, rfl⟩)
  · exact ev_k (kf e) (by simp [jstep, jif, jcnd, jgo, jhd, hf, e]) (Or.inl ⟨rfl, rfl⟩)
theorem ev_ifgt {off x : Int} {t : Nat} {ps : List Nat} (hf : jfind cd t = some K') (kt : 0 < x → jEv ok xl xs cd mc ms Q (K', L, S, h, cu, su)) (kf : ¬ (0 < x) → jEv ok xl xs cd mc ms Q (K, L, S, h, cu, su)) : jEv ok xl xs cd mc ms Q ((pc, .ifCond .gt off, n, t :: ps, z) :: K, L, (0, x) :: S, h, cu, su) := by
  by_cases e : 0 < x
  · exact ev_k (kt e) (by simp [jstep, jif, jcnd, jgo, jhd, hf, e]) (Or.inl ⟨rfl, rfl⟩)
  · exact ev_k (kf e) (by simp [jstep, jif, jcnd, jgo, jhd, hf, e]) (Or.inl ⟨rfl, rfl⟩)
theorem ev_ifle {off x : Int} {t : Nat} {ps : List Nat} (hf : jfind cd t = some K') (kt : x ≤ 0 → jEv ok xl xs cd mc ms Q (K', L, S, h, cu, su)) (kf : ¬ (x ≤ 0) → jEv ok xl xs cd mc ms Q (K, L, S, h, cu, su)) : jEv ok xl xs cd mc ms Q ((pc, .ifCond .le off, n, t :: ps, z) :: K, L, (0, x) :: S, h, cu, su) := by
  by_cases e : x ≤ 0
  · exact ev_k (kt e) (by simp [jstep, jif, jcnd, jgo, jhd, hf, e]) (Or.inl ⟨rfl, rfl⟩)
  · exact ev_k (kf e) (by simp [jstep, jif, jcnd, jgo, jhd, hf, e]) (Or.inl ⟨rfl, rfl⟩)
theorem ev_icmpeq {off x y : Int} {t : Nat} {ps : List Nat} (hf : jfind cd t = some K') (kt : x = y → jEv ok xl xs cd mc ms Q (K', L, S, h, cu, su)) (kf : ¬ (x = y) → jEv ok xl xs cd mc ms Q (K, L, S, h, cu, su)) : jEv ok xl xs cd mc ms Q ((pc, .if_icmp .eq off, n, t :: ps, z) :: K, L, (0, y) :: (0, x) :: S, h, cu, su) := by
  by_cases e : x = y
  · exact ev_k (kt e) (by simp [jstep, jicmp, jcnd, jgo, jhd, hf, e]) (Or.inl ⟨rfl, rfl⟩)
  · exact ev_k (kf e) (by simp [jstep, jicmp, jcnd, jgo, jhd, hf, e]) (Or.inl ⟨rfl, rfl⟩)
theorem ev_icmpne {off x y : Int} {t : Nat} {ps : List Nat} (hf : jfind cd t = some K') (kt : x ≠ y → jEv ok xl xs cd mc ms Q (K', L, S, h, cu, su)) (kf : ¬ (x ≠ y) → jEv ok xl xs cd mc ms Q (K, L, S, h, cu, su)) : jEv ok xl xs cd mc ms Q ((pc, .if_icmp .ne off, n, t :: ps, z) :: K, L, (0, y) :: (0, x) :: S, h, cu, su) := by
  by_cases e : x ≠ y
  · exact ev_k (kt e) (by simp [jstep, jicmp, jcnd, jgo, jhd, hf, e]) (Or.inl ⟨rfl, rfl⟩)
  · exact ev_k (kf e) (by simp [jstep, jicmp, jcnd, jgo, jhd, hf, e]) (Or.inl ⟨rfl, rfl⟩)
theorem ev_icmplt {off x y : Int} {t : Nat} {ps : List Nat} (hf : jfind cd t = some K') (kt : x < y → jEv ok xl xs cd mc ms Q (K', L, S, h, cu, su)) (kf : ¬ (x < y) → jEv ok xl xs cd mc ms Q (K, L, S, h, cu, su)) : jEv ok xl xs cd mc ms Q ((pc, .if_icmp .lt off, n, t :: ps, z) :: K, L, (0, y) :: (0, x) :: S, h, cu, su) := by
  by_cases e : x < y
  · exact ev_k (kt e) (by simp [jstep, jicmp, jcnd, jgo, jhd, hf, e]) (Or.inl ⟨rfl, rfl⟩)
  · exact ev_k (kf e) (by simp [jstep, jicmp, jcnd, jgo, jhd, hf, e]) (Or.inl ⟨rfl, rfl⟩)
theorem ev_icmpge {off x y : Int} {t : Nat} {ps : List Nat} (hf : jfind cd t = some K') (kt : y ≤ x → jEv ok xl xs cd mc ms Q (K', L, S, h, cu, su)) (kf : ¬ (y ≤ x) → jEv ok xl xs cd mc ms Q (K, L, S, h, cu, su)) : jEv ok xl xs cd mc ms Q ((pc, .if_icmp .ge off, n, t :: ps, z) :: K, L, (0, y) :: (0, x) :: S, h, cu, su) := by
  by_cases e : y ≤ x
  · exact ev_k (kt e) (by simp [jstep, jicmp, jcnd, jgo, jhd, hf, e]) (Or.inl ⟨rfl, rfl⟩)
  · exact ev_k (kf e) (by simp [jstep, jicmp, jcnd, jgo, jhd, hf, e]) (Or.inl ⟨rfl, rfl⟩)
theorem ev_icmpgt {off x y : Int} {t : Nat} {ps : List Nat} (hf : jfind cd t = some K') (kt : y < x → jEv ok xl xs cd mc ms Q (K', L, S, h, cu, su)) (kf : ¬ (y < x) → jEv ok xl xs cd mc ms Q (K, L, S, h, cu, su)) : jEv ok xl xs cd mc ms Q ((pc, .if_icmp .gt off, n, t :: ps, z) :: K, L, (0, y) :: (0, x) :: S, h, cu, su) := by
  by_cases e : y < x
  · exact ev_k (kt e) (by simp [jstep, jicmp, jcnd, jgo, jhd, hf, e]) (Or.inl ⟨rfl, rfl⟩)
  · exact ev_k (kf e) (by simp [jstep, jicmp, jcnd, jgo, jhd, hf, e]) (Or.inl ⟨rfl, rfl⟩)
theorem ev_icmple {off x y : Int} {t : Nat} {ps : List Nat} (hf : jfind cd t = some K') (kt : x ≤ y → jEv ok xl xs cd mc ms Q (K', L, S, h, cu, su)) (kf : ¬ (x ≤ y) → jEv ok xl xs cd mc ms Q (K, L, S, h, cu, su)) : jEv ok xl xs cd mc ms Q ((pc, .if_icmp .le off, n, t :: ps, z) :: K, L, (0, y) :: (0, x) :: S, h, cu, su) := by
  by_cases e : x ≤ y
  · exact ev_k (kt e) (by simp [jstep, jicmp, jcnd, jgo, jhd, hf, e]) (Or.inl ⟨rfl, rfl⟩)
  · exact ev_k (kf e) (by simp [jstep, jicmp, jcnd, jgo, jhd, hf, e]) (Or.inl ⟨rfl, rfl⟩)
theorem ev_ifnull {off x : Int} {t : Nat} {ps : List Nat} (hf : jfind cd t = some K') (kt : x = -1 → jEv ok xl xs cd mc ms Q (K', L, S, h, cu, su)) (kf : ¬ x = -1 → jEv ok xl xs cd mc ms Q (K, L, S, h, cu, su)) : jEv ok xl xs cd mc ms Q ((pc, .ifnull off, n, t :: ps, z) :: K, L, (2, x) :: S, h, cu, su) := by
  by_cases e : x = -1
  · exact ev_k (kt e) (by simp [jstep, jnul, jgo, jhd, hf, e]) (Or.inl ⟨rfl, rfl⟩)
  · exact ev_k (kf e) (by simp [jstep, jnul, jgo, jhd, hf, e]) (Or.inl ⟨rfl, rfl⟩)
theorem ev_ifnonnull {off x : Int} {t : Nat} {ps : List Nat} (hf : jfind cd t = some K') (kt : ¬ x = -1 → jEv ok xl xs cd mc ms Q (K', L, S, h, cu, su)) (kf : x = -1 → jEv ok xl xs cd mc ms Q (K, L, S, h, cu, su)) : jEv ok xl xs cd mc ms Q ((pc, .ifnonnull off, n, t :: ps, z) :: K, L, (2, x) :: S, h, cu, su) := by
  by_cases e : x = -1
  · exact ev_k (kf e) (by simp [jstep, jnul, jgo, jhd, hf, e]) (Or.inl ⟨rfl, rfl⟩)
  · exact ev_k (kt e) (by simp [jstep, jnul, jgo, jhd, hf, e]) (Or.inl ⟨rfl, rfl⟩)
theorem ev_sw {d lo hi x : Int} {offs : Array Int} {t : Nat} (ht : ps[if x < lo ∨ hi < x then 0 else (x - lo).toNat + 1]? = some t) (hf : jfind cd t = some K') (k : jEv ok xl xs cd mc ms Q (K', L, S, h, cu, su)) : jEv ok xl xs cd mc ms Q ((pc, .tableswitch d lo hi offs, n, ps, z) :: K, L, (0, x) :: S, h, cu, su) := ev_k k (by simp only [jstep, jsw, ht, jgo, hf, if_true]) (Or.inl ⟨rfl, rfl⟩)
theorem ev_getf {x f k j1 j2 r t : Nat} {v : Int} (h1 : r < h.1) (h2 : jfam f (h.2.1 r).1 = true) (ht : jsk (jfty f k) = t) (hv : h.2.2 r k = v) (kk : jEv ok xl xs cd mc ms Q (K, L, (t, v) :: S, h, cu, su)) : jEv ok xl xs cd mc ms Q ((pc, .getfield x, n, [f, k, j1, j2], z) :: K, L, (2, (r : Int)) :: S, h, cu, su) := ev_k kk (by
  have e1 : ((r : Int)).toNat = r := by omega
  have e2 : (0 : Int) ≤ (r : Int) := by omega
  simp [jstep, jgetf, h1, h2, ht, hv]) (Or.inl ⟨rfl, rfl⟩)
theorem ev_putf {x f k j1 j2 r t : Nat} {v : Int} (h1 : r < h.1) (h2 : jfam f (h.2.1 r).1 = true) (ht : jsk (jfty f k) = t) (hz : jfty f k = 3 → v = 0 ∨ v = 1) (hr : t = 2 → v ≠ -2) (kk : jEv ok xl xs cd mc ms Q (K, L, S, jwr h r k v, cu, su)) : jEv ok xl xs cd mc ms Q ((pc, .putfield x, n, [f, k, j1, j2], z) :: K, L, (t, v) :: (2, (r : Int)) :: S, h, cu, su) := ev_k kk (by
  have e1 : ((r : Int)).toNat = r := by omega
  have e2 : (0 : Int) ≤ (r : Int) := by omega
  simp only [jstep, jputf, List.getD_cons_zero, List.getD_cons_succ, e1, e2, h1, h2, ht, true_and]
  rw [if_pos ⟨hz, hr⟩]) (Or.inl ⟨rfl, rfl⟩)
theorem ev_iald {i v : Int} {r j : Nat} (h1 : r < h.1) (ht : (h.2.1 r).1 = 20) (hi : i = (j : Int)) (hj : j < (h.2.1 r).2) (hv : h.2.2 r j = v) (kk : jEv ok xl xs cd mc ms Q (K, L, (0, v) :: S, h, cu, su)) : jEv ok xl xs cd mc ms Q ((pc, .iaload, n, ps, z) :: K, L, (0, i) :: (2, (r : Int)) :: S, h, cu, su) := ev_k kk (by
  subst hi
  have e3 : ¬ ((r : Int) = -2) := by omega
  simp [jstep, jald, h1, ht, hj, hv, e3, jak]) (Or.inl ⟨rfl, rfl⟩)
theorem ev_sald {i v : Int} {j : Nat} (hi : i = (j : Int)) (hj : jxin xl j = true) (hv : xs j = v) (kk : jEv ok xl xs cd mc ms Q (K, L, (0, v) :: S, h, cu, su)) : jEv ok xl xs cd mc ms Q ((pc, .iaload, n, ps, z) :: K, L, (0, i) :: (2, -2) :: S, h, cu, su) := ev_k kk (by
  subst hi
  simp [jstep, jald, hj, hv]) (Or.inl ⟨rfl, rfl⟩)
theorem ev_lald {i v : Int} {r j : Nat} (h1 : r < h.1) (ht : (h.2.1 r).1 = 21) (hi : i = (j : Int)) (hj : j < (h.2.1 r).2) (hv : h.2.2 r j = v) (kk : jEv ok xl xs cd mc ms Q (K, L, (1, v) :: S, h, cu, su)) : jEv ok xl xs cd mc ms Q ((pc, .laload, n, ps, z) :: K, L, (0, i) :: (2, (r : Int)) :: S, h, cu, su) := ev_k kk (by
  subst hi
  have e3 : ¬ ((r : Int) = -2) := by omega
  simp [jstep, jald, h1, ht, hj, hv, e3, jak]) (Or.inl ⟨rfl, rfl⟩)
theorem ev_bald {i v : Int} {r j t : Nat} (h1 : r < h.1) (ht : (h.2.1 r).1 = t) (ht2 : t = 22 ∨ t = 23) (hi : i = (j : Int)) (hj : j < (h.2.1 r).2) (hv : h.2.2 r j = v) (kk : jEv ok xl xs cd mc ms Q (K, L, (0, v) :: S, h, cu, su)) : jEv ok xl xs cd mc ms Q ((pc, .baload, n, [t], z) :: K, L, (0, i) :: (2, (r : Int)) :: S, h, cu, su) := ev_k kk (by
  subst hi
  have e3 : ¬ ((r : Int) = -2) := by omega
  have e4 : jak t = 0 := by rcases ht2 with e | e <;> subst e <;> rfl
  simp [jstep, jald, jhd, h1, ht, hj, hv, e3, e4]) (Or.inl ⟨rfl, rfl⟩)
theorem ev_aald {i v : Int} {r j t : Nat} (h1 : r < h.1) (ht : (h.2.1 r).1 = t) (ht2 : t = 24 ∨ t = 25) (hi : i = (j : Int)) (hj : j < (h.2.1 r).2) (hv : h.2.2 r j = v) (kk : jEv ok xl xs cd mc ms Q (K, L, (2, v) :: S, h, cu, su)) : jEv ok xl xs cd mc ms Q ((pc, .aaload, n, [t], z) :: K, L, (0, i) :: (2, (r : Int)) :: S, h, cu, su) := ev_k kk (by
  subst hi
  have e3 : ¬ ((r : Int) = -2) := by omega
  have e4 : jak t = 2 := by rcases ht2 with e | e <;> subst e <;> rfl
  simp [jstep, jald, jhd, h1, ht, hj, hv, e3, e4]) (Or.inl ⟨rfl, rfl⟩)
theorem ev_iast {i v : Int} {r j : Nat} (h1 : r < h.1) (ht : (h.2.1 r).1 = 20) (hi : i = (j : Int)) (hj : j < (h.2.1 r).2) (kk : jEv ok xl xs cd mc ms Q (K, L, S, jwr h r j v, cu, su)) : jEv ok xl xs cd mc ms Q ((pc, .iastore, n, ps, z) :: K, L, (0, v) :: (0, i) :: (2, (r : Int)) :: S, h, cu, su) := ev_k kk (by
  subst hi
  simp [jstep, jast, h1, ht, hj, jak]) (Or.inl ⟨rfl, rfl⟩)
theorem ev_last {i v : Int} {r j : Nat} (h1 : r < h.1) (ht : (h.2.1 r).1 = 21) (hi : i = (j : Int)) (hj : j < (h.2.1 r).2) (kk : jEv ok xl xs cd mc ms Q (K, L, S, jwr h r j v, cu, su)) : jEv ok xl xs cd mc ms Q ((pc, .lastore, n, ps, z) :: K, L, (1, v) :: (0, i) :: (2, (r : Int)) :: S, h, cu, su) := ev_k kk (by
  subst hi
  simp [jstep, jast, h1, ht, hj, jak]) (Or.inl ⟨rfl, rfl⟩)
theorem ev_bast {i v w : Int} {r j : Nat} (h1 : r < h.1) (ht : (h.2.1 r).1 = 22) (hi : i = (j : Int)) (hj : j < (h.2.1 r).2) (hw : w8 v = w) (kk : jEv ok xl xs cd mc ms Q (K, L, S, jwr h r j w, cu, su)) : jEv ok xl xs cd mc ms Q ((pc, .bastore, n, [22], z) :: K, L, (0, v) :: (0, i) :: (2, (r : Int)) :: S, h, cu, su) := ev_k kk (by
  subst hi
  simp [jstep, jast, jhd, h1, ht, hj, hw, jak]) (Or.inl ⟨rfl, rfl⟩)
theorem ev_zast {i v : Int} {r j : Nat} (h1 : r < h.1) (ht : (h.2.1 r).1 = 23) (hi : i = (j : Int)) (hj : j < (h.2.1 r).2) (kk : jEv ok xl xs cd mc ms Q (K, L, S, jwr h r j (v % 2), cu, su)) : jEv ok xl xs cd mc ms Q ((pc, .bastore, n, [23], z) :: K, L, (0, v) :: (0, i) :: (2, (r : Int)) :: S, h, cu, su) := ev_k kk (by
  subst hi
  simp [jstep, jast, jhd, h1, ht, hj, jak]) (Or.inl ⟨rfl, rfl⟩)
theorem ev_asto {i : Int} {r j v t f : Nat} (h1 : r < h.1) (ht : (h.2.1 r).1 = t) (hi : i = (j : Int)) (hj : j < (h.2.1 r).2) (h2 : v < h.1) (h3 : jfam f (h.2.1 v).1 = true) (kk : jEv ok xl xs cd mc ms Q (K, L, S, jwr h r j v, cu, su)) : jEv ok xl xs cd mc ms Q ((pc, .aastore, n, [t, f], z) :: K, L, (2, (v : Int)) :: (0, i) :: (2, (r : Int)) :: S, h, cu, su) := ev_k kk (by
  subst hi
  simp [jstep, jasto, h1, ht, hj, h2, h3]) (Or.inl ⟨rfl, rfl⟩)
theorem ev_aln {r m : Nat} (h1 : r < h.1) (h2 : 20 ≤ (h.2.1 r).1) (h3 : (h.2.1 r).1 ≤ 25) (hm : (h.2.1 r).2 = m) (h4 : m < 2147483648) (kk : jEv ok xl xs cd mc ms Q (K, L, (0, (m : Int)) :: S, h, cu, su)) : jEv ok xl xs cd mc ms Q ((pc, .arraylength, n, ps, z) :: K, L, (2, (r : Int)) :: S, h, cu, su) := ev_k kk (by
  have e3 : ¬ ((r : Int) = -2) := by omega
  simp [jstep, jaln, h1, h2, h3, h4, hm, e3]) (Or.inl ⟨rfl, rfl⟩)
theorem ev_saln {m : Nat} (hm : xl = some m) (kk : jEv ok xl xs cd mc ms Q (K, L, (0, (m : Int)) :: S, h, cu, su)) : jEv ok xl xs cd mc ms Q ((pc, .arraylength, n, ps, z) :: K, L, (2, -2) :: S, h, cu, su) := ev_k kk (by
  subst hm
  simp [jstep, jaln]) (Or.inl ⟨rfl, rfl⟩)
theorem ev_new {x c m : Nat} {ps : List Nat} (hN : jN c = m) (h1 : cu + 1 ≤ mc) (h2 : su + m ≤ ms) (kk : jEv ok xl xs cd mc ms Q (K, L, (2, (h.1 : Int)) :: S, jnew h c m, cu + 1, su + m)) : jEv ok xl xs cd mc ms Q ((pc, .new x, n, c :: ps, z) :: K, L, S, h, cu, su) := ev_k kk (by
  simp [jstep, jnewo, jhd, hN]) (Or.inr ⟨h1, h2⟩)
theorem ev_newa {a : ArrayType} {t m : Nat} {v : Int} (ha : jat a = t) (hv : v = (m : Int)) (hm : m < 60000) (h1 : cu + 1 ≤ mc) (h2 : su + m ≤ ms) (kk : jEv ok xl xs cd mc ms Q (K, L, (2, (h.1 : Int)) :: S, jnew h t m, cu + 1, su + m)) : jEv ok xl xs cd mc ms Q ((pc, .newarray a, n, ps, z) :: K, L, (0, v) :: S, h, cu, su) := ev_k kk (by
  subst hv
  have e1 : (m : Int) < 60000 := by omega
  simp [jstep, jnewa, ha, e1]) (Or.inr ⟨h1, h2⟩)
theorem ev_anew {x t m : Nat} {v : Int} {ps : List Nat} (hv : v = (m : Int)) (hm : m < 60000) (h1 : cu + 1 ≤ mc) (h2 : su + m ≤ ms) (kk : jEv ok xl xs cd mc ms Q (K, L, (2, (h.1 : Int)) :: S, jnew h t m, cu + 1, su + m)) : jEv ok xl xs cd mc ms Q ((pc, .anewarray x, n, t :: ps, z) :: K, L, (0, v) :: S, h, cu, su) := ev_k kk (by
  subst hv
  have e1 : (m : Int) < 60000 := by omega
  simp [jstep, jnewa, jhd, e1]) (Or.inr ⟨h1, h2⟩)
theorem ev_obji {x r : Nat} {ps : List Nat} (hw : jwid S ≤ 8) (kk : jEv ok xl xs cd mc ms Q (K, L, S, h, cu, su)) : jEv ok xl xs cd mc ms Q ((pc, .invokespecial x, n, 6 :: ps, z) :: K, L, (2, (r : Int)) :: S, h, cu, su) := ev_k kk (by
  simp only [jwid] at hw
  simp [jstep, jobji, jhd, hw]) (Or.inl ⟨rfl, rfl⟩)
end JEv
theorem jw_ne {h h' : JH} {a i k j : Nat} {v : Int} (e : h' = jwr h a i v) (hne : k ≠ a ∨ j ≠ i) : h'.2.2 k j = h.2.2 k j := by
  subst e
  show (if k = a ∧ j = i then v else h.2.2 k j) = h.2.2 k j
  rw [if_neg (by omega)]
theorem jw_eq {h h' : JH} {a i : Nat} {v : Int} (e : h' = jwr h a i v) : h'.2.2 a i = v := by
  subst e
  show (if a = a ∧ i = i then v else h.2.2 a i) = v
  rw [if_pos ⟨rfl, rfl⟩]
section JEvG
variable {ok : Nat → Nat → Nat → List AV → JH → (Option AV → JH → Prop) → Prop} {xl : Option Nat} {xs : Nat → Int} {cd : List JE} {mc ms : Nat} {Q : Option AV → JH → Prop} {K K' : List JE} {L L' S S' : List AV} {h h' : JH} {cu su pc n : Nat} {ps : List Nat} {z : Int}
theorem ev_putfG {x f k j1 j2 r t : Nat} {v : Int} (h1 : r < h.1) (h2 : jfam f (h.2.1 r).1 = true) (ht : jsk (jfty f k) = t) (hz : jfty f k = 3 → v = 0 ∨ v = 1) (hr : t = 2 → v ≠ -2) (kk : ∀ h', h' = jwr h r k v → jEv ok xl xs cd mc ms Q (K, L, S, h', cu, su)) : jEv ok xl xs cd mc ms Q ((pc, .putfield x, n, [f, k, j1, j2], z) :: K, L, (t, v) :: (2, (r : Int)) :: S, h, cu, su) := ev_putf h1 h2 ht hz hr (kk _ rfl)
theorem ev_iastG {i v : Int} {r j : Nat} (h1 : r < h.1) (ht : (h.2.1 r).1 = 20) (hi : i = (j : Int)) (hj : j < (h.2.1 r).2) (kk : ∀ h', h' = jwr h r j v → jEv ok xl xs cd mc ms Q (K, L, S, h', cu, su)) : jEv ok xl xs cd mc ms Q ((pc, .iastore, n, ps, z) :: K, L, (0, v) :: (0, i) :: (2, (r : Int)) :: S, h, cu, su) := ev_iast h1 ht hi hj (kk _ rfl)
theorem ev_lastG {i v : Int} {r j : Nat} (h1 : r < h.1) (ht : (h.2.1 r).1 = 21) (hi : i = (j : Int)) (hj : j < (h.2.1 r).2) (kk : ∀ h', h' = jwr h r j v → jEv ok xl xs cd mc ms Q (K, L, S, h', cu, su)) : jEv ok xl xs cd mc ms Q ((pc, .lastore, n, ps, z) :: K, L, (1, v) :: (0, i) :: (2, (r : Int)) :: S, h, cu, su) := ev_last h1 ht hi hj (kk _ rfl)
theorem ev_bastG {i v w : Int} {r j : Nat} (h1 : r < h.1) (ht : (h.2.1 r).1 = 22) (hi : i = (j : Int)) (hj : j < (h.2.1 r).2) (hw : w8 v = w) (kk : ∀ h', h' = jwr h r j w → jEv ok xl xs cd mc ms Q (K, L, S, h', cu, su)) : jEv ok xl xs cd mc ms Q ((pc, .bastore, n, [22], z) :: K, L, (0, v) :: (0, i) :: (2, (r : Int)) :: S, h, cu, su) := ev_bast h1 ht hi hj hw (kk _ rfl)
theorem ev_astoG {i : Int} {r j v t f : Nat} (h1 : r < h.1) (ht : (h.2.1 r).1 = t) (hi : i = (j : Int)) (hj : j < (h.2.1 r).2) (h2 : v < h.1) (h3 : jfam f (h.2.1 v).1 = true) (kk : ∀ h', h' = jwr h r j v → jEv ok xl xs cd mc ms Q (K, L, S, h', cu, su)) : jEv ok xl xs cd mc ms Q ((pc, .aastore, n, [t, f], z) :: K, L, (2, (v : Int)) :: (0, i) :: (2, (r : Int)) :: S, h, cu, su) := ev_asto h1 ht hi hj h2 h3 (kk _ rfl)
end JEvG
theorem jOk_up : ∀ (d a b k : Nat) (as : List AV) (h : JH) (Q : Option AV → JH → Prop), jOk d a b k as h Q → jOk (d + 1) a b k as h Q := by
  intro d
  induction d with
  | zero => intro a b k as h Q e; exact e.elim
  | succ d ih => intro a b k as h Q e; exact ⟨e.1, e.2.1, jev_mono ih (fun _ _ q => q) e.2.2⟩
theorem jOk_le {d d' a b k : Nat} {as : List AV} {h : JH} {Q : Option AV → JH → Prop} (hd : d ≤ d') (e : jOk d a b k as h Q) : jOk d' a b k as h Q := by
  induction hd with
  | refl => exact e
  | step _ ih => exact jOk_up _ _ _ _ _ _ _ ih
theorem jOk_post {d a b k : Nat} {as : List AV} {h : JH} {Q Q' : Option AV → JH → Prop} (hQ : ∀ v h, Q v h → Q' v h) (e : jOk d a b k as h Q) : jOk d a b k as h Q' := by
  cases d with
  | zero => exact e.elim
  | succ d => exact ⟨e.1, e.2.1, jev_mono (fun _ _ _ _ _ _ q => q) hQ e.2.2⟩

theorem jcall_s {pc x n na k r : Nat} {z : Int} {ps : List Nat} {K : List JE} {A S' : List AV} {h : JH} (hk : r = 0 ∨ r = 2) (hA : A.length = na) (hw : jwid S' ≤ 8) : jcall ((pc, .invokestatic x, n, r :: na :: k :: ps, z) :: K) (A ++ S') h = some (k, A.reverse, S') := by
  subst hA
  simp [jcall, jhd, hk, hw]
theorem jcall_i {pc x n na k c r : Nat} {z : Int} {ps : List Nat} {K : List JE} {A S' : List AV} {h : JH} (hk : c = 1 ∨ c = 3) (hA : A.length = na) (hw : jwid S' ≤ 8) : jcall ((pc, .invokespecial x, n, c :: na :: k :: ps, z) :: K) (A ++ (2, (r : Int)) :: S') h = some (k, (2, (r : Int)) :: A.reverse, S') := by
  subst hA
  simp [jcall, jhd, hk, hw]
theorem jcall_v {pc x n na k t r : Nat} {z : Int} {ps : List Nat} {K : List JE} {A S' : List AV} {h : JH} (hA : A.length = na) (h1 : r < h.1) (h2 : (h.2.1 r).1 = t) (hw : jwid S' ≤ 8) : jcall ((pc, .invokevirtual x, n, 5 :: na :: k :: t :: ps, z) :: K) (A ++ (2, (r : Int)) :: S') h = some (k, (2, (r : Int)) :: A.reverse, S') := by
  subst hA
  simp [jcall, jhd, hw, h1, h2]
/-- a callee is gone through on the spot -/
theorem ev_in {xl : Option Nat} {xs : Nat → Int} {cd cd' K : List JE} {mc ms cu su d k m a b : Nat} {Q : Option AV → JH → Prop} {L S as S' L0 : List AV} {h : JH} (e : jcall K S h = some (k, as, S')) (hk : k < jnM) (hM : jML k = m) (hP : jP k = cd') (hm : (jexp as).length ≤ m) (hE : jentry as m = L0) (h1 : cu + a ≤ mc) (h2 : su + b ≤ ms)
    (kk : jEv (jOk d) none (fun _ => 0) cd' a b (fun v h' => jEv (jOk (d + 1)) xl xs cd mc ms Q (K.tail, L, v.toList ++ S', h', cu + a, su + b)) (cd', L0, [], h, 0, 0)) : jEv (jOk (d + 1)) xl xs cd mc ms Q (K, L, S, h, cu, su) := by
  refine ev_call e (a := a) (b := b) ⟨hk, by rw [hM]; exact hm, ?_⟩ h1 h2 (fun v h' q => q)
  rw [hM, hP, hE]
  exact kk
