/-! A SIMPLE MACHINE: values are (0, int), (1, long), (2, reference: -1 null, -2 the script, k the k-th cell made); a heap is its size, each cell's kind and length, each cell's contents. -/
abbrev AV : Type := Nat × Int
abbrev JH : Type := Nat × (Nat → Nat × Nat) × (Nat → Nat → Int)
abbrev JE : Type := Nat × Instr × Nat × List Nat × Int
abbrev JS : Type := List JE × List AV × List AV × JH × Nat × Nat
def w32 (x : Int) : Int := (x + 2147483648) % 4294967296 - 2147483648
def w64 (x : Int) : Int := (x + 9223372036854775808) % 18446744073709551616 - 9223372036854775808
def w16 (x : Int) : Int := (x + 32768) % 65536 - 32768
def w8 (x : Int) : Int := (x + 128) % 256 - 128
def jand (x y : Int) : Int := (Int32.ofInt x &&& Int32.ofInt y).toInt
def jor (x y : Int) : Int := (Int32.ofInt x ||| Int32.ofInt y).toInt
def jxor (x y : Int) : Int := (Int32.ofInt x ^^^ Int32.ofInt y).toInt
def jshl (x y : Int) : Int := (Int32.ofInt x <<< (Int32.ofInt y &&& 31)).toInt
def jshr (x y : Int) : Int := (Int32.ofInt x >>> (Int32.ofInt y &&& 31)).toInt
def jushr (x y : Int) : Int := ((Int32.ofInt x).toUInt32 >>> ((Int32.ofInt y).toUInt32 &&& Int32.toUInt32 31)).toInt32.toInt
def jandL (x y : Int) : Int := (Int64.ofInt x &&& Int64.ofInt y).toInt
def jorL (x y : Int) : Int := (Int64.ofInt x ||| Int64.ofInt y).toInt
def jxorL (x y : Int) : Int := (Int64.ofInt x ^^^ Int64.ofInt y).toInt
def jshlL (x y : Int) : Int := (Int64.ofInt x <<< ((Int32.ofInt y).toInt64 &&& 63)).toInt
def jushrL (x y : Int) : Int := ((Int64.ofInt x).toUInt64 >>> ((Int32.ofInt y).toInt64.toUInt64 &&& Int64.toUInt64 63)).toInt64.toInt
def jcmpL (x y : Int) : Int := if x < y then -1 else if x = y then 0 else 1
/-- what kind a field is: 0 int, 1 long, 2 reference, 3 boolean -/
def jfk (d : String) : Nat := if d = "I" then 0 else if d = "J" then 1 else if d = "Z" then 3 else 2
def jfty (c k : Nat) : Nat := match vwCl[c]? with
  | some q => jfk (q.2.1 k).2.2.1
  | none => 0
def jN (c : Nat) : Nat := match vwCl[c]? with
  | some q => q.2.2
  | none => 0
/-- a kind as it stands on the stack -/
def jsk (t : Nat) : Nat := if t = 3 then 0 else t
/-- arrays: 20 int, 21 long, 22 byte, 23 boolean, 24 Quarrel, 25 End -/
def jak (t : Nat) : Nat := if t = 21 then 1 else if t = 24 ∨ t = 25 then 2 else 0
def jdef (t j : Nat) : Int := if t < 20 then (if jfty t j = 2 then -1 else 0) else if t = 24 ∨ t = 25 then -1 else 0
def jfam (f t : Nat) : Bool := if f = 0 then (t == 0 || t == 1 || t == 2 || t == 3 || t == 6 || t == 8) else t == f
/-- is a body of kind t one of kind u, or under it -/
def jund (t u : Nat) : Bool := t == u || (u == 0 && (t == 1 || t == 2 || t == 3 || t == 6 || t == 8)) || (u == 1 && t == 6) || (u == 3 && t == 8)
def jwr (h : JH) (a i : Nat) (v : Int) : JH := (h.1, h.2.1, fun k j => if k = a ∧ j = i then v else h.2.2 k j)
def jnew (h : JH) (t n : Nat) : JH := (h.1 + 1, fun k => if k = h.1 then (t, n) else h.2.1 k, fun k j => if k = h.1 then jdef t j else h.2.2 k j)
def jcpy (h : JH) (a sp d dp n : Nat) : JH := (h.1, h.2.1, fun k j => if k = d ∧ dp ≤ j ∧ j < dp + n then h.2.2 a (sp + (j - dp)) else h.2.2 k j)
def jfind : List JE → Nat → Option (List JE)
  | [], _ => none
  | e :: r, t => if e.1 = t then some (e :: r) else jfind r t
def jpc : List JE → Nat
  | [] => 0
  | e :: _ => e.1
/-- a long that ends at place k is gone when place k is written -/
def jcl (L : List AV) (k : Nat) : List AV := match k with
  | 0 => L
  | k' + 1 => match L[k']? with
    | some v => if v.1 = 1 then L.set k' (9, 0) else L
    | none => L
def jput (L : List AV) (k : Nat) (v : AV) : List AV := jcl (L.set k v) k
def jput2 (L : List AV) (k : Nat) (v : AV) : List AV := jcl ((L.set k v).set (k + 1) (9, 0)) k
/-- a place of the script, if there is one -/
def jxin (xl : Option Nat) (i : Nat) : Bool := match xl with
  | some m => decide (i < m)
  | none => false
section Helpers
variable (K : List JE) (L S : List AV) (h : JH) (cu su : Nat)
def jpush (v : AV) : Option JS := some (K, L, v :: S, h, cu, su)
def jld (t k : Nat) : Option JS := match L[k]? with
  | some v => if v.1 = t then some (K, L, v :: S, h, cu, su) else none
  | none => none
def jst (t k : Nat) : Option JS := match S with
  | v :: S' => if v.1 = t ∧ k < L.length then some (K, jput L k v, S', h, cu, su) else none
  | [] => none
def jst2 (k : Nat) : Option JS := match S with
  | v :: S' => if v.1 = 1 ∧ k + 1 < L.length then some (K, jput2 L k v, S', h, cu, su) else none
  | [] => none
def jinc (k : Nat) (n : Int) : Option JS := match L[k]? with
  | some v => if v.1 = 0 then some (K, jput L k (0, w32 (v.2 + n)), S, h, cu, su) else none
  | none => none
def jun (t u : Nat) (f : Int → Int) : Option JS := match S with
  | v :: S' => if v.1 = t then some (K, L, (u, f v.2) :: S', h, cu, su) else none
  | [] => none
/-- two operands of kinds t (below) and t' (on top), an answer of kind u -/
def jbin (t t' u : Nat) (f : Int → Int → Int) : Option JS := match S with
  | w :: v :: S' => if v.1 = t ∧ w.1 = t' then some (K, L, (u, f v.2 w.2) :: S', h, cu, su) else none
  | _ => none
def jdiv (t : Nat) (f : Int → Int → Int) : Option JS := match S with
  | w :: v :: S' => if v.1 = t ∧ w.1 = t ∧ w.2 ≠ 0 then some (K, L, (t, f v.2 w.2) :: S', h, cu, su) else none
  | _ => none
def jgo (c : List JE) (t : Nat) (S' : List AV) : Option JS := match jfind c t with
  | some K' => some (K', L, S', h, cu, su)
  | none => none
def jcnd (q : ClassFile.Cond) (x y : Int) : Bool := match q with
  | .eq => decide (x = y)
  | .ne => decide (x ≠ y)
  | .lt => decide (x < y)
  | .ge => decide (y ≤ x)
  | .gt => decide (y < x)
  | .le => decide (x ≤ y)
def jif (c : List JE) (q : ClassFile.Cond) (t : Nat) : Option JS := match S with
  | v :: S' => if v.1 = 0 then (if jcnd q v.2 0 = true then jgo L h cu su c t S' else some (K, L, S', h, cu, su)) else none
  | [] => none
def jicmp (c : List JE) (q : ClassFile.Cond) (t : Nat) : Option JS := match S with
  | w :: v :: S' => if v.1 = 0 ∧ w.1 = 0 then (if jcnd q v.2 w.2 = true then jgo L h cu su c t S' else some (K, L, S', h, cu, su)) else none
  | _ => none
def jnul (c : List JE) (isn : Bool) (t : Nat) : Option JS := match S with
  | v :: S' => if v.1 = 2 then (if decide (v.2 = -1) = isn then jgo L h cu su c t S' else some (K, L, S', h, cu, su)) else none
  | [] => none
def jsw (c : List JE) (lo hi : Int) (ts : List Nat) : Option JS := match S with
  | v :: S' => if v.1 = 0 then (match ts[if v.2 < lo ∨ hi < v.2 then 0 else (v.2 - lo).toNat + 1]? with
    | some t => jgo L h cu su c t S'
    | none => none) else none
  | [] => none
def jgetf (f k : Nat) : Option JS := match S with
  | v :: S' => if v.1 = 2 ∧ 0 ≤ v.2 ∧ v.2.toNat < h.1 ∧ jfam f (h.2.1 v.2.toNat).1 = true then some (K, L, (jsk (jfty f k), h.2.2 v.2.toNat k) :: S', h, cu, su) else none
  | [] => none
def jputf (f k : Nat) : Option JS := match S with
  | w :: v :: S' => if v.1 = 2 ∧ 0 ≤ v.2 ∧ v.2.toNat < h.1 ∧ jfam f (h.2.1 v.2.toNat).1 = true ∧ w.1 = jsk (jfty f k) ∧ (jfty f k = 3 → w.2 = 0 ∨ w.2 = 1) ∧ (w.1 = 2 → w.2 ≠ -2) then some (K, L, S', jwr h v.2.toNat k w.2, cu, su) else none
  | _ => none
def jald (xl : Option Nat) (xs : Nat → Int) (t : Nat) : Option JS := match S with
  | w :: v :: S' => if v.1 = 2 ∧ w.1 = 0 then (if v.2 = -2 then (if t = 20 ∧ 0 ≤ w.2 ∧ jxin xl w.2.toNat = true then some (K, L, (0, xs w.2.toNat) :: S', h, cu, su) else none) else
      (if 0 ≤ v.2 ∧ v.2.toNat < h.1 ∧ (h.2.1 v.2.toNat).1 = t ∧ 0 ≤ w.2 ∧ w.2.toNat < (h.2.1 v.2.toNat).2 then some (K, L, (jak t, h.2.2 v.2.toNat w.2.toNat) :: S', h, cu, su) else none)) else none
  | _ => none
def jast (t : Nat) (f : Int → Int) : Option JS := match S with
  | u :: w :: v :: S' => if v.1 = 2 ∧ w.1 = 0 ∧ u.1 = jak t ∧ 0 ≤ v.2 ∧ v.2.toNat < h.1 ∧ (h.2.1 v.2.toNat).1 = t ∧ 0 ≤ w.2 ∧ w.2.toNat < (h.2.1 v.2.toNat).2 then some (K, L, S', jwr h v.2.toNat w.2.toNat (f u.2), cu, su) else none
  | _ => none
/-- a body is stored in an array of bodies -/
def jasto (t f : Nat) : Option JS := match S with
  | u :: w :: v :: S' => if v.1 = 2 ∧ w.1 = 0 ∧ u.1 = 2 ∧ 0 ≤ v.2 ∧ v.2.toNat < h.1 ∧ (h.2.1 v.2.toNat).1 = t ∧ 0 ≤ w.2 ∧ w.2.toNat < (h.2.1 v.2.toNat).2 ∧ 0 ≤ u.2 ∧ u.2.toNat < h.1 ∧ jfam f (h.2.1 u.2.toNat).1 = true then some (K, L, S', jwr h v.2.toNat w.2.toNat u.2, cu, su) else none
  | _ => none
def jaln (xl : Option Nat) : Option JS := match S with
  | v :: S' => if v.1 = 2 then (if v.2 = -2 then (match xl with
      | some m => some (K, L, (0, (m : Int)) :: S', h, cu, su)
      | none => none) else if 0 ≤ v.2 ∧ v.2.toNat < h.1 ∧ 20 ≤ (h.2.1 v.2.toNat).1 ∧ (h.2.1 v.2.toNat).1 ≤ 25 ∧ (h.2.1 v.2.toNat).2 < 2147483648 then some (K, L, (0, ((h.2.1 v.2.toNat).2 : Int)) :: S', h, cu, su) else none) else none
  | [] => none
def jnewo (c : Nat) : Option JS := some (K, L, (2, (h.1 : Int)) :: S, jnew h c (jN c), cu + 1, su + jN c)
def jnewa (t : Nat) : Option JS := match S with
  | v :: S' => if v.1 = 0 ∧ 0 ≤ v.2 ∧ v.2 < 60000 then some (K, L, (2, (h.1 : Int)) :: S', jnew h t v.2.toNat, cu + 1, su + v.2.toNat) else none
  | [] => none
def jinst (u : Nat) : Option JS := match S with
  | v :: S' => if v.1 = 2 ∧ 0 ≤ v.2 ∧ v.2.toNat < h.1 ∧ jfam 0 (h.2.1 v.2.toNat).1 = true then some (K, L, (0, if jund (h.2.1 v.2.toNat).1 u = true then 1 else 0) :: S', h, cu, su) else none
  | [] => none
def jpop (t : Nat) : Option JS := match S with
  | v :: S' => if jsk v.1 = t then some (K, L, S', h, cu, su) else none
  | [] => none
def jdup : Option JS := match S with
  | v :: S' => if v.1 = 0 ∨ v.1 = 2 then some (K, L, v :: v :: S', h, cu, su) else none
  | [] => none
def jdup2 : Option JS := match S with
  | w :: S' => if w.1 = 1 then some (K, L, w :: w :: S', h, cu, su) else (match S' with
    | v :: S'' => if (v.1 = 0 ∨ v.1 = 2) ∧ (w.1 = 0 ∨ w.1 = 2) then some (K, L, w :: v :: w :: v :: S'', h, cu, su) else none
    | [] => none)
  | [] => none
def jcopy : Option JS := match S with
  | n :: dp :: d :: sp :: a :: S' => if n.1 = 0 ∧ dp.1 = 0 ∧ d.1 = 2 ∧ sp.1 = 0 ∧ a.1 = 2 ∧ 0 ≤ n.2 ∧ 0 ≤ dp.2 ∧ 0 ≤ sp.2 ∧ 0 ≤ a.2 ∧ a.2.toNat < h.1 ∧ 0 ≤ d.2 ∧ d.2.toNat < h.1 ∧ (h.2.1 a.2.toNat).1 = (h.2.1 d.2.toNat).1 ∧ ((h.2.1 a.2.toNat).1 = 20 ∨ (h.2.1 a.2.toNat).1 = 21) ∧
      sp.2.toNat + n.2.toNat ≤ (h.2.1 a.2.toNat).2 ∧ dp.2.toNat + n.2.toNat ≤ (h.2.1 d.2.toNat).2 ∧ (S'.map fun v => if v.1 = 1 then 2 else 1).sum ≤ 8 then some (K, L, S', jcpy h a.2.toNat sp.2.toNat d.2.toNat dp.2.toNat n.2.toNat, cu, su) else none
  | _ => none
def jobji : Option JS := match S with
  | v :: S' => if v.1 = 2 ∧ 0 ≤ v.2 ∧ (S'.map fun v => if v.1 = 1 then 2 else 1).sum ≤ 8 then some (K, L, S', h, cu, su) else none
  | [] => none
end Helpers
def jat (at_ : ArrayType) : Nat := match at_ with
  | .int => 20
  | .long => 21
  | .byte => 22
  | .boolean => 23
  | _ => 99
def jhd (ps : List Nat) : Nat := ps.getD 0 0
/-- an instruction that neither calls nor returns -/
def jstep (xl : Option Nat) (xs : Nat → Int) (c : List JE) : JS → Option JS
  | ([], _) => none
  | ((pc, i, n, ps, z) :: K, L, S, h, cu, su) => match i with
    | .iconst v => jpush K L S h cu su (0, v)
    | .bipush v => jpush K L S h cu su (0, v)
    | .sipush v => jpush K L S h cu su (0, v)
    | .lconst v => jpush K L S h cu su (1, (v.val : Int))
    | .ldc _ => jpush K L S h cu su (0, z)
    | .ldc_w _ => jpush K L S h cu su (0, z)
    | .ldc2_w _ => jpush K L S h cu su (1, z)
    | .aconst_null => jpush K L S h cu su (2, -1)
    | .iload k => jld K L S h cu su 0 k
    | .iload_n k => jld K L S h cu su 0 k.val
    | .lload k => jld K L S h cu su 1 k
    | .lload_n k => jld K L S h cu su 1 k.val
    | .aload k => jld K L S h cu su 2 k
    | .aload_n k => jld K L S h cu su 2 k.val
    | .istore k => jst K L S h cu su 0 k
    | .istore_n k => jst K L S h cu su 0 k.val
    | .astore k => jst K L S h cu su 2 k
    | .astore_n k => jst K L S h cu su 2 k.val
    | .lstore k => jst2 K L S h cu su k
    | .lstore_n k => jst2 K L S h cu su k.val
    | .iinc k v => jinc K L S h cu su k v
    | .pop => jpop K L S h cu su 0
    | .pop2 => jpop K L S h cu su 1
    | .dup => jdup K L S h cu su
    | .dup2 => jdup2 K L S h cu su
    | .iadd => jbin K L S h cu su 0 0 0 (fun x y => w32 (x + y))
    | .isub => jbin K L S h cu su 0 0 0 (fun x y => w32 (x - y))
    | .imul => jbin K L S h cu su 0 0 0 (fun x y => w32 (x * y))
    | .iand => jbin K L S h cu su 0 0 0 jand
    | .ior => jbin K L S h cu su 0 0 0 jor
    | .ixor => jbin K L S h cu su 0 0 0 jxor
    | .ishl => jbin K L S h cu su 0 0 0 jshl
    | .ishr => jbin K L S h cu su 0 0 0 jshr
    | .iushr => jbin K L S h cu su 0 0 0 jushr
    | .idiv => jdiv K L S h cu su 0 (fun x y => w32 (x.tdiv y))
    | .irem => jdiv K L S h cu su 0 (fun x y => x.tmod y)
    | .ineg => jun K L S h cu su 0 0 (fun x => w32 (-x))
    | .ladd => jbin K L S h cu su 1 1 1 (fun x y => w64 (x + y))
    | .lsub => jbin K L S h cu su 1 1 1 (fun x y => w64 (x - y))
    | .lmul => jbin K L S h cu su 1 1 1 (fun x y => w64 (x * y))
    | .land => jbin K L S h cu su 1 1 1 jandL
    | .lor => jbin K L S h cu su 1 1 1 jorL
    | .lxor => jbin K L S h cu su 1 1 1 jxorL
    | .lshl => jbin K L S h cu su 1 0 1 jshlL
    | .lushr => jbin K L S h cu su 1 0 1 jushrL
    | .ldiv => jdiv K L S h cu su 1 (fun x y => w64 (x.tdiv y))
    | .lrem => jdiv K L S h cu su 1 (fun x y => x.tmod y)
    | .lneg => jun K L S h cu su 1 1 (fun x => w64 (-x))
    | .lcmp => jbin K L S h cu su 1 1 0 jcmpL
    | .i2l => jun K L S h cu su 0 1 (fun x => x)
    | .l2i => jun K L S h cu su 1 0 w32
    | .i2b => jun K L S h cu su 0 0 w8
    | .i2s => jun K L S h cu su 0 0 w16
    | .ifCond q _ => jif K L S h cu su c q (jhd ps)
    | .if_icmp q _ => jicmp K L S h cu su c q (jhd ps)
    | .ifnull _ => jnul K L S h cu su c true (jhd ps)
    | .ifnonnull _ => jnul K L S h cu su c false (jhd ps)
    | .goto _ => jgo L h cu su c (jhd ps) S
    | .tableswitch _ lo hi _ => jsw L S h cu su c lo hi ps
    | .getfield _ => jgetf K L S h cu su (ps.getD 0 0) (ps.getD 1 0)
    | .putfield _ => jputf K L S h cu su (ps.getD 0 0) (ps.getD 1 0)
    | .iaload => jald K L S h cu su xl xs 20
    | .laload => jald K L S h cu su xl xs 21
    | .baload => jald K L S h cu su xl xs (jhd ps)
    | .aaload => jald K L S h cu su xl xs (jhd ps)
    | .iastore => jast K L S h cu su 20 (fun x => x)
    | .lastore => jast K L S h cu su 21 (fun x => x)
    | .bastore => if jhd ps = 22 then jast K L S h cu su 22 w8 else if jhd ps = 23 then jast K L S h cu su 23 (fun x => x % 2) else none
    | .aastore => jasto K L S h cu su (ps.getD 0 0) (ps.getD 1 0)
    | .arraylength => jaln K L S h cu su xl
    | .new _ => jnewo K L S h cu su (jhd ps)
    | .newarray a => jnewa K L S h cu su (jat a)
    | .anewarray _ => jnewa K L S h cu su (jhd ps)
    | .invokespecial _ => if jhd ps = 6 then jobji K L S h cu su else none
    | .invokestatic _ => if jhd ps = 7 then jcopy K L S h cu su else none
    | .instanceof _ => jinst K L S h cu su (jhd ps)
    | _ => none
/-- what a return gives back -/
def jret : List JE → List AV → Option (Option AV)
  | (pc, i, n, ps, z) :: K, S => match i with
    | .return_ => if S = [] then some none else none
    | .ireturn => (match S with
      | [v] => if v.1 = 0 ∧ (jhd ps = 1 → v.2 = 0 ∨ v.2 = 1) then some (some v) else none
      | _ => none)
    | .lreturn => (match S with
      | [v] => if v.1 = 1 then some (some v) else none
      | _ => none)
    | .areturn => (match S with
      | [v] => if v.1 = 2 then some (some v) else none
      | _ => none)
    | _ => none
  | [], _ => none
