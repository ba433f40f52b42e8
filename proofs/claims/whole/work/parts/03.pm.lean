/-! THE PURE MACHINE: integers are Int (of the range of int), an object is its number in the order of making (0: the script),
   the mutable contents of object a are the row M a; sh tells what the objects are: (class 0..7, 0, fields: none an int field, some none null, some (some r) object r),
   (8, n, []) an int array, (9, n, []) a boolean array, (10, n, elements) an array of objects, (11, n, []) the script. -/
abbrev PV : Type := Int ⊕ Int ⊕ Option Nat
abbrev PS : Type := Nat × Nat × List (Option (Option Nat))
abbrev PM : Type := Nat → Nat → Int
abbrev PL : Type := List (Option PV)
abbrev PR : Type := Option PV × List PS × PM
abbrev pI (x : Int) : PV := .inl x
abbrev pL (x : Int) : PV := .inr (.inl x)
abbrev pR (k : Nat) : PV := .inr (.inr (some k))
abbrev pN : PV := .inr (.inr none)
def wr (z : Int) : Int := (Int32.ofInt z).toInt
def wl (z : Int) : Int := (Int64.ofInt z).toInt
def setC (M : PM) (a i : Nat) (x : Int) : PM := fun b j => if b = a ∧ j = i then x else M b j
def setR (M : PM) (a : Nat) (f : Nat → Int) : PM := fun b j => if b = a then f j else M b j
-- pops
def q1 {α : Type} (st : List PV) (f : Int → List PV → Option α) : Option α := match st with | .inl x :: r => f x r | _ => none
def q2 {α : Type} (st : List PV) (f : Int → Int → List PV → Option α) : Option α := match st with | .inl y :: .inl x :: r => f x y r | _ => none
def q1r {α : Type} (st : List PV) (f : Nat → List PV → Option α) : Option α := match st with | .inr (.inr (some a)) :: r => f a r | _ => none
def q2r {α : Type} (st : List PV) (f : Nat → Int → List PV → Option α) : Option α := match st with | .inl i :: .inr (.inr (some a)) :: r => f a i r | _ => none
def q3r {α : Type} (st : List PV) (f : Nat → Int → Int → List PV → Option α) : Option α := match st with | .inl x :: .inl i :: .inr (.inr (some a)) :: r => f a i x r | _ => none
def isL (v : PV) : Bool := match v with | .inr (.inl _) => true | _ => false
-- stack and arithmetic
def psA (i : Instr) (st : List PV) : Option (List PV) := match i with
  | .iconst n => if -1 ≤ n ∧ n ≤ 5 then some (.inl n :: st) else none
  | .bipush n => if -128 ≤ n ∧ n < 128 then some (.inl n :: st) else none
  | .sipush n => if -32768 ≤ n ∧ n < 32768 then some (.inl n :: st) else none
  | .iadd => q2 st fun x y r => some (.inl (wr (x + y)) :: r)
  | .isub => q2 st fun x y r => some (.inl (wr (x - y)) :: r)
  | .imul => q2 st fun x y r => some (.inl (wr (x * y)) :: r)
  | .idiv => q2 st fun x y r => if y = 0 then none else some (.inl (wr (x.tdiv y)) :: r)
  | .irem => q2 st fun x y r => if y = 0 then none else some (.inl (wr (x - x.tdiv y * y)) :: r)
  | .iand => q2 st fun x y r => some (.inl (Int32.ofInt x &&& Int32.ofInt y).toInt :: r)
  | .ior => q2 st fun x y r => some (.inl (Int32.ofInt x ||| Int32.ofInt y).toInt :: r)
  | .ishl => q2 st fun x y r => some (.inl (Int32.ofInt x <<< (Int32.ofInt y &&& 31)).toInt :: r)
  | .ishr => q2 st fun x y r => some (.inl (Int32.ofInt x >>> (Int32.ofInt y &&& 31)).toInt :: r)
  | .ineg => q1 st fun x r => some (.inl (wr (-x)) :: r)
  | .i2l => q1 st fun x r => some (.inr (.inl x) :: r)
  | .ladd => match st with | .inr (.inl y) :: .inr (.inl x) :: r => some (.inr (.inl (wl (x + y))) :: r) | _ => none
  | .lcmp => match st with | .inr (.inl y) :: .inr (.inl x) :: r => some (.inl (if y < x then 1 else if x = y then 0 else -1) :: r) | _ => none
  | .dup => match st with | v :: r => if isL v then none else some (v :: v :: r) | _ => none
  | .dup2 => match st with | v :: w :: r => if isL v || isL w then none else some (v :: w :: v :: w :: r) | _ => none
  | .pop => match st with | v :: r => if isL v then none else some r | _ => none
  | .aconst_null => some (.inr (.inr none) :: st)
  | _ => none
def ldI (lc : PL) (i : Nat) (st : List PV) : Option (PL × List PV) := match lc[i]? with | some (some (.inl x)) => some (lc, .inl x :: st) | _ => none
def ldR (lc : PL) (i : Nat) (st : List PV) : Option (PL × List PV) := match lc[i]? with | some (some (.inr (.inr (some a)))) => some (lc, .inr (.inr (some a)) :: st) | _ => none
def stI (lc : PL) (i : Nat) (st : List PV) : Option (PL × List PV) := q1 st fun x r => if i < lc.length then some (lc.set i (some (.inl x)), r) else none
def stR (lc : PL) (i : Nat) (st : List PV) : Option (PL × List PV) := q1r st fun a r => if i < lc.length then some (lc.set i (some (.inr (.inr (some a)))), r) else none
-- locals
def psL (i : Instr) (lc : PL) (st : List PV) : Option (PL × List PV) := match i with
  | .iload j => ldI lc j st
  | .iload_n j => ldI lc j.val st
  | .aload j => ldR lc j st
  | .aload_n j => ldR lc j.val st
  | .istore j => stI lc j st
  | .istore_n j => stI lc j.val st
  | .astore j => stR lc j st
  | .astore_n j => stR lc j.val st
  | .iinc j n => match lc[j]? with | some (some (.inl x)) => some (lc.set j (some (.inl (wr (x + n)))), st) | _ => none
  | _ => none
def tg (pc : Nat) (off : Int) : Option Nat := if 0 ≤ (pc : Int) + off then some ((pc : Int) + off).toNat else none
def cnd (c : ClassFile.Cond) (x y : Int) : Bool := match c with
  | .eq => decide (x = y) | .ne => !decide (x = y) | .lt => decide (x < y) | .ge => decide (y ≤ x) | .gt => decide (y < x) | .le => decide (x ≤ y)
-- branches: the next place and the stack
def psB (i : Instr) (pc : Nat) (st : List PV) : Option (Nat × List PV) := match i with
  | .goto off => (tg pc off).bind fun t => some (t, st)
  | .ifCond c off => q1 st fun x r => (tg pc off).bind fun t => some (if cnd c x 0 then t else pc + 3, r)
  | .if_icmp c off => q2 st fun x y r => (tg pc off).bind fun t => some (if cnd c x y then t else pc + 3, r)
  | .ifnull off => match st with | .inr (.inr none) :: r => (tg pc off).bind fun t => some (t, r) | .inr (.inr (some _)) :: r => some (pc + 3, r) | _ => none
  | .ifnonnull off => match st with | .inr (.inr none) :: r => some (pc + 3, r) | .inr (.inr (some _)) :: r => (tg pc off).bind fun t => some (t, r) | _ => none
  | .tableswitch dflt lo hi offs => q1 st fun x r => if x < lo ∨ hi < x then (tg pc dflt).bind fun t => some (t, r) else match offs[(x - lo).toNat]? with | some off => (tg pc off).bind fun t => some (t, r) | none => none
  | _ => none
def fieldOf (own idx : Nat) : Option FTy := FR.find? fun q => q.1 == own && q.2.1 == idx
def getf (sh : List PS) (M : PM) (a c j : Nat) : Option PV := if a = 0 then none else match sh[a]? with
  | some (c0, _, L) => if c0 = c ∧ c < 8 then match L[j]? with | some none => some (.inl (M a j)) | some (some none) => some (.inr (.inr none)) | some (some (some r)) => some (.inr (.inr (some r))) | none => none else none
  | none => none
/-- an int array's element; the script's -/
def aget (sh : List PS) (M : PM) (a : Nat) (i : Int) : Option PV := match sh[a]? with
  | some (c0, n, _) => if 0 ≤ i ∧ i < n ∧ (a = 0 ∧ c0 = 11 ∨ ¬ a = 0 ∧ c0 = 8) then some (.inl (M a i.toNat)) else none
  | none => none
def zget (sh : List PS) (M : PM) (a : Nat) (i : Int) : Option PV := if a = 0 then none else match sh[a]? with
  | some (c0, n, _) => if 0 ≤ i ∧ i < n ∧ c0 = 9 then some (.inl (M a i.toNat)) else none
  | none => none
def rget (sh : List PS) (a : Nat) (i : Int) : Option PV := if a = 0 then none else match sh[a]? with
  | some (c0, n, L) => if 0 ≤ i ∧ i < n ∧ c0 = 10 then match L[i.toNat]? with | some (some (some r)) => some (.inr (.inr (some r))) | _ => none else none
  | none => none
def alen (sh : List PS) (a : Nat) : Option PV := match sh[a]? with
  | some (c0, n, _) => if a = 0 ∧ c0 = 11 ∨ ¬ a = 0 ∧ (c0 = 8 ∨ c0 = 9 ∨ c0 = 10) then some (.inl (n : Int)) else none
  | none => none
def putI (sh : List PS) (M : PM) (a c j : Nat) (b : Bool) (x : Int) : Option PM := if a = 0 then none else match sh[a]? with
  | some (c0, _, L) => if c0 = c ∧ c < 8 ∧ L[j]? = some none ∧ (b = false ∨ x = 0 ∨ x = 1) then some (setC M a j x) else none
  | none => none
def putR (sh : List PS) (a c j r : Nat) : Option (List PS) := if a = 0 ∨ r = 0 then none else match sh[a]? with
  | some (c0, n, L) => if c0 = c ∧ c < 8 then match L[j]? with | some (some _) => some (sh.set a (c0, n, L.set j (some (some r)))) | _ => none else none
  | none => none
def aput (sh : List PS) (M : PM) (a : Nat) (i x : Int) : Option PM := if a = 0 then none else match sh[a]? with
  | some (c0, n, _) => if 0 ≤ i ∧ i < n ∧ c0 = 8 then some (setC M a i.toNat x) else none
  | none => none
def zput (sh : List PS) (M : PM) (a : Nat) (i x : Int) : Option PM := if a = 0 then none else match sh[a]? with
  | some (c0, n, _) => if 0 ≤ i ∧ i < n ∧ c0 = 9 ∧ (x = 0 ∨ x = 1) then some (setC M a i.toNat x) else none
  | none => none
def rput (sh : List PS) (a : Nat) (i : Int) (r : Nat) : Option (List PS) := if a = 0 ∨ r = 0 then none else match sh[a]? with
  | some (c0, n, L) => if 0 ≤ i ∧ i < n ∧ c0 = 10 ∧ i.toNat < L.length then match sh[r]? with | some (5, _, _) => some (sh.set a (c0, n, L.set i.toNat (some (some r)))) | _ => none else none
  | none => none
def tyT (c j : Nat) : Nat := match (parseFieldDescriptor ((vwCl.getD c (RX0, TX0, 4)).2.1 j).2.2.1) with | some .int => 0 | some .boolean => 1 | _ => 2
/-- a new object's fields -/
def dfl (c : Nat) : List (Option (Option Nat)) := match c with
  | 0 => [some none, some none, some none, none]
  | 1 => [some none, some none, some none, some none, some none, some none, none, none]
  | 2 => [some none, some none, none]
  | 3 => [some none, some none, some none, none]
  | 4 => [some none, none, some none, some none, some none, none, none, none]
  | 5 => [some none, none, none, none]
  | 6 => [some none, some none, some none, some none, some none, some none, some none]
  | _ => [none, none, none, some none, none, some none, none, some none, none, some none, some none, none, none, none, none, some none, some none, none, some none, some none]
def isIni (k : Nat) : Bool := kd k == 2
-- heap
def psH (k : Nat) (i : Instr) (st : List PV) (sh : List PS) (M : PM) : Option (List PV × List PS × PM) := match i with
  | .getfield idx => q1r st fun a r => match fieldOf (oc k) idx with | some q => (getf sh M a q.2.2.1 q.2.2.2.1).bind fun v => some (v :: r, sh, M) | none => none
  | .putfield idx => match st with
    | .inl x :: .inr (.inr (some a)) :: r => match fieldOf (oc k) idx with
      | some q => if q.2.2.2.2.2.2.2 = false ∧ q.2.2.2.2.2.2.1 < 2 then (putI sh M a q.2.2.1 q.2.2.2.1 (q.2.2.2.2.2.2.1 == 1) x).bind fun M' => some (r, sh, M') else none
      | none => none
    | .inr (.inr (some w)) :: .inr (.inr (some a)) :: r => match fieldOf (oc k) idx with
      | some q => if q.2.2.2.2.2.2.2 = true ∧ q.2.2.2.2.2.2.1 = 2 ∧ q.2.2.2.2.1 = false ∧ isIni k = true ∧ q.2.2.1 = oc k then (putR sh a q.2.2.1 q.2.2.2.1 w).bind fun sh' => some (r, sh', M) else none
      | none => none
    | _ => none
  | .iaload => q2r st fun a i r => (aget sh M a i).bind fun v => some (v :: r, sh, M)
  | .baload => q2r st fun a i r => (zget sh M a i).bind fun v => some (v :: r, sh, M)
  | .aaload => q2r st fun a i r => (rget sh a i).bind fun v => some (v :: r, sh, M)
  | .arraylength => q1r st fun a r => (alen sh a).bind fun v => some (v :: r, sh, M)
  | .iastore => q3r st fun a i x r => (aput sh M a i x).bind fun M' => some (r, sh, M')
  | .bastore => q3r st fun a i x r => (zput sh M a i x).bind fun M' => some (r, sh, M')
  | .aastore => match st with | .inr (.inr (some w)) :: .inl i :: .inr (.inr (some a)) :: r => (rput sh a i w).bind fun sh' => some (r, sh', M) | _ => none
  | .ldc idx => match KI.find? (fun q => q.1 == oc k && q.2.1 == idx) with | some q => some (.inl q.2.2.1 :: st, sh, M) | none => none
  | .ldc2_w idx => match KL.find? (fun q => q.1 == oc k && q.2.1 == idx) with | some q => some (.inr (.inl q.2.2.1) :: st, sh, M) | none => none
  | .new idx => match NC.find? (fun q => q.1 == oc k && q.2.1 == idx) with | some q => if q.2.2.1 < 8 ∧ ¬ sh.length = 0 then some (.inr (.inr (some sh.length)) :: st, sh ++ [(q.2.2.1, 0, dfl q.2.2.1)], setR M sh.length fun _ => 0) else none | none => none
  | .newarray .int => q1 st fun n r => if 0 ≤ n ∧ n ≤ 1000 ∧ ¬ sh.length = 0 then some (.inr (.inr (some sh.length)) :: r, sh ++ [(8, n.toNat, [])], setR M sh.length fun _ => 0) else none
  | .newarray .boolean => q1 st fun n r => if 0 ≤ n ∧ n ≤ 1000 ∧ ¬ sh.length = 0 then some (.inr (.inr (some sh.length)) :: r, sh ++ [(9, n.toNat, [])], setR M sh.length fun _ => 0) else none
  | .anewarray idx => q1 st fun n r => match NC.find? (fun q => q.1 == oc k && q.2.1 == idx) with | some q => if q.2.2.1 = 5 ∧ 0 ≤ n ∧ n ≤ 1000 ∧ ¬ sh.length = 0 then some (.inr (.inr (some sh.length)) :: r, sh ++ [(10, n.toNat, List.replicate n.toNat (some none))], setR M sh.length fun _ => 0) else none | none => none
  | _ => none
def methOf (own idx : Nat) : Option RTy := MR.find? fun q => q.1 == own && q.2.1 == idx
def mSum (st : List PV) : Nat := (st.map fun v => if isL v then 2 else 1).sum
-- Math.max, Math.min, Object.<init>
def psM (d k : Nat) (i : Instr) (st : List PV) : Option (List PV) := match i with
  | .invokestatic idx => match methOf (oc k) idx with
    | some q => if q.2.2.1 = 201 ∧ q.2.2.2.1 = false ∧ 1 ≤ d then q2 st fun x y r => if mSum r ≤ 8 then some (.inl (if x < y then y else x) :: r) else none
      else if q.2.2.1 = 202 ∧ q.2.2.2.1 = false ∧ 1 ≤ d then q2 st fun x y r => if mSum r ≤ 8 then some (.inl (if y < x then y else x) :: r) else none else none
    | none => none
  | .invokespecial idx => match methOf (oc k) idx with
    | some q => if q.2.2.1 = 200 ∧ q.2.2.2.1 = false ∧ 1 ≤ d then q1r st fun _ r => if mSum r ≤ 8 then some r else none else none
    | none => none
  | _ => none
def lenOk (i : Instr) (len : Nat) : Bool := match i with
  | .tableswitch _ _ _ _ => true
  | .bipush _ | .iload _ | .aload _ | .istore _ | .astore _ | .ldc _ | .newarray _ => len == 2
  | .sipush _ | .iinc _ _ | .goto _ | .ifCond _ _ | .if_icmp _ _ | .ifnull _ | .ifnonnull _ | .getfield _ | .putfield _ | .ldc2_w _ | .new _ | .anewarray _ | .invokevirtual _ | .invokespecial _ | .invokestatic _ => len == 3
  | _ => len == 1
def ps (d k : Nat) (i : Instr) (len pc : Nat) (lc : PL) (st : List PV) (sh : List PS) (M : PM) : Option (Nat × PL × List PV × List PS × PM) :=
  match psA i st with
  | some st' => some (pc + len, lc, st', sh, M)
  | none => match psL i lc st with
    | some (lc', st') => some (pc + len, lc', st', sh, M)
    | none => match psB i pc st with
      | some (pc', st') => some (pc', lc, st', sh, M)
      | none => match psH k i st sh M with
        | some (st', sh', M') => some (pc + len, lc, st', sh', M')
        | none => match psM d k i st with
          | some st' => some (pc + len, lc, st', sh, M)
          | none => none
/-- a method's end: what it answers -/
def rets (k : Nat) (i : Instr) (st : List PV) : Option (Option PV) := match i, st with
  | .ireturn, [.inl x] => match rt k with | some .int => some (some (.inl x)) | some .boolean => if x = 0 ∨ x = 1 then some (some (.inl x)) else none | _ => none
  | .lreturn, [.inr (.inl x)] => match rt k with | some .long => some (some (.inr (.inl x))) | _ => none
  | .areturn, [.inr (.inr (some a))] => match rt k with | some (.object _) => some (some (.inr (.inr (some a)))) | _ => none
  | .return_, [] => match rt k with | none => some none | _ => none
  | _, _ => none
def isObj (sh : List PS) (v : Option PV) (c : Nat) : Bool := match v with
  | some (.inr (.inr (some a))) => if a = 0 then false else match sh[a]? with | some (c0, _, _) => c0 == c | none => false
  | _ => false
/-- a call: whom, with what, what stays -/
def callOf (k : Nat) (i : Instr) (st : List PV) (sh : List PS) : Option (Nat × List PV × List PV) :=
  match (match i with | .invokevirtual idx => some (idx, 1) | .invokespecial idx => some (idx, 2) | .invokestatic idx => some (idx, 0) | _ => none) with
  | none => none
  | some (idx, z) => match methOf (oc k) idx with
    | none => none
    | some q => let t := q.2.2.1
      let n := na t + (if z = 0 then 0 else 1)
      let as := (st.take n).reverse
      if t < 134 ∧ kd t = z ∧ n ≤ st.length ∧ mSum (st.drop n) ≤ 8 ∧ n ≤ mx t ∧ as.any isL = false ∧ (z = 0 ∨ isObj sh as[0]? (oc t) = true) ∧ (z = 2 ∨ q.2.2.2.1 = false ∨ z = 0) then some (t, as, st.drop n) else none
def ent (t : Nat) (as : List PV) : PL := as.map some ++ List.replicate (mx t - as.length) none
def run : Nat → Nat → Nat → Nat → PL → List PV → List PS → PM → Option PR
  | 0, _, _, _, _, _, _, _ => none
  | n + 1, d, k, pc, lc, st, sh, M => match decode (cd k) pc with
    | .error _ => none
    | .ok (i, len) => if lenOk i len = false then none else match ps d k i len pc lc st sh M with
      | some (pc', lc', st', sh', M') => run n d k pc' lc' st' sh' M'
      | none => match rets k i st with
        | some r => some (r, sh, M)
        | none => match callOf k i st sh with
          | none => none
          | some (t, as, rest) => match d with
            | 0 => none
            | d' + 1 => match run n d' t 0 (ent t as) [] sh M with
              | none => none
              | some (r, sh', M') => run n (d' + 1) k (pc + 3) lc (r.toList ++ rest) sh' M'
