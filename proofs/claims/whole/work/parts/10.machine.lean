/-! THE ABSTRACT MACHINE: values are whole numbers (kept in range), references carry tag, length and a number of their cell; the shape S tells the cells and what references they hold, the memory M what numbers. -/
abbrev AV : Type := Int ⊕ (Int ⊕ ((Nat × Int × Nat) ⊕ Unit))
abbrev vI (x : Int) : AV := .inl x
abbrev vL (x : Int) : AV := .inr (.inl x)
abbrev vR (t : Nat) (n : Int) (a : Nat) : AV := .inr (.inr (.inl (t, n, a)))
abbrev vU : AV := .inr (.inr (.inr ()))
abbrev Mm : Type := Nat → Nat → Int
abbrev Ds : Type := Nat × Nat × List (Option Nat)
abbrev Sp : Type := List Ds
abbrev Rs : Type := Option AV × Sp × Mm
def w32 (x : Int) : Int := Int.bmod x 4294967296
def w64 (x : Int) : Int := Int.bmod x 18446744073709551616
def up (M : Mm) (a k : Nat) (v : Int) : Mm := fun b j => if b = a ∧ j = k then v else M b j
def cpy (M : Mm) (a sp b dp n : Nat) : Mm := fun c j => if c = b ∧ dp ≤ j ∧ j < dp + n then M a (sp + (j - dp)) else M c j
def shl32 (x y : Int) : Int := (Int32.ofInt x <<< (Int32.ofInt y &&& 31)).toInt
def shr32 (x y : Int) : Int := (Int32.ofInt x >>> (Int32.ofInt y &&& 31)).toInt
def ushr32 (x y : Int) : Int := ((Int32.ofInt x).toUInt32 >>> ((Int32.ofInt y).toUInt32 &&& Int32.toUInt32 31)).toInt32.toInt
def and32 (x y : Int) : Int := (Int32.ofInt x &&& Int32.ofInt y).toInt
def or32 (x y : Int) : Int := (Int32.ofInt x ||| Int32.ofInt y).toInt
def xor32 (x y : Int) : Int := (Int32.ofInt x ^^^ Int32.ofInt y).toInt
def shl64 (x y : Int) : Int := (Int64.ofInt x <<< ((Int32.ofInt y).toInt64 &&& 63)).toInt
def and64 (x y : Int) : Int := (Int64.ofInt x &&& Int64.ofInt y).toInt
def or64 (x y : Int) : Int := (Int64.ofInt x ||| Int64.ofInt y).toInt
def w8 (x : Int) : Int := Int.bmod x 256
def w16 (x : Int) : Int := Int.bmod x 65536
def cmp3 (x y : Int) : Int := if x < y then -1 else if x = y then 0 else 1
/-- what a method's answer is cut to: int, boolean -/
def nar : Nat → Int → Int
  | 0, x => x
  | _, x => x % 2
def nthA : List AV → Nat → AV
  | [], _ => vU
  | v :: _, 0 => v
  | _ :: t, k + 1 => nthA t k
def setA : List AV → Nat → AV → List AV
  | [], _, _ => []
  | _ :: t, 0, v => v :: t
  | w :: t, k + 1, v => w :: setA t k v
def lkc : List En → Nat → Option ((Instr × Nat) × Instr × Ax)
  | [], _ => none
  | e :: t, pc => cond (Nat.beq e.1 pc) (some e.2) (lkc t pc)
def lk (C : Cd) (pc : Nat) : Option ((Instr × Nat) × Instr × Ax) := lkc (nthC C (pc / 16)) pc
def refOf (S : Sp) (a k : Nat) : Option Nat := match S[a]? with
  | none => none
  | some d => match d.2.2[k]? with
    | some (some b) => some b
    | _ => none
def setRef (S : Sp) (a k b : Nat) : Sp := match S[a]? with
  | none => S
  | some d => S.set a (d.1, d.2.1, d.2.2.set k (some b))
/-- the two texts, as numbers -/
def strT : List (List Int) := [[110, 97, 116, 105, 111, 110, 32, 119, 97, 103, 101, 32, 100, 117, 116, 121, 32, 100, 101, 101, 100, 115, 32, 119, 97, 114, 32, 103, 111, 111, 100, 32, 111, 102, 32, 119, 111, 114, 116, 104, 32, 108, 101, 97, 107, 115, 32, 112, 111, 114, 116, 32, 112, 114, 105, 99, 101, 32, 119, 97, 121, 32, 100, 97, 121, 115, 32, 115, 104, 105, 112, 32, 97, 116, 32, 104, 111, 108, 100, 32, 99, 111, 105, 110, 115, 32, 97, 98, 111, 97, 114, 100, 32, 114, 117, 108, 101, 32, 100, 97, 121, 32, 98, 117, 121, 32, 115, 101, 108, 108, 32, 100, 117, 109, 112, 32, 115, 97, 105, 108, 32, 97, 110, 121, 32, 119, 104, 101, 110, 32, 114, 117, 108, 101, 100, 32, 105, 110, 32, 108, 111, 111, 112, 32, 101, 110, 100, 32, 115, 116, 111, 112],
  [32, 110, 97, 116, 105, 111, 110, 32, 119, 97, 114, 32, 103, 111, 111, 100, 32, 112, 111, 114, 116, 32, 112, 114, 105, 99, 101, 32, 119, 97, 121, 32, 115, 104, 105, 112, 32, 97, 98, 111, 97, 114, 100, 32, 114, 117, 108, 101, 32, 119, 97, 103, 101, 32, 100, 117, 116, 121, 32, 100, 101, 101, 100, 115, 32, 111, 102, 32, 119, 111, 114, 116, 104, 32, 108, 101, 97, 107, 115, 32, 100, 97, 121, 115, 32, 97, 116, 32, 104, 111, 108, 100, 32, 99, 111, 105, 110, 115, 32, 100, 97, 121, 32, 98, 117, 121, 32, 115, 101, 108, 108, 32, 100, 117, 109, 112, 32, 115, 97, 105, 108, 32, 97, 110, 121, 32, 119, 104, 101, 110, 32, 108, 111, 111, 112, 32, 101, 110, 100, 32, 115, 116, 111, 112, 32, 114, 117, 108, 101, 100, 32, 105, 110, 32]]
def strC (k : Int) (j : Nat) : Int := (strT.getD k.toNat []).getD j 0
def strL (k : Int) : Int := (strT.getD k.toNat []).length
def bndV (o : Option Rs) (k : Sp → Mm → Option Rs) : Option Rs := match o with
  | some (none, S, M) => k S M
  | _ => none
def bndI (o : Option Rs) (k : Int → Sp → Mm → Option Rs) : Option Rs := match o with
  | some (some (.inl x), S, M) => k x S M
  | _ => none
def bndL (o : Option Rs) (k : Int → Sp → Mm → Option Rs) : Option Rs := match o with
  | some (some (.inr (.inl x)), S, M) => k x S M
  | _ => none
def bR (o : Option Nat) (k : Nat → Option Rs) : Option Rs := match o with
  | some b => k b
  | none => none
theorem bndV_some (S : Sp) (M : Mm) (k : Sp → Mm → Option Rs) : bndV (some (none, S, M)) k = k S M := rfl
theorem bndI_some (x : Int) (S : Sp) (M : Mm) (k : Int → Sp → Mm → Option Rs) : bndI (some (some (vI x), S, M)) k = k x S M := rfl
theorem bndL_some (x : Int) (S : Sp) (M : Mm) (k : Int → Sp → Mm → Option Rs) : bndL (some (some (vL x), S, M)) k = k x S M := rfl
theorem bR_some (b : Nat) (k : Nat → Option Rs) : bR (some b) k = k b := rfl
def wds : List AV → Nat
  | [] => 0
  | .inr (.inl _) :: t => 2 + wds t
  | _ :: t => 1 + wds t
def takeR : Nat → List AV → List AV → List AV
  | 0, _, acc => acc
  | _ + 1, [], acc => acc
  | n + 1, v :: t, acc => takeR n t (v :: acc)
def lenA : List AV → Nat
  | [] => 0
  | _ :: t => lenA t + 1
def dropA : Nat → List AV → List AV
  | 0, l => l
  | _ + 1, [] => []
  | n + 1, _ :: t => dropA n t
def lay : List AV → List AV
  | [] => []
  | .inr (.inl x) :: t => vL x :: vU :: lay t
  | v :: t => v :: lay t
def padA : Nat → List AV → List AV
  | 0, l => l
  | n + 1, [] => vU :: padA n []
  | n + 1, v :: t => v :: padA n t
abbrev Cal : Type := Nat → List AV → Sp → Mm → Option Rs
abbrev Kon : Type := Nat → List AV → List AV → Sp → Mm → Option Rs
def swt (go : Nat → Option Rs) (x : Int) (d : Nat) : Int → List Nat → Option Rs
  | _, [] => go d
  | lo, t :: ts => if x = lo then go t else swt go x d (lo + 1) ts
/-- a call: the answer's sort is the marker of the aux row (0 none, 1 int, 2 long) -/
def inv (K : Cal) (y n sort : Nat) (st : List AV) (S : Sp) (M : Mm) (go : List AV → Sp → Mm → Option Rs) : Option Rs :=
  cond (Nat.ble (wds (dropA n st)) 8 && Nat.ble n (lenA st))
    (match sort with
     | 0 => bndV (K y (takeR n st []) S M) fun S M => go (dropA n st) S M
     | 1 => bndI (K y (takeR n st []) S M) fun x S M => go (vI x :: dropA n st) S M
     | _ => bndL (K y (takeR n st []) S M) fun x S M => go (vL x :: dropA n st) S M) none
/-- one instruction; what comes behind it is asked of rc -/
def FF (K : Cal) (C : Cd) (rc : Kon) (pc : Nat) (ls st : List AV) (S : Sp) (M : Mm) : Option Rs :=
  match lk C pc with
  | none => none
  | some ((_, len), ins, ax) =>
    match ins with
    | .sipush x => rc (pc + len) ls (vI x :: st) S M
    | .ldc2_w _ => rc (pc + len) ls (vL ax.2.2.1 :: st) S M
    | .ldc _ => rc (pc + len) ls (vR 13 ax.1.2.2 ax.1.2.1 :: st) S M
    | .iload k => match nthA ls k with
      | .inl x => rc (pc + len) ls (vI x :: st) S M
      | _ => none
    | .lload k => match nthA ls k with
      | .inr (.inl x) => rc (pc + len) ls (vL x :: st) S M
      | _ => none
    | .aload k => match nthA ls k with
      | .inr (.inr (.inl r)) => rc (pc + len) ls (.inr (.inr (.inl r)) :: st) S M
      | _ => none
    | .istore k => match st with
      | .inl x :: r => rc (pc + len) (setA ls k (vI x)) r S M
      | _ => none
    | .lstore k => match st with
      | .inr (.inl x) :: r => rc (pc + len) (setA (setA ls k (vL x)) (k + 1) vU) r S M
      | _ => none
    | .astore k => match st with
      | .inr (.inr (.inl v)) :: r => rc (pc + len) (setA ls k (.inr (.inr (.inl v)))) r S M
      | _ => none
    | .iinc k c => match nthA ls k with
      | .inl x => rc (pc + len) (setA ls k (vI (w32 (x + c)))) st S M
      | _ => none
    | .iadd => match st with
      | .inl y :: .inl x :: r => rc (pc + len) ls (vI (w32 (x + y)) :: r) S M
      | _ => none
    | .isub => match st with
      | .inl y :: .inl x :: r => rc (pc + len) ls (vI (w32 (x - y)) :: r) S M
      | _ => none
    | .imul => match st with
      | .inl y :: .inl x :: r => rc (pc + len) ls (vI (w32 (x * y)) :: r) S M
      | _ => none
    | .idiv => match st with
      | .inl y :: .inl x :: r => if y = 0 then none else rc (pc + len) ls (vI (w32 (Int.tdiv x y)) :: r) S M
      | _ => none
    | .irem => match st with
      | .inl y :: .inl x :: r => if y = 0 then none else rc (pc + len) ls (vI (Int.tmod x y) :: r) S M
      | _ => none
    | .ineg => match st with
      | .inl x :: r => rc (pc + len) ls (vI (w32 (-x)) :: r) S M
      | _ => none
    | .iand => match st with
      | .inl y :: .inl x :: r => rc (pc + len) ls (vI (and32 x y) :: r) S M
      | _ => none
    | .ior => match st with
      | .inl y :: .inl x :: r => rc (pc + len) ls (vI (or32 x y) :: r) S M
      | _ => none
    | .ixor => match st with
      | .inl y :: .inl x :: r => rc (pc + len) ls (vI (xor32 x y) :: r) S M
      | _ => none
    | .ishl => match st with
      | .inl y :: .inl x :: r => rc (pc + len) ls (vI (shl32 x y) :: r) S M
      | _ => none
    | .ishr => match st with
      | .inl y :: .inl x :: r => rc (pc + len) ls (vI (shr32 x y) :: r) S M
      | _ => none
    | .iushr => match st with
      | .inl y :: .inl x :: r => rc (pc + len) ls (vI (ushr32 x y) :: r) S M
      | _ => none
    | .ladd => match st with
      | .inr (.inl y) :: .inr (.inl x) :: r => rc (pc + len) ls (vL (w64 (x + y)) :: r) S M
      | _ => none
    | .lsub => match st with
      | .inr (.inl y) :: .inr (.inl x) :: r => rc (pc + len) ls (vL (w64 (x - y)) :: r) S M
      | _ => none
    | .lmul => match st with
      | .inr (.inl y) :: .inr (.inl x) :: r => rc (pc + len) ls (vL (w64 (x * y)) :: r) S M
      | _ => none
    | .ldiv => match st with
      | .inr (.inl y) :: .inr (.inl x) :: r => if y = 0 then none else rc (pc + len) ls (vL (w64 (Int.tdiv x y)) :: r) S M
      | _ => none
    | .lrem => match st with
      | .inr (.inl y) :: .inr (.inl x) :: r => if y = 0 then none else rc (pc + len) ls (vL (Int.tmod x y) :: r) S M
      | _ => none
    | .land => match st with
      | .inr (.inl y) :: .inr (.inl x) :: r => rc (pc + len) ls (vL (and64 x y) :: r) S M
      | _ => none
    | .lor => match st with
      | .inr (.inl y) :: .inr (.inl x) :: r => rc (pc + len) ls (vL (or64 x y) :: r) S M
      | _ => none
    | .lshl => match st with
      | .inl y :: .inr (.inl x) :: r => rc (pc + len) ls (vL (shl64 x y) :: r) S M
      | _ => none
    | .lcmp => match st with
      | .inr (.inl y) :: .inr (.inl x) :: r => rc (pc + len) ls (vI (cmp3 x y) :: r) S M
      | _ => none
    | .i2l => match st with
      | .inl x :: r => rc (pc + len) ls (vL x :: r) S M
      | _ => none
    | .l2i => match st with
      | .inr (.inl x) :: r => rc (pc + len) ls (vI (w32 x) :: r) S M
      | _ => none
    | .i2b => match st with
      | .inl x :: r => rc (pc + len) ls (vI (w8 x) :: r) S M
      | _ => none
    | .i2s => match st with
      | .inl x :: r => rc (pc + len) ls (vI (w16 x) :: r) S M
      | _ => none
    | .dup => match st with
      | v :: r => cond (Nat.beq (wds [v]) 1) (rc (pc + len) ls (v :: v :: r) S M) none
      | _ => none
    | .dup2 => match st with
      | v :: w :: r => cond (Nat.beq (wds [v, w]) 2) (rc (pc + len) ls (v :: w :: v :: w :: r) S M) none
      | _ => none
    | .dup2_x1 => match st with
      | .inr (.inl x) :: r => rc (pc + len) ls (vL x :: vL x :: r) S M
      | _ => none
    | .pop => match st with
      | v :: r => cond (Nat.beq (wds [v]) 1) (rc (pc + len) ls r S M) none
      | _ => none
    | .iaload => match st with
      | .inl i :: .inr (.inr (.inl (t, n, a))) :: r => cond (Nat.beq t 20) (if 0 ≤ i ∧ i < n then rc (pc + len) ls (vI (M a i.toNat) :: r) S M else none) none
      | _ => none
    | .faload => match st with
      | .inl i :: .inr (.inr (.inl (t, n, a))) :: r => cond (Nat.beq t 29) (if 0 ≤ i ∧ i < n then rc (pc + len) ls (vI (M a i.toNat) :: r) S M else none) none
      | _ => none
    | .baload => match st with
      | .inl i :: .inr (.inr (.inl (t, n, a))) :: r => cond (Nat.beq t 22) (if 0 ≤ i ∧ i < n then rc (pc + len) ls (vI (M a i.toNat) :: r) S M else none) none
      | _ => none
    | .laload => match st with
      | .inl i :: .inr (.inr (.inl (t, n, a))) :: r => cond (Nat.beq t 21) (if 0 ≤ i ∧ i < n then rc (pc + len) ls (vL (M a i.toNat) :: r) S M else none) none
      | _ => none
    | .iastore => match st with
      | .inl x :: .inl i :: .inr (.inr (.inl (t, n, a))) :: r => cond (Nat.beq t 20) (if 0 ≤ i ∧ i < n then rc (pc + len) ls r S (up M a i.toNat x) else none) none
      | _ => none
    | .bastore => match st with
      | .inl x :: .inl i :: .inr (.inr (.inl (t, n, a))) :: r => cond (Nat.beq t 22) (if 0 ≤ i ∧ i < n then rc (pc + len) ls r S (up M a i.toNat (w8 x)) else none) none
      | _ => none
    | .lastore => match st with
      | .inr (.inl x) :: .inl i :: .inr (.inr (.inl (t, n, a))) :: r => cond (Nat.beq t 21) (if 0 ≤ i ∧ i < n then rc (pc + len) ls r S (up M a i.toNat x) else none) none
      | _ => none
    | .aaload => match st with
      | .inl i :: .inr (.inr (.inl (t, n, a))) :: r => cond (Nat.beq t ax.1.1) (if 0 ≤ i ∧ i < n then bR (refOf S a i.toNat) fun b => rc (pc + len) ls (vR ax.2.1.1 ax.2.1.2 b :: r) S M else none) none
      | _ => none
    | .aastore => match st with
      | .inr (.inr (.inl (t', n', b))) :: .inl i :: .inr (.inr (.inl (t, n, a))) :: r => cond (Nat.beq t ax.1.1 && Nat.beq t' ax.2.1.1) (if 0 ≤ i ∧ i < n then rc (pc + len) ls r (setRef S a i.toNat b) M else none) none
      | _ => none
    | .arraylength => match st with
      | .inr (.inr (.inl (t, n, _))) :: r => cond (Nat.blt 19 t) (rc (pc + len) ls (vI n :: r) S M) none
      | _ => none
    | .getfield ty => match st with
      | .inr (.inr (.inl (t, _, a))) :: r => cond (Nat.beq t ax.1.1) (match ty with
        | 0 => rc (pc + len) ls (vI (M a ax.1.2.1) :: r) S M
        | 1 => rc (pc + len) ls (vL (M a ax.1.2.1) :: r) S M
        | _ => bR (refOf S a ax.1.2.1) fun b => rc (pc + len) ls (vR ax.2.1.1 ax.2.1.2 b :: r) S M) none
      | _ => none
    | .putfield ty => match ty with
      | 0 => match st with
        | .inl x :: .inr (.inr (.inl (t, _, a))) :: r => cond (Nat.beq t ax.1.1) (rc (pc + len) ls r S (up M a ax.1.2.1 x)) none
        | _ => none
      | 1 => match st with
        | .inr (.inl x) :: .inr (.inr (.inl (t, _, a))) :: r => cond (Nat.beq t ax.1.1) (rc (pc + len) ls r S (up M a ax.1.2.1 x)) none
        | _ => none
      | 2 => match st with
        | .inr (.inr (.inl (t', n', b))) :: .inr (.inr (.inl (t, _, a))) :: r => cond (Nat.beq t ax.1.1 && Nat.beq t' ax.2.1.1) (if n' = ax.2.1.2 then rc (pc + len) ls r (setRef S a ax.1.2.1 b) M else none) none
        | _ => none
      | _ => match st with
        | .inl x :: .inr (.inr (.inl (t, _, a))) :: r => cond (Nat.beq t ax.1.1) (if x = 0 ∨ x = 1 then rc (pc + len) ls r S (up M a ax.1.2.1 x) else none) none
        | _ => none
    | .new _ => rc (pc + len) ls (vR ax.1.1 0 S.length :: st) (S ++ [(ax.1.1, 0, List.replicate ax.1.2.1 none)]) M
    | .newarray _ => match st with
      | .inl n :: r => if 0 ≤ n ∧ n ≤ 10000 then rc (pc + len) ls (vR ax.1.1 n S.length :: r) (S ++ [(ax.1.1, n.toNat, [])]) M else none
      | _ => none
    | .anewarray _ => match st with
      | .inl n :: r => if 0 ≤ n ∧ n ≤ 10000 then rc (pc + len) ls (vR ax.1.1 n S.length :: r) (S ++ [(ax.1.1, n.toNat, List.replicate n.toNat none)]) M else none
      | _ => none
    | .multianewarray _ _ => match st with
      | .inl k :: .inl n :: r => if k = ax.1.2.1 ∧ 0 ≤ n ∧ n ≤ 100 then rc (pc + len) ls (vR ax.1.1 n S.length :: r) (S ++ ((ax.1.1, n.toNat, (List.range n.toNat).map fun j => some (S.length + 1 + j)) :: List.replicate n.toNat (ax.2.1.1, ax.1.2.1, []))) M else none
      | _ => none
    | .goto _ => rc ax.1.1 ls st S M
    | .ifCond c _ => match st with
      | .inl x :: r => match c with
        | .eq => if x = 0 then rc ax.1.1 ls r S M else rc (pc + len) ls r S M
        | .ne => if x = 0 then rc (pc + len) ls r S M else rc ax.1.1 ls r S M
        | .lt => if x < 0 then rc ax.1.1 ls r S M else rc (pc + len) ls r S M
        | .ge => if x < 0 then rc (pc + len) ls r S M else rc ax.1.1 ls r S M
        | .gt => if 0 < x then rc ax.1.1 ls r S M else rc (pc + len) ls r S M
        | .le => if 0 < x then rc (pc + len) ls r S M else rc ax.1.1 ls r S M
      | _ => none
    | .if_icmp c _ => match st with
      | .inl y :: .inl x :: r => match c with
        | .eq => if x = y then rc ax.1.1 ls r S M else rc (pc + len) ls r S M
        | .ne => if x = y then rc (pc + len) ls r S M else rc ax.1.1 ls r S M
        | .lt => if x < y then rc ax.1.1 ls r S M else rc (pc + len) ls r S M
        | .ge => if x < y then rc (pc + len) ls r S M else rc ax.1.1 ls r S M
        | .gt => if y < x then rc ax.1.1 ls r S M else rc (pc + len) ls r S M
        | .le => if y < x then rc (pc + len) ls r S M else rc ax.1.1 ls r S M
      | _ => none
    | .tableswitch _ _ _ _ => match st with
      | .inl x :: r => swt (fun t => rc t ls r S M) x ax.1.1 ax.2.2.1 ax.2.2.2
      | _ => none
    | .invokeinterface _ _ => match st with
      | .inr (.inr (.inl _)) :: r => cond (Nat.ble (wds r) 8) (rc (pc + len) ls r S M) none
      | _ => none
    | .invokedynamic b => match b with
      | 0 => match st with
        | .inl n :: .inl dp :: .inr (.inr (.inl (t', n', b'))) :: .inl sp :: .inr (.inr (.inl (t, n0, a))) :: r =>
          cond (Nat.ble (wds r) 8 && ((Nat.beq t 20 && Nat.beq t' 20) || (Nat.beq t 21 && Nat.beq t' 21)))
            (if 0 ≤ sp ∧ 0 ≤ dp ∧ 0 ≤ n ∧ sp + n ≤ n0 ∧ dp + n ≤ n' then rc (pc + len) ls r S (cpy M a sp.toNat b' dp.toNat n.toNat) else none) none
        | _ => none
      | 1 => match st with
        | .inr (.inr (.inl (t, k, _))) :: r => cond (Nat.beq t 13 && Nat.ble (wds r) 8) (rc (pc + len) ls (vI (strL k) :: r) S M) none
        | _ => none
      | 3 => match st with
        | .inl y :: .inl x :: r => cond (Nat.ble (wds r) 8) (rc (pc + len) ls (vI (max x y) :: r) S M) none
        | _ => none
      | 4 => match st with
        | .inl y :: .inl x :: r => cond (Nat.ble (wds r) 8) (rc (pc + len) ls (vI (min x y) :: r) S M) none
        | _ => none
      | _ => match st with
        | .inl i :: .inr (.inr (.inl (t, k, _))) :: r => cond (Nat.beq t 13 && Nat.ble (wds r) 8) (if 0 ≤ i ∧ i < strL k then rc (pc + len) ls (vI (strC k i.toNat) :: r) S M else none) none
        | _ => none
    | .invokestatic sort => inv K ax.1.1 ax.1.2.1 sort st S M fun st S M => rc (pc + len) ls st S M
    | .invokevirtual sort => match takeR ax.1.2.1 st [] with
      | .inr (.inr (.inl (t, _, _))) :: _ => cond (Nat.beq t ax.2.1.1) (inv K ax.1.1 ax.1.2.1 sort st S M fun st S M => rc (pc + len) ls st S M) none
      | _ => none
    | .invokespecial sort => match takeR ax.1.2.1 st [] with
      | .inr (.inr (.inl (t, _, _))) :: _ => cond (Nat.beq t ax.2.1.1) (inv K ax.1.1 ax.1.2.1 sort st S M fun st S M => rc (pc + len) ls st S M) none
      | _ => none
    | .ireturn => match st with
      | [.inl x] => some (some (vI (nar ax.1.1 x)), S, M)
      | _ => none
    | .lreturn => match st with
      | [.inr (.inl x)] => some (some (vL x), S, M)
      | _ => none
    | .return_ => match st with
      | [] => some (none, S, M)
      | _ => none
    | _ => none
theorem swt_form (x : Int) (d : Nat) (ls r : List AV) (S : Sp) (M : Mm) : ∀ (ts : List Nat) (lo : Int), ∃ t, ∀ rc : Kon, swt (fun t => rc t ls r S M) x d lo ts = rc t ls r S M
  | [], _ => ⟨d, fun _ => rfl⟩
  | t :: ts, lo => by
    by_cases h : x = lo
    · exact ⟨t, fun rc => by rw [swt, if_pos h]⟩
    · obtain ⟨t', h'⟩ := swt_form x d ls r S M ts (lo + 1)
      exact ⟨t', fun rc => by rw [swt, if_neg h]; exact h' rc⟩
/-- what an instruction does with what comes behind it: nothing, or one asking -/
def Asks (G : Kon → Option Rs) : Prop := (∃ o, ∀ rc, G rc = o) ∨ ∃ pc ls st S M, ∀ rc : Kon, G rc = rc pc ls st S M
theorem Asks.nil {o : Option Rs} : Asks (fun _ => o) := Or.inl ⟨o, fun _ => rfl⟩
theorem Asks.one (pc : Nat) (ls st : List AV) (S : Sp) (M : Mm) : Asks (fun rc => rc pc ls st S M) := Or.inr ⟨pc, ls, st, S, M, fun _ => rfl⟩
theorem Asks.ite {c : Prop} {d : Decidable c} {G G' : Kon → Option Rs} (h : Asks G) (h' : Asks G') : Asks (fun rc => @_root_.ite _ c d (G rc) (G' rc)) := by
  by_cases hc : c
  · simpa only [if_pos hc] using h
  · simpa only [if_neg hc] using h'
theorem Asks.cond {c : Bool} {G G' : Kon → Option Rs} (h : Asks G) (h' : Asks G') : Asks (fun rc => _root_.cond c (G rc) (G' rc)) := by
  cases c
  · exact h'
  · exact h
theorem Asks.bR {o : Option Nat} {G : Nat → Kon → Option Rs} (h : ∀ b, Asks (G b)) : Asks (fun rc => bR o fun b => G b rc) := by
  cases o
  · exact Asks.nil
  · exact h _
theorem Asks.inv {K : Cal} {y n sort : Nat} {st : List AV} {S : Sp} {M : Mm} {p : Nat} {ls : List AV} : Asks (fun rc => inv K y n sort st S M fun st S M => rc p ls st S M) := by
  unfold _root_.Jvm.Pilot.@@N@@.inv
  refine Asks.cond ?_ Asks.nil
  split
  · rcases K y (takeR n st []) S M with _ | ⟨_ | v, S, M⟩
    · exact Asks.nil
    · exact Asks.one _ _ _ _ _
    · exact Asks.nil
  · rcases K y (takeR n st []) S M with _ | ⟨_ | (x | v), S, M⟩
    · exact Asks.nil
    · exact Asks.nil
    · exact Asks.one _ _ _ _ _
    · exact Asks.nil
  · rcases K y (takeR n st []) S M with _ | ⟨_ | (x | (x | v)), S, M⟩
    · exact Asks.nil
    · exact Asks.nil
    · exact Asks.nil
    · exact Asks.one _ _ _ _ _
    · exact Asks.nil
set_option maxHeartbeats 4000000 in
theorem FF_asks (K : Cal) (C : Cd) (pc : Nat) (ls st : List AV) (S : Sp) (M : Mm) : Asks (fun rc => FF K C rc pc ls st S M) := by
  unfold FF
  repeat' split
  all_goals first | exact Asks.nil | exact Asks.one _ _ _ _ _ | exact Asks.ite (Asks.one _ _ _ _ _) (Asks.one _ _ _ _ _) | exact Asks.ite Asks.nil (Asks.one _ _ _ _ _) | exact Asks.ite (Asks.one _ _ _ _ _) Asks.nil | exact Asks.cond (Asks.one _ _ _ _ _) Asks.nil | exact Asks.cond (Asks.ite (Asks.one _ _ _ _ _) Asks.nil) Asks.nil | exact Asks.cond (Asks.ite (Asks.bR fun _ => Asks.one _ _ _ _ _) Asks.nil) Asks.nil | exact Asks.cond (Asks.bR fun _ => Asks.one _ _ _ _ _) Asks.nil | exact Asks.inv | exact Asks.cond Asks.inv Asks.nil | (obtain ⟨t, h⟩ := swt_form _ _ _ _ _ _ _ _; exact Or.inr ⟨t, _, _, _, _, h⟩)
def runN (K : Cal) (C : Cd) : Nat → Kon
  | 0 => fun _ _ _ _ _ => none
  | n + 1 => FF K C (runN K C n)
theorem runN_mono (K : Cal) (C : Cd) : ∀ (n : Nat) (pc : Nat) (ls st : List AV) (S : Sp) (M : Mm) (r : Rs), runN K C n pc ls st S M = some r → runN K C (n + 1) pc ls st S M = some r
  | 0, _, _, _, _, _, _, h => by cases h
  | n + 1, pc, ls, st, S, M, r, h => by
    rcases FF_asks K C pc ls st S M with ⟨o, ho⟩ | ⟨pc', ls', st', S', M', ho⟩
    · have ho : ∀ rc : Kon, FF K C rc pc ls st S M = o := ho
      have h1 : FF K C (runN K C n) pc ls st S M = some r := h
      show FF K C (runN K C (n + 1)) pc ls st S M = some r
      rw [ho] at h1 ⊢
      exact h1
    · have ho : ∀ rc : Kon, FF K C rc pc ls st S M = rc pc' ls' st' S' M' := ho
      have h1 : FF K C (runN K C n) pc ls st S M = some r := h
      show FF K C (runN K C (n + 1)) pc ls st S M = some r
      rw [ho] at h1 ⊢
      exact runN_mono K C n _ _ _ _ _ _ h1
theorem runN_le (K : Cal) (C : Cd) {n m : Nat} (hnm : n ≤ m) {pc : Nat} {ls st : List AV} {S : Sp} {M : Mm} {r : Rs} (h : runN K C n pc ls st S M = some r) : runN K C m pc ls st S M = some r := by
  induction hnm with
  | refl => exact h
  | step _ ih => exact runN_mono K C _ _ _ _ _ _ _ ih

noncomputable def Run (K : Cal) (C : Cd) (pc : Nat) (ls st : List AV) (S : Sp) (M : Mm) : Option Rs :=
  @dite _ (∃ r, ∃ n, runN K C n pc ls st S M = some r) (Classical.propDecidable _) (fun h => some (Classical.choose h)) (fun _ => none)
theorem Run_iff (K : Cal) (C : Cd) (pc : Nat) (ls st : List AV) (S : Sp) (M : Mm) (r : Rs) : Run K C pc ls st S M = some r ↔ ∃ n, runN K C n pc ls st S M = some r := by
  unfold Run
  constructor
  · intro h
    split at h
    · next h1 =>
      have h2 := Classical.choose_spec h1
      rw [Option.some.inj h] at h2
      exact h2
    · cases h
  · rintro ⟨n, h⟩
    have h1 : ∃ r, ∃ n, runN K C n pc ls st S M = some r := ⟨r, n, h⟩
    rw [dif_pos h1]
    obtain ⟨n', h2⟩ := Classical.choose_spec h1
    have a := runN_le K C (Nat.le_max_left n n') h
    have b := runN_le K C (Nat.le_max_right n n') h2
    rw [a] at b
    exact congrArg some (Option.some.inj b).symm
theorem opt_eq {α : Type} {a b : Option α} (h : ∀ r, a = some r ↔ b = some r) : a = b := by
  cases a with
  | none => cases b with
    | none => rfl
    | some y => exact (h y).mpr rfl
  | some x => exact ((h x).mp rfl).symm
theorem Run_FF (K : Cal) (C : Cd) (pc : Nat) (ls st : List AV) (S : Sp) (M : Mm) : Run K C pc ls st S M = FF K C (Run K C) pc ls st S M := by
  refine opt_eq fun r => ?_
  rw [Run_iff]
  rcases FF_asks K C pc ls st S M with ⟨o, ho⟩ | ⟨pc', ls', st', S', M', ho⟩
  · have ho : ∀ rc : Kon, FF K C rc pc ls st S M = o := ho
    rw [ho]
    constructor
    · rintro ⟨n, h⟩
      cases n with
      | zero => cases h
      | succ n => exact (ho _).symm.trans h
    · intro h
      exact ⟨1, (ho _).trans h⟩
  · have ho : ∀ rc : Kon, FF K C rc pc ls st S M = rc pc' ls' st' S' M' := ho
    rw [ho, Run_iff]
    constructor
    · rintro ⟨n, h⟩
      cases n with
      | zero => cases h
      | succ n => exact ⟨n, (ho _).symm.trans h⟩
    · rintro ⟨n, h⟩
      exact ⟨n + 1, (ho _).trans h⟩
/-- from a place on, up to the places that are cut -/
noncomputable def EE (K : Cal) (C : Cd) (cuts : List Nat) : Nat → Kon
  | 0 => Run K C
  | n + 1 => fun pc ls st S M => cond (elemN cuts pc) (Run K C pc ls st S M) (FF K C (EE K C cuts n) pc ls st S M)
theorem EE_eq (K : Cal) (C : Cd) (cuts : List Nat) : ∀ n, EE K C cuts n = Run K C
  | 0 => rfl
  | n + 1 => by
    funext pc ls st S M
    show cond (elemN cuts pc) (Run K C pc ls st S M) (FF K C (EE K C cuts n) pc ls st S M) = _
    rw [EE_eq K C cuts n, ← Run_FF]
    cases elemN cuts pc <;> rfl
theorem Run_EE (K : Cal) (C : Cd) (cuts : List Nat) (n : Nat) (pc : Nat) (ls st : List AV) (S : Sp) (M : Mm) : Run K C pc ls st S M = FF K C (EE K C cuts n) pc ls st S M := by
  rw [EE_eq]
  exact Run_FF K C pc ls st S M
/-- longs stand only where the method's longs stand -/
def okLg (Ls : List Nat) : Nat → List AV → Bool
  | _, [] => true
  | k, .inr (.inl _) :: t => elemN Ls k && okLg Ls (k + 1) t
  | k, _ :: t => okLg Ls (k + 1) t
def nthL : List (List Nat) → Nat → List Nat
  | [], _ => []
  | v :: _, 0 => v
  | _ :: t, k + 1 => nthL t k
noncomputable def callD : Nat → Cal
  | 0 => fun _ _ _ _ => none
  | d + 1 => fun y args S M => cond (Nat.ble (lenA (lay args)) (nthN mxs y) && okLg (nthL yL y) 0 (lay args)) (Run (callD d) (nthT tbs y) 0 (padA (nthN mxs y) (lay args)) [] S M) none
