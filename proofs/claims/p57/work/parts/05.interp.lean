/-! THE INTERPRETER: the claim's own code over an abstract heap. An object is its number; a value .ref k is object k, .retAddr 0 any reference, .retAddr (k + 1) the law's constant k: 0 to 8 Strings, 9 to 17 their bytes, 18 and 19 Integer's digits. -/
abbrev Lo : Type := List (Option Value)
/-- objects, slots that they take, throws; kind and length of each object; its references, ints, longs, doubles -/
abbrev St : Type := (Nat × Nat × Nat) × (Nat → Nat × Nat) × (Nat → Nat → Nat) × (Nat → Nat → Int32) × (Nat → Nat → Int64) × (Nat → Nat → UInt64)
abbrev Rs : Type := Option Value ⊕ Nat
abbrev Cf : Type := Nat × Lo × List Value × St
abbrev Act : Type := Cf ⊕ ((Rs × St) ⊕ (Nat × List Value × List Value))
def zn (σ : St) : Nat := σ.1.1
def zs (σ : St) : Nat := σ.1.2.1
def zt (σ : St) : Nat := σ.1.2.2
def zh (σ : St) : Nat → Nat × Nat := σ.2.1
def zR (σ : St) : Nat → Nat → Nat := σ.2.2.1
def zI (σ : St) : Nat → Nat → Int32 := σ.2.2.2.1
def zL (σ : St) : Nat → Nat → Int64 := σ.2.2.2.2.1
def zD (σ : St) : Nat → Nat → UInt64 := σ.2.2.2.2.2
def up2 {α : Type} (f : Nat → Nat → α) (a k : Nat) (v : α) : Nat → Nat → α := fun b j => if b = a ∧ j = k then v else f b j
def wR (σ : St) (a k v : Nat) : St := (σ.1, σ.2.1, up2 (zR σ) a k v, zI σ, zL σ, zD σ)
def wI (σ : St) (a k : Nat) (v : Int32) : St := (σ.1, σ.2.1, zR σ, up2 (zI σ) a k v, zL σ, zD σ)
def wL (σ : St) (a k : Nat) (v : Int64) : St := (σ.1, σ.2.1, zR σ, zI σ, up2 (zL σ) a k v, zD σ)
def wD (σ : St) (a k : Nat) (v : UInt64) : St := (σ.1, σ.2.1, zR σ, zI σ, zL σ, up2 (zD σ) a k v)
def up1 {α : Type} (f : Nat → α) (k : Nat) (v : α) : Nat → α := fun j => if j = k then v else f j
/-- a new object of a kind, of so many slots -/
def zNew (σ : St) (kd : Nat × Nat) (n : Nat) : St := ((zn σ + 1, zs σ + n, zt σ), up1 (zh σ) (zn σ) kd, zR σ, zI σ, zL σ, zD σ)
/-- where the numbers of the law's constants begin -/
abbrev KB : Nat := 100000
/-- a copy of the bytes of object a -/
def zCln (σ : St) (a n : Nat) : St := ((zn σ + 1, zs σ + n, zt σ), up1 (zh σ) (zn σ) (13, n), zR σ, (fun b j => if b = zn σ then zI σ a j else zI σ b j), zL σ, zD σ)
/-- ints of a constant, f, copied to object d -/
def zCpk (σ : St) (f : Nat → Int32) (d sp dp n : Nat) : St := (σ.1, σ.2.1, zR σ, (fun b j => if b = d then va_cpy f (zI σ d) sp dp n j else zI σ b j), zL σ, zD σ)
/-- the law's Strings, and Integer's digits -/
def kln : List Nat := [4, 7, 1, 1, 5, 6, 4, 7, 8]
def kby : List (List Int32) := [[98, 111, 120, 32], [32, 115, 116, 101, 97, 108, 32], [32], [59], [112, 111, 115, 116, 32], [98, 97, 108, 108, 32, 98], [32, 97, 116, 32], [32, 115, 112, 101, 101, 100, 32], [32, 119, 101, 105, 103, 104, 116, 32]]
def kdg (q : Nat) (j : Nat) : Int32 := if q = 18 then Int32.ofNat (48 + j % 10) else Int32.ofNat (48 + j / 10)
/-- the bytes of constant q: of 9 to 17 a String's, of 18 and 19 digits -/
def kfn (q : Nat) : Nat → Int32 := if q < 18 then (fun j => (kby.getD (q - 9) []).getD j 0) else kdg q
def kle (q : Nat) : Nat := if q < 18 then kln.getD (q - 9) 0 else 100
/-- n ints from place p on are bytes -/
def bts (f : Nat → Int32) (p n : Nat) : Bool := (List.range n).all fun i => fits .byte (.int (f (p + i)))
/-- the kind of an object of class ci -/
def kdc (ci : Nat) : Nat := if ci = 10 then 22 else ci + 1
/-- ints copied from object s to object d -/
def zCpy (σ : St) (s d sp dp n : Nat) : St := (σ.1, σ.2.1, zR σ, (fun b j => if b = d then va_cpy (zI σ s) (zI σ d) sp dp n j else zI σ b j), zL σ, zD σ)
def zThrow (σ : St) : St := ((zn σ, zs σ, zt σ + 1), σ.2)
def mOw (mi : Nat) : Nat := (mLn mi).2.2.2.2.1
def mCd (mi : Nat) : ByteArray := (mLn mi).2.1
def mMx (mi : Nat) : Nat := (mLn mi).2.2.1
def mRt (mi : Nat) : Option FieldType := (mLn mi).2.2.2.1
def mKd (mi : Nat) : Nat := (mLn mi).2.2.2.2.2.1
def mAr (mi : Nat) : Nat := (mLn mi).2.2.2.2.2.2.1
def mHn (mi : Nat) : List (Nat × Nat × Nat × Nat) := (mLn mi).2.2.2.2.2.2.2
def kill (x : Option Value) : Option Value := match x with
  | some (.long _) => none
  | some (.double _) => none
  | y => y
def lset1 : Lo → Nat → Value → Lo
  | [], _, _ => []
  | _ :: l, 0, v => some v :: l
  | x :: l, 1, v => kill x :: lset1 l 0 v
  | x :: l, i + 2, v => x :: lset1 l (i + 1) v
def lset2 (l : Lo) (i : Nat) (v : Value) : Lo := (lset1 l i v).set (i + 1) none
/-- what a local of this sort holds: 0 int, 1 long, 2 float, 3 double, 4 reference -/
def zk (v : Value) : Nat := match v with
  | .int _ => 0
  | .long _ => 1
  | .float _ => 2
  | .double _ => 3
  | _ => 4
def nx (pc : Nat) (lo : Lo) (st : List Value) (σ : St) : Option Act := some (.inl (pc, lo, st, σ))
def zld (k i pc : Nat) (lo : Lo) (st : List Value) (σ : St) : Option Act := match lo[i]? with
  | some (some v) => if zk v = k then nx pc lo (v :: st) σ else none
  | _ => none
def zst (k i pc : Nat) (lo : Lo) (st : List Value) (σ : St) : Option Act := match st with
  | v :: st => if zk v = k ∧ i < lo.length then nx pc (lset1 lo i v) st σ else none
  | [] => none
def zst2 (k i pc : Nat) (lo : Lo) (st : List Value) (σ : St) : Option Act := match st with
  | v :: st => if zk v = k ∧ i + 1 < lo.length then nx pc (lset2 lo i v) st σ else none
  | [] => none
/-- the field's sort: 0 int or boolean, 1 long, 2 reference -/
def fso (ty : FieldType) : Nat := match ty with
  | .int => 0
  | .boolean => 0
  | .byte => 0
  | .long => 1
  | _ => 2
def rv (n : Nat) : Value := match n with
  | 0 => .null
  | k + 1 => .ref k
def gvl (σ : St) (ci k a : Nat) : Value := match fso (zTY ci k) with
  | 0 => .int (zI σ a k)
  | 1 => .long (zL σ a k)
  | _ => rv (zR σ a k)
def okv (ty : FieldType) (v : Value) : Bool := decide (narrow ty v = v) && fits ty v
def pvl (σ : St) (ci k a : Nat) (v : Value) : Option St := match fso (zTY ci k), v with
  | 0, .int x => some (wI σ a k x)
  | 1, .long x => some (wL σ a k x)
  | 2, .ref b => some (wR σ a k (b + 1))
  | 2, .null => some (wR σ a k 0)
  | _, _ => none
def inx (i : Int32) (n : Nat) : Bool := decide (0 ≤ i) && decide (i.toNatClampNeg < n)
def cB (c : ClassFile.Cond) (x y : Int32) : Bool := match c with
  | .eq => decide (x = y)
  | .ne => decide (¬ x = y)
  | .lt => decide (x < y)
  | .ge => decide (y ≤ x)
  | .gt => decide (y < x)
  | .le => decide (x ≤ y)
/-- where a jump goes -/
def tgo (pc : Nat) (off : Int) (lo : Lo) (st : List Value) (σ : St) : Option Act := if 0 ≤ (pc : Int) + off then nx ((pc : Int) + off).toNat lo st σ else none
/-- where a branch goes -/
def tbr (pc : Nat) (off : Int) (b : Bool) (lo : Lo) (st : List Value) (σ : St) : Option Act := if 0 ≤ (pc : Int) + off then nx (if b = true then ((pc : Int) + off).toNat else pc + 3) lo st σ else none
def arK (t : ArrayType) : Nat := match t with
  | .int => 11
  | .byte => 13
  | .boolean => 14
  | _ => 0
/-- the class of an array's elements: of the kinds 16, 17, 18 -/
def elC (k : Nat) : Nat := match k with
  | 16 => 0
  | 17 => 1
  | _ => 4
def cats (st : List Value) : Nat := (st.map fun v => v.category).sum
def entA : List Value → Lo
  | [] => []
  | v :: vs => if v.category = 2 then some v :: none :: entA vs else some v :: entA vs
def ent (mi : Nat) (as : List Value) : Lo := entA as ++ List.replicate (mMx mi - (entA as).length) none
/-- what a receiver must be: an object of the method's class -/
def rcv (σ : St) (mi : Nat) (v : Value) : Bool := match v with
  | .ref a => if mOw mi < 10 then decide (zh σ a = (mOw mi + 1, 0)) else decide (mOw mi = 10 ∧ (zh σ a = (22, 0) ∨ (zh σ a).1 = 20))
  | .retAddr k => decide (mOw mi = 10 ∧ 1 ≤ k ∧ k ≤ 9)
  | _ => false
/-- a call of method mi with so many words of the stack; kd: 0 static, 1 virtual, 2 a constructor, 3 a method of StringBuilder's class above, or by its name -/
def zcall (kd mi : Nat) (st : List Value) (σ : St) : Option Act :=
  if mKd mi = kd ∧ mAr mi + (if kd = 0 then 0 else 1) ≤ st.length ∧ cats (st.drop (mAr mi + (if kd = 0 then 0 else 1))) ≤ 8 ∧ (entA (st.take (mAr mi + (if kd = 0 then 0 else 1))).reverse).length ≤ mMx mi
  then (match kd, (st.take (mAr mi + (if kd = 0 then 0 else 1))).reverse with
    | 0, as => some (.inr (.inr (mi, as, st.drop (mAr mi + 0))))
    | _, v :: as => if kd = 1 then (if rcv σ mi v = true then some (.inr (.inr (mi, v :: as, st.drop (mAr mi + 1)))) else none) else (match v with
      | .ref a => if (if kd = 3 then zh σ a = (10, 0) else (zh σ a).1 ≠ 0) then some (.inr (.inr (mi, v :: as, st.drop (mAr mi + 1)))) else none
      | _ => none)
    | _, [] => none)
  else none
def covs (q : Nat × Nat × Nat × Nat) (pc : Nat) : Bool := decide (q.1 ≤ pc) && decide (pc < q.2.1)
/-- where exception E is taken -/
def hnd (own : Nat) (hs : List (Nat × Nat × Nat × Nat)) (pc E : Nat) : Option Nat := match hs with
  | [] => none
  | q :: hs => if covs q pc = true ∧ lkq own q.2.2.2 = some (6, E, 0) then some q.2.2.1 else hnd own hs pc E
/-- 'throw new E()' -/
def zthrow (mi pc E : Nat) (st : List Value) (σ : St) : Option Act :=
  match decode (mCd mi) (pc + 3), decode (mCd mi) (pc + 4), decode (mCd mi) (pc + 7) with
  | .ok (.dup, 1), .ok (.invokespecial ic, 3), .ok (.athrow, 1) => if mOw mi = 8 ∧ lkq 8 ic = some (4, E, 0) ∧ mHn mi = [] ∧ cats st ≤ 8 then some (.inr (.inl (.inr E, zThrow σ))) else none
  | _, _, _ => none
def ilen (i : Instr) : Nat := match i with
  | .aload _ | .astore _ | .bipush _ | .dload _ | .dstore _ | .fload _ | .fstore _ | .iload _ | .istore _ | .lload _ | .lstore _ | .ldc _ | .newarray _ => 2
  | .anewarray _ | .checkcast _ | .getfield _ | .getstatic _ | .goto _ | .if_icmp _ _ | .ifCond _ _ | .ifnonnull _ | .ifnull _ | .iinc _ _ | .invokespecial _ | .invokestatic _ | .invokevirtual _ | .ldc_w _ | .ldc2_w _ | .new _ | .putfield _ | .sipush _ => 3
  | _ => 1
def zins (mi pc : Nat) (lo : Lo) (st : List Value) (σ : St) (i : Instr) : Option Act := match i with
  | .aload k => zld 4 k (pc + 2) lo st σ
  | .aload_n k => zld 4 k (pc + 1) lo st σ
  | .iload k => zld 0 k (pc + 2) lo st σ
  | .iload_n k => zld 0 k (pc + 1) lo st σ
  | .lload k => zld 1 k (pc + 2) lo st σ
  | .lload_n k => zld 1 k (pc + 1) lo st σ
  | .astore k => zst 4 k (pc + 2) lo st σ
  | .astore_n k => zst 4 k (pc + 1) lo st σ
  | .istore k => zst 0 k (pc + 2) lo st σ
  | .istore_n k => zst 0 k (pc + 1) lo st σ
  | .lstore k => zst2 1 k (pc + 2) lo st σ
  | .lstore_n k => zst2 1 k (pc + 1) lo st σ
  | .iinc k n => (match lo[k]? with
    | some (some (.int x)) => nx (pc + 3) (lset1 lo k (.int (x + Int32.ofInt n))) st σ
    | _ => none)
  | .iconst n => nx (pc + 1) lo (.int (Int32.ofInt n) :: st) σ
  | .lconst n => nx (pc + 1) lo (.long (Int64.ofNat (n : Nat)) :: st) σ
  | .bipush n => nx (pc + 2) lo (.int (Int8.ofInt n).toInt32 :: st) σ
  | .sipush n => nx (pc + 3) lo (.int (Int16.ofInt n).toInt32 :: st) σ
  | .aconst_null => nx (pc + 1) lo (.null :: st) σ
  | .iadd => (match st with | .int y :: .int x :: st => nx (pc + 1) lo (.int (x + y) :: st) σ | _ => none)
  | .isub => (match st with | .int y :: .int x :: st => nx (pc + 1) lo (.int (x - y) :: st) σ | _ => none)
  | .imul => (match st with | .int y :: .int x :: st => nx (pc + 1) lo (.int (x * y) :: st) σ | _ => none)
  | .iand => (match st with | .int y :: .int x :: st => nx (pc + 1) lo (.int (x &&& y) :: st) σ | _ => none)
  | .ior => (match st with | .int y :: .int x :: st => nx (pc + 1) lo (.int (x ||| y) :: st) σ | _ => none)
  | .ixor => (match st with | .int y :: .int x :: st => nx (pc + 1) lo (.int (x ^^^ y) :: st) σ | _ => none)
  | .ishl => (match st with | .int y :: .int x :: st => nx (pc + 1) lo (.int (x <<< (y &&& 31)) :: st) σ | _ => none)
  | .ishr => (match st with | .int y :: .int x :: st => nx (pc + 1) lo (.int (x >>> (y &&& 31)) :: st) σ | _ => none)
  | .idiv => (match st with | .int y :: .int x :: st => if y = 0 then none else nx (pc + 1) lo (.int (x / y) :: st) σ | _ => none)
  | .irem => (match st with | .int y :: .int x :: st => if y = 0 then none else nx (pc + 1) lo (.int (x - x / y * y) :: st) σ | _ => none)
  | .ineg => (match st with | .int x :: st => nx (pc + 1) lo (.int (-x) :: st) σ | _ => none)
  | .ladd => (match st with | .long y :: .long x :: st => nx (pc + 1) lo (.long (x + y) :: st) σ | _ => none)
  | .lsub => (match st with | .long y :: .long x :: st => nx (pc + 1) lo (.long (x - y) :: st) σ | _ => none)
  | .lcmp => (match st with | .long y :: .long x :: st => nx (pc + 1) lo (.int (lg_cmp x y) :: st) σ | _ => none)
  | .i2l => (match st with | .int x :: st => nx (pc + 1) lo (.long x.toInt64 :: st) σ | _ => none)
  | .i2b => (match st with | .int x :: st => nx (pc + 1) lo (.int x.toInt8.toInt32 :: st) σ | _ => none)
  | .i2c => (match st with | .int x :: st => nx (pc + 1) lo (.int (x.toUInt32 % 65536).toInt32 :: st) σ | _ => none)
  | .dup => (match st with | v :: st => if v.category = 1 then nx (pc + 1) lo (v :: v :: st) σ else none | _ => none)
  | .dup2 => (match st with | v :: w :: st => if v.category = 1 ∧ w.category = 1 then nx (pc + 1) lo (v :: w :: v :: w :: st) σ else none | _ => none)
  | .dup_x1 => (match st with | v :: w :: st => if v.category = 1 ∧ w.category = 1 then nx (pc + 1) lo (v :: w :: v :: st) σ else none | _ => none)
  | .pop => (match st with | v :: st => if v.category = 1 then nx (pc + 1) lo st σ else none | _ => none)
  | .goto off => tgo pc off lo st σ
  | .ifCond c off => (match st with | .int x :: st => tbr pc off (cB c x 0) lo st σ | _ => none)
  | .if_icmp c off => (match st with | .int y :: .int x :: st => tbr pc off (cB c x y) lo st σ | _ => none)
  | .ifnull off => (match st with | .null :: st => tgo pc off lo st σ | .ref _ :: st => nx (pc + 3) lo st σ | .retAddr (_ + 1) :: st => nx (pc + 3) lo st σ | _ => none)
  | .ifnonnull off => (match st with | .ref _ :: st => tgo pc off lo st σ | .retAddr (_ + 1) :: st => tgo pc off lo st σ | .null :: st => nx (pc + 3) lo st σ | _ => none)
  | .tableswitch dflt low hi offs => (match st with
    | .int x :: st => if x.toInt < low ∨ hi < x.toInt then tgo pc dflt lo st σ else (match offs[(x.toInt - low).toNat]? with | some off => tgo pc off lo st σ | none => none)
    | _ => none)
  | .ldc idx => (match lkq (mOw mi) idx with
    | some (7, j, _) => nx (pc + 2) lo (.ref (1 + j) :: st) σ
    | some (23, j, _) => nx (pc + 2) lo (.retAddr (j + 1) :: st) σ
    | some (8, v, _) => nx (pc + 2) lo (.int (Int32.ofNat v) :: st) σ
    | _ => none)
  | .getfield idx => (match st with
    | .ref a :: st => (match lkq (mOw mi) idx with
      | some (0, ci, k) => if zh σ a = (kdc ci, 0) then nx (pc + 3) lo (gvl σ ci k a :: st) σ else if (zh σ a).1 = 20 ∧ ci = 10 ∧ k ≤ 1 then nx (pc + 3) lo ((if k = 0 then .ref (a + 7) else .int 0) :: st) σ else none
      | _ => none)
    | .retAddr q :: st => (match lkq (mOw mi) idx with
      | some (0, ci, k) => if ci = 10 ∧ k ≤ 1 ∧ 1 ≤ q ∧ q ≤ 9 then nx (pc + 3) lo ((if k = 0 then .retAddr (q + 9) else .int 0) :: st) σ else none
      | _ => none)
    | _ => none)
  | .putfield idx => (match st with
    | v :: .ref a :: st => (match lkq (mOw mi) idx with
      | some (0, ci, k) => if zh σ a = (kdc ci, 0) ∧ okv (zTY ci k) v = true ∧ ((zT ci k).2.2.2 = true → mKd mi = 2 ∧ mOw mi = ci) then (match pvl σ ci k a v with | some σ' => nx (pc + 3) lo st σ' | none => none) else none
      | _ => none)
    | _ => none)
  | .getstatic idx => (match lkq (mOw mi) idx with
    | some (19, _, _) => nx (pc + 3) lo (.int 1 :: st) σ
    | some (20, _, _) => nx (pc + 3) lo (.retAddr 0 :: st) σ
    | some (26, _, _) => nx (pc + 3) lo (.retAddr 19 :: st) σ
    | some (27, _, _) => nx (pc + 3) lo (.retAddr 20 :: st) σ
    | _ => none)
  | .iaload => (match st with | .int i :: .ref a :: st => if ((zh σ a).1 = 11 ∨ (zh σ a).1 = 19) ∧ inx i (zh σ a).2 = true then nx (pc + 1) lo (.int (zI σ a i.toNatClampNeg) :: st) σ else none | _ => none)
  | .baload => (match st with | .int i :: .ref a :: st => if ((zh σ a).1 = 13 ∨ (zh σ a).1 = 14 ∨ (zh σ a).1 = 21) ∧ inx i (zh σ a).2 = true then nx (pc + 1) lo (.int (zI σ a i.toNatClampNeg) :: st) σ else none | .int i :: .retAddr q :: st => if 10 ≤ q ∧ q ≤ 20 ∧ inx i (kle (q - 1)) = true then nx (pc + 1) lo (.int (kfn (q - 1) i.toNatClampNeg) :: st) σ else none | _ => none)
  | .aaload => (match st with | .int i :: .ref a :: st => if ((zh σ a).1 = 16 ∨ (zh σ a).1 = 17 ∨ (zh σ a).1 = 18) ∧ inx i (zh σ a).2 = true then nx (pc + 1) lo (rv (zR σ a i.toNatClampNeg) :: st) σ else none | _ => none)
  | .iastore => (match st with | .int x :: .int i :: .ref a :: st => if (zh σ a).1 = 11 ∧ inx i (zh σ a).2 = true then nx (pc + 1) lo st (wI σ a i.toNatClampNeg x) else none | _ => none)
  | .bastore => (match st with | .int x :: .int i :: .ref a :: st => if inx i (zh σ a).2 = true then (if (zh σ a).1 = 13 then nx (pc + 1) lo st (wI σ a i.toNatClampNeg (vp_nar .byte x)) else if (zh σ a).1 = 14 then nx (pc + 1) lo st (wI σ a i.toNatClampNeg (vp_nar .boolean x)) else none) else none | _ => none)
  | .aastore => (match st with | .ref v :: .int i :: .ref a :: st => if ((zh σ a).1 = 16 ∨ (zh σ a).1 = 17 ∨ (zh σ a).1 = 18) ∧ inx i (zh σ a).2 = true ∧ zh σ v = (elC (zh σ a).1 + 1, 0) then nx (pc + 1) lo st (wR σ a i.toNatClampNeg (v + 1)) else none | _ => none)
  | .arraylength => (match st with | .ref a :: st => if (11 ≤ (zh σ a).1 ∧ (zh σ a).1 ≤ 19 ∧ (zh σ a).1 ≠ 12 ∧ (zh σ a).1 ≠ 15) ∨ (zh σ a).1 = 21 then nx (pc + 1) lo (.int (Int32.ofNat (zh σ a).2) :: st) σ else none | .retAddr q :: st => if 10 ≤ q ∧ q ≤ 20 then nx (pc + 1) lo (.int (Int32.ofNat (kle (q - 1))) :: st) σ else none | _ => none)
  | .newarray t => (match st with | .int n :: st => if 0 ≤ n ∧ n.toNatClampNeg ≤ 4000 ∧ arK t ≠ 0 ∧ zn σ < KB then nx (pc + 2) lo (.ref (zn σ) :: st) (zNew σ (arK t, n.toNatClampNeg) n.toNatClampNeg) else none | _ => none)
  | .anewarray idx => (match st with
    | .int n :: st => (match lkq (mOw mi) idx with
      | some (5, ci, _) => if 0 ≤ n ∧ n.toNatClampNeg ≤ 4000 ∧ (ci = 0 ∨ ci = 1 ∨ ci = 4) ∧ zn σ < KB then nx (pc + 3) lo (.ref (zn σ) :: st) (zNew σ ((if ci = 0 then 16 else if ci = 1 then 17 else 18), n.toNatClampNeg) n.toNatClampNeg) else none
      | _ => none)
    | _ => none)
  | .new idx => (match lkq (mOw mi) idx with
    | some (5, ci, _) => if zn σ < KB then nx (pc + 3) lo (.ref (zn σ) :: st) (zNew σ (kdc ci, 0) (zN ci)) else none
    | some (6, E, _) => zthrow mi pc E st σ
    | _ => none)
  | .ireturn => (match st, mRt mi with | [.int x], some ty => if narrow ty (.int x) = .int x ∧ fso ty = 0 ∨ (narrow ty (.int x) = .int x ∧ (ty = .byte ∨ ty = .char)) then some (.inr (.inl (.inl (some (.int x)), σ))) else none | _, _ => none)
  | .lreturn => (match st, mRt mi with | [.long x], some .long => some (.inr (.inl (.inl (some (.long x)), σ))) | _, _ => none)
  | .areturn => (match st, mRt mi with | [.ref a], some (.object _) => some (.inr (.inl (.inl (some (.ref a)), σ))) | [.ref a], some (.array _) => some (.inr (.inl (.inl (some (.ref a)), σ))) | [.null], some (.object _) => some (.inr (.inl (.inl (some .null), σ))) | _, _ => none)
  | .return_ => (match st, mRt mi with | [], none => some (.inr (.inl (.inl none, σ))) | _, _ => none)
  | .checkcast idx => (match lkq (mOw mi) idx with
    | some (24, _, _) => (match st with | .ref a :: st => if (zh σ a).1 = 13 then nx (pc + 3) lo (.ref a :: st) σ else none | _ => none)
    | _ => none)
  | .invokevirtual idx => (match lkq (mOw mi) idx with
    | some (1, y, _) => zcall 1 y st σ
    | some (21, y, _) => zcall 3 y st σ
    | some (25, _, _) => (match st with | .ref a :: st => if (zh σ a).1 = 13 ∧ cats st ≤ 8 ∧ zn σ < KB ∧ bts (zI σ a) 0 (zh σ a).2 = true then nx (pc + 3) lo (.ref (zn σ) :: st) (zCln σ a (zh σ a).2) else none | _ => none)
    | _ => none)
  | .invokespecial idx => (match lkq (mOw mi) idx with
    | some (1, y, _) => zcall 2 y st σ
    | some (2, y, _) => zcall 2 y st σ
    | some (22, y, _) => zcall 3 y st σ
    | some (3, _, _) => (match st with | .ref a :: st => if (zh σ a).1 ≠ 0 ∧ cats st ≤ 8 then nx (pc + 3) lo st σ else none | _ => none)
    | _ => none)
  | .invokestatic idx => (match lkq (mOw mi) idx with
    | some (1, y, _) => zcall 0 y st σ
    | some (11, _, _) => (match st with
      | .int n :: .int dp :: .ref d :: .int sp :: .ref s :: st => if (((zh σ s).1 = 11 ∧ (zh σ d).1 = 11) ∨ ((zh σ s).1 = 13 ∧ (zh σ d).1 = 13 ∧ bts (zI σ s) sp.toNatClampNeg n.toNatClampNeg = true)) ∧ 0 ≤ n ∧ 0 ≤ sp ∧ 0 ≤ dp ∧ sp.toNatClampNeg + n.toNatClampNeg ≤ (zh σ s).2 ∧ dp.toNatClampNeg + n.toNatClampNeg ≤ (zh σ d).2 ∧ s ≠ d ∧ cats st ≤ 8
        then nx (pc + 3) lo st (zCpy σ s d sp.toNatClampNeg dp.toNatClampNeg n.toNatClampNeg) else none
      | .int n :: .int dp :: .ref d :: .int sp :: .retAddr q :: st => if 10 ≤ q ∧ q ≤ 18 ∧ (zh σ d).1 = 13 ∧ bts (kfn (q - 1)) sp.toNatClampNeg n.toNatClampNeg = true ∧ 0 ≤ n ∧ 0 ≤ sp ∧ 0 ≤ dp ∧ sp.toNatClampNeg + n.toNatClampNeg ≤ kle (q - 1) ∧ dp.toNatClampNeg + n.toNatClampNeg ≤ (zh σ d).2 ∧ cats st ≤ 8
        then nx (pc + 3) lo st (zCpk σ (kfn (q - 1)) d sp.toNatClampNeg dp.toNatClampNeg n.toNatClampNeg) else none
      | _ => none)
    | some (12, _, _) => (match st with | .int y :: .int x :: st => if cats st ≤ 8 then nx (pc + 3) lo (.int (if y < x then y else x) :: st) σ else none | _ => none)
    | some (13, _, _) => (match st with | .int y :: .int x :: st => if cats st ≤ 8 then nx (pc + 3) lo (.int (if x < y then y else x) :: st) σ else none | _ => none)
    | _ => none)
  | _ => none
def stp (mi pc : Nat) (lo : Lo) (st : List Value) (σ : St) : Option Act := match decode (mCd mi) pc with
  | .ok (i, len) => (match i with
    | .tableswitch a b c d => zins mi pc lo st σ (.tableswitch a b c d)
    | i => if len = ilen i then zins mi pc lo st σ i else none)
  | _ => none
def run : Nat → Nat → Nat → Nat → Lo → List Value → St → Option (Rs × St)
  | 0, _, _, _, _, _, _ => none
  | n + 1, d, mi, pc, lo, st, σ => match stp mi pc lo st σ with
    | none => none
    | some (.inl (pc', lo', st', σ')) => run n d mi pc' lo' st' σ'
    | some (.inr (.inl r)) => (match r.1 with
      | .inl _ => some r
      | .inr _ => if 5 ≤ d then some r else none)
    | some (.inr (.inr (y, as, st'))) => match d with
      | 0 => none
      | d' + 1 => match run n d' y 0 (ent y as) [] σ with
        | none => none
        | some (.inl v, σ') => run n (d' + 1) mi (pc + 3) lo (v.toList ++ st') σ'
        | some (.inr E, σ') => match hnd (mOw mi) (mHn mi) pc E with
          | some h => run n (d' + 1) mi h lo [.retAddr 0] σ'
          | none => some (.inr E, σ')
theorem run_mono : ∀ (n d mi pc : Nat) (lo : Lo) (st : List Value) (σ : St) (r : Rs × St), run n d mi pc lo st σ = some r → run (n + 1) d mi pc lo st σ = some r := by
  intro n
  induction n with
  | zero => intro d mi pc lo st σ r h; simp [run] at h
  | succ n ih =>
    intro d mi pc lo st σ r h
    rw [run] at h ⊢
    match hs : stp mi pc lo st σ with
    | none => rw [hs] at h; cases h
    | some (.inl (pc', lo', st', σ')) => rw [hs] at h; exact ih _ _ _ _ _ _ _ h
    | some (.inr (.inl q)) => rw [hs] at h; exact h
    | some (.inr (.inr (y, as, st'))) =>
      rw [hs] at h
      match d, h with
      | 0, h => cases h
      | d' + 1, h =>
        dsimp only at h ⊢
        match hc : run n d' y 0 (ent y as) [] σ with
        | none => rw [hc] at h; cases h
        | some (.inl v, σ') =>
          rw [hc] at h
          rw [ih _ _ _ _ _ _ _ hc]
          exact ih _ _ _ _ _ _ _ h
        | some (.inr E, σ') =>
          rw [hc] at h
          rw [ih _ _ _ _ _ _ _ hc]
          dsimp only at h ⊢
          match hh : hnd (mOw mi) (mHn mi) pc E with
          | none => rw [hh] at h; exact h
          | some q => rw [hh] at h; exact ih _ _ _ _ _ _ _ h
