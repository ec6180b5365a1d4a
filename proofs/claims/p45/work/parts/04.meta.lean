/-! A WALK BY COMPUTATION: worlds of numbered cells, what an instruction does to them (xstep), a method's walk (xwp), what a contract is (xCon) -/
abbrev xI : Type := Nat → Nat → Int32
abbrev xL : Type := Nat → Nat → Int64
abbrev xR : Type := Nat → Nat → Option Nat
abbrev xV : Type := List (Option Value)
abbrev xQ : Type := Option Value → Nat → xI → xL → xR → Prop
abbrev xSpec : Type := List Value → Nat → xI → xL → xR → xQ → Prop
/-- place, length, instruction, a, b, c, table -/
abbrev xE : Type := Nat × Nat × Instr × Nat × Nat × Nat × List (Nat × Nat)
/-- name, code, locals, return type, kind (0 virtual, 1 static, 2 <init>, 9 the law), arguments beside the receiver, receiver's class, frames, words of locals, cells made, program -/
abbrev xM : Type := MethodName × ByteArray × Nat × Option FieldType × Nat × Nat × Nat × Nat × Nat × Nat × List xE
def mY (M : xM) : MethodName := M.1
def mC (M : xM) : ByteArray := M.2.1
def mL (M : xM) : Nat := M.2.2.1
def mT (M : xM) : Option FieldType := M.2.2.2.1
def mK (M : xM) : Nat := M.2.2.2.2.1
def mA (M : xM) : Nat := M.2.2.2.2.2.1
def mO (M : xM) : Nat := M.2.2.2.2.2.2.1
def mF (M : xM) : Nat := M.2.2.2.2.2.2.2.1
def mW (M : xM) : Nat := M.2.2.2.2.2.2.2.2.1
def mN (M : xM) : Nat := M.2.2.2.2.2.2.2.2.2.1
def mP (M : xM) : List xE := M.2.2.2.2.2.2.2.2.2.2
abbrev xCs : Type := List (xM × xSpec)
def xad (b base : Nat) : Nat → Nat := fun k => match k with
  | 0 => b
  | k + 1 => base + k
def xv (b base : Nat) : Value → Value := fun v => match v with
  | .ref k => .ref (xad b base k)
  | v => v
def xrf (r : Option Nat) : Value := match r with
  | none => .null
  | some k => .ref k
def xro (b base : Nat) (r : Option Nat) : Option Nat := r.map (xad b base)
def xfv (ci k j : Nat) (I : xI) (L : xL) (P : xR) : Value := match xKd ci j with
  | 0 => .int (I k j)
  | 1 => .long (L k j)
  | _ => xrf (P k j)
def xfs (b base ci k : Nat) (I : xI) (L : xL) (P : xR) : List Value := (List.range (xNf ci)).map fun j => xv b base (xfv ci k j I L P)
def xent (b base : Nat) (cI cJ cD : ClassId) (k : Nat) (I : xI) (L : xL) (P : xR) : va_E := match (xSh k).1 with
  | 0 => .inr ((xSh k).2, xfs b base (xSh k).2 k I L P)
  | 1 => .inl (cI, (xSh k).2, .inl (I k))
  | 2 => .inl (cJ, (xSh k).2, .inr (.inl (L k)))
  | _ => .inl (cD, (xSh k).2, .inr (.inr (.inr (.inr (fun j => xro b base (P k j))))))
def xws (b base : Nat) (cI cJ cD : ClassId) (n : Nat) (I : xI) (L : xL) (P : xR) : va_W := (List.range n).map fun k => (base + k, xent b base cI cJ cD (k + 1) I L P)
def xSl (k : Nat) : Nat := match (xSh k).1 with
  | 0 => xNf (xSh k).2
  | _ => (xSh k).2
def xS : Nat → Nat
  | 0 => 0
  | n + 1 => xS n + xSl (n + 1)
def xup {α : Type} (I : Nat → Nat → α) (k j : Nat) (v : α) : Nat → Nat → α := fun k' => if k' = k then (fun j' => if j' = j then v else I k j') else I k'
def xrw {α : Type} (I : Nat → Nat → α) (k : Nat) (f : Nat → α) : Nat → Nat → α := fun k' => if k' = k then f else I k'
-- locals
def xgt : xV → Nat → (Value → Prop) → Prop
  | [], _, _ => False
  | x :: _, 0, k => match x with
    | some v => k v
    | none => False
  | _ :: r, i + 1, k => xgt r i k
def xs1 (v : Value) : xV → Nat → (xV → Prop) → Prop
  | [], _, _ => False
  | _ :: r, 0, k => k (some v :: r)
  | x :: r, 1, k => match x with
    | some (.long _) => xs1 v r 0 (fun r' => k (none :: r'))
    | some (.double _) => xs1 v r 0 (fun r' => k (none :: r'))
    | x => xs1 v r 0 (fun r' => k (x :: r'))
  | x :: r, i + 2, k => xs1 v r (i + 1) (fun r' => k (x :: r'))
def xs2 (v : Value) : xV → Nat → (xV → Prop) → Prop
  | [], _, _ => False
  | _ :: r, 0, k => match r with
    | [] => False
    | _ :: r => k (some v :: none :: r)
  | x :: r, 1, k => match x with
    | some (.long _) => xs2 v r 0 (fun r' => k (none :: r'))
    | some (.double _) => xs2 v r 0 (fun r' => k (none :: r'))
    | x => xs2 v r 0 (fun r' => k (x :: r'))
  | x :: r, i + 2, k => xs2 v r (i + 1) (fun r' => k (x :: r'))
def xmask : List Bool → xV → xV
  | true :: m, x :: r => x :: xmask m r
  | false :: m, _ :: r => none :: xmask m r
  | _, r => r.map fun _ => none
-- stacks
def xpI (st : List Value) (k : Int32 → List Value → Prop) : Prop := match st with
  | .int x :: r => k x r
  | _ => False
def xpL (st : List Value) (k : Int64 → List Value → Prop) : Prop := match st with
  | .long x :: r => k x r
  | _ => False
def xpR (st : List Value) (k : Nat → List Value → Prop) : Prop := match st with
  | .ref x :: r => k x r
  | _ => False
/-- one of category 1 -/
def xp1 (st : List Value) (k : Value → List Value → Prop) : Prop := match st with
  | .int x :: r => k (.int x) r
  | .ref x :: r => k (.ref x) r
  | .null :: r => k .null r
  | _ => False
/-- a reference or null -/
def xpN (st : List Value) (kn : List Value → Prop) (k : Nat → List Value → Prop) : Prop := match st with
  | .ref x :: r => k x r
  | .null :: r => kn r
  | _ => False
def xpop : Nat → List Value → List Value → (List Value → List Value → Prop) → Prop
  | 0, st, as, k => k as st
  | n + 1, st, as, k => match st with
    | v :: r => xpop n r (v :: as) k
    | [] => False
/-- at most so many words -/
def xle : Nat → List Value → Bool
  | _, [] => true
  | 0, _ :: _ => false
  | b + 1, v :: r => match v with
    | .long _ => (match b with
      | 0 => false
      | b + 1 => xle b r)
    | .double _ => (match b with
      | 0 => false
      | b + 1 => xle b r)
    | _ => xle b r
def xT (c : Bool) (A : Prop) : Prop := match c with
  | true => A
  | false => False
def xbr (c A B : Prop) : Prop := (c → A) ∧ (¬ c → B)
def xci (i : Int) (a : Nat) (k : Int32 → Prop) : Prop := match i with
  | .ofNat _ => k (nI a)
  | .negSucc _ => k (-(nI a))
def xcl (c a : Nat) (k : Int64 → Prop) : Prop := match c with
  | 0 => k (lN a)
  | _ => k (-(lN a))
def xcmp (cnd : ClassFile.Cond) (x y : Int32) (A B : Prop) : Prop := match cnd with
  | .eq => xbr (x = y) A B
  | .ne => xbr (x = y) B A
  | .lt => xbr (x < y) A B
  | .ge => xbr (y ≤ x) A B
  | .gt => xbr (y < x) A B
  | .le => xbr (x ≤ y) A B
def xsw (x : Int32) (t : List (Nat × Nat)) (J : Nat → Prop) (d : Nat) : Prop := match t with
  | [] => J d
  | q :: r => xbr (x = nI q.1) (J q.2) (xsw x r J d)
def xsel {α : Type} (c A B : α) (k : Nat) : α := match k with
  | 0 => c
  | 1 => A
  | _ => B
def xrcv (kd : Nat) (as : List Value) (n o : Nat) : Bool := match kd with
  | 0 => (match as with
    | .ref r :: _ => (match r with
      | 0 => false
      | r + 1 => Nat.blt r n && (Nat.beq (xSh (r + 1)).1 0 && Nat.beq (xSh (r + 1)).2 o))
    | _ => false)
  | 1 => true
  | _ => (match as with
    | .ref _ :: _ => true
    | _ => false)
def xcall (M : xM) (cs : xCs) (a : Nat) (kd : Nat) (k : Nat) (st : List Value) (n : Nat) (I : xI) (L : xL) (P : xR) (K : xM → List Value → xQ) : Prop := match cs[a]? with
  | none => False
  | some q => xT (Nat.beq (mK q.1) kd && Nat.ble (k + mN q.1) (mN M)) (xpop (xsel (mA q.1 + 1) (mA q.1) (mA q.1 + 1) kd) st [] fun as st' => xT (xle 8 st') (xT (xrcv kd as n (mO q.1)) (q.2 as n I L P (K q.1 st'))))
abbrev xK : Type := xQ → xV → List Value → Nat → Nat → xI → xL → xR → Prop
/-- a cell of the class of number a; an array of a kind -/
def xob (r n a : Nat) : Bool := match r with
  | 0 => false
  | r + 1 => Nat.blt r n && (Nat.beq (xSh (r + 1)).1 0 && Nat.beq (xSh (r + 1)).2 a)
def xar (r n t : Nat) (k : Nat → Prop) : Prop := match r with
  | 0 => False
  | r + 1 => match Nat.blt r n with
    | true => (match xSh (r + 1) with
      | (t', z) => (match Nat.beq t' t with
        | true => k z
        | false => False))
    | false => False
def xal (r n : Nat) (k : Nat → Prop) : Prop := match r with
  | 0 => False
  | r + 1 => match Nat.blt r n with
    | true => (match xSh (r + 1) with
      | (t', z) => (match Nat.blt 0 t' with
        | true => k z
        | false => False))
    | false => False
def xstep (M : xM) (cs : xCs) (Q : xQ) (e : xE) (K : xK) (J : Nat → xK) (ls : xV) (st : List Value) (k n : Nat) (I : xI) (L : xL) (P : xR) : Prop :=
  match e with
  | (_, _, ins, a, b, c, tb) => match ins with
    | .aconst_null => K Q ls (.null :: st) k n I L P
    | .iconst i => xci i a fun v => K Q ls (.int v :: st) k n I L P
    | .bipush i => xci i a fun v => K Q ls (.int v :: st) k n I L P
    | .sipush i => xci i a fun v => K Q ls (.int v :: st) k n I L P
    | .lconst _ => K Q ls (.long (lN a) :: st) k n I L P
    | .ldc _ => K Q ls (.int (nI a) :: st) k n I L P
    | .ldc_w _ => K Q ls (.int (nI a) :: st) k n I L P
    | .ldc2_w _ => xcl c a fun v => K Q ls (.long v :: st) k n I L P
    | .iload _ => xgt ls a fun v => xpI [v] fun x _ => K Q ls (.int x :: st) k n I L P
    | .iload_n _ => xgt ls a fun v => xpI [v] fun x _ => K Q ls (.int x :: st) k n I L P
    | .lload _ => xgt ls a fun v => xpL [v] fun x _ => K Q ls (.long x :: st) k n I L P
    | .lload_n _ => xgt ls a fun v => xpL [v] fun x _ => K Q ls (.long x :: st) k n I L P
    | .aload _ => xgt ls a fun v => xpN [v] (fun _ => K Q ls (.null :: st) k n I L P) fun x _ => K Q ls (.ref x :: st) k n I L P
    | .aload_n _ => xgt ls a fun v => xpN [v] (fun _ => K Q ls (.null :: st) k n I L P) fun x _ => K Q ls (.ref x :: st) k n I L P
    | .istore _ => xpI st fun x st => xs1 (.int x) ls a fun ls => K Q ls st k n I L P
    | .istore_n _ => xpI st fun x st => xs1 (.int x) ls a fun ls => K Q ls st k n I L P
    | .lstore _ => xpL st fun x st => xs2 (.long x) ls a fun ls => K Q ls st k n I L P
    | .lstore_n _ => xpL st fun x st => xs2 (.long x) ls a fun ls => K Q ls st k n I L P
    | .astore _ => xpN st (fun st => xs1 .null ls a fun ls => K Q ls st k n I L P) fun x st => xs1 (.ref x) ls a fun ls => K Q ls st k n I L P
    | .astore_n _ => xpN st (fun st => xs1 .null ls a fun ls => K Q ls st k n I L P) fun x st => xs1 (.ref x) ls a fun ls => K Q ls st k n I L P
    | .iinc _ i => xgt ls a fun v => xpI [v] fun x _ => (match i with
        | .ofNat _ => xs1 (.int (x + nI b)) ls a fun ls => K Q ls st k n I L P
        | .negSucc _ => xs1 (.int (x - nI b)) ls a fun ls => K Q ls st k n I L P)
    | .iadd => xpI st fun y st => xpI st fun x st => K Q ls (.int (x + y) :: st) k n I L P
    | .isub => xpI st fun y st => xpI st fun x st => K Q ls (.int (x - y) :: st) k n I L P
    | .imul => xpI st fun y st => xpI st fun x st => K Q ls (.int (x * y) :: st) k n I L P
    | .iand => xpI st fun y st => xpI st fun x st => K Q ls (.int (x &&& y) :: st) k n I L P
    | .ior => xpI st fun y st => xpI st fun x st => K Q ls (.int (x ||| y) :: st) k n I L P
    | .ixor => xpI st fun y st => xpI st fun x st => K Q ls (.int (x ^^^ y) :: st) k n I L P
    | .idiv => xpI st fun y st => xpI st fun x st => ¬ y = 0 ∧ K Q ls (.int (x / y) :: st) k n I L P
    | .irem => xpI st fun y st => xpI st fun x st => ¬ y = 0 ∧ K Q ls (.int (x - x / y * y) :: st) k n I L P
    | .ishl => xpI st fun y st => xpI st fun x st => K Q ls (.int (x <<< (y &&& 31)) :: st) k n I L P
    | .ishr => xpI st fun y st => xpI st fun x st => K Q ls (.int (x >>> (y &&& 31)) :: st) k n I L P
    | .iushr => xpI st fun y st => xpI st fun x st => K Q ls (.int (x.toUInt32 >>> (y.toUInt32 &&& Int32.toUInt32 31)).toInt32 :: st) k n I L P
    | .ladd => xpL st fun y st => xpL st fun x st => K Q ls (.long (x + y) :: st) k n I L P
    | .lsub => xpL st fun y st => xpL st fun x st => K Q ls (.long (x - y) :: st) k n I L P
    | .lmul => xpL st fun y st => xpL st fun x st => K Q ls (.long (x * y) :: st) k n I L P
    | .land => xpL st fun y st => xpL st fun x st => K Q ls (.long (x &&& y) :: st) k n I L P
    | .lor => xpL st fun y st => xpL st fun x st => K Q ls (.long (x ||| y) :: st) k n I L P
    | .lxor => xpL st fun y st => xpL st fun x st => K Q ls (.long (x ^^^ y) :: st) k n I L P
    | .ldiv => xpL st fun y st => xpL st fun x st => ¬ y = 0 ∧ K Q ls (.long (x / y) :: st) k n I L P
    | .lrem => xpL st fun y st => xpL st fun x st => ¬ y = 0 ∧ K Q ls (.long (x - x / y * y) :: st) k n I L P
    | .lshl => xpI st fun y st => xpL st fun x st => K Q ls (.long (x <<< (y.toInt64 &&& 63)) :: st) k n I L P
    | .lushr => xpI st fun y st => xpL st fun x st => K Q ls (.long (x.toUInt64 >>> (y.toInt64.toUInt64 &&& Int64.toUInt64 63)).toInt64 :: st) k n I L P
    | .lcmp => xpL st fun y st => xpL st fun x st => K Q ls (.int (lg_cmp x y) :: st) k n I L P
    | .i2l => xpI st fun x st => K Q ls (.long x.toInt64 :: st) k n I L P
    | .l2i => xpL st fun x st => K Q ls (.int x.toInt32 :: st) k n I L P
    | .i2b => xpI st fun x st => K Q ls (.int x.toInt8.toInt32 :: st) k n I L P
    | .pop => xp1 st fun _ st => K Q ls st k n I L P
    | .dup => xp1 st fun v st => K Q ls (v :: v :: st) k n I L P
    | .dup2 => xp1 st fun v st => xp1 st fun w st => K Q ls (v :: w :: v :: w :: st) k n I L P
    | .goto _ => J a Q ls st k n I L P
    | .if_icmp cnd _ => xpI st fun y st => xpI st fun x st => xcmp cnd x y (J a Q ls st k n I L P) (K Q ls st k n I L P)
    | .ifCond cnd _ => xpI st fun x st => xcmp cnd x 0 (J a Q ls st k n I L P) (K Q ls st k n I L P)
    | .ifnull _ => xpN st (fun st => J a Q ls st k n I L P) fun _ st => K Q ls st k n I L P
    | .ifnonnull _ => xpN st (fun st => K Q ls st k n I L P) fun _ st => J a Q ls st k n I L P
    | .tableswitch _ _ _ _ => xpI st fun x st => xsw x tb (fun t => J t Q ls st k n I L P) a
    | .lookupswitch _ _ => xpI st fun x st => xsw x tb (fun t => J t Q ls st k n I L P) a
    | .getfield _ => xpR st fun r st => xT (xob r n a) (match xKd a b with
        | 0 => K Q ls (.int (I r b) :: st) k n I L P
        | 1 => K Q ls (.long (L r b) :: st) k n I L P
        | _ => (match P r b with
          | none => K Q ls (.null :: st) k n I L P
          | some q => K Q ls (.ref q :: st) k n I L P))
    | .putfield _ => (match xKd a b with
        | 0 => xpI st fun x st => xpR st fun r st => xT (xob r n a) (K Q ls st k n (xup I r b x) L P)
        | 1 => xpL st fun x st => xpR st fun r st => xT (xob r n a) (K Q ls st k n I (xup L r b x) P)
        | _ => xpR st fun x st => xpR st fun r st => xT (xob r n a) (K Q ls st k n I L (xup P r b (some x))))
    | .arraylength => xpR st fun r st => (match r with
        | 0 => xT true (K Q ls (.int (I 0 0) :: st) k n I L P)
        | _ + 1 => xal r n fun z => K Q ls (.int (nI z) :: st) k n I L P)
    | .iaload => xpI st fun i st => xpR st fun r st => (match r with
        | 0 => xT true (vp_in i (I 0 0).toNatClampNeg ∧ K Q ls (.int (I 0 (i.toNatClampNeg + 1)) :: st) k n I L P)
        | _ + 1 => xar r n 1 fun z => vp_in i z ∧ K Q ls (.int (I r i.toNatClampNeg) :: st) k n I L P)
    | .laload => xpI st fun i st => xpR st fun r st => xar r n 2 fun z => vp_in i z ∧ K Q ls (.long (L r i.toNatClampNeg) :: st) k n I L P
    | .aaload => xpI st fun i st => xpR st fun r st => xar r n 3 fun z => vp_in i z ∧ (P r i.toNatClampNeg = none → K Q ls (.null :: st) k n I L P) ∧ ∀ q : Nat, P r i.toNatClampNeg = some q → K Q ls (.ref q :: st) k n I L P
    | .iastore => xpI st fun x st => xpI st fun i st => xpR st fun r st => xar r n 1 fun z => vp_in i z ∧ K Q ls st k n (xup I r i.toNatClampNeg x) L P
    | .lastore => xpL st fun x st => xpI st fun i st => xpR st fun r st => xar r n 2 fun z => vp_in i z ∧ K Q ls st k n I (xup L r i.toNatClampNeg x) P
    | .aastore => xpR st fun x st => xpI st fun i st => xpR st fun r st => (match r, x with
        | r + 1, x + 1 => xT ((Nat.blt r n && Nat.beq (xSh (r + 1)).1 3) && (Nat.blt x n && (Nat.beq (xSh (x + 1)).1 0 && Nat.beq (xSh (x + 1)).2 1))) (vp_in i (xSh (r + 1)).2 ∧ K Q ls st k n I L (xup P (r + 1) i.toNatClampNeg (some (x + 1))))
        | _, _ => False)
    | .new _ => xT (Nat.blt k (mN M) && (Nat.beq (xSh (n + 1)).1 0 && Nat.beq (xSh (n + 1)).2 a)) (K Q ls (.ref (n + 1) :: st) (k + 1) (n + 1) (xrw I (n + 1) fun _ => 0) (xrw L (n + 1) fun _ => 0) (xrw P (n + 1) fun _ => none))
    | .newarray _ => xpI st fun v st => xT (Nat.blt k (mN M) && (Nat.beq (xSh (n + 1)).1 c && Nat.blt (xSh (n + 1)).2 60000)) (v = nI (xSh (n + 1)).2 ∧ K Q ls (.ref (n + 1) :: st) (k + 1) (n + 1) (xrw I (n + 1) fun _ => 0) (xrw L (n + 1) fun _ => 0) P)
    | .anewarray _ => xpI st fun v st => xT (Nat.blt k (mN M) && (Nat.beq (xSh (n + 1)).1 3 && Nat.blt (xSh (n + 1)).2 60000)) (v = nI (xSh (n + 1)).2 ∧ K Q ls (.ref (n + 1) :: st) (k + 1) (n + 1) I L (xrw P (n + 1) fun _ => none))
    | .invokevirtual _ => xcall M cs a 0 k st n I L P fun m st' r n' I' L' P' => K Q ls (r.toList ++ st') (k + mN m) n' I' L' P'
    | .invokespecial _ => (match c with
        | 0 => xcall M cs a 2 k st n I L P fun m st' r n' I' L' P' => K Q ls (r.toList ++ st') (k + mN m) n' I' L' P'
        | _ => xpR st fun _ st => xT (xle 8 st) (K Q ls st k n I L P))
    | .invokestatic _ => (match c with
        | 0 => xcall M cs a 1 k st n I L P fun m st' r n' I' L' P' => K Q ls (r.toList ++ st') (k + mN m) n' I' L' P'
        | 1 => xpI st fun y st => xpI st fun x st => xT (xle 8 st) (K Q ls (.int (if x < y then y else x) :: st) k n I L P)
        | 2 => xpI st fun y st => xpI st fun x st => xT (xle 8 st) (K Q ls (.int (if y < x then y else x) :: st) k n I L P)
        | _ => xpI st fun m st => xpI st fun dp st => xpR st fun r1 st => xpI st fun sp st => xpR st fun r0 st => xT (xle 8 st) (match r1, r0 with
          | r1 + 1, r0 + 1 => xT (Nat.blt r1 n && Nat.blt r0 n) (¬ sp < 0 ∧ ¬ dp < 0 ∧ ¬ m < 0 ∧ sp.toNatClampNeg + m.toNatClampNeg ≤ (xSh (r0 + 1)).2 ∧ dp.toNatClampNeg + m.toNatClampNeg ≤ (xSh (r1 + 1)).2 ∧
              (match (xSh (r0 + 1)).1, (xSh (r1 + 1)).1 with
              | 1, 1 => K Q ls st k n (xrw I (r1 + 1) (va_cpy (I (r0 + 1)) (I (r1 + 1)) sp.toNatClampNeg dp.toNatClampNeg m.toNatClampNeg)) L P
              | 2, 2 => K Q ls st k n I (xrw L (r1 + 1) (va_cpy (L (r0 + 1)) (L (r1 + 1)) sp.toNatClampNeg dp.toNatClampNeg m.toNatClampNeg)) P
              | _, _ => False))
          | _, _ => False))
    | .return_ => (match st with
        | [] => (match mT M with
          | none => xT (Nat.beq k (mN M)) (Q none n I L P)
          | _ => False)
        | _ => False)
    | .ireturn => (match st with
        | [.int x] => (match mT M with
          | some .int => xT (Nat.beq k (mN M)) (Q (some (.int x)) n I L P)
          | some .boolean => (x = nI 0 ∨ x = nI 1) ∧ xT (Nat.beq k (mN M)) (Q (some (.int x)) n I L P)
          | _ => False)
        | _ => False)
    | .lreturn => (match st with
        | [.long x] => (match mT M with
          | some .long => xT (Nat.beq k (mN M)) (Q (some (.long x)) n I L P)
          | _ => False)
        | _ => False)
    | .areturn => (match st with
        | [.ref x] => (match mT M with
          | some (.object _) => xT (Nat.beq k (mN M)) (Q (some (.ref x)) n I L P)
          | _ => False)
        | [.null] => (match mT M with
          | some (.object _) => xT (Nat.beq k (mN M)) (Q (some .null) n I L P)
          | _ => False)
        | _ => False)
    | _ => False
def xlk (t : Nat) : List (Nat × List Bool) → Option (List Bool)
  | [] => none
  | q :: r => match Nat.beq q.1 t with
    | true => some q.2
    | false => xlk t r
/-- the row at a place, and the place behind it -/
def xfe (t : Nat) : List xE → (xE → Option Nat → Prop) → Prop
  | [], _ => False
  | e :: r, k => match Nat.beq e.1 t with
    | true => (match r with
      | [] => k e none
      | e' :: _ => (match e' with
        | (q, _) => k e (some q)))
    | false => xfe t r k
def xnx (cut : List (Nat × List Bool)) (g : Nat → xK) (w : Nat → xK) (t : Nat) : xK := fun Q ls st k n I L P => match xlk t cut with
  | some m => g t Q (xmask m ls) st k n I L P
  | none => w t Q ls st k n I L P
def xkn (cut : List (Nat × List Bool)) (g : Nat → xK) (w : Nat → xK) (q : Option Nat) : xK := match q with
  | none => fun _ _ _ _ _ _ _ _ => False
  | some t => xnx cut g w t
def xwp (M : xM) (cs : xCs) (g : Nat → xK) (cut : List (Nat × List Bool)) : Nat → Nat → xK
  | 0, t => fun Q ls st k n I L P => g t Q ls st k n I L P
  | f + 1, t => fun Q ls st k n I L P => xfe t (mP M) fun e q => xstep M cs Q e (xkn cut g (xwp M cs g cut f) q) (xnx cut g (xwp M cs g cut f)) ls st k n I L P
