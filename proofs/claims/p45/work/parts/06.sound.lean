/-! what must hold of a program's rows, once: lengths, constants, targets (xChk), the tables' words (xWrd) -/
def xFw (own : String) (idx a b c : Nat) : Cond := match c with
  | 0 => .fieldLink own idx (((vwCl.getD a (RX0, TX0, 0)).2.1 b).1) (((vwCl.getD a (RX0, TX0, 0)).2.1 b).2.1) (((vwCl.getD a (RX0, TX0, 0)).2.1 b).2.2.1)
  | _ => .fieldLinkNest own idx (((vwCl.getD a (RX0, TX0, 0)).2.1 b).1) (((vwCl.getD a (RX0, TX0, 0)).2.1 b).2.1) (((vwCl.getD a (RX0, TX0, 0)).2.1 b).2.2.1) "SmellBurdens"
def xNt (t : ArrayType) (c9 : Nat) : Bool := match t, c9 with
  | .int, 1 => true
  | .long, 2 => true
  | _, _ => false
def xNw (c9 : Nat) : Prop := match c9 with
  | 1 => Cond.arrayClass .int ∈ xG
  | _ => Cond.arrayClass .long ∈ xG
def xRb (M : xM) (cs : xCs) (a : Nat) : Bool := match cs[a]? with
  | some q => Nat.ble (mF q.1 + 1) (mF M) && Nat.ble (8 + (mL q.1 + 11) + mW q.1) (mW M)
  | none => false
def xChk (M : xM) (cs : xCs) (e : xE) : Bool := match e with
  | (pc, len, ins, a, b, c, tb) => match ins with
    | .iconst i => Nat.beq len 1 && Nat.beq i.natAbs a
    | .bipush i => Nat.beq len 2 && (Nat.beq i.natAbs a && Nat.blt a 129 && decide (i < 128))
    | .sipush i => Nat.beq len 3 && (Nat.beq i.natAbs a && Nat.blt a 32769 && decide (i < 32768))
    | .lconst i => Nat.beq len 1 && Nat.beq i.val a
    | .ldc _ => Nat.beq len 2
    | .ldc_w _ => Nat.beq len 3
    | .ldc2_w _ => Nat.beq len 3
    | .iload i => Nat.beq len 2 && Nat.beq i a
    | .lload i => Nat.beq len 2 && Nat.beq i a
    | .aload i => Nat.beq len 2 && Nat.beq i a
    | .istore i => Nat.beq len 2 && Nat.beq i a
    | .lstore i => Nat.beq len 2 && Nat.beq i a
    | .astore i => Nat.beq len 2 && Nat.beq i a
    | .iload_n i => Nat.beq len 1 && Nat.beq i.val a
    | .lload_n i => Nat.beq len 1 && Nat.beq i.val a
    | .aload_n i => Nat.beq len 1 && Nat.beq i.val a
    | .istore_n i => Nat.beq len 1 && Nat.beq i.val a
    | .lstore_n i => Nat.beq len 1 && Nat.beq i.val a
    | .astore_n i => Nat.beq len 1 && Nat.beq i.val a
    | .iinc i d => Nat.beq len 3 && (Nat.beq i a && Nat.beq d.natAbs b)
    | .goto off => Nat.beq len 3 && decide ((pc : Int) + off = (a : Int))
    | .if_icmp _ off => Nat.beq len 3 && decide ((pc : Int) + off = (a : Int))
    | .ifCond _ off => Nat.beq len 3 && decide ((pc : Int) + off = (a : Int))
    | .ifnull off => Nat.beq len 3 && decide ((pc : Int) + off = (a : Int))
    | .ifnonnull off => Nat.beq len 3 && decide ((pc : Int) + off = (a : Int))
    | .tableswitch d lo hi offs => decide ((pc : Int) + d = (a : Int)) && (decide (hi = lo + (tb.length : Int) - 1) && (decide (0 ≤ lo) && decide (hi < 1000))) && (List.range tb.length).all fun j => (match tb[j]?, offs[j]? with
        | some q, some o => decide ((q.1 : Int) = lo + (j : Int)) && decide ((pc : Int) + o = (q.2 : Int))
        | _, _ => false)
    | .lookupswitch d ps => decide ((pc : Int) + d = (a : Int)) && ((ps.toList.zip (ps.toList.drop 1)).all (fun (a, next) => a.1 < next.1) && decide (ps.toList = tb.map fun q => ((q.1 : Int), (q.2 : Int) - (pc : Int)))) && tb.all fun q => Nat.blt q.1 1000
    | .getfield _ => Nat.beq len 3 && Nat.blt b (xNf a)
    | .putfield _ => Nat.beq len 3 && (Nat.blt b (xNf a) && Nat.beq c 0)
    | .new _ => Nat.beq len 3
    | .newarray t => Nat.beq len 2 && xNt t c
    | .anewarray _ => Nat.beq len 3
    | .invokevirtual _ => Nat.beq len 3 && xRb M cs a
    | .invokespecial _ => Nat.beq len 3 && (match c with
      | 0 => xRb M cs a
      | _ => Nat.ble 1 (mF M) && Nat.ble 20 (mW M))
    | .invokestatic _ => Nat.beq len 3 && (match c with
      | 0 => xRb M cs a
      | 1 => Nat.ble 1 (mF M) && Nat.ble 21 (mW M)
      | 2 => Nat.ble 1 (mF M) && Nat.ble 21 (mW M)
      | _ => Nat.ble 1 (mF M) && Nat.ble (8 + (nativeFrameWords "java/lang/System" "arraycopy" 5 + 11)) (mW M))
    | _ => Nat.beq len 1
def xcv (c a : Nat) : Int64 := match c with
  | 0 => lN a
  | _ => -(lN a)
def xcon (cs : xCs) (a : Nat) (A : xM → Prop) : Prop := match cs[a]? with
  | some q => A q.1
  | none => False
def xMw (M : xM) (cs : xCs) (i a b : Nat) : Prop := match b with
  | 0 => xcon cs a fun m => Cond.methodLink (mY M).cls i (mY m) ∈ xG
  | _ => xcon cs a fun m => Cond.methodLinkNest (mY M).cls i (mY m) "SmellBurdens" ∈ xNest
def xGw (own : String) (i a b c : Nat) : Prop := match c with
  | 0 => xFw own i a b 0 ∈ xG
  | _ => xFw own i a b 1 ∈ xNest
def xWrd (M : xM) (cs : xCs) (e : xE) : Prop := match e with
  | (_, _, ins, a, b, c, _) => match ins with
    | .ldc i => Cond.constant (mY M).cls i (nI a) ∈ xG
    | .ldc_w i => Cond.constant (mY M).cls i (nI a) ∈ xG
    | .ldc2_w i => Cond.constantLong (mY M).cls i (xcv c a) ∈ xG
    | .getfield i => xGw (mY M).cls i a b c
    | .putfield i => xFw (mY M).cls i a b 0 ∈ xG ∧ (((vwCl.getD a (RX0, TX0, 0)).2.1 b).2.2.2 = true → (mY M).name = "<init>" ∧ ((vwCl.getD a (RX0, TX0, 0)).2.1 b).1 = (mY M).cls)
    | .new i => Cond.classLink (mY M).cls i (vwCl.getD a (RX0, TX0, 0)).1 ∈ xG ∧ Cond.instantiable (vwCl.getD a (RX0, TX0, 0)).1 (vwCl.getD a (RX0, TX0, 0)).2.2 ∈ xG ∧ Cond.initialized (vwCl.getD a (RX0, TX0, 0)).1 ∈ xG ∧ a < 8
    | .newarray _ => xNw c
    | .anewarray i => Cond.classLink (mY M).cls i "SmellBurdens$Deeds" ∈ xG
    | .invokevirtual i => xcon cs a fun m => Cond.methodLink (mY M).cls i (mY m) ∈ xG
    | .invokespecial i => (match c with
      | 0 => xMw M cs i a b
      | _ => Cond.methodLink (mY M).cls i Lib.objectInit ∈ xG ∧ Cond.instanceMethod Lib.objectInit ∈ xG ∧ Cond.code Lib.objectInit ⟨#[0xb1]⟩ 1 none ∈ xG)
    | .invokestatic i => (match c with
      | 0 => xMw M cs i a b
      | 1 => Cond.methodLink (mY M).cls i Lib.Math.max.name ∈ xG ∧ Cond.static Lib.Math.max.name ∈ xG ∧ Cond.initialized "java/lang/Math" ∈ xG ∧ Cond.code Lib.Math.max.name Lib.Math.max.code 2 (some .int) ∈ xG
      | 2 => Cond.methodLink (mY M).cls i Lib.Math.min.name ∈ xG ∧ Cond.static Lib.Math.min.name ∈ xG ∧ Cond.initialized "java/lang/Math" ∈ xG ∧ Cond.code Lib.Math.min.name Lib.Math.min.code 2 (some .int) ∈ xG
      | _ => Cond.methodLink (mY M).cls i arraycopyName ∈ xG ∧ Cond.native arraycopyName ∈ xG ∧ Cond.static arraycopyName ∈ xG ∧ Cond.initialized "java/lang/System" ∈ xG)
    | _ => True
theorem xbeq {a b : Nat} (h : Nat.beq a b = true) : a = b := Nat.eq_of_beq_eq_true h
theorem xblt {a b : Nat} (h : Nat.blt a b = true) : a < b := Nat.le_of_ble_eq_true h
theorem xci_e {i : Int} {a : Nat} {k : Int32 → Prop} (h : xci i a k) (ha : i.natAbs = a) : k (Int32.ofInt i) := by
  subst ha
  cases i with
  | ofNat j => exact h
  | negSucc j =>
    have e : Int32.ofInt (Int.negSucc j) = -(nI (Int.negSucc j).natAbs) := by
      have e1 : nI (Int.negSucc j).natAbs = Int32.ofInt ((j : Int) + 1) := by
        show Int32.ofNat (j + 1) = _
        rw [← Int32.ofInt_eq_ofNat]
        rfl
      rw [e1, ← Int32.ofInt_neg]
      congr 1
    rw [e]
    exact h
theorem xcl_e {c a : Nat} {k : Int64 → Prop} (h : xcl c a k) : k (xcv c a) := by
  cases c with
  | zero => exact h
  | succ c => exact h
theorem xbr_e {c A B : Prop} (h : xbr c A B) : (c → A) ∧ (¬ c → B) := h
