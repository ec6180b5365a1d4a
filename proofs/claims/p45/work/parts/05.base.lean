/-! What a contract is over numbered cells; locals, worlds -/
def xA (base : Nat) : Nat → Prop := fun q => base ≤ q
def xtys (cI cJ cD : ClassId) : List (ClassId × FieldType) := [(cI, .int), (cJ, .long), (cD, .object "SmellBurdens$Deeds")]
def xKs (D : va_G) (cI cJ cD : ClassId) (U : State) : Prop := va_K D vwCl (xtys cI cJ cD) U ∧ (∀ w ∈ xNest, va_Nw w U) ∧ va_AO "SmellBurdens$Deeds" U
/-- the script, as row 0 has it -/
def xScr (b base : Nat) (sc : Nat → Int32) (U : State) (H : Heap) : Prop := ∃ (len : Nat) (xs : Nat → Int32), va_X b len xs U H ∧ b < H.size ∧ b < base ∧ sc 0 = nI len ∧ len ≤ 260 ∧ ∀ j, sc (j + 1) = xs j
def mRoom (M : xM) (n : Nat) : Room := { frames := mF M, cells := mN M, slots := xS (n + mN M) - xS n, locals := mW M }
def mWs (M : xM) : List Cond := .code (mY M) (mC M) (mL M) (mT M) :: xG
def xCon (l : Launch) (M : xM) (sp : xSpec) : Prop := ∀ (D : va_G) (cI cJ cD : ClassId) (b base n : Nat) (args : List Value) (I : xI) (L : xL) (P : xR) (Q : xQ), sp args n I L P Q →
  Met l (mY M) (mWs M) (mRoom M n) (va_Pc (args.map (xv b base)) (fun U => U.heap.size = base + n ∧ va_P D vwCl (xws b base cI cJ cD n I L P) U.heap ∧ xKs D cI cJ cD U ∧ xScr b base (I 0) U U.heap))
    (fun _ st oc t => (∃ (r : Option Value) (I' : xI) (L' : xL) (P' : xR), oc = .returned (r.map (xv b base)) ∧ Q r (n + mN M) I' L' P' ∧ I' 0 = I 0 ∧ va_P D vwCl (xws b base cI cJ cD (n + mN M) I' L' P') t.heap) ∧ va_F (xA base) st t)
    (mN M) (xS (n + mN M) - xS n) (xA base)
/-- what a method's name has in the tables -/
def xHd (M : xM) : Prop := Cond.code (mY M) (mC M) (mL M) (mT M) ∈ xG ∧ Cond.initialized (mY M).cls ∈ xG ∧ ((mY M).cls ≠ "java/lang/invoke/MethodHandle" ∧ (mY M).cls ≠ "java/lang/invoke/VarHandle" ∧ (parseMethodDescriptor (mY M).desc).map (fun d => d.parameters.length) = some (mA M)) ∧
  (match mK M with
  | 0 => Cond.instanceMethod (mY M) ∈ xG ∧ Cond.selects (mY M).cls (mY M) (mY M) ∈ xG ∧ (vwCl[mO M]?).map (fun q => q.1) = some (mY M).cls
  | 1 => Cond.static (mY M) ∈ xG
  | _ => Cond.instanceMethod (mY M) ∈ xG ∧ (mY M).name = "<init>" ∧ mT M = none)
def xLR (b base : Nat) (lsA : Array Slot) (ls : xV) : Prop := lsA.size = ls.length ∧ lv_wf lsA ∧ ∀ (i : Nat) (v : Value), ls[i]? = some (some v) → lsA[i]? = some (.val (xv b base v))
def xCtx (p : Program) (l : Launch) (e : Env) (s : State) (m : MethodId) (args : Array Value) (below : List Frame) (meth : Method) (c : Code) (D : va_G) (cI cJ cD : ClassId) (b base n0 : Nat) (scr : Nat → Int32) (M : xM) (cs : xCs) : Prop :=
  p.tables.exec = Jvm.exec ∧ c.code = mC M ∧ c.maxLocals = mL M ∧ s.vm.findClass (mY M).cls = some m.cls ∧ (∀ w ∈ xG, w.before args s = true) ∧ xKs D cI cJ cD s ∧ s.heap.size = base + n0 ∧ ((mY M).name = "<init>" → meth.name = "<init>") ∧ (∀ q ∈ cs, xCon l q.1 q.2) ∧
  xScr b base scr s s.heap
def xAt (p : Program) (l : Launch) (e : Env) (s : State) (m : MethodId) (args : Array Value) (below : List Frame) (meth : Method) (c : Code) (D : va_G) (cI cJ cD : ClassId) (b base n0 : Nat) (scr : Nat → Int32) (M : xM) (Z : State → Prop) (pc : Nat) : xV → List Value → Nat → Nat → xI → xL → xR → Prop := fun ls st k n I L P =>
  n = n0 + k → k ≤ mN M → I 0 = scr → ls.length = mL M → ∀ (H : Heap) (locs : List Loc) (lsA : Array Slot), va_P D vwCl (xws b base cI cJ cD n I L P) H → va_S (xA base) s.heap H locs → xLR b base lsA ls →
    W p l e (mRoom M n0) s m args below meth c H locs k (xS n - xS n0) Z (F0 m pc lsA (st.map (xv b base)))
def xRw (M : xM) (r : Option Value) (ins : Instr) : Prop := match r, ins with
    | none, .return_ => mT M = none
    | some (.int x), .ireturn => mT M = some .int ∨ (mT M = some .boolean ∧ (x = nI 0 ∨ x = nI 1))
    | some (.long _), .lreturn => mT M = some .long
    | some (.ref _), .areturn => ∃ C, mT M = some (.object C)
    | some .null, .areturn => ∃ C, mT M = some (.object C)
    | _, _ => False
/-- how a method ends -/
def xRt (p : Program) (l : Launch) (e : Env) (s : State) (m : MethodId) (args : Array Value) (below : List Frame) (meth : Method) (c : Code) (D : va_G) (cI cJ cD : ClassId) (b base n0 : Nat) (scr : Nat → Int32) (M : xM) (Q : xQ) (Z : State → Prop) : Prop :=
  ∀ (r : Option Value) (pc n : Nat) (ins : Instr) (I : xI) (L : xL) (P : xR), decode (mC M) pc = .ok (ins, 1) → xRw M r ins → Q r n I L P → n = n0 + mN M → I 0 = scr → ∀ (H : Heap) (locs : List Loc) (lsA : Array Slot), va_P D vwCl (xws b base cI cJ cD n I L P) H → va_S (xA base) s.heap H locs →
    W p l e (mRoom M n0) s m args below meth c H locs (mN M) (xS n - xS n0) Z (F0 m pc lsA (r.toList.map (xv b base)))
/-- from this state of the walk the method comes to its end, with Q -/
def xGo (M : xM) (cs : xCs) (pc : Nat) : xK := fun Q ls st k n I L P => ∀ (p : Program) (l : Launch) (e : Env) (s : State) (m : MethodId) (args : Array Value) (below : List Frame) (meth : Method) (c : Code) (D : va_G) (cI cJ cD : ClassId) (b base n0 : Nat) (scr : Nat → Int32) (Z : State → Prop),
  xCtx p l e s m args below meth c D cI cJ cD b base n0 scr M cs → xRt p l e s m args below meth c D cI cJ cD b base n0 scr M Q Z → xAt p l e s m args below meth c D cI cJ cD b base n0 scr M Z pc ls st k n I L P
-- small facts
theorem xT_e {c : Bool} {A : Prop} (h : xT c A) : c = true ∧ A := by
  cases c
  · exact absurd h (fun q => q)
  · exact ⟨rfl, h⟩
theorem xpI_e {st : List Value} {k : Int32 → List Value → Prop} (h : xpI st k) : ∃ x r, st = .int x :: r ∧ k x r := by
  unfold xpI at h
  split at h
  · exact ⟨_, _, rfl, h⟩
  · exact absurd h (fun q => q)
theorem xpL_e {st : List Value} {k : Int64 → List Value → Prop} (h : xpL st k) : ∃ x r, st = .long x :: r ∧ k x r := by
  unfold xpL at h
  split at h
  · exact ⟨_, _, rfl, h⟩
  · exact absurd h (fun q => q)
theorem xpR_e {st : List Value} {k : Nat → List Value → Prop} (h : xpR st k) : ∃ x r, st = .ref x :: r ∧ k x r := by
  unfold xpR at h
  split at h
  · exact ⟨_, _, rfl, h⟩
  · exact absurd h (fun q => q)
theorem xp1_e {st : List Value} {k : Value → List Value → Prop} (h : xp1 st k) : ∃ v r, st = v :: r ∧ v.category = 1 ∧ (∀ b base, (xv b base v).category = 1) ∧ k v r := by
  unfold xp1 at h
  split at h
  · exact ⟨_, _, rfl, rfl, fun _ _ => rfl, h⟩
  · exact ⟨_, _, rfl, rfl, fun _ _ => rfl, h⟩
  · exact ⟨_, _, rfl, rfl, fun _ _ => rfl, h⟩
  · exact absurd h (fun q => q)
theorem xpN_e {st : List Value} {kn : List Value → Prop} {k : Nat → List Value → Prop} (h : xpN st kn k) : (∃ r, st = .null :: r ∧ kn r) ∨ ∃ x r, st = .ref x :: r ∧ k x r := by
  unfold xpN at h
  split at h
  · exact Or.inr ⟨_, _, rfl, h⟩
  · exact Or.inl ⟨_, rfl, h⟩
  · exact absurd h (fun q => q)
theorem xgt_e {k : Value → Prop} : ∀ {ls : xV} {i : Nat}, xgt ls i k → ∃ v, ls[i]? = some (some v) ∧ k v
  | [], _, h => absurd h (fun q => q)
  | x :: r, 0, h => by
    cases x with
    | none => exact absurd h (fun q => q)
    | some v => exact ⟨v, rfl, h⟩
  | x :: r, i + 1, h => by
    obtain ⟨v, h1, h2⟩ := xgt_e (ls := r) (i := i) h
    exact ⟨v, by simpa using h1, h2⟩
theorem xpop_e {k : List Value → List Value → Prop} : ∀ {n : Nat} {st as : List Value}, xpop n st as k → ∃ a r, st = a.reverse ++ r ∧ a.length = n ∧ k (a ++ as) r
  | 0, st, as, h => ⟨[], st, rfl, rfl, h⟩
  | n + 1, [], as, h => absurd h (fun q => q)
  | n + 1, v :: r, as, h => by
    obtain ⟨a, r', h1, h2, h3⟩ := xpop_e (n := n) (st := r) (as := v :: as) h
    exact ⟨a ++ [v], r', by simp [h1], by simp [h2], by simpa using h3⟩
theorem xv_cat (b base : Nat) (v : Value) : (xv b base v).category = v.category := by cases v <;> rfl
theorem xle_e {b base : Nat} : ∀ {n : Nat} {st : List Value}, xle n st = true → ((st.map (xv b base)).map fun v => v.category).sum ≤ n
  | n, [], _ => by simp
  | 0, v :: r, h => by simp [xle] at h
  | n + 1, v :: r, h => by
    have one : v.category = 1 → xle n r = true → (((v :: r).map (xv b base)).map fun v => v.category).sum ≤ n + 1 := fun h1 h2 => by
      have := xle_e (b := b) (base := base) h2
      simp only [List.map_cons, List.sum_cons, xv_cat, h1]
      omega
    have two : v.category = 2 → ∀ n', n = n' + 1 → xle n' r = true → (((v :: r).map (xv b base)).map fun v => v.category).sum ≤ n + 1 := fun h1 n' hn h2 => by
      have := xle_e (b := b) (base := base) h2
      simp only [List.map_cons, List.sum_cons, xv_cat, h1]
      omega
    unfold xle at h
    cases v with
    | long x =>
      cases n with
      | zero => simp at h
      | succ n' => exact two rfl n' rfl h
    | double x =>
      cases n with
      | zero => simp at h
      | succ n' => exact two rfl n' rfl h
    | int x => exact one rfl h
    | float x => exact one rfl h
    | null => exact one rfl h
    | ref x => exact one rfl h
    | retAddr x => exact one rfl h
theorem xrf_v (b base : Nat) (r : Option Nat) : xv b base (xrf r) = va_rf (xro b base r) := by cases r <;> rfl
-- stores into locals
theorem xs1_e {v : Value} : ∀ {ls : xV} {i : Nat} {k : xV → Prop}, xs1 v ls i k → ∃ ls', k ls' ∧ ls'.length = ls.length ∧ i < ls.length ∧ ∀ (j : Nat) (w : Value), ls'[j]? = some (some w) → (j = i ∧ w = v) ∨ (j ≠ i ∧ ls[j]? = some (some w) ∧ ¬ (j + 1 = i ∧ w.category = 2))
  | [], i, k, h => absurd h (fun q => q)
  | x :: r, 0, k, h => ⟨some v :: r, h, rfl, by simp, fun j w hj => by
      cases j with
      | zero => left; simp at hj; exact ⟨rfl, hj.symm⟩
      | succ j => right; exact ⟨by omega, by simpa using hj, by omega⟩⟩
  | x :: r, 1, k, h => by
    have go : ∀ y : Option Value, (∀ w, y = some w → x = some w ∧ ¬ w.category = 2) → xs1 v r 0 (fun r' => k (y :: r')) → ∃ ls', k ls' ∧ ls'.length = (x :: r).length ∧ 1 < (x :: r).length ∧ ∀ (j : Nat) (w : Value), ls'[j]? = some (some w) → (j = 1 ∧ w = v) ∨ (j ≠ 1 ∧ (x :: r)[j]? = some (some w) ∧ ¬ (j + 1 = 1 ∧ w.category = 2)) := fun y hy h => by
      obtain ⟨ls', h1, h2, h3, h4⟩ := xs1_e (ls := r) (i := 0) h
      refine ⟨y :: ls', h1, by simp [h2], by simp; omega, fun j w hj => ?_⟩
      cases j with
      | zero =>
        right
        simp at hj
        obtain ⟨q1, q2⟩ := hy w hj
        exact ⟨by omega, by simp [q1], fun q => q2 q.2⟩
      | succ j =>
        rcases h4 j w (by simpa using hj) with ⟨q1, q2⟩ | ⟨q1, q2, q3⟩
        · left; exact ⟨by omega, q2⟩
        · right; exact ⟨by omega, by simpa using q2, by omega⟩
    unfold xs1 at h
    split at h
    · exact go none (fun w q => by cases q) h
    · exact go none (fun w q => by cases q) h
    · rename_i n1 n2
      exact go x (fun w q => ⟨q, fun hc => by
        subst q
        cases w with
        | long z => exact n1 _ rfl
        | double z => exact n2 _ rfl
        | _ => simp [Value.category] at hc⟩) h
  | x :: r, i + 2, k, h => by
    obtain ⟨ls', h1, h2, h3, h4⟩ := xs1_e (ls := r) (i := i + 1) (k := fun r' => k (x :: r')) h
    refine ⟨x :: ls', h1, by simp [h2], by simp; omega, fun j w hj => ?_⟩
    cases j with
    | zero => right; exact ⟨by omega, by simpa using hj, by omega⟩
    | succ j =>
      rcases h4 j w (by simpa using hj) with ⟨q1, q2⟩ | ⟨q1, q2, q3⟩
      · left; exact ⟨by omega, q2⟩
      · right; exact ⟨by omega, by simpa using q2, fun q => q3 ⟨by omega, q.2⟩⟩
theorem xs2_e {v : Value} : ∀ {ls : xV} {i : Nat} {k : xV → Prop}, xs2 v ls i k → ∃ ls', k ls' ∧ ls'.length = ls.length ∧ i + 1 < ls.length ∧ ∀ (j : Nat) (w : Value), ls'[j]? = some (some w) → (j = i ∧ w = v) ∨ (j ≠ i ∧ j ≠ i + 1 ∧ ls[j]? = some (some w) ∧ ¬ (j + 1 = i ∧ w.category = 2))
  | [], i, k, h => absurd h (fun q => q)
  | [x], 0, k, h => absurd h (fun q => q)
  | x :: y :: r, 0, k, h => ⟨some v :: none :: r, h, rfl, by simp, fun j w hj => by
      match j, hj with
      | 0, hj => left; simp at hj; exact ⟨rfl, hj.symm⟩
      | 1, hj => simp at hj
      | j + 2, hj => right; exact ⟨by omega, by omega, by simpa using hj, by omega⟩⟩
  | x :: r, 1, k, h => by
    have go : ∀ y : Option Value, (∀ w, y = some w → x = some w ∧ ¬ w.category = 2) → xs2 v r 0 (fun r' => k (y :: r')) → ∃ ls', k ls' ∧ ls'.length = (x :: r).length ∧ 1 + 1 < (x :: r).length ∧ ∀ (j : Nat) (w : Value), ls'[j]? = some (some w) → (j = 1 ∧ w = v) ∨ (j ≠ 1 ∧ j ≠ 1 + 1 ∧ (x :: r)[j]? = some (some w) ∧ ¬ (j + 1 = 1 ∧ w.category = 2)) := fun y hy h => by
      obtain ⟨ls', h1, h2, h3, h4⟩ := xs2_e (ls := r) (i := 0) h
      refine ⟨y :: ls', h1, by simp [h2], by simp; omega, fun j w hj => ?_⟩
      cases j with
      | zero =>
        right
        simp at hj
        obtain ⟨q1, q2⟩ := hy w hj
        exact ⟨by omega, by omega, by simp [q1], fun q => q2 q.2⟩
      | succ j =>
        rcases h4 j w (by simpa using hj) with ⟨q1, q2⟩ | ⟨q1, q2, q3, q4⟩
        · left; exact ⟨by omega, q2⟩
        · right; exact ⟨by omega, by omega, by simpa using q3, by omega⟩
    unfold xs2 at h
    split at h
    · exact go none (fun w q => by cases q) h
    · exact go none (fun w q => by cases q) h
    · rename_i n1 n2
      exact go x (fun w q => ⟨q, fun hc => by
        subst q
        cases w with
        | long z => exact n1 _ rfl
        | double z => exact n2 _ rfl
        | _ => simp [Value.category] at hc⟩) h
  | x :: r, i + 2, k, h => by
    obtain ⟨ls', h1, h2, h3, h4⟩ := xs2_e (ls := r) (i := i + 1) (k := fun r' => k (x :: r')) h
    refine ⟨x :: ls', h1, by simp [h2], by simp; omega, fun j w hj => ?_⟩
    cases j with
    | zero => right; exact ⟨by omega, by omega, by simpa using hj, by omega⟩
    | succ j =>
      rcases h4 j w (by simpa using hj) with ⟨q1, q2⟩ | ⟨q1, q2, q3, q4⟩
      · left; exact ⟨by omega, q2⟩
      · right; exact ⟨by omega, by omega, by simpa using q3, fun q => q4 ⟨by omega, q.2⟩⟩
def xas (b base : Nat) (ls : xV) : List (Nat × Value) := (List.range ls.length).filterMap fun j => match ls[j]? with
  | some (some w) => some (j, xv b base w)
  | _ => none
theorem xas_mem {b base : Nat} {ls : xV} {j : Nat} {w : Value} (h : ls[j]? = some (some w)) : (j, xv b base w) ∈ xas b base ls := by
  refine List.mem_filterMap.mpr ⟨j, List.mem_range.mpr (List.getElem?_eq_some_iff.mp h).1, ?_⟩
  rw [h]
theorem xas_of {b base : Nat} {ls : xV} {q : Nat × Value} (h : q ∈ xas b base ls) : ∃ w, ls[q.1]? = some (some w) ∧ q.2 = xv b base w := by
  obtain ⟨j, -, h2⟩ := List.mem_filterMap.mp h
  split at h2
  · rename_i w hw
    cases h2
    exact ⟨w, hw, rfl⟩
  · cases h2
theorem xLR.has {b base : Nat} {lsA : Array Slot} {ls : xV} (h : xLR b base lsA ls) : lv_has lsA ls.length (xas b base ls) := ⟨h.1, h.2.1, fun q hq => by
  obtain ⟨w, h1, h2⟩ := xas_of hq
  rw [h2]
  exact h.2.2 q.1 w h1⟩
theorem xLR.st1 {b base : Nat} {lsA : Array Slot} {ls ls' : xV} {i : Nat} {v : Value} (hlen : ls'.length = ls.length) (h4 : ∀ (j : Nat) (w : Value), ls'[j]? = some (some w) → (j = i ∧ w = v) ∨ (j ≠ i ∧ ls[j]? = some (some w) ∧ ¬ (j + 1 = i ∧ w.category = 2)))
    (h : lv_has lsA ls.length ((i, xv b base v) :: (xas b base ls).filter (fun q => !(q.1 == i) && !(q.1 + 1 == i && q.2.category == 2)))) : xLR b base lsA ls' := by
  refine ⟨by rw [hlen]; exact h.1, h.2.1, fun j w hj => ?_⟩
  rcases h4 j w hj with ⟨rfl, rfl⟩ | ⟨q1, q2, q3⟩
  · exact h.2.2 _ List.mem_cons_self
  · refine h.2.2 (j, xv b base w) (List.mem_cons_of_mem _ (List.mem_filter.mpr ⟨xas_mem q2, ?_⟩))
    simp only [xv_cat, Bool.and_eq_true, Bool.not_eq_true', beq_eq_false_iff_ne, ne_eq, Bool.and_eq_false_imp, beq_iff_eq]
    exact ⟨q1, fun a b => q3 ⟨a, b⟩⟩
theorem xLR.st2 {b base : Nat} {lsA : Array Slot} {ls ls' : xV} {i : Nat} {v : Value} (hlen : ls'.length = ls.length) (h4 : ∀ (j : Nat) (w : Value), ls'[j]? = some (some w) → (j = i ∧ w = v) ∨ (j ≠ i ∧ j ≠ i + 1 ∧ ls[j]? = some (some w) ∧ ¬ (j + 1 = i ∧ w.category = 2)))
    (h : lv_has lsA ls.length ((i, xv b base v) :: (xas b base ls).filter (fun q => !(q.1 == i) && (!(q.1 == i + 1) && !(q.1 + 1 == i && q.2.category == 2))))) : xLR b base lsA ls' := by
  refine ⟨by rw [hlen]; exact h.1, h.2.1, fun j w hj => ?_⟩
  rcases h4 j w hj with ⟨rfl, rfl⟩ | ⟨q1, q2, q3, q4⟩
  · exact h.2.2 _ List.mem_cons_self
  · refine h.2.2 (j, xv b base w) (List.mem_cons_of_mem _ (List.mem_filter.mpr ⟨xas_mem q3, ?_⟩))
    simp only [xv_cat, Bool.and_eq_true, Bool.not_eq_true', beq_eq_false_iff_ne, ne_eq, Bool.and_eq_false_imp, beq_iff_eq]
    exact ⟨q1, q2, fun a b => q4 ⟨a, b⟩⟩
theorem xmask_e : ∀ {m : List Bool} {ls : xV} {j : Nat} {w : Value}, (xmask m ls)[j]? = some (some w) → ls[j]? = some (some w)
  | true :: m, x :: r, 0, w, h => h
  | true :: m, x :: r, j + 1, w, h => by simpa using xmask_e (m := m) (ls := r) (j := j) (by simpa [xmask] using h)
  | false :: m, x :: r, 0, w, h => by simp [xmask] at h
  | false :: m, x :: r, j + 1, w, h => by simpa using xmask_e (m := m) (ls := r) (j := j) (by simpa [xmask] using h)
  | [], ls, j, w, h => by simp [xmask] at h
  | true :: m, [], j, w, h => by simp [xmask] at h
  | false :: m, [], j, w, h => by simp [xmask] at h
theorem xmask_len : ∀ (m : List Bool) (ls : xV), (xmask m ls).length = ls.length
  | true :: m, x :: r => by simp [xmask, xmask_len m r]
  | false :: m, x :: r => by simp [xmask, xmask_len m r]
  | [], ls => by simp [xmask]
  | true :: m, [] => by simp [xmask]
  | false :: m, [] => by simp [xmask]
-- worlds
theorem xws_len (b base : Nat) (cI cJ cD : ClassId) (n : Nat) (I : xI) (L : xL) (P : xR) : (xws b base cI cJ cD n I L P).length = n := by simp [xws]
theorem xws_at {b base : Nat} {cI cJ cD : ClassId} {n k : Nat} (h : k < n) (I : xI) (L : xL) (P : xR) : (xws b base cI cJ cD n I L P)[k]? = some (base + k, xent b base cI cJ cD (k + 1) I L P) := by
  simp [xws, List.getElem?_map, List.getElem?_range h]
theorem xws_D (b base : Nat) (cI cJ cD : ClassId) (n : Nat) (I : xI) (L : xL) (P : xR) : va_D (xA base) (xws b base cI cJ cD n I L P) := by
  have key : ∀ (i : Nat) (p : Nat × va_E), (xws b base cI cJ cD n I L P)[i]? = some p → p.1 = base + i := fun i p hp => by
    have hi : i < n := by
      have := (List.getElem?_eq_some_iff.mp hp).1
      rwa [xws_len] at this
    rw [xws_at hi] at hp
    cases hp
    rfl
  refine ⟨fun i j p q hp hq he => ?_, fun k q hq => ?_⟩
  · rw [key i p hp, key j q hq] at he
    omega
  · rw [key k q hq]
    exact Nat.le_add_right _ _
theorem xws_succ (b base : Nat) (cI cJ cD : ClassId) (n : Nat) (I : xI) (L : xL) (P : xR) : xws b base cI cJ cD (n + 1) I L P = xws b base cI cJ cD n I L P ++ [(base + n, xent b base cI cJ cD (n + 1) I L P)] := by
  simp [xws, List.range_succ]
theorem xws_set {b base : Nat} {cI cJ cD : ClassId} {n k : Nat} (hk : k < n) {I I' : xI} {L L' : xL} {P P' : xR} {e : va_E} (he : xent b base cI cJ cD (k + 1) I' L' P' = e) (ho : ∀ j, j ≠ k + 1 → I' j = I j ∧ L' j = L j ∧ P' j = P j) :
    (xws b base cI cJ cD n I L P).set k (base + k, e) = xws b base cI cJ cD n I' L' P' := by
  apply List.ext_getElem?
  intro j
  by_cases hj : j < n
  · rw [xws_at hj]
    by_cases hjk : j = k
    · subst hjk
      rw [List.getElem?_set_self (by rw [xws_len]; exact hj), he]
    · rw [List.getElem?_set_ne (fun q => hjk q.symm), xws_at hj]
      obtain ⟨h1, h2, h3⟩ := ho (j + 1) (by omega)
      simp only [xent, xfs, xfv, h1, h2, h3]
  · rw [List.getElem?_eq_none (by rw [List.length_set, xws_len]; omega), List.getElem?_eq_none (by rw [xws_len]; omega)]
theorem xlt {D : va_G} {b base : Nat} {cI cJ cD : ClassId} {n : Nat} {I : xI} {L : xL} {P : xR} {H : Heap} (h : va_P D vwCl (xws b base cI cJ cD n I L P) H) {k : Nat} (hk : k < n) : base + k < H.size := (h k _ (xws_at hk I L P)).lt
theorem xKs.warm {D : va_G} {cI cJ cD : ClassId} {u U : State} (hW : u.WarmedH U.vm) (h : xKs D cI cJ cD u) : xKs D cI cJ cD U := by
  refine ⟨va_K.moved hW.alike h.1, fun w hw => ?_, va_AO.moved hW.alike h.2.2⟩
  have h1 := h.2.1 w hw
  simp only [xNest, List.mem_cons, List.not_mem_nil, or_false] at hw
  rcases hw with rfl | rfl | rfl | rfl | rfl | rfl | rfl | rfl | rfl | rfl | rfl | rfl | rfl | rfl | rfl | rfl | rfl | rfl | rfl | rfl | rfl | rfl <;> first | exact va_Nw.warmF hW h1 | exact va_Nw.warmM hW h1
theorem xNest_on : ∀ w ∈ xNest, w.onTables = true := by decide +kernel
theorem xKs.same {D : va_G} {cI cJ cD : ClassId} {u U : State} (hv : u.vm = U.vm) (h : xKs D cI cJ cD u) : xKs D cI cJ cD U := ⟨va_K.moved (by rw [← hv]; exact Vm.Alike.refl _) h.1, fun w hw => va_Nw.same (xNest_on w hw) hv (h.2.1 w hw), va_AO.moved (by rw [← hv]; exact Vm.Alike.refl _) h.2.2⟩
theorem xG_good {w : Cond} (h : w ∈ xG) : (w.onTables && w.keeps) = true ∨ ∃ ty, w = .arrayClass ty := good_of_word (List.mem_filter.mp h).2
theorem mWs_pay {M M' : xM} (h : Cond.code (mY M') (mC M') (mL M') (mT M') ∈ xG) : GoodIn xG (mWs M') := fun w hw => by
  rcases List.mem_cons.mp hw with rfl | hw
  · exact ⟨h, xG_good h⟩
  · exact ⟨hw, xG_good hw⟩
