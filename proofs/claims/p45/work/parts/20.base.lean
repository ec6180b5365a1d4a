/-! contracts of methods whose walk is what they do (xTr); of methods behind the two constructors (xReg): cells, references are fixed -/
def xNo : Nat → xK := fun _ _ _ _ _ _ _ _ _ => False
theorem xrunN {M : xM} {cs : xCs} {Q : xQ} (hM : xOkM M cs) (hh : ∀ q ∈ cs, xHd q.1) (f : Nat) {pc : Nat} {ls : xV} {st : List Value} {k n : Nat} {I : xI} {L : xL} {P : xR} (h : xwp M cs xNo [] f pc Q ls st k n I L P) : xGo M cs pc Q ls st k n I L P := by
  intro p l e s m args below meth c D cI cJ cD b base n0 scr Z X R
  exact xwp_ok X R hh hM (fun pc ls st k n I L P h => absurd h (fun q => q)) f pc ls st k n I L P h
def xTr (M : xM) (cs : xCs) (f : Nat) : xSpec := fun as n I L P Q => xT (Nat.ble (xlay as).length (mL M)) (xwp M cs xNo [] f 0 Q (xpad (mL M) as) [] 0 n I L P)
theorem xTr_con {M : xM} {cs : xCs} {f : Nat} (hM : xOkM M cs) (hd : xHd M) (hp : plainName (mY M).cls = true) (hk9 : Nat.beq (mK M) 9 = false) (hh : ∀ q ∈ cs, xHd q.1) (hcs : ∀ q ∈ cs, ∀ l, xCon l q.1 q.2) : ∀ l, xCon l M (xTr M cs f) :=
  xcon_of hM hd hp hh hcs (fun as n I L P Q h => by
    obtain ⟨h1, h2⟩ := xT_e h
    exact ⟨Nat.le_of_ble_eq_true h1, xrunN hM hh f h2⟩)
theorem xall0 {A : xM × xSpec → Prop} : ∀ q ∈ ([] : xCs), A q := fun _ h => absurd h List.not_mem_nil
theorem xall1 {A : xM × xSpec → Prop} {q0 : xM × xSpec} {r : xCs} (h0 : A q0) (h : ∀ q ∈ r, A q) : ∀ q ∈ q0 :: r, A q := fun q hq => by
  rcases List.mem_cons.mp hq with rfl | hq
  · exact h0
  · exact h q hq
/-- the references, behind both constructors -/
def xP0L : List (List (Option Nat)) := [[],
  [some 2, some 5, some 8, some 11, some 12, some 14, some 15, some 17, some 19, some 20],
  [none, some 3, some 4], [], [],
  [none, some 6, some 7], [], [],
  [some 9, some 10], [], [], [],
  [some 13], [],
  [some 21, some 23, some 25],
  [some 16], [],
  [some 18], [], [], [],
  [some 22], [],
  [some 24], [],
  [some 26], []]
def xP0 : xR := fun k j => (xP0L.getD k []).getD j none
abbrev xF : Type := List Value → xI → xL → (Option Value → xI → xL → Prop) → Prop
def xReg (f : xF) : xSpec := fun as n I L P Q => Nat.ble 26 n = true ∧ P = xP0 ∧ f as I L (fun r I' L' => Q r n I' L' xP0)
theorem xe9 {n : Nat} (h : Nat.ble 26 n = true) : ∃ e, n = e + 26 := ⟨n - 26, by have := Nat.le_of_ble_eq_true h; omega⟩
/-- an int comes back, nothing is written -/
def xInt (x : Int32) (I : xI) (L : xL) (Q : Option Value → xI → xL → Prop) : Prop := Q (some (.int x)) I L
-- numbers
theorem ng_T {n : Nat} (h : n < 2 ^ 31) : (-(nI n)).toInt = -(n : Int) := by
  rw [Int32.toInt_neg, nI_toInt h]
  have e32 : ((2 ^ 32 : Nat) : Int) = 4294967296 := rfl
  rw [Int.bmod_eq_of_le (by omega) (by omega)]
theorem ix_lt (a b : Int32) : a < b ↔ a.toInt < b.toInt := Int32.lt_iff_toInt_lt
theorem ix_le (a b : Int32) : a ≤ b ↔ a.toInt ≤ b.toInt := Int32.le_iff_toInt_le
theorem ix_eq (a b : Int32) : a = b ↔ a.toInt = b.toInt := Int32.toInt_inj.symm
theorem ix_0 : (0 : Int32).toInt = 0 := rfl
theorem nI_sub' {a b : Nat} (h : b ≤ a) : nI a - nI b = nI (a - b) := pk_sub h
theorem nI_mul (a b : Nat) : nI a * nI b = nI (a * b) := pk_mul a b
theorem in_nI {n N : Nat} (h : n < N) (hN : N < 2 ^ 31) : vp_in (nI n) N := vp_in_nI h hN
theorem xbr_t {c A B : Prop} (h : c) (a : A) : xbr c A B := ⟨fun _ => a, fun q => absurd h q⟩
theorem xbr_f {c A B : Prop} (h : ¬ c) (b : B) : xbr c A B := ⟨fun q => absurd q h, fun _ => b⟩
theorem xup_at {α : Type} (I : Nat → Nat → α) (k j : Nat) (v : α) (k' j' : Nat) : xup I k j v k' j' = if k' = k ∧ j' = j then v else I k' j' := by
  unfold xup
  by_cases h : k' = k
  · subst h
    by_cases h2 : j' = j <;> simp [h2]
  · simp [h]
