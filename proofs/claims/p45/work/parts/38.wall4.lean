def csX9_codes : xCs := []
theorem okX9_codes : xOkM mX9_codes csX9_codes := ⟨dX9_codes, by decide +kernel, by decide +kernel, ⟨wdX9_19, trivial⟩⟩
theorem hhX9_codes : ∀ q ∈ csX9_codes, xHd q.1 := xall0
theorem kkX9_codes : ∀ q ∈ csX9_codes, ∀ l, xCon l q.1 q.2 := xall0
def sX9_codes : xSpec := xReg fun as I L Q => ∃ (d : PD), xPl d I ∧ as = [.ref 11] ∧ Q (some (.int (nI (2 ^ (2 * d.nA))))) I L
set_option maxRecDepth 100000 in
theorem kX9_codes : ∀ l, xCon l mX9_codes sX9_codes := by
  refine xcon_of okX9_codes hX9_codes rfl hhX9_codes kkX9_codes ?_
  rintro as n0 I L P Q ⟨hn9, rfl, d, hP, rfl, hQ⟩
  obtain ⟨e9, rfl⟩ := xe9 hn9
  refine ⟨Nat.le_of_ble_eq_true rfl, ?_⟩
  refine xrun okX9_codes hhX9_codes [] 40 ?_
  have ha := hP.a
  have h4 := hP.ok.a4
  have e : nI 1 <<< ((nI 2 * I 11 0) &&& 31) = nI (2 ^ (2 * d.nA)) := by rw [ha, nI_mul, shl_n _ (by omega), Nat.one_mul]
  rw [← e] at hQ
  exact hQ
def csX9_orderOf : xCs := []
theorem okX9_orderOf : xOkM mX9_orderOf csX9_orderOf := ⟨dX9_orderOf, by decide +kernel, by decide +kernel, ⟨wdX9_19, trivial⟩⟩
theorem hhX9_orderOf : ∀ q ∈ csX9_orderOf, xHd q.1 := xall0
theorem kkX9_orderOf : ∀ q ∈ csX9_orderOf, ∀ l, xCon l q.1 q.2 := xall0
def sX9_orderOf : xSpec := xReg fun as I L Q => ∃ (d : PD) (n : Nat), xPl d I ∧ as = [.ref 11, .int (nI n)] ∧ Q (some (.int (nI (n * 2 ^ (2 * (4 - d.nA)))))) I L
set_option maxRecDepth 100000 in
theorem kX9_orderOf : ∀ l, xCon l mX9_orderOf sX9_orderOf := by
  refine xcon_of okX9_orderOf hX9_orderOf rfl hhX9_orderOf kkX9_orderOf ?_
  rintro as n0 I L P Q ⟨hn9, rfl, d, n, hP, rfl, hQ⟩
  obtain ⟨e9, rfl⟩ := xe9 hn9
  refine ⟨Nat.le_of_ble_eq_true rfl, ?_⟩
  refine xrun okX9_orderOf hhX9_orderOf [] 40 ?_
  have ha := hP.a
  have h4 := hP.ok.a4
  have e : nI n <<< ((nI 2 * (nI 4 - I 11 0)) &&& 31) = nI (n * 2 ^ (2 * (4 - d.nA))) := by rw [ha, nI_sub' h4, nI_mul, shl_n _ (by omega)]
  rw [← e] at hQ
  exact hQ
def boN (o : Nat) : Nat → Nat
  | 0 => 0
  | p + 1 => boN o p ||| 2 ^ orN o p
theorem boN_lt (o : Nat) : ∀ p, boN o p < 16
  | 0 => by
    show 0 < 16
    decide
  | p + 1 => Nat.or_lt_two_pow (n := 4) (boN_lt o p) (Nat.pow_lt_pow_right (by decide) (orN_4 o p))
def ioB (d : PD) (o : Nat) : Bool := decide (boN o d.nA = 2 ^ d.nA - 1)
def csX9_isOrder : xCs := [(mX5_assInLine, sX5_assInLine)]
theorem okX9_isOrder : xOkM mX9_isOrder csX9_isOrder := ⟨dX9_isOrder, by decide +kernel, by decide +kernel, ⟨wdX9_19, wdX9_80, wdX9_19, trivial⟩⟩
theorem hhX9_isOrder : ∀ q ∈ csX9_isOrder, xHd q.1 := xall1 hX5_assInLine (xall0)
theorem kkX9_isOrder : ∀ q ∈ csX9_isOrder, ∀ l, xCon l q.1 q.2 := xall1 kX5_assInLine (xall0)
def sX9_isOrder : xSpec := xReg fun as I L Q => ∃ (d : PD) (o : Nat), xPl d I ∧ as = [.ref 11, .int (nI o)] ∧ o < 256 ∧ Q (some (.int (bI (ioB d o)))) I L
set_option maxRecDepth 100000 in
theorem kX9_isOrder : ∀ l, xCon l mX9_isOrder sX9_isOrder := by
  refine xcon_of okX9_isOrder hX9_isOrder rfl hhX9_isOrder kkX9_isOrder ?_
  rintro as n0 I L P Q ⟨hn9, rfl, d, o, hP, rfl, ho, hQ⟩
  obtain ⟨e9, rfl⟩ := xe9 hn9
  refine ⟨Nat.le_of_ble_eq_true rfl, ?_⟩
  have ha := hP.a
  have h4 := hP.ok.a4
  refine xrun okX9_isOrder hhX9_isOrder [(4, [true, true, true, true])] 20 ?_
  refine xlp (M := mX9_isOrder) (cs := csX9_isOrder) (pc := 4) d.nA (fun i => [some (.ref 11), some (.int (nI o)), some (.int (nI (boN o i))), some (.int (nI i))]) (fun _ => I) (fun _ => L) ?_ ?_
  · intro i hi ih
    refine xrun okX9_isOrder hhX9_isOrder [(4, [true, true, true, true])] 60 ?_
    (first | (refine xbr_f ?_ ?_; (focus ((simp (disch := omega) only [ix_lt, ix_le, ix_eq, ix_0, nI_clamp, nI_toInt, ng_T, nI_add, nI_mul, nI_sub', Int.neg_zero, not_false_eq_true, not_true_eq_false, ha] <;> omega); done))) | (refine xbr_t ?_ ?_; (focus ((simp (disch := omega) only [ix_lt, ix_le, ix_eq, ix_0, nI_clamp, nI_toInt, ng_T, nI_add, nI_mul, nI_sub', Int.neg_zero, not_false_eq_true, not_true_eq_false, ha] <;> omega); done))) | refine ⟨Or.inl rfl, ?_⟩ | refine ⟨Or.inr rfl, ?_⟩ | (refine ⟨?_, ?_⟩; (focus ((try simp (disch := omega) only [ha, nI_mul, nI_add, nI_sub']); exact in_nI (by omega) (by omega)))))
    refine ⟨rfl, rfl, o, i, rfl, ho, by omega, ?_⟩
    have := orN_4 o i
    refine xgo_eq ih ?_ rfl rfl
    ((repeat' (first | (with_reducible rfl) | exact xv_nil | refine xv_cons ?_ ?_ | refine xv_i ?_ | refine xv_l ?_)) <;> (simp (disch := omega) only [↓reduceIte, Bool.false_eq_true, Nat.one_mul, Nat.zero_mul, Nat.or_zero, Nat.add_zero, Nat.zero_add, Bool.toNat_true, Bool.toNat_false, shl_n, shr_n, fa_and, fa_or, nx_xor, nI_add, nI_mul, nI_sub', and_1, and_7, and_3', and_15, boN]))
  · refine xrun okX9_isOrder hhX9_isOrder [] 60 ?_
    (first | (refine xbr_f ?_ ?_; (focus ((simp (disch := omega) only [ix_lt, ix_le, ix_eq, ix_0, nI_clamp, nI_toInt, ng_T, nI_add, nI_mul, nI_sub', Int.neg_zero, not_false_eq_true, not_true_eq_false, ha] <;> omega); done))) | (refine xbr_t ?_ ?_; (focus ((simp (disch := omega) only [ix_lt, ix_le, ix_eq, ix_0, nI_clamp, nI_toInt, ng_T, nI_add, nI_mul, nI_sub', Int.neg_zero, not_false_eq_true, not_true_eq_false, ha] <;> omega); done))) | refine ⟨Or.inl rfl, ?_⟩ | refine ⟨Or.inr rfl, ?_⟩ | (refine ⟨?_, ?_⟩; (focus ((try simp (disch := omega) only [ha, nI_mul, nI_add, nI_sub']); exact in_nI (by omega) (by omega)))))
    have h16 := boN_lt o d.nA
    have hp : 2 ^ d.nA ≤ 2 ^ 4 := Nat.pow_le_pow_right (by decide) h4
    have hp1 := Nat.two_pow_pos d.nA
    have e0 : nI 1 <<< (I 11 0 &&& 31) - nI 1 = nI (2 ^ d.nA - 1) := by rw [ha, shl_n _ (by omega), Nat.one_mul, nI_sub' (by omega)]
    by_cases hc : boN o d.nA = 2 ^ d.nA - 1
    · have e : ioB d o = true := decide_eq_true hc
      rw [e] at hQ
      have e3 : nI (boN o d.nA) = nI 1 <<< (I 11 0 &&& 31) - nI 1 := by rw [e0, hc]
      (first | refine xbr_t e3 ?_ | refine xbr_f e3 ?_)
      repeat (first | (refine xbr_f ?_ ?_; (focus ((simp (disch := omega) only [ix_lt, ix_le, ix_eq, ix_0, nI_clamp, nI_toInt, ng_T, nI_add, nI_mul, nI_sub', Int.neg_zero, not_false_eq_true, not_true_eq_false] <;> omega); done))) | (refine xbr_t ?_ ?_; (focus ((simp (disch := omega) only [ix_lt, ix_le, ix_eq, ix_0, nI_clamp, nI_toInt, ng_T, nI_add, nI_mul, nI_sub', Int.neg_zero, not_false_eq_true, not_true_eq_false] <;> omega); done))) | refine ⟨Or.inl rfl, ?_⟩ | refine ⟨Or.inr rfl, ?_⟩ | (refine ⟨?_, ?_⟩; (focus (exact in_nI (by omega) (by omega)))))
      exact hQ
    · have e : ioB d o = false := decide_eq_false hc
      have e2 : ¬ nI (boN o d.nA) = nI 1 <<< (I 11 0 &&& 31) - nI 1 := by
        rw [e0]
        (simp (disch := omega) only [ix_lt, ix_le, ix_eq, ix_0, nI_clamp, nI_toInt, ng_T, nI_add, nI_mul, nI_sub', Int.neg_zero, not_false_eq_true, not_true_eq_false] <;> omega)
      rw [e] at hQ
      (first | refine xbr_t e2 ?_ | refine xbr_f e2 ?_)
      repeat (first | (refine xbr_f ?_ ?_; (focus ((simp (disch := omega) only [ix_lt, ix_le, ix_eq, ix_0, nI_clamp, nI_toInt, ng_T, nI_add, nI_mul, nI_sub', Int.neg_zero, not_false_eq_true, not_true_eq_false] <;> omega); done))) | (refine xbr_t ?_ ?_; (focus ((simp (disch := omega) only [ix_lt, ix_le, ix_eq, ix_0, nI_clamp, nI_toInt, ng_T, nI_add, nI_mul, nI_sub', Int.neg_zero, not_false_eq_true, not_true_eq_false] <;> omega); done))) | refine ⟨Or.inl rfl, ?_⟩ | refine ⟨Or.inr rfl, ?_⟩ | (refine ⟨?_, ?_⟩; (focus (exact in_nI (by omega) (by omega)))))
      exact hQ
def tbyB (d : PD) (X o i l : Nat) : Bool := ioB d o && decide (getN (tkN d X o 15 d.nA).1 (3 * i) 3 = l + 1)
def csX9_takesBy : xCs := [(mX9_isOrder, sX9_isOrder), (mX5_takesOf, sX5_takesOf), (mX5_loadTaken, sX5_loadTaken)]
theorem okX9_takesBy : xOkM mX9_takesBy csX9_takesBy := ⟨dX9_takesBy, by decide +kernel, by decide +kernel, ⟨wdX9_70, wdX9_74, wdX9_77, trivial⟩⟩
theorem hhX9_takesBy : ∀ q ∈ csX9_takesBy, xHd q.1 := xall1 hX9_isOrder (xall1 hX5_takesOf (xall1 hX5_loadTaken (xall0)))
theorem kkX9_takesBy : ∀ q ∈ csX9_takesBy, ∀ l, xCon l q.1 q.2 := xall1 kX9_isOrder (xall1 kX5_takesOf (xall1 kX5_loadTaken (xall0)))
def sX9_takesBy : xSpec := xReg fun as I L Q => ∃ (d : PD) (X o i l : Nat), xPl d I ∧ as = [.ref 11, .long (lN X), .int (nI o), .int (nI i), .int (nI l)] ∧ X < 2 ^ 63 ∧ o < 256 ∧ i < 4 ∧ l < 8 ∧ Q (some (.int (bI (tbyB d X o i l)))) I L
set_option maxRecDepth 100000 in
theorem kX9_takesBy : ∀ l, xCon l mX9_takesBy sX9_takesBy := by
  refine xcon_of okX9_takesBy hX9_takesBy rfl hhX9_takesBy kkX9_takesBy ?_
  rintro as n0 I L P Q ⟨hn9, rfl, d, X, o, i, l, hP, rfl, hX, ho, hi, hl, hQ⟩
  obtain ⟨e9, rfl⟩ := xe9 hn9
  refine ⟨Nat.le_of_ble_eq_true rfl, ?_⟩
  refine xrun okX9_takesBy hhX9_takesBy [] 60 ?_
  refine ⟨rfl, rfl, d, o, hP, rfl, ho, ?_⟩
  have hT := (tkN_lt hP.ok X o 15 d.nA).1
  unfold tbyB at hQ
  cases hb : ioB d o
  · rw [hb] at hQ
    (first | refine xbr_t (by decide) ?_ | refine xbr_f (by decide) ?_)
    repeat (first | (refine xbr_f ?_ ?_; (focus ((simp (disch := omega) only [ix_lt, ix_le, ix_eq, ix_0, nI_clamp, nI_toInt, ng_T, nI_add, nI_mul, nI_sub', Int.neg_zero, not_false_eq_true, not_true_eq_false] <;> omega); done))) | (refine xbr_t ?_ ?_; (focus ((simp (disch := omega) only [ix_lt, ix_le, ix_eq, ix_0, nI_clamp, nI_toInt, ng_T, nI_add, nI_mul, nI_sub', Int.neg_zero, not_false_eq_true, not_true_eq_false] <;> omega); done))) | refine ⟨Or.inl rfl, ?_⟩ | refine ⟨Or.inr rfl, ?_⟩ | (refine ⟨?_, ?_⟩; (focus (exact in_nI (by omega) (by omega)))))
    exact hQ
  · rw [hb, Bool.true_and] at hQ
    (first | refine xbr_t (by decide) ?_ | refine xbr_f (by decide) ?_)
    refine ⟨rfl, rfl, d, X, o, 15, hP, rfl, hX, ho, by decide, ?_⟩
    refine ⟨rfl, rfl, _, i, rfl, by omega, hi, ?_⟩
    have h8 : getN (tkN d X o 15 d.nA).1 (3 * i) 3 < 8 := getN_lt _ _ 3
    by_cases hc : getN (tkN d X o 15 d.nA).1 (3 * i) 3 = l + 1
    · rw [decide_eq_true hc] at hQ
      rw [hc, cI_s]
      (first | refine xbr_t rfl ?_ | refine xbr_f rfl ?_)
      repeat (first | (refine xbr_f ?_ ?_; (focus ((simp (disch := omega) only [ix_lt, ix_le, ix_eq, ix_0, nI_clamp, nI_toInt, ng_T, nI_add, nI_mul, nI_sub', Int.neg_zero, not_false_eq_true, not_true_eq_false] <;> omega); done))) | (refine xbr_t ?_ ?_; (focus ((simp (disch := omega) only [ix_lt, ix_le, ix_eq, ix_0, nI_clamp, nI_toInt, ng_T, nI_add, nI_mul, nI_sub', Int.neg_zero, not_false_eq_true, not_true_eq_false] <;> omega); done))) | refine ⟨Or.inl rfl, ?_⟩ | refine ⟨Or.inr rfl, ?_⟩ | (refine ⟨?_, ?_⟩; (focus (exact in_nI (by omega) (by omega)))))
      exact hQ
    · rw [decide_eq_false hc] at hQ
      have e2 : ¬ cI (getN (tkN d X o 15 d.nA).1 (3 * i) 3) = nI l := by
        generalize getN (tkN d X o 15 d.nA).1 (3 * i) 3 = c at *
        rcases c with _ | c
        · rw [cI_0]
          (simp (disch := omega) only [ix_lt, ix_le, ix_eq, ix_0, nI_clamp, nI_toInt, ng_T, nI_add, nI_mul, nI_sub', Int.neg_zero, not_false_eq_true, not_true_eq_false] <;> omega)
        · rw [cI_s]
          (simp (disch := omega) only [ix_lt, ix_le, ix_eq, ix_0, nI_clamp, nI_toInt, ng_T, nI_add, nI_mul, nI_sub', Int.neg_zero, not_false_eq_true, not_true_eq_false] <;> omega)
      (first | refine xbr_t e2 ?_ | refine xbr_f e2 ?_)
      repeat (first | (refine xbr_f ?_ ?_; (focus ((simp (disch := omega) only [ix_lt, ix_le, ix_eq, ix_0, nI_clamp, nI_toInt, ng_T, nI_add, nI_mul, nI_sub', Int.neg_zero, not_false_eq_true, not_true_eq_false] <;> omega); done))) | (refine xbr_t ?_ ?_; (focus ((simp (disch := omega) only [ix_lt, ix_le, ix_eq, ix_0, nI_clamp, nI_toInt, ng_T, nI_add, nI_mul, nI_sub', Int.neg_zero, not_false_eq_true, not_true_eq_false] <;> omega); done))) | refine ⟨Or.inl rfl, ?_⟩ | refine ⟨Or.inr rfl, ?_⟩ | (refine ⟨?_, ?_⟩; (focus (exact in_nI (by omega) (by omega)))))
      exact hQ
def oyB (d : PD) (X i l : Nat) : Nat → Bool := fun n => tbyB d X (n * 2 ^ (2 * (4 - d.nA))) i l
theorem o_256 {d : PD} (hd : d.ok) {n : Nat} (h : n < 2 ^ (2 * d.nA)) : n * 2 ^ (2 * (4 - d.nA)) < 256 := by
  have h4 := hd.a4
  calc n * 2 ^ (2 * (4 - d.nA)) < 2 ^ (2 * d.nA) * 2 ^ (2 * (4 - d.nA)) := Nat.mul_lt_mul_of_pos_right h (Nat.two_pow_pos _)
    _ = 2 ^ (2 * d.nA + 2 * (4 - d.nA)) := (Nat.pow_add 2 _ _).symm
    _ = 256 := by rw [show 2 * d.nA + 2 * (4 - d.nA) = 8 by omega]
theorem p_256 {d : PD} (hd : d.ok) : 2 ^ (2 * d.nA) ≤ 256 := Nat.pow_le_pow_right (n := 2) (j := 8) (by decide) (by have := hd.a4; omega)
def csX9_firstOrder : xCs := [(mX9_codes, sX9_codes), (mX9_orderOf, sX9_orderOf), (mX9_takesBy, sX9_takesBy)]
theorem okX9_firstOrder : xOkM mX9_firstOrder csX9_firstOrder := ⟨dX9_firstOrder, by decide +kernel, by decide +kernel, ⟨wdX9_58, wdX9_62, wdX9_66, trivial⟩⟩
theorem hhX9_firstOrder : ∀ q ∈ csX9_firstOrder, xHd q.1 := xall1 hX9_codes (xall1 hX9_orderOf (xall1 hX9_takesBy (xall0)))
theorem kkX9_firstOrder : ∀ q ∈ csX9_firstOrder, ∀ l, xCon l q.1 q.2 := xall1 kX9_codes (xall1 kX9_orderOf (xall1 kX9_takesBy (xall0)))
def sX9_firstOrder : xSpec := xReg fun as I L Q => ∃ (d : PD) (X i l : Nat), xPl d I ∧ as = [.ref 11, .long (lN X), .int (nI i), .int (nI l)] ∧ X < 2 ^ 63 ∧ i < 4 ∧ l < 8 ∧ (ffN (oyB d X i l) (2 ^ (2 * d.nA)) = 0 → Q (some (.int (-(nI 9)))) I L) ∧ (∀ n, ffN (oyB d X i l) (2 ^ (2 * d.nA)) = n + 1 → Q (some (.int (nI (n * 2 ^ (2 * (4 - d.nA)))))) I L)
set_option maxRecDepth 100000 in
theorem kX9_firstOrder : ∀ l, xCon l mX9_firstOrder sX9_firstOrder := by
  refine xcon_of okX9_firstOrder hX9_firstOrder rfl hhX9_firstOrder kkX9_firstOrder ?_
  rintro as n0 I L P Q ⟨hn9, rfl, d, X, i, l, hP, rfl, hX, hi, hl, hQ, hQ2⟩
  obtain ⟨e9, rfl⟩ := xe9 hn9
  refine ⟨Nat.le_of_ble_eq_true rfl, ?_⟩
  have h256 := p_256 hP.ok
  refine xrun okX9_firstOrder hhX9_firstOrder [(3, [true, true, false, true, true, true, false])] 20 ?_
  refine xlpI (M := mX9_firstOrder) (cs := csX9_firstOrder) (pc := 3) (fun n => ffN (oyB d X i l) n = 0) (2 ^ (2 * d.nA)) (fun n => [some (.ref 11), some (.long (lN X)), none, some (.int (nI i)), some (.int (nI l)), some (.int (nI n)), none]) (fun _ => I) (fun _ => L) ?_ ?_ rfl
  · intro n hn hI ih
    refine xrun okX9_firstOrder hhX9_firstOrder [(3, [true, true, false, true, true, true, false])] 60 ?_
    refine ⟨rfl, rfl, d, hP, rfl, ?_⟩
    (first | (refine xbr_f ?_ ?_; (focus ((simp (disch := omega) only [ix_lt, ix_le, ix_eq, ix_0, nI_clamp, nI_toInt, ng_T, nI_add, nI_mul, nI_sub', Int.neg_zero, not_false_eq_true, not_true_eq_false] <;> omega); done))) | (refine xbr_t ?_ ?_; (focus ((simp (disch := omega) only [ix_lt, ix_le, ix_eq, ix_0, nI_clamp, nI_toInt, ng_T, nI_add, nI_mul, nI_sub', Int.neg_zero, not_false_eq_true, not_true_eq_false] <;> omega); done))) | refine ⟨Or.inl rfl, ?_⟩ | refine ⟨Or.inr rfl, ?_⟩ | (refine ⟨?_, ?_⟩; (focus (exact in_nI (by omega) (by omega)))))
    refine ⟨rfl, rfl, d, n, hP, rfl, ?_⟩
    have h1 := o_256 hP.ok hn
    refine ⟨rfl, rfl, d, X, _, i, l, hP, rfl, hX, h1, hi, hl, ?_⟩
    cases hc : tbyB d X (n * 2 ^ (2 * (4 - d.nA))) i l
    · have e := ffN_miss hI (f := oyB d X i l) hc
      (first | refine xbr_t (by decide) ?_ | refine xbr_f (by decide) ?_)
      refine xgo_eq (ih e) ?_ rfl rfl
      ((repeat' (first | (with_reducible rfl) | exact xv_nil | refine xv_cons ?_ ?_ | refine xv_i ?_ | refine xv_l ?_)) <;> (simp (disch := omega) only [↓reduceIte, Bool.false_eq_true, Nat.one_mul, Nat.zero_mul, Nat.or_zero, Nat.add_zero, Nat.zero_add, Bool.toNat_true, Bool.toNat_false, shl_n, shr_n, fa_and, fa_or, nx_xor, nI_add, nI_mul, nI_sub', and_1, and_7, and_3', and_15]))
    · have e := ffN_hit hI (f := oyB d X i l) hc hn
      (first | refine xbr_t (by decide) ?_ | refine xbr_f (by decide) ?_)
      exact hQ2 n e
  · intro hI
    refine xrun okX9_firstOrder hhX9_firstOrder [] 60 ?_
    refine ⟨rfl, rfl, d, hP, rfl, ?_⟩
    (first | (refine xbr_f ?_ ?_; (focus ((simp (disch := omega) only [ix_lt, ix_le, ix_eq, ix_0, nI_clamp, nI_toInt, ng_T, nI_add, nI_mul, nI_sub', Int.neg_zero, not_false_eq_true, not_true_eq_false] <;> omega); done))) | (refine xbr_t ?_ ?_; (focus ((simp (disch := omega) only [ix_lt, ix_le, ix_eq, ix_0, nI_clamp, nI_toInt, ng_T, nI_add, nI_mul, nI_sub', Int.neg_zero, not_false_eq_true, not_true_eq_false] <;> omega); done))) | refine ⟨Or.inl rfl, ?_⟩ | refine ⟨Or.inr rfl, ?_⟩ | (refine ⟨?_, ?_⟩; (focus (exact in_nI (by omega) (by omega)))))
    exact hQ hI
def csX9_howManyOrders : xCs := [(mX9_codes, sX9_codes), (mX9_orderOf, sX9_orderOf), (mX9_takesBy, sX9_takesBy)]
theorem okX9_howManyOrders : xOkM mX9_howManyOrders csX9_howManyOrders := ⟨dX9_howManyOrders, by decide +kernel, by decide +kernel, ⟨wdX9_58, wdX9_62, wdX9_66, trivial⟩⟩
theorem hhX9_howManyOrders : ∀ q ∈ csX9_howManyOrders, xHd q.1 := xall1 hX9_codes (xall1 hX9_orderOf (xall1 hX9_takesBy (xall0)))
theorem kkX9_howManyOrders : ∀ q ∈ csX9_howManyOrders, ∀ l, xCon l q.1 q.2 := xall1 kX9_codes (xall1 kX9_orderOf (xall1 kX9_takesBy (xall0)))
def sX9_howManyOrders : xSpec := xReg fun as I L Q => ∃ (d : PD) (X i l : Nat), xPl d I ∧ as = [.ref 11, .long (lN X), .int (nI i), .int (nI l)] ∧ X < 2 ^ 63 ∧ i < 4 ∧ l < 8 ∧ Q (some (.int (nI (cnN (oyB d X i l) (2 ^ (2 * d.nA)))))) I L
set_option maxRecDepth 100000 in
theorem kX9_howManyOrders : ∀ l, xCon l mX9_howManyOrders sX9_howManyOrders := by
  refine xcon_of okX9_howManyOrders hX9_howManyOrders rfl hhX9_howManyOrders kkX9_howManyOrders ?_
  rintro as n0 I L P Q ⟨hn9, rfl, d, X, i, l, hP, rfl, hX, hi, hl, hQ⟩
  obtain ⟨e9, rfl⟩ := xe9 hn9
  refine ⟨Nat.le_of_ble_eq_true rfl, ?_⟩
  have h256 := p_256 hP.ok
  refine xrun okX9_howManyOrders hhX9_howManyOrders [(6, [true, true, false, true, true, true, true])] 20 ?_
  refine xlp (M := mX9_howManyOrders) (cs := csX9_howManyOrders) (pc := 6) (2 ^ (2 * d.nA)) (fun n => [some (.ref 11), some (.long (lN X)), none, some (.int (nI i)), some (.int (nI l)), some (.int (nI (cnN (oyB d X i l) n))), some (.int (nI n))]) (fun _ => I) (fun _ => L) ?_ ?_
  · intro n hn ih
    refine xrun okX9_howManyOrders hhX9_howManyOrders [(6, [true, true, false, true, true, true, true])] 60 ?_
    refine ⟨rfl, rfl, d, hP, rfl, ?_⟩
    (first | (refine xbr_f ?_ ?_; (focus ((simp (disch := omega) only [ix_lt, ix_le, ix_eq, ix_0, nI_clamp, nI_toInt, ng_T, nI_add, nI_mul, nI_sub', Int.neg_zero, not_false_eq_true, not_true_eq_false] <;> omega); done))) | (refine xbr_t ?_ ?_; (focus ((simp (disch := omega) only [ix_lt, ix_le, ix_eq, ix_0, nI_clamp, nI_toInt, ng_T, nI_add, nI_mul, nI_sub', Int.neg_zero, not_false_eq_true, not_true_eq_false] <;> omega); done))) | refine ⟨Or.inl rfl, ?_⟩ | refine ⟨Or.inr rfl, ?_⟩ | (refine ⟨?_, ?_⟩; (focus (exact in_nI (by omega) (by omega)))))
    refine ⟨rfl, rfl, d, n, hP, rfl, ?_⟩
    have h1 := o_256 hP.ok hn
    refine ⟨rfl, rfl, d, X, _, i, l, hP, rfl, hX, h1, hi, hl, ?_⟩
    have hcl := cnN_le (oyB d X i l) n
    have e : oyB d X i l n = tbyB d X (n * 2 ^ (2 * (4 - d.nA))) i l := rfl
    cases hc : tbyB d X (n * 2 ^ (2 * (4 - d.nA))) i l
    · rw [hc] at e
      (first | refine xbr_t (by decide) ?_ | refine xbr_f (by decide) ?_)
      refine xgo_eq ih ?_ rfl rfl
      ((repeat' (first | (with_reducible rfl) | exact xv_nil | refine xv_cons ?_ ?_ | refine xv_i ?_ | refine xv_l ?_)) <;> (simp (disch := omega) only [↓reduceIte, Bool.false_eq_true, Nat.one_mul, Nat.zero_mul, Nat.or_zero, Nat.add_zero, Nat.zero_add, Bool.toNat_true, Bool.toNat_false, shl_n, shr_n, fa_and, fa_or, nx_xor, nI_add, nI_mul, nI_sub', and_1, and_7, and_3', and_15, cnN, e]))
    · rw [hc] at e
      (first | refine xbr_t (by decide) ?_ | refine xbr_f (by decide) ?_)
      refine xgo_eq ih ?_ rfl rfl
      ((repeat' (first | (with_reducible rfl) | exact xv_nil | refine xv_cons ?_ ?_ | refine xv_i ?_ | refine xv_l ?_)) <;> (simp (disch := omega) only [↓reduceIte, Bool.false_eq_true, Nat.one_mul, Nat.zero_mul, Nat.or_zero, Nat.add_zero, Nat.zero_add, Bool.toNat_true, Bool.toNat_false, shl_n, shr_n, fa_and, fa_or, nx_xor, nI_add, nI_mul, nI_sub', and_1, and_7, and_3', and_15, cnN, e]))
  · refine xrun okX9_howManyOrders hhX9_howManyOrders [] 60 ?_
    refine ⟨rfl, rfl, d, hP, rfl, ?_⟩
    (first | (refine xbr_f ?_ ?_; (focus ((simp (disch := omega) only [ix_lt, ix_le, ix_eq, ix_0, nI_clamp, nI_toInt, ng_T, nI_add, nI_mul, nI_sub', Int.neg_zero, not_false_eq_true, not_true_eq_false] <;> omega); done))) | (refine xbr_t ?_ ?_; (focus ((simp (disch := omega) only [ix_lt, ix_le, ix_eq, ix_0, nI_clamp, nI_toInt, ng_T, nI_add, nI_mul, nI_sub', Int.neg_zero, not_false_eq_true, not_true_eq_false] <;> omega); done))) | refine ⟨Or.inl rfl, ?_⟩ | refine ⟨Or.inr rfl, ?_⟩ | (refine ⟨?_, ?_⟩; (focus (exact in_nI (by omega) (by omega)))))
    exact hQ
