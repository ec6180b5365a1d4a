def csX5_likeness : xCs := [(mX5_kindOf, sX5_kindOf), (mX7_memoryOf, sX7_memoryOf), (mX4_likeness, sX4_likeness)]
theorem okX5_likeness : xOkM mX5_likeness csX5_likeness := ⟨dX5_likeness, by decide +kernel, by decide +kernel, ⟨wdX5_31, wdX5_53, wdX5_56, trivial⟩⟩
theorem hhX5_likeness : ∀ q ∈ csX5_likeness, xHd q.1 := xall1 hX5_kindOf (xall1 hX7_memoryOf (xall1 hX4_likeness (xall0)))
theorem kkX5_likeness : ∀ q ∈ csX5_likeness, ∀ l, xCon l q.1 q.2 := xall1 kX5_kindOf (xall1 kX7_memoryOf (xall1 kX4_likeness (xall0)))
def sX5_likeness : xSpec := xReg fun as I L Q => ∃ (d : PD) (X i x : Nat), xPl d I ∧ as = [.ref 11, .long (lN X), .int (nI i), .int (nI x)] ∧ X < 2 ^ 63 ∧ i < 4 ∧ x < 16 ∧ Q (some (.int (nI (lkN (kdN d i) (meN X i) x)))) I L
set_option maxRecDepth 100000 in
theorem kX5_likeness : ∀ l, xCon l mX5_likeness sX5_likeness := by
  refine xcon_of okX5_likeness hX5_likeness rfl hhX5_likeness kkX5_likeness ?_
  rintro as n0 I L P Q ⟨hn9, rfl, d, X, i, x, hP, rfl, hX, hi, hx, hQ⟩
  obtain ⟨e9, rfl⟩ := xe9 hn9
  refine ⟨Nat.le_of_ble_eq_true rfl, ?_⟩
  refine xrun okX5_likeness hhX5_likeness [] 30 ?_
  exact ⟨rfl, rfl, d, i, hP, rfl, by omega, rfl, rfl, X, i, rfl, by omega, hi, rfl, rfl, kdN d i, meN X i, x, rfl, kdN_8 d i, meN_16 X i, hx, hQ⟩
def csX5_wouldTake : xCs := [(mX5_kindOf, sX5_kindOf), (mX7_memoryOf, sX7_memoryOf), (mX4_wouldTake, sX4_wouldTake)]
theorem okX5_wouldTake : xOkM mX5_wouldTake csX5_wouldTake := ⟨dX5_wouldTake, by decide +kernel, by decide +kernel, ⟨wdX5_31, wdX5_53, wdX5_60, trivial⟩⟩
theorem hhX5_wouldTake : ∀ q ∈ csX5_wouldTake, xHd q.1 := xall1 hX5_kindOf (xall1 hX7_memoryOf (xall1 hX4_wouldTake (xall0)))
theorem kkX5_wouldTake : ∀ q ∈ csX5_wouldTake, ∀ l, xCon l q.1 q.2 := xall1 kX5_kindOf (xall1 kX7_memoryOf (xall1 kX4_wouldTake (xall0)))
def sX5_wouldTake : xSpec := xReg fun as I L Q => ∃ (d : PD) (X i x : Nat), xPl d I ∧ as = [.ref 11, .long (lN X), .int (nI i), .int (nI x)] ∧ X < 2 ^ 63 ∧ i < 4 ∧ x < 16 ∧ Q (some (.int (bI (wtB d X i x)))) I L
set_option maxRecDepth 100000 in
theorem kX5_wouldTake : ∀ l, xCon l mX5_wouldTake sX5_wouldTake := by
  refine xcon_of okX5_wouldTake hX5_wouldTake rfl hhX5_wouldTake kkX5_wouldTake ?_
  rintro as n0 I L P Q ⟨hn9, rfl, d, X, i, x, hP, rfl, hX, hi, hx, hQ⟩
  obtain ⟨e9, rfl⟩ := xe9 hn9
  refine ⟨Nat.le_of_ble_eq_true rfl, ?_⟩
  refine xrun okX5_wouldTake hhX5_wouldTake [] 30 ?_
  exact ⟨rfl, rfl, d, i, hP, rfl, by omega, rfl, rfl, X, i, rfl, by omega, hi, rfl, rfl, kdN d i, meN X i, x, rfl, kdN_8 d i, meN_16 X i, hx, bI_01 _, hQ⟩
def csX5_takersOf : xCs := [(mX5_wouldTake, sX5_wouldTake)]
theorem okX5_takersOf : xOkM mX5_takersOf csX5_takersOf := ⟨dX5_takersOf, by decide +kernel, by decide +kernel, ⟨wdX5_9, wdX5_64, trivial⟩⟩
theorem hhX5_takersOf : ∀ q ∈ csX5_takersOf, xHd q.1 := xall1 hX5_wouldTake (xall0)
theorem kkX5_takersOf : ∀ q ∈ csX5_takersOf, ∀ l, xCon l q.1 q.2 := xall1 kX5_wouldTake (xall0)
def sX5_takersOf : xSpec := xReg fun as I L Q => ∃ (d : PD) (X x : Nat), xPl d I ∧ as = [.ref 11, .long (lN X), .int (nI x)] ∧ X < 2 ^ 63 ∧ x < 16 ∧ Q (some (.int (nI (bsN (fun i => wtB d X i x) d.nA)))) I L
set_option maxRecDepth 100000 in
theorem kX5_takersOf : ∀ l, xCon l mX5_takersOf sX5_takersOf := by
  refine xcon_of okX5_takersOf hX5_takersOf rfl hhX5_takersOf kkX5_takersOf ?_
  rintro as n0 I L P Q ⟨hn9, rfl, d, X, x, hP, rfl, hX, hx, hQ⟩
  obtain ⟨e9, rfl⟩ := xe9 hn9
  refine ⟨Nat.le_of_ble_eq_true rfl, ?_⟩
  refine xrun okX5_takersOf hhX5_takersOf [(6, [true, true, false, true, true, true])] 20 ?_
  have hl := hP.a
  have h5 := hP.ok.a4
  refine xlp (M := mX5_takersOf) (cs := csX5_takersOf) (pc := 6) d.nA (fun i => [some (.ref 11), some (.long (lN X)), none, some (.int (nI x)), some (.int (nI (bsN (fun i => wtB d X i x) i))), some (.int (nI i))]) (fun _ => I) (fun _ => L) ?_ ?_
  · intro i hi ih
    refine xrun okX5_takersOf hhX5_takersOf [(6, [true, true, false, true, true, true])] 60 ?_
    (first | (refine xbr_f ?_ ?_; (focus ((simp (disch := omega) only [ix_lt, ix_le, ix_eq, ix_0, nI_clamp, nI_toInt, ng_T, nI_add, nI_mul, nI_sub', Int.neg_zero, not_false_eq_true, not_true_eq_false, hl] <;> omega); done))) | (refine xbr_t ?_ ?_; (focus ((simp (disch := omega) only [ix_lt, ix_le, ix_eq, ix_0, nI_clamp, nI_toInt, ng_T, nI_add, nI_mul, nI_sub', Int.neg_zero, not_false_eq_true, not_true_eq_false, hl] <;> omega); done))) | refine ⟨Or.inl rfl, ?_⟩ | refine ⟨Or.inr rfl, ?_⟩ | (refine ⟨?_, ?_⟩; (focus ((try simp (disch := omega) only [hl, nI_mul, nI_add, nI_sub']); exact in_nI (by omega) (by omega)))))
    refine ⟨rfl, rfl, d, X, i, x, hP, rfl, hX, by omega, hx, ?_⟩
    cases hb : wtB d X i x <;> (
      (first | refine xbr_t (by decide) ?_ | refine xbr_f (by decide) ?_)
      refine xgo_eq ih ?_ rfl rfl
      ((repeat' (first | (with_reducible rfl) | exact xv_nil | refine xv_cons ?_ ?_ | refine xv_i ?_ | refine xv_l ?_)) <;> (simp (disch := omega) only [↓reduceIte, Bool.false_eq_true, Nat.one_mul, Nat.zero_mul, Nat.or_zero, Nat.add_zero, Nat.zero_add, Bool.toNat_true, Bool.toNat_false, shl_n, shr_n, fa_and, fa_or, nx_xor, nI_add, nI_mul, nI_sub', and_1, and_7, and_3', and_15, bsN, hb])))
  · refine xrun okX5_takersOf hhX5_takersOf [] 60 ?_
    repeat (first | (refine xbr_f ?_ ?_; (focus ((simp (disch := omega) only [ix_lt, ix_le, ix_eq, ix_0, nI_clamp, nI_toInt, ng_T, nI_add, nI_mul, nI_sub', Int.neg_zero, not_false_eq_true, not_true_eq_false, hl] <;> omega); done))) | (refine xbr_t ?_ ?_; (focus ((simp (disch := omega) only [ix_lt, ix_le, ix_eq, ix_0, nI_clamp, nI_toInt, ng_T, nI_add, nI_mul, nI_sub', Int.neg_zero, not_false_eq_true, not_true_eq_false, hl] <;> omega); done))) | refine ⟨Or.inl rfl, ?_⟩ | refine ⟨Or.inr rfl, ?_⟩ | (refine ⟨?_, ?_⟩; (focus ((try simp (disch := omega) only [hl, nI_mul, nI_add, nI_sub']); exact in_nI (by omega) (by omega)))))
    exact hQ
def csX5_pull : xCs := [(mX7_placeOf, sX7_placeOf), (mX7_innOf, sX7_innOf), (mX5_homeOf, sX5_homeOf), (mX5_kindOf, sX5_kindOf), (mX7_memoryOf, sX7_memoryOf), (mX7_marksOf, sX7_marksOf), (mX4_likeness, sX4_likeness), (mX4_leastLike, sX4_leastLike)]
theorem okX5_pull : xOkM mX5_pull csX5_pull := ⟨dX5_pull, by decide +kernel, by decide +kernel, ⟨wdX5_40, wdX5_79, wdX5_46, wdX5_31, wdX5_53, wdX5_67, wdX5_56, wdX5_82, trivial⟩⟩
theorem hhX5_pull : ∀ q ∈ csX5_pull, xHd q.1 := xall1 hX7_placeOf (xall1 hX7_innOf (xall1 hX5_homeOf (xall1 hX5_kindOf (xall1 hX7_memoryOf (xall1 hX7_marksOf (xall1 hX4_likeness (xall1 hX4_leastLike (xall0))))))))
theorem kkX5_pull : ∀ q ∈ csX5_pull, ∀ l, xCon l q.1 q.2 := xall1 kX7_placeOf (xall1 kX7_innOf (xall1 kX5_homeOf (xall1 kX5_kindOf (xall1 kX7_memoryOf (xall1 kX7_marksOf (xall1 kX4_likeness (xall1 kX4_leastLike (xall0))))))))
def sX5_pull : xSpec := xReg fun as I L Q => ∃ (d : PD) (X i l : Nat), xPl d I ∧ as = [.ref 11, .long (lN X), .int (nI i), .int (nI l)] ∧ X < 2 ^ 63 ∧ i < 4 ∧ l < 5 ∧ Q (some (.int (nI (pullN d X i l)))) I L
set_option maxRecDepth 100000 in
theorem kX5_pull : ∀ l, xCon l mX5_pull sX5_pull := by
  refine xcon_of okX5_pull hX5_pull rfl hhX5_pull kkX5_pull ?_
  rintro as n0 I L P Q ⟨hn9, rfl, d, X, i, l, hP, rfl, hX, hi, hl, hQ⟩
  obtain ⟨e9, rfl⟩ := xe9 hn9
  refine ⟨Nat.le_of_ble_eq_true rfl, ?_⟩
  refine xrun okX5_pull hhX5_pull [] 60 ?_
  have h1 := plN_8 X l
  have h2 := inN_8 X i
  have h3 := hmN_8 d l
  have h4 := lkN_le (k := kdN d i) (x := mkN X l) (meN_16 X i)
  have h6 := lsN_le (kdN d i)
  refine ⟨rfl, rfl, X, l, rfl, by omega, hl, rfl, rfl, X, i, rfl, by omega, hi, ?_⟩
  unfold pullN at hQ
  by_cases ha : plN X l = inN X i
  · (first | (refine xbr_f ?_ ?_; (focus ((simp (disch := omega) only [ix_lt, ix_le, ix_eq, ix_0, nI_clamp, nI_toInt, ng_T, nI_add, nI_mul, nI_sub', Int.neg_zero, not_false_eq_true, not_true_eq_false] <;> omega); done))) | (refine xbr_t ?_ ?_; (focus ((simp (disch := omega) only [ix_lt, ix_le, ix_eq, ix_0, nI_clamp, nI_toInt, ng_T, nI_add, nI_mul, nI_sub', Int.neg_zero, not_false_eq_true, not_true_eq_false] <;> omega); done))) | refine ⟨Or.inl rfl, ?_⟩ | refine ⟨Or.inr rfl, ?_⟩ | (refine ⟨?_, ?_⟩; (focus (exact in_nI (by omega) (by omega)))))
    refine ⟨rfl, rfl, d, l, hP, rfl, by omega, ?_⟩
    by_cases hb : plN X l = hmN d l
    · rw [if_neg (fun q => q.2 hb)] at hQ
      repeat (first | (refine xbr_f ?_ ?_; (focus ((simp (disch := omega) only [ix_lt, ix_le, ix_eq, ix_0, nI_clamp, nI_toInt, ng_T, nI_add, nI_mul, nI_sub', Int.neg_zero, not_false_eq_true, not_true_eq_false] <;> omega); done))) | (refine xbr_t ?_ ?_; (focus ((simp (disch := omega) only [ix_lt, ix_le, ix_eq, ix_0, nI_clamp, nI_toInt, ng_T, nI_add, nI_mul, nI_sub', Int.neg_zero, not_false_eq_true, not_true_eq_false] <;> omega); done))) | refine ⟨Or.inl rfl, ?_⟩ | refine ⟨Or.inr rfl, ?_⟩ | (refine ⟨?_, ?_⟩; (focus (exact in_nI (by omega) (by omega)))))
      exact hQ
    · rw [if_pos ⟨ha, hb⟩] at hQ
      (first | (refine xbr_f ?_ ?_; (focus ((simp (disch := omega) only [ix_lt, ix_le, ix_eq, ix_0, nI_clamp, nI_toInt, ng_T, nI_add, nI_mul, nI_sub', Int.neg_zero, not_false_eq_true, not_true_eq_false] <;> omega); done))) | (refine xbr_t ?_ ?_; (focus ((simp (disch := omega) only [ix_lt, ix_le, ix_eq, ix_0, nI_clamp, nI_toInt, ng_T, nI_add, nI_mul, nI_sub', Int.neg_zero, not_false_eq_true, not_true_eq_false] <;> omega); done))) | refine ⟨Or.inl rfl, ?_⟩ | refine ⟨Or.inr rfl, ?_⟩ | (refine ⟨?_, ?_⟩; (focus (exact in_nI (by omega) (by omega)))))
      refine ⟨rfl, rfl, d, i, hP, rfl, by omega, rfl, rfl, X, i, rfl, by omega, hi, rfl, rfl, X, l, rfl, by omega, hl, rfl, rfl, kdN d i, meN X i, mkN X l, rfl, kdN_8 d i, meN_16 X i, mkN_16 X l, rfl, rfl, kdN d i, rfl, kdN_8 d i, ?_⟩
      by_cases hc : lkN (kdN d i) (meN X i) (mkN X l) < lsN (kdN d i)
      · rw [if_pos hc] at hQ
        repeat (first | (refine xbr_f ?_ ?_; (focus ((simp (disch := omega) only [ix_lt, ix_le, ix_eq, ix_0, nI_clamp, nI_toInt, ng_T, nI_add, nI_mul, nI_sub', Int.neg_zero, not_false_eq_true, not_true_eq_false] <;> omega); done))) | (refine xbr_t ?_ ?_; (focus ((simp (disch := omega) only [ix_lt, ix_le, ix_eq, ix_0, nI_clamp, nI_toInt, ng_T, nI_add, nI_mul, nI_sub', Int.neg_zero, not_false_eq_true, not_true_eq_false] <;> omega); done))) | refine ⟨Or.inl rfl, ?_⟩ | refine ⟨Or.inr rfl, ?_⟩ | (refine ⟨?_, ?_⟩; (focus (exact in_nI (by omega) (by omega)))))
        exact hQ
      · rw [if_neg hc] at hQ
        repeat (first | (refine xbr_f ?_ ?_; (focus ((simp (disch := omega) only [ix_lt, ix_le, ix_eq, ix_0, nI_clamp, nI_toInt, ng_T, nI_add, nI_mul, nI_sub', Int.neg_zero, not_false_eq_true, not_true_eq_false] <;> omega); done))) | (refine xbr_t ?_ ?_; (focus ((simp (disch := omega) only [ix_lt, ix_le, ix_eq, ix_0, nI_clamp, nI_toInt, ng_T, nI_add, nI_mul, nI_sub', Int.neg_zero, not_false_eq_true, not_true_eq_false] <;> omega); done))) | refine ⟨Or.inl rfl, ?_⟩ | refine ⟨Or.inr rfl, ?_⟩ | (refine ⟨?_, ?_⟩; (focus (exact in_nI (by omega) (by omega)))))
        exact hQ
  · rw [if_neg (fun q => ha q.1)] at hQ
    repeat (first | (refine xbr_f ?_ ?_; (focus ((simp (disch := omega) only [ix_lt, ix_le, ix_eq, ix_0, nI_clamp, nI_toInt, ng_T, nI_add, nI_mul, nI_sub', Int.neg_zero, not_false_eq_true, not_true_eq_false] <;> omega); done))) | (refine xbr_t ?_ ?_; (focus ((simp (disch := omega) only [ix_lt, ix_le, ix_eq, ix_0, nI_clamp, nI_toInt, ng_T, nI_add, nI_mul, nI_sub', Int.neg_zero, not_false_eq_true, not_true_eq_false] <;> omega); done))) | refine ⟨Or.inl rfl, ?_⟩ | refine ⟨Or.inr rfl, ?_⟩ | (refine ⟨?_, ?_⟩; (focus (exact in_nI (by omega) (by omega)))))
    exact hQ
def csX5_assInLine : xCs := []
theorem okX5_assInLine : xOkM mX5_assInLine csX5_assInLine := ⟨dX5_assInLine, by decide +kernel, by decide +kernel, trivial⟩
theorem hhX5_assInLine : ∀ q ∈ csX5_assInLine, xHd q.1 := xall0
theorem kkX5_assInLine : ∀ q ∈ csX5_assInLine, ∀ l, xCon l q.1 q.2 := xall0
def sX5_assInLine : xSpec := xReg fun as I L Q => ∃ (o p : Nat), as = [.int (nI o), .int (nI p)] ∧ o < 256 ∧ p < 4 ∧ Q (some (.int (nI (orN o p)))) I L
set_option maxRecDepth 100000 in
theorem kX5_assInLine : ∀ l, xCon l mX5_assInLine sX5_assInLine := by
  refine xcon_of okX5_assInLine hX5_assInLine rfl hhX5_assInLine kkX5_assInLine ?_
  rintro as n0 I L P Q ⟨hn9, rfl, o, p, rfl, ho, hp, hQ⟩
  obtain ⟨e9, rfl⟩ := xe9 hn9
  refine ⟨Nat.le_of_ble_eq_true rfl, ?_⟩
  refine xrun okX5_assInLine hhX5_assInLine [] 30 ?_
  have e : (nI o >>> (nI 2 * (nI 3 - nI p) &&& 31)) &&& nI 3 = nI (orN o p) := by rw [nI_sub' (by omega), nI_mul, shr_n (by omega) (by omega), fa_and, and_3']; rfl
  rw [← e] at hQ
  exact hQ
def csX5_loadTaken : xCs := []
theorem okX5_loadTaken : xOkM mX5_loadTaken csX5_loadTaken := ⟨dX5_loadTaken, by decide +kernel, by decide +kernel, trivial⟩
theorem hhX5_loadTaken : ∀ q ∈ csX5_loadTaken, xHd q.1 := xall0
theorem kkX5_loadTaken : ∀ q ∈ csX5_loadTaken, ∀ l, xCon l q.1 q.2 := xall0
def sX5_loadTaken : xSpec := xReg fun as I L Q => ∃ (T i : Nat), as = [.int (nI T), .int (nI i)] ∧ T < 2 ^ 31 ∧ i < 4 ∧ Q (some (.int (cI (getN T (3 * i) 3)))) I L
set_option maxRecDepth 100000 in
theorem kX5_loadTaken : ∀ l, xCon l mX5_loadTaken sX5_loadTaken := by
  refine xcon_of okX5_loadTaken hX5_loadTaken rfl hhX5_loadTaken kkX5_loadTaken ?_
  rintro as n0 I L P Q ⟨hn9, rfl, T, i, rfl, hT, hi, hQ⟩
  obtain ⟨e9, rfl⟩ := xe9 hn9
  refine ⟨Nat.le_of_ble_eq_true rfl, ?_⟩
  refine xrun okX5_loadTaken hhX5_loadTaken [(9, [false, false, true])] 30 ?_
  have h9 : xGo mX5_loadTaken csX5_loadTaken 9 Q [none, none, some (.int (nI (getN T (3 * i) 3)))] [] 0 (e9 + 26) I L xP0 := by
    refine xrun okX5_loadTaken hhX5_loadTaken [] 30 ?_
    have h8 : getN T (3 * i) 3 < 8 := getN_lt T (3 * i) 3
    generalize getN T (3 * i) 3 = c at *
    rcases c with _ | c
    · repeat (first | (refine xbr_f ?_ ?_; (focus ((simp (disch := omega) only [ix_lt, ix_le, ix_eq, ix_0, nI_clamp, nI_toInt, ng_T, nI_add, nI_mul, nI_sub', Int.neg_zero, not_false_eq_true, not_true_eq_false] <;> omega); done))) | (refine xbr_t ?_ ?_; (focus ((simp (disch := omega) only [ix_lt, ix_le, ix_eq, ix_0, nI_clamp, nI_toInt, ng_T, nI_add, nI_mul, nI_sub', Int.neg_zero, not_false_eq_true, not_true_eq_false] <;> omega); done))) | refine ⟨Or.inl rfl, ?_⟩ | refine ⟨Or.inr rfl, ?_⟩ | (refine ⟨?_, ?_⟩; (focus (exact in_nI (by omega) (by omega)))))
      exact hQ
    · repeat (first | (refine xbr_f ?_ ?_; (focus ((simp (disch := omega) only [ix_lt, ix_le, ix_eq, ix_0, nI_clamp, nI_toInt, ng_T, nI_add, nI_mul, nI_sub', Int.neg_zero, not_false_eq_true, not_true_eq_false] <;> omega); done))) | (refine xbr_t ?_ ?_; (focus ((simp (disch := omega) only [ix_lt, ix_le, ix_eq, ix_0, nI_clamp, nI_toInt, ng_T, nI_add, nI_mul, nI_sub', Int.neg_zero, not_false_eq_true, not_true_eq_false] <;> omega); done))) | refine ⟨Or.inl rfl, ?_⟩ | refine ⟨Or.inr rfl, ?_⟩ | (refine ⟨?_, ?_⟩; (focus (exact in_nI (by omega) (by omega)))))
      have e : nI (c + 1) - nI 1 = nI c := by rw [nI_sub' (by omega)]; rfl
      rw [cI_s, ← e] at hQ
      exact hQ
  have e : (nI T >>> (nI 3 * nI i &&& 31)) &&& nI 7 = nI (getN T (3 * i) 3) := by rw [nI_mul, shr_n hT (by omega), fa_and, and_7]; rfl
  rw [← e] at h9
  exact h9
