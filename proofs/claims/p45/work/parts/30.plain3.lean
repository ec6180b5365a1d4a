def tkrN (T l : Nat) : Nat := ffN (fun i => decide (getN T (3 * i) 3 = l + 1)) 4
def csX5_takerOf : xCs := [(mX5_loadTaken, sX5_loadTaken)]
theorem okX5_takerOf : xOkM mX5_takerOf csX5_takerOf := ⟨dX5_takerOf, by decide +kernel, by decide +kernel, ⟨wdX5_94, trivial⟩⟩
theorem hhX5_takerOf : ∀ q ∈ csX5_takerOf, xHd q.1 := xall1 hX5_loadTaken (xall0)
theorem kkX5_takerOf : ∀ q ∈ csX5_takerOf, ∀ l, xCon l q.1 q.2 := xall1 kX5_loadTaken (xall0)
def sX5_takerOf : xSpec := xReg fun as I L Q => ∃ (T l : Nat), as = [.int (nI T), .int (nI l)] ∧ T < 2 ^ 31 ∧ l < 8 ∧ Q (some (.int (cI (tkrN T l)))) I L
set_option maxRecDepth 100000 in
theorem kX5_takerOf : ∀ l, xCon l mX5_takerOf sX5_takerOf := by
  refine xcon_of okX5_takerOf hX5_takerOf rfl hhX5_takerOf kkX5_takerOf ?_
  rintro as n0 I L P Q ⟨hn9, rfl, T, l, rfl, hT, hl, hQ⟩
  obtain ⟨e9, rfl⟩ := xe9 hn9
  refine ⟨Nat.le_of_ble_eq_true rfl, ?_⟩
  refine xrun okX5_takerOf hhX5_takerOf [(2, [true, true, true])] 20 ?_
  refine xlpI (M := mX5_takerOf) (cs := csX5_takerOf) (pc := 2) (fun i => ffN (fun i => decide (getN T (3 * i) 3 = l + 1)) i = 0) 4 (fun i => [some (.int (nI T)), some (.int (nI l)), some (.int (nI i))]) (fun _ => I) (fun _ => L) ?_ ?_ rfl
  · intro i hi hI ih
    refine xrun okX5_takerOf hhX5_takerOf [(2, [true, true, true])] 60 ?_
    (first | (refine xbr_f ?_ ?_; (focus ((simp (disch := omega) only [ix_lt, ix_le, ix_eq, ix_0, nI_clamp, nI_toInt, ng_T, nI_add, nI_mul, nI_sub', Int.neg_zero, not_false_eq_true, not_true_eq_false] <;> omega); done))) | (refine xbr_t ?_ ?_; (focus ((simp (disch := omega) only [ix_lt, ix_le, ix_eq, ix_0, nI_clamp, nI_toInt, ng_T, nI_add, nI_mul, nI_sub', Int.neg_zero, not_false_eq_true, not_true_eq_false] <;> omega); done))) | refine ⟨Or.inl rfl, ?_⟩ | refine ⟨Or.inr rfl, ?_⟩ | (refine ⟨?_, ?_⟩; (focus (exact in_nI (by omega) (by omega)))))
    refine ⟨rfl, rfl, T, i, rfl, hT, hi, ?_⟩
    have h8 : getN T (3 * i) 3 < 8 := getN_lt T (3 * i) 3
    by_cases hb : getN T (3 * i) 3 = l + 1
    · have e : tkrN T l = i + 1 := ffN_hit hI (decide_eq_true hb) hi
      rw [hb, cI_s]
      (first | (refine xbr_f ?_ ?_; (focus ((simp (disch := omega) only [ix_lt, ix_le, ix_eq, ix_0, nI_clamp, nI_toInt, ng_T, nI_add, nI_mul, nI_sub', Int.neg_zero, not_false_eq_true, not_true_eq_false] <;> omega); done))) | (refine xbr_t ?_ ?_; (focus ((simp (disch := omega) only [ix_lt, ix_le, ix_eq, ix_0, nI_clamp, nI_toInt, ng_T, nI_add, nI_mul, nI_sub', Int.neg_zero, not_false_eq_true, not_true_eq_false] <;> omega); done))) | refine ⟨Or.inl rfl, ?_⟩ | refine ⟨Or.inr rfl, ?_⟩ | (refine ⟨?_, ?_⟩; (focus (exact in_nI (by omega) (by omega)))))
      rw [e, cI_s] at hQ
      exact hQ
    · have e := ffN_miss hI (decide_eq_false hb)
      have e2 : ¬ cI (getN T (3 * i) 3) = nI l := by
        generalize getN T (3 * i) 3 = c at *
        rcases c with _ | c
        · rw [cI_0]
          (simp (disch := omega) only [ix_lt, ix_le, ix_eq, ix_0, nI_clamp, nI_toInt, ng_T, nI_add, nI_mul, nI_sub', Int.neg_zero, not_false_eq_true, not_true_eq_false] <;> omega)
        · rw [cI_s]
          (simp (disch := omega) only [ix_lt, ix_le, ix_eq, ix_0, nI_clamp, nI_toInt, ng_T, nI_add, nI_mul, nI_sub', Int.neg_zero, not_false_eq_true, not_true_eq_false] <;> omega)
      (first | refine xbr_t e2 ?_ | refine xbr_f e2 ?_)
      refine xgo_eq (ih e) ?_ rfl rfl
      ((repeat' (first | (with_reducible rfl) | exact xv_nil | refine xv_cons ?_ ?_ | refine xv_i ?_ | refine xv_l ?_)) <;> (simp (disch := omega) only [↓reduceIte, Bool.false_eq_true, Nat.one_mul, Nat.zero_mul, Nat.or_zero, Nat.add_zero, Nat.zero_add, Bool.toNat_true, Bool.toNat_false, shl_n, shr_n, fa_and, fa_or, nx_xor, nI_add, nI_mul, nI_sub', and_1, and_7, and_3', and_15]))
  · intro hI
    refine xrun okX5_takerOf hhX5_takerOf [] 60 ?_
    have e : tkrN T l = 0 := hI
    rw [e, cI_0] at hQ
    repeat (first | (refine xbr_f ?_ ?_; (focus ((simp (disch := omega) only [ix_lt, ix_le, ix_eq, ix_0, nI_clamp, nI_toInt, ng_T, nI_add, nI_mul, nI_sub', Int.neg_zero, not_false_eq_true, not_true_eq_false] <;> omega); done))) | (refine xbr_t ?_ ?_; (focus ((simp (disch := omega) only [ix_lt, ix_le, ix_eq, ix_0, nI_clamp, nI_toInt, ng_T, nI_add, nI_mul, nI_sub', Int.neg_zero, not_false_eq_true, not_true_eq_false] <;> omega); done))) | refine ⟨Or.inl rfl, ?_⟩ | refine ⟨Or.inr rfl, ?_⟩ | (refine ⟨?_, ?_⟩; (focus (exact in_nI (by omega) (by omega)))))
    exact hQ
def hmtN (T : Nat) : Nat := cnN (fun i => decide (¬ getN T (3 * i) 3 = 0)) 4
def csX5_howManyTaken : xCs := [(mX5_loadTaken, sX5_loadTaken)]
theorem okX5_howManyTaken : xOkM mX5_howManyTaken csX5_howManyTaken := ⟨dX5_howManyTaken, by decide +kernel, by decide +kernel, ⟨wdX5_94, trivial⟩⟩
theorem hhX5_howManyTaken : ∀ q ∈ csX5_howManyTaken, xHd q.1 := xall1 hX5_loadTaken (xall0)
theorem kkX5_howManyTaken : ∀ q ∈ csX5_howManyTaken, ∀ l, xCon l q.1 q.2 := xall1 kX5_loadTaken (xall0)
def sX5_howManyTaken : xSpec := xReg fun as I L Q => ∃ (T : Nat), as = [.int (nI T)] ∧ T < 2 ^ 31 ∧ Q (some (.int (nI (hmtN T)))) I L
set_option maxRecDepth 100000 in
theorem kX5_howManyTaken : ∀ l, xCon l mX5_howManyTaken sX5_howManyTaken := by
  refine xcon_of okX5_howManyTaken hX5_howManyTaken rfl hhX5_howManyTaken kkX5_howManyTaken ?_
  rintro as n0 I L P Q ⟨hn9, rfl, T, rfl, hT, hQ⟩
  obtain ⟨e9, rfl⟩ := xe9 hn9
  refine ⟨Nat.le_of_ble_eq_true rfl, ?_⟩
  refine xrun okX5_howManyTaken hhX5_howManyTaken [(4, [true, true, true])] 20 ?_
  refine xlp (M := mX5_howManyTaken) (cs := csX5_howManyTaken) (pc := 4) 4 (fun i => [some (.int (nI T)), some (.int (nI (cnN (fun i => decide (¬ getN T (3 * i) 3 = 0)) i))), some (.int (nI i))]) (fun _ => I) (fun _ => L) ?_ ?_
  · intro i hi ih
    refine xrun okX5_howManyTaken hhX5_howManyTaken [(4, [true, true, true])] 60 ?_
    (first | (refine xbr_f ?_ ?_; (focus ((simp (disch := omega) only [ix_lt, ix_le, ix_eq, ix_0, nI_clamp, nI_toInt, ng_T, nI_add, nI_mul, nI_sub', Int.neg_zero, not_false_eq_true, not_true_eq_false] <;> omega); done))) | (refine xbr_t ?_ ?_; (focus ((simp (disch := omega) only [ix_lt, ix_le, ix_eq, ix_0, nI_clamp, nI_toInt, ng_T, nI_add, nI_mul, nI_sub', Int.neg_zero, not_false_eq_true, not_true_eq_false] <;> omega); done))) | refine ⟨Or.inl rfl, ?_⟩ | refine ⟨Or.inr rfl, ?_⟩ | (refine ⟨?_, ?_⟩; (focus (exact in_nI (by omega) (by omega)))))
    refine ⟨rfl, rfl, T, i, rfl, hT, hi, ?_⟩
    have h8 : getN T (3 * i) 3 < 8 := getN_lt T (3 * i) 3
    by_cases hb : getN T (3 * i) 3 = 0
    · have hd : decide (¬ getN T (3 * i) 3 = 0) = false := decide_eq_false (fun q => q hb)
      rw [hb, cI_0]
      (first | (refine xbr_f ?_ ?_; (focus ((simp (disch := omega) only [ix_lt, ix_le, ix_eq, ix_0, nI_clamp, nI_toInt, ng_T, nI_add, nI_mul, nI_sub', Int.neg_zero, not_false_eq_true, not_true_eq_false] <;> omega); done))) | (refine xbr_t ?_ ?_; (focus ((simp (disch := omega) only [ix_lt, ix_le, ix_eq, ix_0, nI_clamp, nI_toInt, ng_T, nI_add, nI_mul, nI_sub', Int.neg_zero, not_false_eq_true, not_true_eq_false] <;> omega); done))) | refine ⟨Or.inl rfl, ?_⟩ | refine ⟨Or.inr rfl, ?_⟩ | (refine ⟨?_, ?_⟩; (focus (exact in_nI (by omega) (by omega)))))
      refine xgo_eq ih ?_ rfl rfl
      ((repeat' (first | (with_reducible rfl) | exact xv_nil | refine xv_cons ?_ ?_ | refine xv_i ?_ | refine xv_l ?_)) <;> (simp (disch := omega) only [↓reduceIte, Bool.false_eq_true, Nat.one_mul, Nat.zero_mul, Nat.or_zero, Nat.add_zero, Nat.zero_add, Bool.toNat_true, Bool.toNat_false, shl_n, shr_n, fa_and, fa_or, nx_xor, nI_add, nI_mul, nI_sub', and_1, and_7, and_3', and_15, cnN, hd]))
    · have hd : decide (¬ getN T (3 * i) 3 = 0) = true := decide_eq_true hb
      have e2 : ¬ cI (getN T (3 * i) 3) = -(nI 9) := by
        generalize getN T (3 * i) 3 = c at *
        rcases c with _ | c
        · omega
        · rw [cI_s]
          (simp (disch := omega) only [ix_lt, ix_le, ix_eq, ix_0, nI_clamp, nI_toInt, ng_T, nI_add, nI_mul, nI_sub', Int.neg_zero, not_false_eq_true, not_true_eq_false] <;> omega)
      (first | refine xbr_t e2 ?_ | refine xbr_f e2 ?_)
      refine xgo_eq ih ?_ rfl rfl
      ((repeat' (first | (with_reducible rfl) | exact xv_nil | refine xv_cons ?_ ?_ | refine xv_i ?_ | refine xv_l ?_)) <;> (simp (disch := omega) only [↓reduceIte, Bool.false_eq_true, Nat.one_mul, Nat.zero_mul, Nat.or_zero, Nat.add_zero, Nat.zero_add, Bool.toNat_true, Bool.toNat_false, shl_n, shr_n, fa_and, fa_or, nx_xor, nI_add, nI_mul, nI_sub', and_1, and_7, and_3', and_15, cnN, hd]))
  · refine xrun okX5_howManyTaken hhX5_howManyTaken [] 60 ?_
    repeat (first | (refine xbr_f ?_ ?_; (focus ((simp (disch := omega) only [ix_lt, ix_le, ix_eq, ix_0, nI_clamp, nI_toInt, ng_T, nI_add, nI_mul, nI_sub', Int.neg_zero, not_false_eq_true, not_true_eq_false] <;> omega); done))) | (refine xbr_t ?_ ?_; (focus ((simp (disch := omega) only [ix_lt, ix_le, ix_eq, ix_0, nI_clamp, nI_toInt, ng_T, nI_add, nI_mul, nI_sub', Int.neg_zero, not_false_eq_true, not_true_eq_false] <;> omega); done))) | refine ⟨Or.inl rfl, ?_⟩ | refine ⟨Or.inr rfl, ?_⟩ | (refine ⟨?_, ?_⟩; (focus (exact in_nI (by omega) (by omega)))))
    exact hQ
def roN (d : PD) : Nat → Nat
  | 0 => 0
  | k + 1 => 10 * roN d k + rdN d k
def csX5_roadsAsNumber : xCs := [(mX5_roadFrom, sX5_roadFrom)]
theorem okX5_roadsAsNumber : xOkM mX5_roadsAsNumber csX5_roadsAsNumber := ⟨dX5_roadsAsNumber, by decide +kernel, by decide +kernel, ⟨wdX5_27, trivial⟩⟩
theorem hhX5_roadsAsNumber : ∀ q ∈ csX5_roadsAsNumber, xHd q.1 := xall1 hX5_roadFrom (xall0)
theorem kkX5_roadsAsNumber : ∀ q ∈ csX5_roadsAsNumber, ∀ l, xCon l q.1 q.2 := xall1 kX5_roadFrom (xall0)
def sX5_roadsAsNumber : xSpec := xReg fun as I L Q => ∃ (d : PD), xPl d I ∧ as = [.ref 11] ∧ Q (some (.int (nI (roN d 5)))) I L
set_option maxRecDepth 100000 in
theorem kX5_roadsAsNumber : ∀ l, xCon l mX5_roadsAsNumber sX5_roadsAsNumber := by
  refine xcon_of okX5_roadsAsNumber hX5_roadsAsNumber rfl hhX5_roadsAsNumber kkX5_roadsAsNumber ?_
  rintro as n0 I L P Q ⟨hn9, rfl, d, hP, rfl, hQ⟩
  obtain ⟨e9, rfl⟩ := xe9 hn9
  refine ⟨Nat.le_of_ble_eq_true rfl, ?_⟩
  refine xrun okX5_roadsAsNumber hhX5_roadsAsNumber [(4, [true, true, true])] 20 ?_
  refine xlp (M := mX5_roadsAsNumber) (cs := csX5_roadsAsNumber) (pc := 4) 5 (fun k => [some (.ref 11), some (.int (nI (roN d k))), some (.int (nI k))]) (fun _ => I) (fun _ => L) ?_ ?_
  · intro k hk ih
    refine xrun okX5_roadsAsNumber hhX5_roadsAsNumber [(4, [true, true, true])] 60 ?_
    (first | (refine xbr_f ?_ ?_; (focus ((simp (disch := omega) only [ix_lt, ix_le, ix_eq, ix_0, nI_clamp, nI_toInt, ng_T, nI_add, nI_mul, nI_sub', Int.neg_zero, not_false_eq_true, not_true_eq_false] <;> omega); done))) | (refine xbr_t ?_ ?_; (focus ((simp (disch := omega) only [ix_lt, ix_le, ix_eq, ix_0, nI_clamp, nI_toInt, ng_T, nI_add, nI_mul, nI_sub', Int.neg_zero, not_false_eq_true, not_true_eq_false] <;> omega); done))) | refine ⟨Or.inl rfl, ?_⟩ | refine ⟨Or.inr rfl, ?_⟩ | (refine ⟨?_, ?_⟩; (focus (exact in_nI (by omega) (by omega)))))
    refine ⟨rfl, rfl, d, k, hP, rfl, by omega, ?_⟩
    refine xgo_eq ih ?_ rfl rfl
    ((repeat' (first | (with_reducible rfl) | exact xv_nil | refine xv_cons ?_ ?_ | refine xv_i ?_ | refine xv_l ?_)) <;> (simp (disch := omega) only [↓reduceIte, Bool.false_eq_true, Nat.one_mul, Nat.zero_mul, Nat.or_zero, Nat.add_zero, Nat.zero_add, Bool.toNat_true, Bool.toNat_false, shl_n, shr_n, fa_and, fa_or, nx_xor, nI_add, nI_mul, nI_sub', and_1, and_7, and_3', and_15, roN]))
  · refine xrun okX5_roadsAsNumber hhX5_roadsAsNumber [] 60 ?_
    repeat (first | (refine xbr_f ?_ ?_; (focus ((simp (disch := omega) only [ix_lt, ix_le, ix_eq, ix_0, nI_clamp, nI_toInt, ng_T, nI_add, nI_mul, nI_sub', Int.neg_zero, not_false_eq_true, not_true_eq_false] <;> omega); done))) | (refine xbr_t ?_ ?_; (focus ((simp (disch := omega) only [ix_lt, ix_le, ix_eq, ix_0, nI_clamp, nI_toInt, ng_T, nI_add, nI_mul, nI_sub', Int.neg_zero, not_false_eq_true, not_true_eq_false] <;> omega); done))) | refine ⟨Or.inl rfl, ?_⟩ | refine ⟨Or.inr rfl, ?_⟩ | (refine ⟨?_, ?_⟩; (focus (exact in_nI (by omega) (by omega)))))
    exact hQ
def csX5_howManyAre : xCs := [(mX5_kindOf, sX5_kindOf), (mX4_isA, sX4_isA)]
theorem okX5_howManyAre : xOkM mX5_howManyAre csX5_howManyAre := ⟨dX5_howManyAre, by decide +kernel, by decide +kernel, ⟨wdX5_9, wdX5_31, wdX5_34, trivial⟩⟩
theorem hhX5_howManyAre : ∀ q ∈ csX5_howManyAre, xHd q.1 := xall1 hX5_kindOf (xall1 hX4_isA (xall0))
theorem kkX5_howManyAre : ∀ q ∈ csX5_howManyAre, ∀ l, xCon l q.1 q.2 := xall1 kX5_kindOf (xall1 kX4_isA (xall0))
def sX5_howManyAre : xSpec := xReg fun as I L Q => ∃ (d : PD) (k : Nat), xPl d I ∧ as = [.ref 11, .int (nI k)] ∧ k < 8 ∧ Q (some (.int (nI (cnN (fun i => isN (kdN d i) k) d.nA)))) I L
set_option maxRecDepth 100000 in
theorem kX5_howManyAre : ∀ l, xCon l mX5_howManyAre sX5_howManyAre := by
  refine xcon_of okX5_howManyAre hX5_howManyAre rfl hhX5_howManyAre kkX5_howManyAre ?_
  rintro as n0 I L P Q ⟨hn9, rfl, d, k, hP, rfl, hk, hQ⟩
  obtain ⟨e9, rfl⟩ := xe9 hn9
  refine ⟨Nat.le_of_ble_eq_true rfl, ?_⟩
  refine xrun okX5_howManyAre hhX5_howManyAre [(4, [true, true, true, true])] 20 ?_
  have hl := hP.a
  have h5 := hP.ok.a4
  refine xlp (M := mX5_howManyAre) (cs := csX5_howManyAre) (pc := 4) d.nA (fun i => [some (.ref 11), some (.int (nI k)), some (.int (nI (cnN (fun i => isN (kdN d i) k) i))), some (.int (nI i))]) (fun _ => I) (fun _ => L) ?_ ?_
  · intro i hi ih
    refine xrun okX5_howManyAre hhX5_howManyAre [(4, [true, true, true, true])] 60 ?_
    (first | (refine xbr_f ?_ ?_; (focus ((simp (disch := omega) only [ix_lt, ix_le, ix_eq, ix_0, nI_clamp, nI_toInt, ng_T, nI_add, nI_mul, nI_sub', Int.neg_zero, not_false_eq_true, not_true_eq_false, hl] <;> omega); done))) | (refine xbr_t ?_ ?_; (focus ((simp (disch := omega) only [ix_lt, ix_le, ix_eq, ix_0, nI_clamp, nI_toInt, ng_T, nI_add, nI_mul, nI_sub', Int.neg_zero, not_false_eq_true, not_true_eq_false, hl] <;> omega); done))) | refine ⟨Or.inl rfl, ?_⟩ | refine ⟨Or.inr rfl, ?_⟩ | (refine ⟨?_, ?_⟩; (focus ((try simp (disch := omega) only [hl, nI_mul, nI_add, nI_sub']); exact in_nI (by omega) (by omega)))))
    refine ⟨rfl, rfl, d, i, hP, rfl, by omega, rfl, rfl, kdN d i, k, rfl, kdN_8 d i, hk, ?_⟩
    cases hb : isN (kdN d i) k <;> (
      (first | refine xbr_t (by decide) ?_ | refine xbr_f (by decide) ?_)
      refine xgo_eq ih ?_ rfl rfl
      ((repeat' (first | (with_reducible rfl) | exact xv_nil | refine xv_cons ?_ ?_ | refine xv_i ?_ | refine xv_l ?_)) <;> (simp (disch := omega) only [↓reduceIte, Bool.false_eq_true, Nat.one_mul, Nat.zero_mul, Nat.or_zero, Nat.add_zero, Nat.zero_add, Bool.toNat_true, Bool.toNat_false, shl_n, shr_n, fa_and, fa_or, nx_xor, nI_add, nI_mul, nI_sub', and_1, and_7, and_3', and_15, cnN, hb])))
  · refine xrun okX5_howManyAre hhX5_howManyAre [] 60 ?_
    repeat (first | (refine xbr_f ?_ ?_; (focus ((simp (disch := omega) only [ix_lt, ix_le, ix_eq, ix_0, nI_clamp, nI_toInt, ng_T, nI_add, nI_mul, nI_sub', Int.neg_zero, not_false_eq_true, not_true_eq_false, hl] <;> omega); done))) | (refine xbr_t ?_ ?_; (focus ((simp (disch := omega) only [ix_lt, ix_le, ix_eq, ix_0, nI_clamp, nI_toInt, ng_T, nI_add, nI_mul, nI_sub', Int.neg_zero, not_false_eq_true, not_true_eq_false, hl] <;> omega); done))) | refine ⟨Or.inl rfl, ?_⟩ | refine ⟨Or.inr rfl, ?_⟩ | (refine ⟨?_, ?_⟩; (focus ((try simp (disch := omega) only [hl, nI_mul, nI_add, nI_sub']); exact in_nI (by omega) (by omega)))))
    exact hQ
def csX5_choiceOf : xCs := [(mX5_pull, sX5_pull)]
theorem okX5_choiceOf : xOkM mX5_choiceOf csX5_choiceOf := ⟨dX5_choiceOf, by decide +kernel, by decide +kernel, ⟨wdX5_15, wdX5_91, trivial⟩⟩
theorem hhX5_choiceOf : ∀ q ∈ csX5_choiceOf, xHd q.1 := xall1 hX5_pull (xall0)
theorem kkX5_choiceOf : ∀ q ∈ csX5_choiceOf, ∀ l, xCon l q.1 q.2 := xall1 kX5_pull (xall0)
def sX5_choiceOf : xSpec := xReg fun as I L Q => ∃ (d : PD) (X i t : Nat), xPl d I ∧ as = [.ref 11, .long (lN X), .int (nI i), .int (nI t)] ∧ X < 2 ^ 63 ∧ i < 4 ∧ t < 2 ^ 31 ∧ Q (some (.int (cI (chN d X i t d.nL).1))) I L
set_option maxRecDepth 100000 in
theorem kX5_choiceOf : ∀ l, xCon l mX5_choiceOf sX5_choiceOf := by
  refine xcon_of okX5_choiceOf hX5_choiceOf rfl hhX5_choiceOf kkX5_choiceOf ?_
  rintro as n0 I L P Q ⟨hn9, rfl, d, X, i, t, hP, rfl, hX, hi, ht, hQ⟩
  obtain ⟨e9, rfl⟩ := xe9 hn9
  refine ⟨Nat.le_of_ble_eq_true rfl, ?_⟩
  refine xrun okX5_choiceOf hhX5_choiceOf [(10, [true, true, false, true, true, true, true, true, false])] 20 ?_
  have hl := hP.l
  have h5 := hP.ok.l5
  refine xlp (M := mX5_choiceOf) (cs := csX5_choiceOf) (pc := 10) d.nL (fun l => [some (.ref 11), some (.long (lN X)), none, some (.int (nI i)), some (.int (nI t)), some (.int (cI (chN d X i t l).1)), some (.int (nI (chN d X i t l).2)), some (.int (nI l)), none]) (fun _ => I) (fun _ => L) ?_ ?_
  · intro l hl2 ih
    refine xrun okX5_choiceOf hhX5_choiceOf [(10, [true, true, false, true, true, true, true, true, false])] 60 ?_
    (first | (refine xbr_f ?_ ?_; (focus ((simp (disch := omega) only [ix_lt, ix_le, ix_eq, ix_0, nI_clamp, nI_toInt, ng_T, nI_add, nI_mul, nI_sub', Int.neg_zero, not_false_eq_true, not_true_eq_false, hl] <;> omega); done))) | (refine xbr_t ?_ ?_; (focus ((simp (disch := omega) only [ix_lt, ix_le, ix_eq, ix_0, nI_clamp, nI_toInt, ng_T, nI_add, nI_mul, nI_sub', Int.neg_zero, not_false_eq_true, not_true_eq_false, hl] <;> omega); done))) | refine ⟨Or.inl rfl, ?_⟩ | refine ⟨Or.inr rfl, ?_⟩ | (refine ⟨?_, ?_⟩; (focus ((try simp (disch := omega) only [hl, nI_mul, nI_add, nI_sub']); exact in_nI (by omega) (by omega)))))
    have hs := chN_s d X i t l
    have h8 := (chN_le d X i t l).2
    cases hb : tbB t l
    · have e : ¬ (nI t >>> (nI l &&& 31)) &&& nI 1 = nI 1 := by rw [bit_i ht (by omega), hb]; decide
      (first | refine xbr_t e ?_ | refine xbr_f e ?_)
      refine ⟨rfl, rfl, d, X, i, l, hP, rfl, hX, hi, by omega, ?_⟩
      have h9 := pullN_le d X i l
      simp only [hb, Bool.false_eq_true, ↓reduceIte] at hs
      by_cases hc : (chN d X i t l).2 < pullN d X i l
      · rw [if_pos hc] at hs
        (first | (refine xbr_f ?_ ?_; (focus ((simp (disch := omega) only [ix_lt, ix_le, ix_eq, ix_0, nI_clamp, nI_toInt, ng_T, nI_add, nI_mul, nI_sub', Int.neg_zero, not_false_eq_true, not_true_eq_false] <;> omega); done))) | (refine xbr_t ?_ ?_; (focus ((simp (disch := omega) only [ix_lt, ix_le, ix_eq, ix_0, nI_clamp, nI_toInt, ng_T, nI_add, nI_mul, nI_sub', Int.neg_zero, not_false_eq_true, not_true_eq_false] <;> omega); done))) | refine ⟨Or.inl rfl, ?_⟩ | refine ⟨Or.inr rfl, ?_⟩ | (refine ⟨?_, ?_⟩; (focus (exact in_nI (by omega) (by omega)))))
        refine xgo_eq ih ?_ rfl rfl
        ((repeat' (first | (with_reducible rfl) | exact xv_nil | refine xv_cons ?_ ?_ | refine xv_i ?_ | refine xv_l ?_)) <;> (simp (disch := omega) only [↓reduceIte, Bool.false_eq_true, Nat.one_mul, Nat.zero_mul, Nat.or_zero, Nat.add_zero, Nat.zero_add, Bool.toNat_true, Bool.toNat_false, shl_n, shr_n, fa_and, fa_or, nx_xor, nI_add, nI_mul, nI_sub', and_1, and_7, and_3', and_15, hs, cI_s]))
      · rw [if_neg hc] at hs
        (first | (refine xbr_f ?_ ?_; (focus ((simp (disch := omega) only [ix_lt, ix_le, ix_eq, ix_0, nI_clamp, nI_toInt, ng_T, nI_add, nI_mul, nI_sub', Int.neg_zero, not_false_eq_true, not_true_eq_false] <;> omega); done))) | (refine xbr_t ?_ ?_; (focus ((simp (disch := omega) only [ix_lt, ix_le, ix_eq, ix_0, nI_clamp, nI_toInt, ng_T, nI_add, nI_mul, nI_sub', Int.neg_zero, not_false_eq_true, not_true_eq_false] <;> omega); done))) | refine ⟨Or.inl rfl, ?_⟩ | refine ⟨Or.inr rfl, ?_⟩ | (refine ⟨?_, ?_⟩; (focus (exact in_nI (by omega) (by omega)))))
        refine xgo_eq ih ?_ rfl rfl
        ((repeat' (first | (with_reducible rfl) | exact xv_nil | refine xv_cons ?_ ?_ | refine xv_i ?_ | refine xv_l ?_)) <;> (simp (disch := omega) only [↓reduceIte, Bool.false_eq_true, Nat.one_mul, Nat.zero_mul, Nat.or_zero, Nat.add_zero, Nat.zero_add, Bool.toNat_true, Bool.toNat_false, shl_n, shr_n, fa_and, fa_or, nx_xor, nI_add, nI_mul, nI_sub', and_1, and_7, and_3', and_15, hs, cI_s]))
    · have e : (nI t >>> (nI l &&& 31)) &&& nI 1 = nI 1 := by rw [bit_i ht (by omega), hb]; decide
      (first | refine xbr_t e ?_ | refine xbr_f e ?_)
      simp only [hb, ↓reduceIte] at hs
      rw [if_neg (by omega)] at hs
      (first | (refine xbr_f ?_ ?_; (focus ((simp (disch := omega) only [ix_lt, ix_le, ix_eq, ix_0, nI_clamp, nI_toInt, ng_T, nI_add, nI_mul, nI_sub', Int.neg_zero, not_false_eq_true, not_true_eq_false] <;> omega); done))) | (refine xbr_t ?_ ?_; (focus ((simp (disch := omega) only [ix_lt, ix_le, ix_eq, ix_0, nI_clamp, nI_toInt, ng_T, nI_add, nI_mul, nI_sub', Int.neg_zero, not_false_eq_true, not_true_eq_false] <;> omega); done))) | refine ⟨Or.inl rfl, ?_⟩ | refine ⟨Or.inr rfl, ?_⟩ | (refine ⟨?_, ?_⟩; (focus (exact in_nI (by omega) (by omega)))))
      refine xgo_eq ih ?_ rfl rfl
      ((repeat' (first | (with_reducible rfl) | exact xv_nil | refine xv_cons ?_ ?_ | refine xv_i ?_ | refine xv_l ?_)) <;> (simp (disch := omega) only [↓reduceIte, Bool.false_eq_true, Nat.one_mul, Nat.zero_mul, Nat.or_zero, Nat.add_zero, Nat.zero_add, Bool.toNat_true, Bool.toNat_false, shl_n, shr_n, fa_and, fa_or, nx_xor, nI_add, nI_mul, nI_sub', and_1, and_7, and_3', and_15, hs, cI_s]))
  · refine xrun okX5_choiceOf hhX5_choiceOf [] 60 ?_
    repeat (first | (refine xbr_f ?_ ?_; (focus ((simp (disch := omega) only [ix_lt, ix_le, ix_eq, ix_0, nI_clamp, nI_toInt, ng_T, nI_add, nI_mul, nI_sub', Int.neg_zero, not_false_eq_true, not_true_eq_false, hl] <;> omega); done))) | (refine xbr_t ?_ ?_; (focus ((simp (disch := omega) only [ix_lt, ix_le, ix_eq, ix_0, nI_clamp, nI_toInt, ng_T, nI_add, nI_mul, nI_sub', Int.neg_zero, not_false_eq_true, not_true_eq_false, hl] <;> omega); done))) | refine ⟨Or.inl rfl, ?_⟩ | refine ⟨Or.inr rfl, ?_⟩ | (refine ⟨?_, ?_⟩; (focus ((try simp (disch := omega) only [hl, nI_mul, nI_add, nI_sub']); exact in_nI (by omega) (by omega)))))
    exact hQ
