/-! PLAIN: what it is asked -/
def csX5_kindOf : xCs := []
theorem okX5_kindOf : xOkM mX5_kindOf csX5_kindOf := ⟨dX5_kindOf, by decide +kernel, by decide +kernel, ⟨wdX5_18, trivial⟩⟩
theorem hhX5_kindOf : ∀ q ∈ csX5_kindOf, xHd q.1 := xall0
theorem kkX5_kindOf : ∀ q ∈ csX5_kindOf, ∀ l, xCon l q.1 q.2 := xall0
def csX5_homeOf : xCs := []
theorem okX5_homeOf : xOkM mX5_homeOf csX5_homeOf := ⟨dX5_homeOf, by decide +kernel, by decide +kernel, ⟨wdX5_24, trivial⟩⟩
theorem hhX5_homeOf : ∀ q ∈ csX5_homeOf, xHd q.1 := xall0
theorem kkX5_homeOf : ∀ q ∈ csX5_homeOf, ∀ l, xCon l q.1 q.2 := xall0
def csX5_roadFrom : xCs := []
theorem okX5_roadFrom : xOkM mX5_roadFrom csX5_roadFrom := ⟨dX5_roadFrom, by decide +kernel, by decide +kernel, ⟨wdX5_21, trivial⟩⟩
theorem hhX5_roadFrom : ∀ q ∈ csX5_roadFrom, xHd q.1 := xall0
theorem kkX5_roadFrom : ∀ q ∈ csX5_roadFrom, ∀ l, xCon l q.1 q.2 := xall0
def sX5_kindOf : xSpec := xReg fun as I L Q => ∃ (d : PD) (i : Nat), xPl d I ∧ as = [.ref 11, .int (nI i)] ∧ i < 8 ∧ Q (some (.int (nI (kdN d i)))) I L
set_option maxRecDepth 100000 in
theorem kX5_kindOf : ∀ l, xCon l mX5_kindOf sX5_kindOf := by
  refine xcon_of okX5_kindOf hX5_kindOf rfl hhX5_kindOf kkX5_kindOf ?_
  rintro as n0 I L P Q ⟨hn9, rfl, d, i, hP, rfl, hi, hQ⟩
  obtain ⟨e9, rfl⟩ := xe9 hn9
  refine ⟨Nat.le_of_ble_eq_true rfl, xrun okX5_kindOf hhX5_kindOf [] 20 ?_⟩
  have hb := hP.ok.bK
  have e : (I 11 2 >>> (nI 3 * nI i &&& 31)) &&& nI 7 = nI (kdN d i) := by rw [hP.K, nI_mul, shr_n (by omega) (by omega), fa_and, and_7]; rfl
  rw [← e] at hQ
  exact hQ
def sX5_homeOf : xSpec := xReg fun as I L Q => ∃ (d : PD) (i : Nat), xPl d I ∧ as = [.ref 11, .int (nI i)] ∧ i < 8 ∧ Q (some (.int (nI (hmN d i)))) I L
set_option maxRecDepth 100000 in
theorem kX5_homeOf : ∀ l, xCon l mX5_homeOf sX5_homeOf := by
  refine xcon_of okX5_homeOf hX5_homeOf rfl hhX5_homeOf kkX5_homeOf ?_
  rintro as n0 I L P Q ⟨hn9, rfl, d, i, hP, rfl, hi, hQ⟩
  obtain ⟨e9, rfl⟩ := xe9 hn9
  refine ⟨Nat.le_of_ble_eq_true rfl, xrun okX5_homeOf hhX5_homeOf [] 20 ?_⟩
  have hb := hP.ok.bH
  have e : (I 11 4 >>> (nI 3 * nI i &&& 31)) &&& nI 7 = nI (hmN d i) := by rw [hP.H, nI_mul, shr_n (by omega) (by omega), fa_and, and_7]; rfl
  rw [← e] at hQ
  exact hQ
def sX5_roadFrom : xSpec := xReg fun as I L Q => ∃ (d : PD) (i : Nat), xPl d I ∧ as = [.ref 11, .int (nI i)] ∧ i < 8 ∧ Q (some (.int (nI (rdN d i)))) I L
set_option maxRecDepth 100000 in
theorem kX5_roadFrom : ∀ l, xCon l mX5_roadFrom sX5_roadFrom := by
  refine xcon_of okX5_roadFrom hX5_roadFrom rfl hhX5_roadFrom kkX5_roadFrom ?_
  rintro as n0 I L P Q ⟨hn9, rfl, d, i, hP, rfl, hi, hQ⟩
  obtain ⟨e9, rfl⟩ := xe9 hn9
  refine ⟨Nat.le_of_ble_eq_true rfl, xrun okX5_roadFrom hhX5_roadFrom [] 20 ?_⟩
  have hb := hP.ok.bR
  have e : (I 11 3 >>> (nI 3 * nI i &&& 31)) &&& nI 7 = nI (rdN d i) := by rw [hP.R, nI_mul, shr_n (by omega) (by omega), fa_and, and_7]; rfl
  rw [← e] at hQ
  exact hQ
def ibB (x : Int32) (n : Nat) : Bool := decide (0 ≤ x.toInt ∧ x.toInt < n)
theorem ibB_t {x : Int32} {n : Nat} (h : ibB x n = true) (hn : n < 2 ^ 31) : ∃ j, j < n ∧ x = nI j := by
  have h := of_decide_eq_true h
  refine ⟨x.toInt.toNat, by omega, ?_⟩
  rw [ix_eq, nI_toInt (by omega)]
  omega
theorem ibB_n {j n : Nat} (h : j < n) (hn : n < 2 ^ 31) : ibB (nI j) n = true := decide_eq_true (by rw [nI_toInt (by omega)]; omega)
def csX5_isAss : xCs := []
theorem okX5_isAss : xOkM mX5_isAss csX5_isAss := ⟨dX5_isAss, by decide +kernel, by decide +kernel, ⟨wdX5_9, trivial⟩⟩
theorem hhX5_isAss : ∀ q ∈ csX5_isAss, xHd q.1 := xall0
theorem kkX5_isAss : ∀ q ∈ csX5_isAss, ∀ l, xCon l q.1 q.2 := xall0
def csX5_isLoad : xCs := []
theorem okX5_isLoad : xOkM mX5_isLoad csX5_isLoad := ⟨dX5_isLoad, by decide +kernel, by decide +kernel, ⟨wdX5_15, trivial⟩⟩
theorem hhX5_isLoad : ∀ q ∈ csX5_isLoad, xHd q.1 := xall0
theorem kkX5_isLoad : ∀ q ∈ csX5_isLoad, ∀ l, xCon l q.1 q.2 := xall0
def sX5_isAss : xSpec := xReg fun as I L Q => ∃ (d : PD) (x : Int32), xPl d I ∧ as = [.ref 11, .int x] ∧ Q (some (.int (bI (ibB x d.nA)))) I L
set_option maxRecDepth 100000 in
theorem kX5_isAss : ∀ l, xCon l mX5_isAss sX5_isAss := by
  refine xcon_of okX5_isAss hX5_isAss rfl hhX5_isAss kkX5_isAss ?_
  rintro as n0 I L P Q ⟨hn9, rfl, d, x, hP, rfl, hQ⟩
  obtain ⟨e9, rfl⟩ := xe9 hn9
  refine ⟨Nat.le_of_ble_eq_true rfl, xrun okX5_isAss hhX5_isAss [] 20 ?_⟩
  have ha := hP.a
  have hb := hP.ok.a4
  by_cases h1 : 0 ≤ x.toInt
  · by_cases h2 : x.toInt < d.nA
    · have e : ibB x d.nA = true := decide_eq_true ⟨h1, h2⟩
      rw [e] at hQ
      repeat (first | (refine xbr_f ?_ ?_; (focus ((simp (disch := omega) only [ix_lt, ix_le, ix_eq, ix_0, nI_clamp, nI_toInt, ng_T, nI_add, nI_mul, nI_sub', Int.neg_zero, not_false_eq_true, not_true_eq_false, ha] <;> omega); done))) | (refine xbr_t ?_ ?_; (focus ((simp (disch := omega) only [ix_lt, ix_le, ix_eq, ix_0, nI_clamp, nI_toInt, ng_T, nI_add, nI_mul, nI_sub', Int.neg_zero, not_false_eq_true, not_true_eq_false, ha] <;> omega); done))) | refine ⟨Or.inl rfl, ?_⟩ | refine ⟨Or.inr rfl, ?_⟩ | (refine ⟨?_, ?_⟩; (focus ((try simp (disch := omega) only [ha, nI_mul, nI_add, nI_sub']); exact in_nI (by omega) (by omega)))))
      exact hQ
    · have e : ibB x d.nA = false := decide_eq_false (fun q => h2 q.2)
      rw [e] at hQ
      repeat (first | (refine xbr_f ?_ ?_; (focus ((simp (disch := omega) only [ix_lt, ix_le, ix_eq, ix_0, nI_clamp, nI_toInt, ng_T, nI_add, nI_mul, nI_sub', Int.neg_zero, not_false_eq_true, not_true_eq_false, ha] <;> omega); done))) | (refine xbr_t ?_ ?_; (focus ((simp (disch := omega) only [ix_lt, ix_le, ix_eq, ix_0, nI_clamp, nI_toInt, ng_T, nI_add, nI_mul, nI_sub', Int.neg_zero, not_false_eq_true, not_true_eq_false, ha] <;> omega); done))) | refine ⟨Or.inl rfl, ?_⟩ | refine ⟨Or.inr rfl, ?_⟩ | (refine ⟨?_, ?_⟩; (focus ((try simp (disch := omega) only [ha, nI_mul, nI_add, nI_sub']); exact in_nI (by omega) (by omega)))))
      exact hQ
  · have e : ibB x d.nA = false := decide_eq_false (fun q => h1 q.1)
    rw [e] at hQ
    repeat (first | (refine xbr_f ?_ ?_; (focus ((simp (disch := omega) only [ix_lt, ix_le, ix_eq, ix_0, nI_clamp, nI_toInt, ng_T, nI_add, nI_mul, nI_sub', Int.neg_zero, not_false_eq_true, not_true_eq_false, ha] <;> omega); done))) | (refine xbr_t ?_ ?_; (focus ((simp (disch := omega) only [ix_lt, ix_le, ix_eq, ix_0, nI_clamp, nI_toInt, ng_T, nI_add, nI_mul, nI_sub', Int.neg_zero, not_false_eq_true, not_true_eq_false, ha] <;> omega); done))) | refine ⟨Or.inl rfl, ?_⟩ | refine ⟨Or.inr rfl, ?_⟩ | (refine ⟨?_, ?_⟩; (focus ((try simp (disch := omega) only [ha, nI_mul, nI_add, nI_sub']); exact in_nI (by omega) (by omega)))))
    exact hQ
def sX5_isLoad : xSpec := xReg fun as I L Q => ∃ (d : PD) (x : Int32), xPl d I ∧ as = [.ref 11, .int x] ∧ Q (some (.int (bI (ibB x d.nL)))) I L
set_option maxRecDepth 100000 in
theorem kX5_isLoad : ∀ l, xCon l mX5_isLoad sX5_isLoad := by
  refine xcon_of okX5_isLoad hX5_isLoad rfl hhX5_isLoad kkX5_isLoad ?_
  rintro as n0 I L P Q ⟨hn9, rfl, d, x, hP, rfl, hQ⟩
  obtain ⟨e9, rfl⟩ := xe9 hn9
  refine ⟨Nat.le_of_ble_eq_true rfl, xrun okX5_isLoad hhX5_isLoad [] 20 ?_⟩
  have ha := hP.l
  have hb := hP.ok.l5
  by_cases h1 : 0 ≤ x.toInt
  · by_cases h2 : x.toInt < d.nL
    · have e : ibB x d.nL = true := decide_eq_true ⟨h1, h2⟩
      rw [e] at hQ
      repeat (first | (refine xbr_f ?_ ?_; (focus ((simp (disch := omega) only [ix_lt, ix_le, ix_eq, ix_0, nI_clamp, nI_toInt, ng_T, nI_add, nI_mul, nI_sub', Int.neg_zero, not_false_eq_true, not_true_eq_false, ha] <;> omega); done))) | (refine xbr_t ?_ ?_; (focus ((simp (disch := omega) only [ix_lt, ix_le, ix_eq, ix_0, nI_clamp, nI_toInt, ng_T, nI_add, nI_mul, nI_sub', Int.neg_zero, not_false_eq_true, not_true_eq_false, ha] <;> omega); done))) | refine ⟨Or.inl rfl, ?_⟩ | refine ⟨Or.inr rfl, ?_⟩ | (refine ⟨?_, ?_⟩; (focus ((try simp (disch := omega) only [ha, nI_mul, nI_add, nI_sub']); exact in_nI (by omega) (by omega)))))
      exact hQ
    · have e : ibB x d.nL = false := decide_eq_false (fun q => h2 q.2)
      rw [e] at hQ
      repeat (first | (refine xbr_f ?_ ?_; (focus ((simp (disch := omega) only [ix_lt, ix_le, ix_eq, ix_0, nI_clamp, nI_toInt, ng_T, nI_add, nI_mul, nI_sub', Int.neg_zero, not_false_eq_true, not_true_eq_false, ha] <;> omega); done))) | (refine xbr_t ?_ ?_; (focus ((simp (disch := omega) only [ix_lt, ix_le, ix_eq, ix_0, nI_clamp, nI_toInt, ng_T, nI_add, nI_mul, nI_sub', Int.neg_zero, not_false_eq_true, not_true_eq_false, ha] <;> omega); done))) | refine ⟨Or.inl rfl, ?_⟩ | refine ⟨Or.inr rfl, ?_⟩ | (refine ⟨?_, ?_⟩; (focus ((try simp (disch := omega) only [ha, nI_mul, nI_add, nI_sub']); exact in_nI (by omega) (by omega)))))
      exact hQ
  · have e : ibB x d.nL = false := decide_eq_false (fun q => h1 q.1)
    rw [e] at hQ
    repeat (first | (refine xbr_f ?_ ?_; (focus ((simp (disch := omega) only [ix_lt, ix_le, ix_eq, ix_0, nI_clamp, nI_toInt, ng_T, nI_add, nI_mul, nI_sub', Int.neg_zero, not_false_eq_true, not_true_eq_false, ha] <;> omega); done))) | (refine xbr_t ?_ ?_; (focus ((simp (disch := omega) only [ix_lt, ix_le, ix_eq, ix_0, nI_clamp, nI_toInt, ng_T, nI_add, nI_mul, nI_sub', Int.neg_zero, not_false_eq_true, not_true_eq_false, ha] <;> omega); done))) | refine ⟨Or.inl rfl, ?_⟩ | refine ⟨Or.inr rfl, ?_⟩ | (refine ⟨?_, ?_⟩; (focus ((try simp (disch := omega) only [ha, nI_mul, nI_add, nI_sub']); exact in_nI (by omega) (by omega)))))
    exact hQ
def csX5_isHome : xCs := [(mX7_placeOf, sX7_placeOf), (mX5_homeOf, sX5_homeOf)]
theorem okX5_isHome : xOkM mX5_isHome csX5_isHome := ⟨dX5_isHome, by decide +kernel, by decide +kernel, ⟨wdX5_40, wdX5_46, trivial⟩⟩
theorem hhX5_isHome : ∀ q ∈ csX5_isHome, xHd q.1 := xall1 hX7_placeOf (xall1 hX5_homeOf (xall0))
theorem kkX5_isHome : ∀ q ∈ csX5_isHome, ∀ l, xCon l q.1 q.2 := xall1 kX7_placeOf (xall1 kX5_homeOf (xall0))
def sX5_isHome : xSpec := xReg fun as I L Q => ∃ (d : PD) (X l : Nat), xPl d I ∧ as = [.ref 11, .long (lN X), .int (nI l)] ∧ X < 2 ^ 63 ∧ l < 5 ∧ Q (some (.int (bI (hmB d X l)))) I L
set_option maxRecDepth 100000 in
theorem kX5_isHome : ∀ l, xCon l mX5_isHome sX5_isHome := by
  refine xcon_of okX5_isHome hX5_isHome rfl hhX5_isHome kkX5_isHome ?_
  rintro as n0 I L P Q ⟨hn9, rfl, d, X, l, hP, rfl, hX, hl, hQ⟩
  obtain ⟨e9, rfl⟩ := xe9 hn9
  refine ⟨Nat.le_of_ble_eq_true rfl, xrun okX5_isHome hhX5_isHome [] 20 ?_⟩
  refine ⟨rfl, rfl, X, l, rfl, by omega, hl, rfl, rfl, d, l, hP, rfl, by omega, ?_⟩
  have h1 := plN_8 X l
  have h2 := hmN_8 d l
  by_cases h : plN X l = hmN d l
  · have e : hmB d X l = true := decide_eq_true h
    rw [e] at hQ
    repeat (first | (refine xbr_f ?_ ?_; (focus ((simp (disch := omega) only [ix_lt, ix_le, ix_eq, ix_0, nI_clamp, nI_toInt, ng_T, nI_add, nI_mul, nI_sub', Int.neg_zero, not_false_eq_true, not_true_eq_false] <;> omega); done))) | (refine xbr_t ?_ ?_; (focus ((simp (disch := omega) only [ix_lt, ix_le, ix_eq, ix_0, nI_clamp, nI_toInt, ng_T, nI_add, nI_mul, nI_sub', Int.neg_zero, not_false_eq_true, not_true_eq_false] <;> omega); done))) | refine ⟨Or.inl rfl, ?_⟩ | refine ⟨Or.inr rfl, ?_⟩ | (refine ⟨?_, ?_⟩; (focus (exact in_nI (by omega) (by omega)))))
    exact hQ
  · have e : hmB d X l = false := decide_eq_false h
    rw [e] at hQ
    repeat (first | (refine xbr_f ?_ ?_; (focus ((simp (disch := omega) only [ix_lt, ix_le, ix_eq, ix_0, nI_clamp, nI_toInt, ng_T, nI_add, nI_mul, nI_sub', Int.neg_zero, not_false_eq_true, not_true_eq_false] <;> omega); done))) | (refine xbr_t ?_ ?_; (focus ((simp (disch := omega) only [ix_lt, ix_le, ix_eq, ix_0, nI_clamp, nI_toInt, ng_T, nI_add, nI_mul, nI_sub', Int.neg_zero, not_false_eq_true, not_true_eq_false] <;> omega); done))) | refine ⟨Or.inl rfl, ?_⟩ | refine ⟨Or.inr rfl, ?_⟩ | (refine ⟨?_, ?_⟩; (focus (exact in_nI (by omega) (by omega)))))
    exact hQ
def csX5_atHomes : xCs := [(mX5_isHome, sX5_isHome)]
theorem okX5_atHomes : xOkM mX5_atHomes csX5_atHomes := ⟨dX5_atHomes, by decide +kernel, by decide +kernel, ⟨wdX5_15, wdX5_49, trivial⟩⟩
theorem hhX5_atHomes : ∀ q ∈ csX5_atHomes, xHd q.1 := xall1 hX5_isHome (xall0)
theorem kkX5_atHomes : ∀ q ∈ csX5_atHomes, ∀ l, xCon l q.1 q.2 := xall1 kX5_isHome (xall0)
def sX5_atHomes : xSpec := xReg fun as I L Q => ∃ (d : PD) (X : Nat), xPl d I ∧ as = [.ref 11, .long (lN X)] ∧ X < 2 ^ 63 ∧ Q (some (.int (nI (bsN (hmB d X) d.nL)))) I L
set_option maxRecDepth 100000 in
theorem kX5_atHomes : ∀ l, xCon l mX5_atHomes sX5_atHomes := by
  refine xcon_of okX5_atHomes hX5_atHomes rfl hhX5_atHomes kkX5_atHomes ?_
  rintro as n0 I L P Q ⟨hn9, rfl, d, X, hP, rfl, hX, hQ⟩
  obtain ⟨e9, rfl⟩ := xe9 hn9
  refine ⟨Nat.le_of_ble_eq_true rfl, xrun okX5_atHomes hhX5_atHomes [(5, [true, true, false, true, true])] 20 ?_⟩
  have hl := hP.l
  have h5 := hP.ok.l5
  refine xlp (M := mX5_atHomes) (cs := csX5_atHomes) (pc := 5) d.nL (fun i => [some (.ref 11), some (.long (lN X)), none, some (.int (nI (bsN (hmB d X) i))), some (.int (nI i))]) (fun _ => I) (fun _ => L) ?_ ?_
  · intro i hi ih
    refine xrun okX5_atHomes hhX5_atHomes [(5, [true, true, false, true, true])] 60 ?_
    (first | (refine xbr_f ?_ ?_; (focus ((simp (disch := omega) only [ix_lt, ix_le, ix_eq, ix_0, nI_clamp, nI_toInt, ng_T, nI_add, nI_mul, nI_sub', Int.neg_zero, not_false_eq_true, not_true_eq_false, hl] <;> omega); done))) | (refine xbr_t ?_ ?_; (focus ((simp (disch := omega) only [ix_lt, ix_le, ix_eq, ix_0, nI_clamp, nI_toInt, ng_T, nI_add, nI_mul, nI_sub', Int.neg_zero, not_false_eq_true, not_true_eq_false, hl] <;> omega); done))) | refine ⟨Or.inl rfl, ?_⟩ | refine ⟨Or.inr rfl, ?_⟩ | (refine ⟨?_, ?_⟩; (focus ((try simp (disch := omega) only [hl, nI_mul, nI_add, nI_sub']); exact in_nI (by omega) (by omega)))))
    refine ⟨rfl, rfl, d, X, i, hP, rfl, hX, by omega, ?_⟩
    cases hb : hmB d X i
    · (first | refine xbr_t (by decide) ?_ | refine xbr_f (by decide) ?_)
      refine xgo_eq ih ?_ rfl rfl
      ((repeat' (first | (with_reducible rfl) | exact xv_nil | refine xv_cons ?_ ?_ | refine xv_i ?_ | refine xv_l ?_)) <;> (simp (disch := omega) only [↓reduceIte, Bool.false_eq_true, Nat.one_mul, Nat.zero_mul, Nat.or_zero, Nat.add_zero, Nat.zero_add, Bool.toNat_true, Bool.toNat_false, shl_n, shr_n, fa_and, fa_or, nx_xor, nI_add, nI_mul, nI_sub', and_1, and_7, and_3', and_15, bsN, hb]))
    · (first | refine xbr_t (by decide) ?_ | refine xbr_f (by decide) ?_)
      refine xgo_eq ih ?_ rfl rfl
      ((repeat' (first | (with_reducible rfl) | exact xv_nil | refine xv_cons ?_ ?_ | refine xv_i ?_ | refine xv_l ?_)) <;> (simp (disch := omega) only [↓reduceIte, Bool.false_eq_true, Nat.one_mul, Nat.zero_mul, Nat.or_zero, Nat.add_zero, Nat.zero_add, Bool.toNat_true, Bool.toNat_false, shl_n, shr_n, fa_and, fa_or, nx_xor, nI_add, nI_mul, nI_sub', and_1, and_7, and_3', and_15, bsN, hb]))
  · refine xrun okX5_atHomes hhX5_atHomes [] 60 ?_
    repeat (first | (refine xbr_f ?_ ?_; (focus ((simp (disch := omega) only [ix_lt, ix_le, ix_eq, ix_0, nI_clamp, nI_toInt, ng_T, nI_add, nI_mul, nI_sub', Int.neg_zero, not_false_eq_true, not_true_eq_false, hl] <;> omega); done))) | (refine xbr_t ?_ ?_; (focus ((simp (disch := omega) only [ix_lt, ix_le, ix_eq, ix_0, nI_clamp, nI_toInt, ng_T, nI_add, nI_mul, nI_sub', Int.neg_zero, not_false_eq_true, not_true_eq_false, hl] <;> omega); done))) | refine ⟨Or.inl rfl, ?_⟩ | refine ⟨Or.inr rfl, ?_⟩ | (refine ⟨?_, ?_⟩; (focus ((try simp (disch := omega) only [hl, nI_mul, nI_add, nI_sub']); exact in_nI (by omega) (by omega)))))
    exact hQ
